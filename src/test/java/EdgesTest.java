/** Each sentence of the promises 1 to 22 that names an edge or a refusal, with a test of its own. */
public final class EdgesTest {
    private static final Class<IllegalArgumentException> UNKNOWN = IllegalArgumentException.class;
    private static final Class<IndexOutOfBoundsException> RANGE = IndexOutOfBoundsException.class;
    private static final Class<IllegalStateException> STATE = IllegalStateException.class;
    private static final Class<UnsupportedOperationException> ROOM = UnsupportedOperationException.class;
    private static final int LOW = Integer.MIN_VALUE;
    private static final int HIGH = Integer.MAX_VALUE;

    private static final Expect expect = new Expect("EdgesTest");

    public static void main(String[] args) {
        personsAndUnits();
        moves();
        sectors();
        handovers();
        tasks();
        spanAndTime();
        looks();
        expect.end();
    }

    private static void personsAndUnits() {
        expect.sentence("1: Sector 0, without a leader; nobody there", EdgesTest::newObject);
        expect.sentence("2: One more person, away: the number", EdgesTest::personIsAway);
        expect.sentence("2: the rank (too small)", EdgesTest::rankTooSmall);
        expect.sentence("2: the rank (too large)", EdgesTest::rankTooLarge);
        expect.sentence("2: there are 40", EdgesTest::personsAreFull);
        expect.sentence("3: One more unit, away: its number", EdgesTest::unitIsAway);
        expect.sentence("3: there are 20", EdgesTest::unitsAreFull);
    }

    private static void moves() {
        expect.sentence("4: no such person", EdgesTest::arriveUnknown);
        expect.sentence("4: the person is there", EdgesTest::arriveThere);
        expect.sentence("5: no such person", EdgesTest::leaveUnknown);
        expect.sentence("5: the person is away", EdgesTest::leaveAway);
        expect.sentence("6: no such person", EdgesTest::goUnknownPerson);
        expect.sentence("6: no such .. sector", EdgesTest::goUnknownSector);
        expect.sentence("6: the person is away", EdgesTest::goAway);
        expect.sentence("6: or in it", EdgesTest::goInIt);
        expect.sentence("6: the sector is not open", EdgesTest::goNotOpen);
        expect.sentence("7: (-1: it is away)", EdgesTest::placeAway);
        expect.sentence("7: no such unit", EdgesTest::placeUnknownUnit);
        expect.sentence("7: no such .. sector", EdgesTest::placeUnknownSector);
        expect.sentence("7: it is so (in the sector)", EdgesTest::placeInIt);
        expect.sentence("7: it is so (away)", EdgesTest::placeAwayAlready);
        expect.sentence("7: the sector is not open", EdgesTest::placeNotOpen);
    }

    private static void sectors() {
        expect.sentence("8: no such sector", EdgesTest::splitUnknown);
        expect.sentence("8: it is not open", EdgesTest::splitNotOpen);
        expect.sentence("8: there are 20", EdgesTest::splitFull);
        expect.sentence("9: no such sectors (the first)", EdgesTest::joinUnknown);
        expect.sentence("9: no such sectors (the other)", EdgesTest::joinToUnknown);
        expect.sentence("9: one is not open (the first)", EdgesTest::joinNotOpen);
        expect.sentence("9: one is not open (the other)", EdgesTest::joinToNotOpen);
        expect.sentence("9: it is 0", EdgesTest::joinZero);
        expect.sentence("9: they are one", EdgesTest::joinOne);
        expect.sentence("9: or the other one is below it", EdgesTest::joinToBelow);
    }

    private static void handovers() {
        expect.sentence("10: no such sector", EdgesTest::offerUnknownSector);
        expect.sentence("10: no such .. person", EdgesTest::offerUnknownPerson);
        expect.sentence("10: the sector is not open", EdgesTest::offerNotOpen);
        expect.sentence("10: or has no leader", EdgesTest::offerNoLeader);
        expect.sentence("10: the person is away", EdgesTest::offerAway);
        expect.sentence("10: or leads one", EdgesTest::offerLeads);
        expect.sentence("11: no such sector", EdgesTest::takeUnknownSector);
        expect.sentence("11: no such .. person", EdgesTest::takeUnknownPerson);
        expect.sentence("11: it is not offered (at all)", EdgesTest::takeNotOffered);
        expect.sentence("11: it is not offered to this person", EdgesTest::takeOfferedToAnother);
        expect.sentence("11: it is not offered (the sector is not open)", EdgesTest::takeNotOpen);
    }

    private static void tasks() {
        expect.sentence("12: no such sector", EdgesTest::taskUnknown);
        expect.sentence("12: it is below the present second", EdgesTest::taskBelowPresent);
        expect.sentence("12: or above 99,999", EdgesTest::taskAboveLast);
        expect.sentence("12: the sector is not open", EdgesTest::taskNotOpen);
        expect.sentence("12: there are 60", EdgesTest::tasksAreFull);
        expect.sentence("13: there is none such", EdgesTest::answerUnknown);
        expect.sentence("13: it was", EdgesTest::answerTwice);
    }

    private static void spanAndTime() {
        expect.sentence("14: how many sectors are passed now", EdgesTest::spanCounts);
        expect.sentence("14: it is not 1 .. 20 (too small)", EdgesTest::spanTooSmall);
        expect.sentence("14: it is not 1 .. 20 (too large)", EdgesTest::spanTooLarge);
        expect.sentence("15: Time goes on (1 .. 5,000 seconds)", EdgesTest::tickEnds);
        expect.sentence("15: how many tasks came to be overdue", EdgesTest::tickCounts);
        expect.sentence("15: the seconds (too few)", EdgesTest::tickTooFew);
        expect.sentence("15: the seconds (too many)", EdgesTest::tickTooMany);
        expect.sentence("15: or beyond 99,999", EdgesTest::tickBeyond);
        expect.sentence("15: beyond 99,999 from any second (no wrap-around)", EdgesTest::tickWrap);
        expect.sentence("22: The second", EdgesTest::clock);
    }

    private static void looks() {
        expect.sentence("17: 0 whether it is open (1, 0)", EdgesTest::sectorOpen);
        expect.sentence("17: 1 its leader (-1)", EdgesTest::sectorLeader);
        expect.sentence("17: 2 the one above (-1)", EdgesTest::sectorAbove);
        expect.sentence("17: 3 persons in it", EdgesTest::sectorPersons);
        expect.sentence("17: 4 units in it", EdgesTest::sectorUnits);
        expect.sentence("17: 5 to whom it is offered (-1)", EdgesTest::sectorOffered);
        expect.sentence("17: 6 whether it is passed (1, 0)", EdgesTest::sectorPassed);
        expect.sentence("17: 7 open sectors right below it", EdgesTest::sectorsBelow);
        expect.sentence("17: no such sector", EdgesTest::sectorUnknown);
        expect.sentence("17: no such .. what", EdgesTest::sectorWhatUnknown);
        expect.sentence("18: 0 the sector (-1 away)", EdgesTest::personSector);
        expect.sentence("18: 1 the sector that the person leads (-1)", EdgesTest::personLeads);
        expect.sentence("18: 2 the second of arriving (-1 away)", EdgesTest::personArrived);
        expect.sentence("18: no such person", EdgesTest::personUnknown);
        expect.sentence("18: no such .. what", EdgesTest::personWhatUnknown);
        expect.sentence("19: A unit's sector (-1 away)", EdgesTest::unitSector);
        expect.sentence("19: there is none such", EdgesTest::unitUnknown);
        expect.sentence("20: 0 its sector", EdgesTest::taskSector);
        expect.sentence("20: 1 what it is (0 open, 1 done, 2 not done, 3 overdue)", EdgesTest::taskState);
        expect.sentence("20: 2 the second of its answer (-1)", EdgesTest::taskAnswered);
        expect.sentence("20: no such task", EdgesTest::taskAtUnknown);
        expect.sentence("20: no such .. what", EdgesTest::taskWhatUnknown);
        expect.sentence("21: The i-th (0 first, by numbers) sector that is passed", EdgesTest::passedByNumbers);
        expect.sentence("21: -1 when there are not so many", EdgesTest::passedNotSoMany);
        expect.sentence("21: i is below 0", EdgesTest::passedBelowZero);
    }

    /** Sectors 0, 1 and 2, of which 2 was joined to 0. */
    private static CommandTree withJoined(int... ranks) {
        CommandTree x = Scene.withRanks(ranks);
        Scene.split(x, 0, 2);
        x.join(2, 0);
        return x;
    }

    private static void newObject() {
        CommandTree x = new CommandTree();
        expect.sectorIs(x, 0, 1, -1, -1, 0, 0, -1, 0, 0);
        expect.refuses(UNKNOWN, () -> x.sectorAt(1, 0), () -> x.personAt(0, 0), () -> x.unitAt(0),
                () -> x.taskAt(0, 0));
    }

    private static void personIsAway() {
        CommandTree x = new CommandTree();
        expect.answer(0, () -> x.person(9));
        expect.answer(1, () -> x.person(0));
        expect.personIs(x, 0, -1, -1, -1);
        expect.personIs(x, 1, -1, -1, -1);
        expect.sectorIs(x, 0, 1, -1, -1, 0);
    }

    private static void rankTooSmall() {
        CommandTree x = new CommandTree();
        expect.refuses(RANGE, () -> x.person(-1), () -> x.person(LOW));
        expect.refuses(UNKNOWN, () -> x.personAt(0, 0));
        expect.answer(0, () -> x.person(0));
    }

    private static void rankTooLarge() {
        CommandTree x = new CommandTree();
        expect.refuses(RANGE, () -> x.person(10), () -> x.person(HIGH));
        expect.refuses(UNKNOWN, () -> x.personAt(0, 0));
        expect.answer(0, () -> x.person(9));
    }

    private static void personsAreFull() {
        CommandTree x = new CommandTree();
        for (int i = 0; i < 39; i++) {
            x.person(5);
        }
        expect.answer(39, () -> x.person(5));
        expect.refuses(ROOM, () -> x.person(0), () -> x.person(9));
        expect.personIs(x, 39, -1, -1, -1);
        expect.refuses(UNKNOWN, () -> x.personAt(40, 0));
        expect.passes(() -> x.arrive(39));
    }

    private static void unitIsAway() {
        CommandTree x = new CommandTree();
        expect.answer(0, x::unit);
        expect.answer(1, x::unit);
        expect.answer(-1, () -> x.unitAt(0));
        expect.answer(-1, () -> x.unitAt(1));
        expect.answer(0, () -> x.sectorAt(0, 4));
    }

    private static void unitsAreFull() {
        CommandTree x = new CommandTree();
        for (int i = 0; i < 19; i++) {
            x.unit();
        }
        expect.answer(19, x::unit);
        expect.refuses(ROOM, x::unit, x::unit);
        expect.refuses(UNKNOWN, () -> x.unitAt(20));
        expect.passes(() -> x.place(19, 0));
    }

    private static void arriveUnknown() {
        CommandTree x = new CommandTree();
        expect.refuses(UNKNOWN, () -> x.arrive(0));
        x.person(1);
        expect.refuses(UNKNOWN, () -> x.arrive(1), () -> x.arrive(-1), () -> x.arrive(LOW), () -> x.arrive(HIGH));
        expect.passes(() -> x.arrive(0));
    }

    private static void arriveThere() {
        CommandTree x = Scene.withRanks(2, 1);
        x.split(0);
        x.go(1, 1);
        x.tick(1);
        expect.refuses(STATE, () -> x.arrive(0), () -> x.arrive(1));
        expect.personIs(x, 0, 0, 0, 0);
        expect.personIs(x, 1, 1, 1, 0);
        x.leave(1);
        expect.passes(() -> x.arrive(1));
        expect.personIs(x, 1, 0, -1, 1);
    }

    private static void leaveUnknown() {
        CommandTree x = new CommandTree();
        expect.refuses(UNKNOWN, () -> x.leave(0));
        x.arrive(x.person(1));
        expect.refuses(UNKNOWN, () -> x.leave(1), () -> x.leave(-1), () -> x.leave(LOW), () -> x.leave(HIGH));
        expect.passes(() -> x.leave(0));
    }

    private static void leaveAway() {
        CommandTree x = new CommandTree();
        x.person(1);
        expect.refuses(STATE, () -> x.leave(0));
        x.arrive(0);
        expect.passes(() -> x.leave(0));
        expect.personIs(x, 0, -1, -1, -1);
        expect.refuses(STATE, () -> x.leave(0));
    }

    private static void goUnknownPerson() {
        CommandTree x = Scene.withRanks(2, 1);
        x.split(0);
        expect.refuses(UNKNOWN, () -> x.go(2, 1), () -> x.go(-1, 1), () -> x.go(LOW, 1), () -> x.go(HIGH, 1));
        expect.passes(() -> x.go(1, 1));
    }

    private static void goUnknownSector() {
        CommandTree x = Scene.withRanks(2, 1);
        x.split(0);
        expect.refuses(UNKNOWN, () -> x.go(0, 2), () -> x.go(0, -1), () -> x.go(0, LOW), () -> x.go(0, HIGH));
        expect.personIs(x, 0, 0, 0, 0);
        expect.passes(() -> x.go(0, 1));
    }

    private static void goAway() {
        CommandTree x = Scene.withRanks(2, 1);
        x.split(0);
        x.leave(1);
        expect.refuses(STATE, () -> x.go(1, 1), () -> x.go(1, 0));
        expect.personIs(x, 1, -1, -1, -1);
        expect.sectorIs(x, 1, 1, -1, 0, 0);
    }

    private static void goInIt() {
        CommandTree x = Scene.withRanks(2, 3);
        x.split(0);
        expect.refuses(STATE, () -> x.go(0, 0), () -> x.go(1, 0));
        expect.answer(0, () -> x.sectorAt(0, 1));
        x.go(1, 1);
        expect.refuses(STATE, () -> x.go(1, 1));
        expect.personIs(x, 1, 1, 1, 0);
    }

    private static void goNotOpen() {
        CommandTree x = withJoined(2, 1);
        expect.refuses(STATE, () -> x.go(0, 2), () -> x.go(1, 2));
        expect.sectorIs(x, 0, 1, 0, -1, 2);
        expect.sectorIs(x, 2, 0, -1, 0, 0);
    }

    private static void placeAway() {
        CommandTree x = new CommandTree();
        Scene.placeNewUnits(x, 0, 2);
        expect.passes(() -> x.place(1, -1));
        expect.answer(-1, () -> x.unitAt(1));
        expect.answer(1, () -> x.sectorAt(0, 4));
    }

    private static void placeUnknownUnit() {
        CommandTree x = new CommandTree();
        expect.refuses(UNKNOWN, () -> x.place(0, 0), () -> x.place(0, -1));
        x.unit();
        expect.refuses(UNKNOWN, () -> x.place(1, 0), () -> x.place(-1, 0), () -> x.place(LOW, 0),
                () -> x.place(HIGH, -1));
        expect.passes(() -> x.place(0, 0));
    }

    private static void placeUnknownSector() {
        CommandTree x = new CommandTree();
        x.unit();
        expect.refuses(UNKNOWN, () -> x.place(0, 1), () -> x.place(0, -2), () -> x.place(0, LOW),
                () -> x.place(0, HIGH));
        expect.answer(-1, () -> x.unitAt(0));
        x.split(0);
        expect.passes(() -> x.place(0, 1));
    }

    private static void placeInIt() {
        CommandTree x = new CommandTree();
        x.split(0);
        Scene.placeNewUnits(x, 1, 1);
        Scene.placeNewUnits(x, 0, 1);
        expect.refuses(STATE, () -> x.place(0, 1), () -> x.place(1, 0));
        expect.answer(1, () -> x.unitAt(0));
    }

    private static void placeAwayAlready() {
        CommandTree x = new CommandTree();
        x.unit();
        expect.refuses(STATE, () -> x.place(0, -1));
        x.place(0, 0);
        x.place(0, -1);
        expect.refuses(STATE, () -> x.place(0, -1));
    }

    private static void placeNotOpen() {
        CommandTree x = withJoined();
        x.unit();
        Scene.placeNewUnits(x, 1, 1);
        expect.refuses(STATE, () -> x.place(0, 2), () -> x.place(1, 2));
        expect.answer(-1, () -> x.unitAt(0));
        expect.answer(1, () -> x.unitAt(1));
    }

    private static void splitUnknown() {
        CommandTree x = new CommandTree();
        expect.refuses(UNKNOWN, () -> x.split(1), () -> x.split(-1), () -> x.split(LOW), () -> x.split(HIGH));
        expect.answer(1, () -> x.split(0));
        expect.answer(2, () -> x.split(1));
    }

    private static void splitNotOpen() {
        CommandTree x = withJoined();
        expect.refuses(STATE, () -> x.split(2));
        expect.refuses(UNKNOWN, () -> x.sectorAt(3, 0));
        expect.answer(3, () -> x.split(1));
    }

    private static void splitFull() {
        CommandTree x = new CommandTree();
        Scene.split(x, 0, 18);
        expect.answer(19, () -> x.split(18));
        expect.refuses(ROOM, () -> x.split(0), () -> x.split(19));
        expect.refuses(UNKNOWN, () -> x.sectorAt(20, 0));
        expect.sectorIs(x, 19, 1, -1, 18, 0, 0, -1, 0, 0);
    }

    private static void joinUnknown() {
        CommandTree x = new CommandTree();
        x.split(0);
        expect.refuses(UNKNOWN, () -> x.join(2, 0), () -> x.join(-1, 0), () -> x.join(LOW, 0), () -> x.join(HIGH, 0));
        expect.passes(() -> x.join(1, 0));
    }

    private static void joinToUnknown() {
        CommandTree x = new CommandTree();
        x.split(0);
        expect.refuses(UNKNOWN, () -> x.join(1, 2), () -> x.join(1, -1), () -> x.join(1, LOW), () -> x.join(1, HIGH));
        expect.answer(1, () -> x.sectorAt(1, 0));
    }

    private static void joinNotOpen() {
        CommandTree x = withJoined();
        expect.refuses(STATE, () -> x.join(2, 0), () -> x.join(2, 1));
        expect.sectorIs(x, 2, 0, -1, 0);
    }

    private static void joinToNotOpen() {
        CommandTree x = withJoined();
        expect.refuses(STATE, () -> x.join(1, 2));
        expect.sectorIs(x, 1, 1, -1, 0);
    }

    private static void joinZero() {
        CommandTree x = Scene.withRanks(3);
        x.split(0);
        expect.refuses(STATE, () -> x.join(0, 1));
        expect.sectorIs(x, 0, 1, 0, -1, 1, 0, -1, 0, 1);
        expect.sectorIs(x, 1, 1, -1, 0, 0);
    }

    private static void joinOne() {
        CommandTree x = Scene.withRanks(3, 2);
        x.split(0);
        x.go(1, 1);
        expect.refuses(STATE, () -> x.join(1, 1), () -> x.join(0, 0));
        expect.sectorIs(x, 1, 1, 1, 0, 1);
    }

    private static void joinToBelow() {
        CommandTree x = new CommandTree();
        x.split(0);
        x.split(1);
        x.split(2);
        x.split(0);
        expect.refuses(STATE, () -> x.join(1, 2), () -> x.join(1, 3), () -> x.join(2, 3));
        expect.sectorIs(x, 1, 1, -1, 0, 0, 0, -1, 0, 1);
        expect.passes(() -> x.join(4, 3));
        expect.passes(() -> x.join(3, 1));
        expect.passes(() -> x.join(2, 0));
    }

    private static void offerUnknownSector() {
        CommandTree x = Scene.withRanks(3, 2);
        expect.refuses(UNKNOWN, () -> x.offer(1, 1), () -> x.offer(-1, 1), () -> x.offer(LOW, 1),
                () -> x.offer(HIGH, 1));
        expect.passes(() -> x.offer(0, 1));
    }

    private static void offerUnknownPerson() {
        CommandTree x = Scene.withRanks(3, 2);
        expect.refuses(UNKNOWN, () -> x.offer(0, 2), () -> x.offer(0, -1), () -> x.offer(0, LOW),
                () -> x.offer(0, HIGH));
        expect.answer(-1, () -> x.sectorAt(0, 5));
    }

    private static void offerNotOpen() {
        CommandTree x = Scene.withRanks(3, 2, 1);
        x.split(0);
        x.go(1, 1);
        x.join(1, 0);
        expect.refuses(STATE, () -> x.offer(1, 1), () -> x.offer(1, 2));
        expect.answer(-1, () -> x.sectorAt(1, 5));
    }

    private static void offerNoLeader() {
        CommandTree x = Scene.withRanks(3, 2);
        x.split(0);
        expect.refuses(STATE, () -> x.offer(1, 1));
        expect.answer(-1, () -> x.sectorAt(1, 5));
        expect.refuses(STATE, () -> x.take(1, 1));
    }

    private static void offerAway() {
        CommandTree x = Scene.withRanks(3, 2);
        x.person(1);
        x.leave(1);
        expect.refuses(STATE, () -> x.offer(0, 1), () -> x.offer(0, 2));
        expect.answer(-1, () -> x.sectorAt(0, 5));
    }

    private static void offerLeads() {
        CommandTree x = Scene.withRanks(3, 2);
        x.split(0);
        x.go(1, 1);
        expect.refuses(STATE, () -> x.offer(0, 0), () -> x.offer(0, 1), () -> x.offer(1, 0));
        expect.answer(-1, () -> x.sectorAt(0, 5));
    }

    private static void takeUnknownSector() {
        CommandTree x = Scene.withRanks(3, 2);
        x.offer(0, 1);
        expect.refuses(UNKNOWN, () -> x.take(1, 1), () -> x.take(-1, 1), () -> x.take(LOW, 1), () -> x.take(HIGH, 1));
        expect.passes(() -> x.take(0, 1));
    }

    private static void takeUnknownPerson() {
        CommandTree x = Scene.withRanks(3, 2);
        expect.refuses(UNKNOWN, () -> x.take(0, 2), () -> x.take(0, -1), () -> x.take(0, LOW), () -> x.take(0, HIGH));
        expect.answer(0, () -> x.sectorAt(0, 1));
    }

    private static void takeNotOffered() {
        CommandTree x = Scene.withRanks(3, 2, 1);
        x.split(0);
        expect.refuses(STATE, () -> x.take(0, 1), () -> x.take(0, 0), () -> x.take(1, 1));
        x.leave(2);
        expect.refuses(STATE, () -> x.take(0, 2));
        expect.sectorIs(x, 0, 1, 0, -1, 2);
    }

    private static void takeOfferedToAnother() {
        CommandTree x = Scene.withRanks(3, 2, 1);
        x.offer(0, 1);
        expect.refuses(STATE, () -> x.take(0, 0), () -> x.take(0, 2));
        expect.sectorIs(x, 0, 1, 0, -1, 3, 0, 1);
        expect.passes(() -> x.take(0, 1));
    }

    private static void takeNotOpen() {
        CommandTree x = Scene.withRanks(3, 2, 1);
        x.split(0);
        x.go(2, 1);
        x.offer(1, 1);
        x.join(1, 0);
        expect.refuses(STATE, () -> x.take(1, 1));
        expect.sectorIs(x, 1, 0, -1, 0, 0, 0, -1);
    }

    private static void taskUnknown() {
        CommandTree x = new CommandTree();
        expect.refuses(UNKNOWN, () -> x.task(1, 5), () -> x.task(-1, 5), () -> x.task(LOW, 5), () -> x.task(HIGH, 5));
        expect.answer(0, () -> x.task(0, 5));
    }

    private static void taskBelowPresent() {
        CommandTree x = new CommandTree();
        expect.refuses(RANGE, () -> x.task(0, -1), () -> x.task(0, LOW));
        expect.answer(0, () -> x.task(0, 0));
        x.tick(10);
        expect.refuses(RANGE, () -> x.task(0, 9), () -> x.task(0, 0));
        expect.answer(1, () -> x.task(0, 10));
        expect.taskIs(x, 1, 0, 0, -1);
        expect.refuses(UNKNOWN, () -> x.taskAt(2, 0));
    }

    private static void taskAboveLast() {
        CommandTree x = new CommandTree();
        expect.refuses(RANGE, () -> x.task(0, 100_000), () -> x.task(0, HIGH));
        expect.refuses(UNKNOWN, () -> x.taskAt(0, 0));
        expect.answer(0, () -> x.task(0, 99_999));
    }

    private static void taskNotOpen() {
        CommandTree x = withJoined();
        expect.refuses(STATE, () -> x.task(2, 5));
        expect.refuses(UNKNOWN, () -> x.taskAt(0, 0));
        expect.answer(0, () -> x.task(1, 5));
    }

    private static void tasksAreFull() {
        CommandTree x = new CommandTree();
        x.split(0);
        Scene.giveTasks(x, 0, 5, 59);
        expect.answer(59, () -> x.task(1, 5));
        expect.refuses(ROOM, () -> x.task(0, 5), () -> x.task(1, 99_999));
        expect.taskIs(x, 59, 1, 0, -1);
        expect.refuses(UNKNOWN, () -> x.taskAt(60, 0));
        expect.answer(60, () -> x.tick(6));
    }

    private static void answerUnknown() {
        CommandTree x = new CommandTree();
        expect.refuses(UNKNOWN, () -> x.answer(0, true));
        x.task(0, 5);
        expect.refuses(UNKNOWN, () -> x.answer(1, true), () -> x.answer(-1, false), () -> x.answer(LOW, true),
                () -> x.answer(HIGH, false));
        expect.passes(() -> x.answer(0, true));
    }

    private static void answerTwice() {
        CommandTree x = new CommandTree();
        Scene.giveTasks(x, 0, 2, 3);
        x.answer(0, true);
        x.answer(1, false);
        x.tick(3);
        x.answer(2, false);
        x.tick(1);
        expect.refuses(STATE, () -> x.answer(0, true), () -> x.answer(0, false), () -> x.answer(1, true),
                () -> x.answer(1, false), () -> x.answer(2, true));
        expect.taskIs(x, 0, 0, 1, 0);
        expect.taskIs(x, 1, 0, 2, 0);
        expect.taskIs(x, 2, 0, 2, 3);
    }

    private static void spanCounts() {
        CommandTree x = Scene.withRanks(3, 2);
        Scene.split(x, 0, 2);
        x.go(1, 2);
        Scene.placeNewUnits(x, 2, 3);
        Scene.placeNewUnits(x, 1, 4);
        expect.answer(0, () -> x.span(3));
        expect.answer(1, () -> x.span(2));
        expect.answer(2, () -> x.span(1));
        expect.answer(0, () -> x.span(20));
    }

    private static void spanTooSmall() {
        CommandTree x = Scene.withRanks(3);
        Scene.placeNewUnits(x, 0, 1);
        expect.refuses(RANGE, () -> x.span(0), () -> x.span(-1), () -> x.span(LOW));
        expect.answer(0, () -> x.sectorAt(0, 6));
        expect.answer(0, () -> x.span(1));
    }

    private static void spanTooLarge() {
        CommandTree x = Scene.withRanks(3);
        Scene.placeNewUnits(x, 0, 6);
        expect.refuses(RANGE, () -> x.span(21), () -> x.span(HIGH));
        expect.answer(1, () -> x.sectorAt(0, 6));
        expect.answer(0, () -> x.span(20));
    }

    private static void tickEnds() {
        CommandTree x = new CommandTree();
        expect.answer(0, () -> x.tick(1));
        expect.answer(1, x::clock);
        expect.answer(0, () -> x.tick(5000));
        expect.answer(5001, x::clock);
    }

    private static void tickCounts() {
        CommandTree x = new CommandTree();
        x.task(0, 0);
        Scene.giveTasks(x, 0, 3, 3);
        x.task(0, 4);
        expect.answer(1, () -> x.tick(1));
        expect.answer(0, () -> x.tick(1));
        x.answer(1, true);
        expect.answer(0, () -> x.tick(1));
        expect.answer(2, () -> x.tick(1));
        expect.answer(1, () -> x.tick(5000));
        expect.answer(0, () -> x.tick(5000));
    }

    private static void tickTooFew() {
        CommandTree x = new CommandTree();
        x.tick(10);
        expect.refuses(RANGE, () -> x.tick(0), () -> x.tick(-1), () -> x.tick(-10), () -> x.tick(LOW));
        expect.answer(10, x::clock);
    }

    private static void tickTooMany() {
        CommandTree x = new CommandTree();
        x.task(0, 0);
        expect.refuses(RANGE, () -> x.tick(5001), () -> x.tick(99_999), () -> x.tick(HIGH));
        expect.answer(0, x::clock);
        expect.answer(0, () -> x.taskAt(0, 1));
    }

    private static void tickBeyond() {
        CommandTree x = new CommandTree();
        Scene.tickTo(x, 99_990);
        x.task(0, 99_990);
        expect.refuses(RANGE, () -> x.tick(10), () -> x.tick(5000));
        expect.answer(99_990, x::clock);
        expect.answer(0, () -> x.taskAt(0, 1));
        expect.answer(1, () -> x.tick(9));
        expect.answer(99_999, x::clock);
        expect.refuses(RANGE, () -> x.tick(1));
        expect.answer(99_999, x::clock);
    }

    private static void tickWrap() {
        CommandTree x = new CommandTree();
        Scene.tickTo(x, 99_999);
        expect.refuses(RANGE, () -> x.tick(HIGH), () -> x.tick(HIGH - 99_998), () -> x.tick(LOW), () -> x.tick(-1));
        expect.answer(99_999, x::clock);
    }

    private static void clock() {
        CommandTree x = new CommandTree();
        expect.answer(0, x::clock);
        x.tick(5000);
        x.tick(1);
        expect.answer(5001, x::clock);
        expect.answer(5001, x::clock);
    }

    private static void sectorOpen() {
        CommandTree x = withJoined();
        expect.answer(1, () -> x.sectorAt(0, 0));
        expect.answer(1, () -> x.sectorAt(1, 0));
        expect.answer(0, () -> x.sectorAt(2, 0));
    }

    private static void sectorLeader() {
        CommandTree x = Scene.withRanks(3, 2);
        Scene.split(x, 0, 2);
        x.go(1, 1);
        expect.answer(0, () -> x.sectorAt(0, 1));
        expect.answer(1, () -> x.sectorAt(1, 1));
        expect.answer(-1, () -> x.sectorAt(2, 1));
        x.join(1, 0);
        expect.answer(-1, () -> x.sectorAt(1, 1));
    }

    /** A joined sector stays below the one that it was below. */
    private static void sectorAbove() {
        CommandTree x = new CommandTree();
        x.split(0);
        x.split(1);
        x.split(0);
        expect.answer(-1, () -> x.sectorAt(0, 2));
        expect.answer(1, () -> x.sectorAt(2, 2));
        x.join(2, 3);
        expect.answer(1, () -> x.sectorAt(2, 2));
    }

    private static void sectorPersons() {
        CommandTree x = Scene.withRanks(3, 2, 1);
        x.split(0);
        x.person(1);
        expect.answer(3, () -> x.sectorAt(0, 3));
        expect.answer(0, () -> x.sectorAt(1, 3));
        x.go(2, 1);
        x.leave(1);
        expect.answer(1, () -> x.sectorAt(0, 3));
        expect.answer(1, () -> x.sectorAt(1, 3));
    }

    private static void sectorUnits() {
        CommandTree x = new CommandTree();
        x.split(0);
        x.unit();
        expect.answer(0, () -> x.sectorAt(0, 4));
        Scene.placeNewUnits(x, 0, 19);
        expect.answer(19, () -> x.sectorAt(0, 4));
        expect.answer(0, () -> x.sectorAt(1, 4));
        x.place(0, 0);
        expect.answer(20, () -> x.sectorAt(0, 4));
    }

    private static void sectorOffered() {
        CommandTree x = Scene.withRanks(3, 2, 1);
        x.split(0);
        expect.answer(-1, () -> x.sectorAt(0, 5));
        x.offer(0, 2);
        expect.answer(2, () -> x.sectorAt(0, 5));
        expect.answer(-1, () -> x.sectorAt(1, 5));
    }

    private static void sectorPassed() {
        CommandTree x = Scene.withRanks(3);
        x.split(0);
        Scene.placeNewUnits(x, 1, 6);
        Scene.placeNewUnits(x, 0, 4);
        expect.answer(0, () -> x.sectorAt(0, 6));
        expect.answer(0, () -> x.sectorAt(1, 6));
        x.place(0, 0);
        expect.answer(1, () -> x.sectorAt(0, 6));
        expect.answer(0, () -> x.sectorAt(1, 6));
    }

    private static void sectorsBelow() {
        CommandTree x = new CommandTree();
        expect.answer(0, () -> x.sectorAt(0, 7));
        Scene.split(x, 0, 3);
        x.split(1);
        expect.answer(3, () -> x.sectorAt(0, 7));
        expect.answer(1, () -> x.sectorAt(1, 7));
        x.join(3, 0);
        expect.answer(2, () -> x.sectorAt(0, 7));
        x.join(1, 2);
        expect.answer(1, () -> x.sectorAt(0, 7));
        expect.answer(0, () -> x.sectorAt(1, 7));
        expect.answer(1, () -> x.sectorAt(2, 7));
    }

    private static void sectorUnknown() {
        CommandTree x = new CommandTree();
        expect.refuses(UNKNOWN, () -> x.sectorAt(1, 0), () -> x.sectorAt(-1, 0), () -> x.sectorAt(20, 7),
                () -> x.sectorAt(LOW, 2), () -> x.sectorAt(HIGH, 5));
    }

    private static void sectorWhatUnknown() {
        CommandTree x = withJoined(3);
        expect.refuses(UNKNOWN, () -> x.sectorAt(0, 8), () -> x.sectorAt(0, -1), () -> x.sectorAt(0, LOW),
                () -> x.sectorAt(0, HIGH), () -> x.sectorAt(2, 8));
        expect.answer(1, () -> x.sectorAt(0, 7));
    }

    private static void personSector() {
        CommandTree x = Scene.withRanks(3);
        x.person(2);
        x.split(0);
        expect.answer(0, () -> x.personAt(0, 0));
        expect.answer(-1, () -> x.personAt(1, 0));
        x.go(0, 1);
        expect.answer(1, () -> x.personAt(0, 0));
    }

    private static void personLeads() {
        CommandTree x = Scene.withRanks(3, 2);
        x.person(1);
        x.split(0);
        expect.answer(0, () -> x.personAt(0, 1));
        expect.answer(-1, () -> x.personAt(1, 1));
        expect.answer(-1, () -> x.personAt(2, 1));
        x.go(0, 1);
        expect.answer(1, () -> x.personAt(0, 1));
        expect.answer(0, () -> x.personAt(1, 1));
    }

    private static void personArrived() {
        CommandTree x = Scene.withRanks(3);
        x.person(2);
        x.split(0);
        x.tick(4);
        x.go(0, 1);
        expect.answer(0, () -> x.personAt(0, 2));
        expect.answer(-1, () -> x.personAt(1, 2));
        x.leave(0);
        expect.answer(-1, () -> x.personAt(0, 2));
        x.arrive(0);
        expect.answer(4, () -> x.personAt(0, 2));
    }

    private static void personUnknown() {
        CommandTree x = new CommandTree();
        expect.refuses(UNKNOWN, () -> x.personAt(0, 0));
        x.person(2);
        expect.refuses(UNKNOWN, () -> x.personAt(1, 0), () -> x.personAt(-1, 1), () -> x.personAt(40, 2),
                () -> x.personAt(LOW, 0), () -> x.personAt(HIGH, 0));
    }

    private static void personWhatUnknown() {
        CommandTree x = Scene.withRanks(3);
        expect.refuses(UNKNOWN, () -> x.personAt(0, 3), () -> x.personAt(0, -1), () -> x.personAt(0, LOW),
                () -> x.personAt(0, HIGH));
    }

    private static void unitSector() {
        CommandTree x = new CommandTree();
        x.split(0);
        x.unit();
        expect.answer(-1, () -> x.unitAt(0));
        x.place(0, 0);
        expect.answer(0, () -> x.unitAt(0));
        x.place(0, 1);
        expect.answer(1, () -> x.unitAt(0));
    }

    private static void unitUnknown() {
        CommandTree x = new CommandTree();
        expect.refuses(UNKNOWN, () -> x.unitAt(0));
        x.unit();
        expect.refuses(UNKNOWN, () -> x.unitAt(1), () -> x.unitAt(-1), () -> x.unitAt(20), () -> x.unitAt(LOW),
                () -> x.unitAt(HIGH));
    }

    private static void taskSector() {
        CommandTree x = new CommandTree();
        x.split(0);
        x.task(1, 5);
        x.task(0, 5);
        expect.answer(1, () -> x.taskAt(0, 0));
        expect.answer(0, () -> x.taskAt(1, 0));
        x.join(1, 0);
        expect.answer(0, () -> x.taskAt(0, 0));
    }

    private static void taskState() {
        CommandTree x = new CommandTree();
        Scene.giveTasks(x, 0, 1, 3);
        x.task(0, 2);
        x.answer(1, true);
        x.answer(2, false);
        x.tick(2);
        expect.answer(3, () -> x.taskAt(0, 1));
        expect.answer(1, () -> x.taskAt(1, 1));
        expect.answer(2, () -> x.taskAt(2, 1));
        expect.answer(0, () -> x.taskAt(3, 1));
    }

    private static void taskAnswered() {
        CommandTree x = new CommandTree();
        Scene.giveTasks(x, 0, 1, 3);
        x.answer(0, true);
        x.tick(5);
        x.answer(1, false);
        x.tick(5);
        expect.answer(0, () -> x.taskAt(0, 2));
        expect.answer(5, () -> x.taskAt(1, 2));
        expect.answer(-1, () -> x.taskAt(2, 2));
    }

    private static void taskAtUnknown() {
        CommandTree x = new CommandTree();
        expect.refuses(UNKNOWN, () -> x.taskAt(0, 0));
        x.task(0, 5);
        expect.refuses(UNKNOWN, () -> x.taskAt(1, 0), () -> x.taskAt(-1, 1), () -> x.taskAt(60, 2),
                () -> x.taskAt(LOW, 0), () -> x.taskAt(HIGH, 0));
    }

    private static void taskWhatUnknown() {
        CommandTree x = new CommandTree();
        x.task(0, 5);
        expect.refuses(UNKNOWN, () -> x.taskAt(0, 3), () -> x.taskAt(0, -1), () -> x.taskAt(0, LOW),
                () -> x.taskAt(0, HIGH));
    }

    private static void passedByNumbers() {
        CommandTree x = Scene.withRanks(3, 2, 1);
        Scene.split(x, 0, 3);
        x.go(1, 3);
        x.go(2, 2);
        x.span(1);
        Scene.placeNewUnits(x, 3, 2);
        Scene.placeNewUnits(x, 2, 2);
        expect.answer(0, () -> x.passed(0));
        expect.answer(2, () -> x.passed(1));
        expect.answer(3, () -> x.passed(2));
    }

    private static void passedNotSoMany() {
        CommandTree x = Scene.withRanks(3);
        expect.answer(-1, () -> x.passed(0));
        Scene.placeNewUnits(x, 0, 6);
        expect.answer(0, () -> x.passed(0));
        expect.answer(-1, () -> x.passed(1));
        expect.answer(-1, () -> x.passed(20));
        expect.answer(-1, () -> x.passed(HIGH));
    }

    private static void passedBelowZero() {
        CommandTree x = Scene.withRanks(3);
        Scene.placeNewUnits(x, 0, 6);
        expect.refuses(RANGE, () -> x.passed(-1), () -> x.passed(LOW));
    }
}
