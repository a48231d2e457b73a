/** Each sentence of the document's 'Terms' that names an edge, with a test of its own. */
public final class TermsTest {
    private static final Class<IllegalArgumentException> UNKNOWN = IllegalArgumentException.class;
    private static final Class<IndexOutOfBoundsException> RANGE = IndexOutOfBoundsException.class;
    private static final Class<IllegalStateException> STATE = IllegalStateException.class;
    private static final Class<UnsupportedOperationException> ROOM = UnsupportedOperationException.class;

    private static final Expect expect = new Expect("TermsTest");

    public static void main(String[] args) {
        numbers();
        arriving();
        nextToLead();
        handover();
        span();
        tasks();
        splitAndJoin();
        expect.end();
    }

    private static void numbers() {
        expect.sentence("TIME is in seconds, 0 .. 99,999: the first", TermsTest::firstSecond);
        expect.sentence("TIME is in seconds, 0 .. 99,999: the last", TermsTest::lastSecond);
        expect.sentence("THE SECOND is 0 at first", TermsTest::secondAtFirst);
        expect.sentence("goes on by tick()", TermsTest::onlyTickMovesTheSecond);
        expect.sentence("PERSONS 0, 1, .. (at most 40)", TermsTest::personsAtMost);
        expect.sentence("a RANK (0 .. 9)", TermsTest::everyRank);
        expect.sentence("they are AWAY, or THERE since a second, in one sector", TermsTest::personInOneSector);
        expect.sentence("UNITS 0, 1, .. (at most 20)", TermsTest::unitsAtMost);
        expect.sentence("are away or there, in one sector", TermsTest::unitInOneSector);
        expect.sentence("SECTORS 0, 1, .. (at most 20)", TermsTest::sectorsAtMost);
        expect.sentence("SECTORS .. (at most 20): joined ones are of them", TermsTest::joinedSectorsCount);
        expect.sentence("a sector ABOVE (sector 0, the whole scene, has none)", TermsTest::sectorAbove);
        expect.sentence("a LEADER or none", TermsTest::leaderOrNone);
        expect.sentence("they are OPEN, or were joined to another one", TermsTest::openOrJoined);
        expect.sentence("at most 40, 20, 20 and 60, all at once: each is looked at", TermsTest::fullScene);
        expect.sentence("at most 40, 20, 20 and 60, all at once: each is moved", TermsTest::fullSceneMoves);
    }

    private static void arriving() {
        expect.sentence("A person who ARRIVES comes into sector 0", TermsTest::arrivesInSectorZero);
        expect.sentence("When sector 0 has no leader this person leads it", TermsTest::arrivesAndLeads);
        expect.sentence("When one arrives there .. with a rank above its leader's, nothing changes by itself",
                TermsTest::higherRankArrives);
        expect.sentence("(or comes into any sector) with a rank above its leader's, nothing changes by itself",
                TermsTest::higherRankComes);
    }

    private static void nextToLead() {
        expect.sentence("of the persons in it", TermsTest::nextIsInTheSector);
        expect.sentence("the one of the highest rank", TermsTest::nextByRank);
        expect.sentence("the highest rank: 0 and 9 too", TermsTest::nextByRankAtTheEnds);
        expect.sentence("of the same the one there longest (arrived first", TermsTest::nextByArrival);
        expect.sentence("there longest: since the last time of arriving", TermsTest::nextByLastArrival);
        expect.sentence("there longest: at the scene, not in the sector", TermsTest::nextByArrivalAtTheScene);
        expect.sentence("of the same second the lower number)", TermsTest::nextByNumber);
        expect.sentence("A leader who goes AWAY .. leaves it to the next", TermsTest::leaderGoesAway);
        expect.sentence("or into another sector, leaves it to the next", TermsTest::leaderGoesElsewhere);
        expect.sentence("(none: it has no leader", TermsTest::noneIsNext);
        expect.sentence("the first one who comes into it .. leads it)", TermsTest::firstWhoComesLeads);
        expect.sentence("and leads no other", TermsTest::leaderWhoComesLeadsNoOther);
    }

    private static void handover() {
        expect.sentence("OFFERS it to a person who is there", TermsTest::offeredToOneThere);
        expect.sentence("and leads none", TermsTest::offeredToOneWhoLeadsNone);
        expect.sentence("when that person TAKES it, it is that one's", TermsTest::bothMustSay);
        expect.sentence("who comes into the sector then", TermsTest::takerComesIntoTheSector);
        expect.sentence("the former leader stays in it as before", TermsTest::formerLeaderStays);
        expect.sentence("A new offer takes the place of an open one", TermsTest::newOffer);
        expect.sentence("gone when the leader is another one: the former is away", TermsTest::offerOfOneAway);
        expect.sentence("gone when the leader is another one: the former is elsewhere", TermsTest::offerOfOneElsewhere);
        expect.sentence("gone when the leader is another one: it was taken", TermsTest::offerTaken);
        expect.sentence("gone when the leader is another one: there is none", TermsTest::offerOfNone);
        expect.sentence("or the person goes away", TermsTest::offerToOneAway);
        expect.sentence("or leads a sector: as the first who comes", TermsTest::offerToFirstWhoComes);
        expect.sentence("or leads a sector: by taking another one", TermsTest::offerToOneWhoTakes);
        expect.sentence("or leads a sector: as the next", TermsTest::offerToTheNext);
        expect.sentence("or leads a sector: by a join", TermsTest::offerToTheNextOfAJoin);
        expect.sentence("an offer stands for as long as none of these is so", TermsTest::offerStands);
    }

    private static void span() {
        expect.sentence("THE SPAN: 5 at first", TermsTest::spanAtFirst);
        expect.sentence("THE SPAN: 1", TermsTest::spanOfOne);
        expect.sentence("THE SPAN: 20", TermsTest::spanOfTwenty);
        expect.sentence("open sectors right below", TermsTest::spanOfSectors);
        expect.sentence("and units in the sector together", TermsTest::spanOfBoth);
        expect.sentence("A sector with a leader that has more is PASSED", TermsTest::passedHasALeader);
    }

    private static void tasks() {
        expect.sentence("TASKS 0, 1, .. (at most 60)", TermsTest::tasksAtMost);
        expect.sentence("they are OPEN, DONE or NOT DONE (as was answered)", TermsTest::tasksAsAnswered);
        expect.sentence("OVERDUE: not answered when the second is above that", TermsTest::overdueAboveUntil);
        expect.sentence("OVERDUE: not answered", TermsTest::answeredIsNotOverdue);
        expect.sentence("an overdue one may be answered still", TermsTest::overdueIsAnswered);
        expect.sentence("A sector that is joined gives its open and overdue tasks to the other one",
                TermsTest::joinedGivesTasks);
    }

    private static void splitAndJoin() {
        expect.sentence("SPLIT: a new sector below one", TermsTest::splitBelow);
        expect.sentence("JOIN: a sector (not 0)", TermsTest::joinNotZero);
        expect.sentence("is joined to another open one", TermsTest::joinToAnotherOpen);
        expect.sentence("that is not below it", TermsTest::joinNotToOneBelow);
        expect.sentence("its persons .. are the other one's then", TermsTest::joinPersons);
        expect.sentence("its .. units .. are the other one's then", TermsTest::joinUnits);
        expect.sentence("the open sectors right below it are the other one's then", TermsTest::joinSectorsBelow);
        expect.sentence("(all at once: when that has no leader, the next leads it)", TermsTest::joinNextLeads);
        expect.sentence("(when that has no leader: and nobody comes)", TermsTest::joinNobody);
        expect.sentence("its own leader leads no more", TermsTest::joinOwnLeader);
    }

    private static void firstSecond() {
        CommandTree x = Scene.withRanks(3);
        x.task(0, 0);
        x.answer(0, true);
        expect.personIs(x, 0, 0, 0, 0);
        expect.taskIs(x, 0, 0, 1, 0);
        expect.answer(0, () -> x.led(0, 0));
    }

    private static void lastSecond() {
        CommandTree x = new CommandTree();
        x.person(3);
        Scene.tickTo(x, 99_999);
        expect.answer(99_999, x::clock);
        x.arrive(0);
        expect.personIs(x, 0, 0, 0, 99_999);
        expect.answer(0, () -> x.task(0, 99_999));
        expect.taskIs(x, 0, 0, 0, -1);
        x.answer(0, false);
        expect.taskIs(x, 0, 0, 2, 99_999);
        expect.answer(0, () -> x.led(0, 99_999));
        expect.answer(-1, () -> x.led(0, 99_998));
        expect.refuses(RANGE, () -> x.tick(1), () -> x.task(0, 100_000), () -> x.led(0, 100_000));
        expect.answer(99_999, x::clock);
    }

    private static void secondAtFirst() {
        CommandTree x = new CommandTree();
        expect.answer(0, x::clock);
    }

    private static void onlyTickMovesTheSecond() {
        CommandTree x = Scene.withRanks(3, 2);
        x.tick(7);
        x.place(x.unit(), 0);
        Scene.split(x, 0, 2);
        x.go(1, 1);
        x.join(1, 0);
        x.offer(0, 1);
        x.take(0, 1);
        x.task(0, 9);
        x.answer(0, true);
        x.span(20);
        x.led(0, 7);
        x.passed(0);
        x.leave(1);
        expect.refuses(RANGE, () -> x.tick(0), () -> x.tick(5001));
        expect.answer(7, x::clock);
        x.tick(3);
        expect.answer(10, x::clock);
    }

    private static void personsAtMost() {
        CommandTree x = new CommandTree();
        for (int i = 0; i < 40; i++) {
            int due = i;
            expect.answer(due, () -> x.person(0));
            x.arrive(i);
        }
        expect.answer(40, () -> x.sectorAt(0, 3));
        expect.refuses(ROOM, () -> x.person(0));
        x.leave(39);
        expect.refuses(ROOM, () -> x.person(0));
        expect.refuses(UNKNOWN, () -> x.arrive(40));
    }

    private static void everyRank() {
        CommandTree x = new CommandTree();
        for (int rank = 0; rank <= 9; rank++) {
            int due = rank;
            expect.answer(due, () -> x.person(due));
            x.arrive(rank);
        }
        x.leave(0);
        for (int rank = 9; rank >= 1; rank--) {
            int due = rank;
            expect.answer(due, () -> x.sectorAt(0, 1));
            x.leave(rank);
        }
    }

    private static void personInOneSector() {
        CommandTree x = Scene.withRanks(3, 2);
        x.person(1);
        Scene.split(x, 0, 2);
        x.tick(4);
        expect.personIs(x, 2, -1, -1, -1);
        x.arrive(2);
        x.tick(1);
        x.go(2, 1);
        x.go(2, 2);
        expect.personIs(x, 2, 2, 2, 4);
        expect.answer(2, () -> x.sectorAt(0, 3));
        expect.answer(0, () -> x.sectorAt(1, 3));
        expect.answer(1, () -> x.sectorAt(2, 3));
        x.leave(2);
        expect.personIs(x, 2, -1, -1, -1);
        expect.answer(0, () -> x.sectorAt(2, 3));
    }

    private static void unitsAtMost() {
        CommandTree x = new CommandTree();
        for (int i = 0; i < 20; i++) {
            int due = i;
            expect.answer(due, x::unit);
            x.place(i, 0);
        }
        expect.answer(20, () -> x.sectorAt(0, 4));
        expect.refuses(ROOM, x::unit);
        x.place(19, -1);
        expect.refuses(ROOM, x::unit);
        expect.refuses(UNKNOWN, () -> x.place(20, 0));
    }

    private static void unitInOneSector() {
        CommandTree x = new CommandTree();
        x.split(0);
        x.unit();
        expect.answer(-1, () -> x.unitAt(0));
        x.place(0, 0);
        x.place(0, 1);
        expect.answer(1, () -> x.unitAt(0));
        expect.answer(0, () -> x.sectorAt(0, 4));
        expect.answer(1, () -> x.sectorAt(1, 4));
        x.place(0, -1);
        expect.answer(0, () -> x.sectorAt(1, 4));
    }

    private static void sectorsAtMost() {
        CommandTree x = new CommandTree();
        for (int i = 1; i < 20; i++) {
            int due = i;
            expect.answer(due, () -> x.split(0));
        }
        expect.answer(19, () -> x.sectorAt(0, 7));
        expect.refuses(ROOM, () -> x.split(0));
        expect.refuses(UNKNOWN, () -> x.sectorAt(20, 0), () -> x.split(20));
    }

    private static void joinedSectorsCount() {
        CommandTree x = new CommandTree();
        Scene.split(x, 0, 19);
        x.join(19, 0);
        x.join(1, 0);
        expect.refuses(ROOM, () -> x.split(0));
        expect.sectorIs(x, 19, 0);
        expect.answer(17, () -> x.sectorAt(0, 7));
    }

    private static void sectorAbove() {
        CommandTree x = new CommandTree();
        for (int i = 0; i < 19; i++) {
            x.split(i);
        }
        expect.answer(-1, () -> x.sectorAt(0, 2));
        expect.answer(0, () -> x.sectorAt(1, 2));
        expect.answer(18, () -> x.sectorAt(19, 2));
    }

    private static void leaderOrNone() {
        CommandTree x = Scene.withRanks(3);
        x.split(0);
        expect.answer(0, () -> x.sectorAt(0, 1));
        expect.answer(-1, () -> x.sectorAt(1, 1));
    }

    private static void openOrJoined() {
        CommandTree x = new CommandTree();
        Scene.split(x, 0, 2);
        expect.answer(1, () -> x.sectorAt(0, 0));
        expect.answer(1, () -> x.sectorAt(1, 0));
        x.join(1, 2);
        expect.answer(0, () -> x.sectorAt(1, 0));
        expect.answer(1, () -> x.sectorAt(2, 0));
    }

    /** 40 persons in sector 0, 20 units and 60 tasks of sector 19, which is the last of 19 below one another. */
    private static CommandTree full() {
        CommandTree x = new CommandTree();
        for (int i = 0; i < 40; i++) {
            x.arrive(x.person(i / 10));
        }
        for (int i = 0; i < 19; i++) {
            x.split(i);
        }
        Scene.placeNewUnits(x, 19, 20);
        Scene.giveTasks(x, 19, 9, 60);
        x.go(39, 19);
        return x;
    }

    private static void fullScene() {
        CommandTree x = full();
        expect.sectorIs(x, 0, 1, 0, -1, 39, 0, -1, 0, 1);
        expect.sectorIs(x, 19, 1, 39, 18, 1, 20, -1, 1, 0);
        expect.personIs(x, 39, 19, 19, 0);
        expect.answer(19, () -> x.unitAt(19));
        expect.taskIs(x, 59, 19, 0, -1);
        expect.answer(19, () -> x.passed(0));
        expect.answer(-1, () -> x.passed(1));
        expect.answer(0, () -> x.span(20));
        expect.answer(1, () -> x.span(19));
        expect.answer(39, () -> x.led(19, 0));
        expect.answer(60, () -> x.tick(10));
    }

    private static void fullSceneMoves() {
        CommandTree x = full();
        x.leave(0);
        expect.answer(30, () -> x.sectorAt(0, 1));
        expect.refuses(STATE, () -> x.join(1, 19));
        x.offer(19, 38);
        x.offer(0, 38);
        x.take(19, 38);
        expect.sectorIs(x, 19, 1, 38, 18, 2, 20, -1);
        expect.answer(-1, () -> x.sectorAt(0, 5));
        x.answer(59, true);
        x.join(19, 1);
        expect.sectorIs(x, 1, 1, 38, 0, 2, 20, -1, 1, 1);
        expect.personIs(x, 39, 1, -1, 0);
        expect.answer(1, () -> x.unitAt(19));
        expect.taskIs(x, 58, 1, 0, -1);
        expect.taskIs(x, 59, 19, 1, 0);
        expect.answer(59, () -> x.tick(10));
    }

    private static void arrivesInSectorZero() {
        CommandTree x = Scene.withRanks(3, 2);
        x.split(0);
        x.go(1, 1);
        x.leave(1);
        x.arrive(1);
        expect.personIs(x, 1, 0, -1, 0);
        expect.answer(2, () -> x.sectorAt(0, 3));
        expect.answer(0, () -> x.sectorAt(1, 3));
    }

    private static void arrivesAndLeads() {
        CommandTree x = Scene.withRanks(0);
        expect.answer(0, () -> x.sectorAt(0, 1));
        x.person(4);
        x.split(0);
        x.go(0, 1);
        expect.answer(-1, () -> x.sectorAt(0, 1));
        x.arrive(1);
        expect.answer(1, () -> x.sectorAt(0, 1));
        x.leave(1);
        expect.answer(-1, () -> x.sectorAt(0, 1));
        x.arrive(1);
        expect.answer(1, () -> x.sectorAt(0, 1));
        expect.answer(0, () -> x.sectorAt(1, 1));
    }

    private static void higherRankArrives() {
        CommandTree x = Scene.withRanks(0, 9);
        expect.answer(0, () -> x.sectorAt(0, 1));
        expect.personIs(x, 1, 0, -1, 0);
    }

    private static void higherRankComes() {
        CommandTree x = Scene.withRanks(5, 0, 9, 1);
        Scene.split(x, 0, 2);
        x.go(1, 1);
        x.go(2, 1);
        expect.answer(1, () -> x.sectorAt(1, 1));
        expect.personIs(x, 2, 1, -1, 0);
        x.go(3, 2);
        x.join(1, 2);
        expect.answer(3, () -> x.sectorAt(2, 1));
    }

    private static void nextIsInTheSector() {
        CommandTree x = Scene.withRanks(5, 1, 9, 8);
        x.split(0);
        x.go(2, 1);
        x.go(3, 1);
        x.leave(0);
        expect.answer(1, () -> x.sectorAt(0, 1));
        expect.answer(2, () -> x.sectorAt(1, 1));
        x.leave(2);
        expect.answer(3, () -> x.sectorAt(1, 1));
    }

    private static void nextByRank() {
        CommandTree x = Scene.withRanks(9, 3, 5, 4);
        x.tick(1);
        x.arrive(x.person(6));
        x.leave(0);
        expect.answer(4, () -> x.sectorAt(0, 1));
        x.leave(4);
        expect.answer(2, () -> x.sectorAt(0, 1));
        x.leave(2);
        expect.answer(3, () -> x.sectorAt(0, 1));
        x.leave(3);
        expect.answer(1, () -> x.sectorAt(0, 1));
    }

    private static void nextByRankAtTheEnds() {
        CommandTree x = Scene.withRanks(0, 8, 0, 9);
        x.leave(0);
        expect.answer(3, () -> x.sectorAt(0, 1));
        x.leave(3);
        expect.answer(1, () -> x.sectorAt(0, 1));
        x.leave(1);
        expect.answer(2, () -> x.sectorAt(0, 1));
    }

    private static void nextByArrival() {
        CommandTree x = Scene.withRanks(5);
        for (int i = 0; i < 3; i++) {
            x.person(4);
        }
        x.tick(1);
        x.arrive(3);
        x.tick(1);
        x.arrive(1);
        x.arrive(2);
        x.leave(0);
        expect.answer(3, () -> x.sectorAt(0, 1));
    }

    private static void nextByLastArrival() {
        CommandTree x = Scene.withRanks(5, 4);
        x.tick(1);
        x.arrive(x.person(4));
        x.tick(1);
        x.leave(1);
        x.arrive(1);
        x.leave(0);
        expect.answer(2, () -> x.sectorAt(0, 1));
    }

    private static void nextByArrivalAtTheScene() {
        CommandTree x = Scene.withRanks(5, 5, 4);
        x.tick(1);
        x.arrive(x.person(4));
        x.split(0);
        x.go(1, 1);
        x.go(3, 1);
        x.tick(1);
        x.go(2, 1);
        x.leave(1);
        expect.answer(2, () -> x.sectorAt(1, 1));
    }

    private static void nextByNumber() {
        CommandTree x = Scene.withRanks(5);
        for (int i = 0; i < 3; i++) {
            x.person(4);
        }
        x.tick(1);
        x.arrive(3);
        x.arrive(1);
        x.arrive(2);
        x.leave(0);
        expect.answer(1, () -> x.sectorAt(0, 1));
        x.leave(1);
        expect.answer(2, () -> x.sectorAt(0, 1));
    }

    private static void leaderGoesAway() {
        CommandTree x = Scene.withRanks(5, 4);
        x.leave(0);
        expect.sectorIs(x, 0, 1, 1, -1, 1);
        expect.personIs(x, 0, -1, -1, -1);
        expect.personIs(x, 1, 0, 0, 0);
        x.arrive(0);
        expect.answer(1, () -> x.sectorAt(0, 1));
    }

    private static void leaderGoesElsewhere() {
        CommandTree x = Scene.withRanks(5, 4, 3);
        x.split(0);
        x.go(2, 1);
        x.go(0, 1);
        expect.sectorIs(x, 0, 1, 1, -1, 1);
        expect.sectorIs(x, 1, 1, 2, 0, 2);
        expect.personIs(x, 0, 1, -1, 0);
        expect.personIs(x, 1, 0, 0, 0);
    }

    private static void noneIsNext() {
        CommandTree x = Scene.withRanks(5, 4);
        Scene.split(x, 0, 2);
        x.go(1, 1);
        x.leave(1);
        expect.sectorIs(x, 1, 1, -1, 0, 0);
        x.go(0, 2);
        expect.sectorIs(x, 0, 1, -1, -1, 0);
    }

    private static void firstWhoComesLeads() {
        CommandTree x = Scene.withRanks(5, 0, 9);
        x.split(0);
        x.go(1, 1);
        expect.answer(1, () -> x.sectorAt(1, 1));
        x.go(2, 1);
        expect.answer(1, () -> x.sectorAt(1, 1));
        x.leave(2);
        x.leave(1);
        expect.answer(-1, () -> x.sectorAt(1, 1));
        x.arrive(2);
        x.go(2, 1);
        expect.answer(2, () -> x.sectorAt(1, 1));
    }

    /** Who leads another sector leaves that one by coming, and so leads no other. */
    private static void leaderWhoComesLeadsNoOther() {
        CommandTree x = Scene.withRanks(5, 4);
        x.split(0);
        x.go(0, 1);
        expect.personIs(x, 0, 1, 1, 0);
        expect.answer(1, () -> x.sectorAt(0, 1));
        expect.answer(0, () -> x.sectorAt(1, 1));
        x.go(1, 1);
        expect.personIs(x, 1, 1, -1, 0);
        expect.answer(-1, () -> x.sectorAt(0, 1));
    }

    private static void offeredToOneThere() {
        CommandTree x = Scene.withRanks(5, 4, 3, 2);
        x.person(9);
        x.split(0);
        x.go(2, 1);
        x.go(3, 1);
        expect.refuses(STATE, () -> x.offer(0, 4));
        expect.answer(-1, () -> x.sectorAt(0, 5));
        expect.passes(() -> x.offer(0, 1));
        expect.answer(1, () -> x.sectorAt(0, 5));
        expect.passes(() -> x.offer(0, 3));
        expect.answer(3, () -> x.sectorAt(0, 5));
    }

    private static void offeredToOneWhoLeadsNone() {
        CommandTree x = Scene.withRanks(5, 4);
        x.split(0);
        x.go(1, 1);
        expect.refuses(STATE, () -> x.offer(0, 1), () -> x.offer(1, 0), () -> x.offer(0, 0), () -> x.offer(1, 1));
        expect.answer(-1, () -> x.sectorAt(0, 5));
        expect.answer(-1, () -> x.sectorAt(1, 5));
    }

    private static void bothMustSay() {
        CommandTree x = Scene.withRanks(5, 4);
        expect.refuses(STATE, () -> x.take(0, 1));
        x.offer(0, 1);
        expect.answer(0, () -> x.sectorAt(0, 1));
        expect.personIs(x, 1, 0, -1, 0);
        x.take(0, 1);
        expect.answer(1, () -> x.sectorAt(0, 1));
        expect.personIs(x, 1, 0, 0, 0);
    }

    private static void takerComesIntoTheSector() {
        CommandTree x = Scene.withRanks(5, 4, 3);
        x.split(0);
        x.go(2, 1);
        x.tick(6);
        x.offer(1, 1);
        expect.answer(0, () -> x.personAt(1, 0));
        x.take(1, 1);
        expect.personIs(x, 1, 1, 1, 0);
        expect.answer(1, () -> x.sectorAt(0, 3));
        expect.answer(2, () -> x.sectorAt(1, 3));
        expect.answer(0, () -> x.sectorAt(0, 1));
    }

    private static void formerLeaderStays() {
        CommandTree x = Scene.withRanks(5, 4, 3, 2);
        x.split(0);
        x.go(1, 1);
        x.go(2, 1);
        x.tick(6);
        x.offer(1, 3);
        x.take(1, 3);
        expect.personIs(x, 1, 1, -1, 0);
        expect.answer(3, () -> x.sectorAt(1, 3));
        x.leave(3);
        expect.answer(1, () -> x.sectorAt(1, 1));
    }

    private static void newOffer() {
        CommandTree x = Scene.withRanks(5, 4, 3);
        x.offer(0, 1);
        x.offer(0, 2);
        expect.answer(2, () -> x.sectorAt(0, 5));
        expect.refuses(STATE, () -> x.take(0, 1));
        expect.passes(() -> x.take(0, 2));
        expect.answer(2, () -> x.sectorAt(0, 1));
    }

    private static void offerOfOneAway() {
        CommandTree x = Scene.withRanks(5, 4, 3);
        x.offer(0, 2);
        x.leave(0);
        expect.sectorIs(x, 0, 1, 1, -1, 2, 0, -1);
        expect.refuses(STATE, () -> x.take(0, 2));
        x.arrive(0);
        expect.answer(-1, () -> x.sectorAt(0, 5));
    }

    private static void offerOfOneElsewhere() {
        CommandTree x = Scene.withRanks(5, 4, 3);
        x.split(0);
        x.offer(0, 2);
        x.go(0, 1);
        expect.sectorIs(x, 0, 1, 1, -1, 2, 0, -1);
        expect.answer(-1, () -> x.sectorAt(1, 5));
        expect.refuses(STATE, () -> x.take(0, 2), () -> x.take(1, 2));
    }

    private static void offerTaken() {
        CommandTree x = Scene.withRanks(5, 4);
        x.offer(0, 1);
        x.take(0, 1);
        expect.answer(-1, () -> x.sectorAt(0, 5));
        expect.refuses(STATE, () -> x.take(0, 1));
        x.offer(0, 0);
        x.take(0, 0);
        expect.answer(0, () -> x.sectorAt(0, 1));
        expect.refuses(STATE, () -> x.take(0, 1));
    }

    private static void offerOfNone() {
        CommandTree x = Scene.withRanks(5, 4, 3);
        x.split(0);
        x.go(2, 1);
        x.offer(1, 1);
        x.leave(2);
        expect.sectorIs(x, 1, 1, -1, 0, 0, 0, -1);
        expect.refuses(STATE, () -> x.take(1, 1));
    }

    private static void offerToOneAway() {
        CommandTree x = Scene.withRanks(5, 4, 3);
        x.split(0);
        x.go(2, 1);
        x.offer(0, 1);
        x.offer(1, 1);
        x.leave(1);
        expect.answer(-1, () -> x.sectorAt(0, 5));
        expect.answer(-1, () -> x.sectorAt(1, 5));
        expect.refuses(STATE, () -> x.take(0, 1));
        x.arrive(1);
        expect.refuses(STATE, () -> x.take(0, 1), () -> x.take(1, 1));
    }

    private static void offerToFirstWhoComes() {
        CommandTree x = Scene.withRanks(5, 4);
        x.split(0);
        x.offer(0, 1);
        x.go(1, 1);
        expect.answer(-1, () -> x.sectorAt(0, 5));
        expect.refuses(STATE, () -> x.take(0, 1));
        x.go(1, 0);
        expect.refuses(STATE, () -> x.take(0, 1));
    }

    private static void offerToOneWhoTakes() {
        CommandTree x = Scene.withRanks(5, 4, 3);
        x.split(0);
        x.go(2, 1);
        x.offer(0, 1);
        x.offer(1, 1);
        x.take(1, 1);
        expect.answer(-1, () -> x.sectorAt(0, 5));
        expect.refuses(STATE, () -> x.take(0, 1));
        expect.answer(1, () -> x.sectorAt(1, 1));
    }

    private static void offerToTheNext() {
        CommandTree x = Scene.withRanks(5, 4, 3);
        x.split(0);
        x.go(2, 1);
        x.go(1, 1);
        x.offer(0, 1);
        x.leave(2);
        expect.answer(1, () -> x.sectorAt(1, 1));
        expect.answer(-1, () -> x.sectorAt(0, 5));
        expect.refuses(STATE, () -> x.take(0, 1));
    }

    private static void offerToTheNextOfAJoin() {
        CommandTree x = Scene.withRanks(5, 4, 3);
        Scene.split(x, 0, 2);
        x.go(2, 1);
        x.go(1, 1);
        x.offer(0, 1);
        x.offer(1, 1);
        x.join(1, 2);
        expect.answer(1, () -> x.sectorAt(2, 1));
        expect.answer(-1, () -> x.sectorAt(0, 5));
        expect.answer(-1, () -> x.sectorAt(1, 5));
        expect.refuses(STATE, () -> x.take(0, 1), () -> x.take(1, 1));
    }

    private static void offerStands() {
        CommandTree x = Scene.withRanks(5, 4, 3, 2, 1);
        Scene.split(x, 0, 3);
        x.go(2, 1);
        x.go(3, 2);
        x.offer(0, 1);
        x.go(1, 1);
        x.join(1, 2);
        x.offer(2, 4);
        x.take(2, 4);
        x.leave(3);
        x.arrive(3);
        x.tick(5000);
        expect.answer(1, () -> x.sectorAt(0, 5));
        expect.personIs(x, 1, 2, -1, 0);
        expect.passes(() -> x.take(0, 1));
    }

    private static void spanAtFirst() {
        CommandTree x = Scene.withRanks(3);
        Scene.placeNewUnits(x, 0, 5);
        expect.answer(0, () -> x.sectorAt(0, 6));
        expect.answer(-1, () -> x.passed(0));
        Scene.placeNewUnits(x, 0, 1);
        expect.answer(1, () -> x.sectorAt(0, 6));
        expect.answer(0, () -> x.passed(0));
    }

    private static void spanOfOne() {
        CommandTree x = Scene.withRanks(3);
        expect.answer(0, () -> x.span(1));
        Scene.placeNewUnits(x, 0, 1);
        expect.answer(0, () -> x.sectorAt(0, 6));
        Scene.placeNewUnits(x, 0, 1);
        expect.answer(1, () -> x.sectorAt(0, 6));
    }

    private static void spanOfTwenty() {
        CommandTree x = Scene.withRanks(3);
        Scene.placeNewUnits(x, 0, 20);
        expect.answer(0, () -> x.span(20));
        x.split(0);
        expect.answer(1, () -> x.sectorAt(0, 6));
        expect.answer(1, () -> x.span(20));
    }

    private static void spanOfSectors() {
        CommandTree x = Scene.withRanks(3);
        x.span(2);
        x.split(0);
        Scene.split(x, 1, 3);
        x.split(0);
        expect.answer(0, () -> x.sectorAt(0, 6));
        x.split(0);
        expect.answer(1, () -> x.sectorAt(0, 6));
        x.join(6, 0);
        expect.answer(0, () -> x.sectorAt(0, 6));
        x.join(1, 0);
        expect.answer(4, () -> x.sectorAt(0, 7));
        expect.answer(1, () -> x.sectorAt(0, 6));
    }

    private static void spanOfBoth() {
        CommandTree x = Scene.withRanks(3);
        x.span(2);
        x.split(0);
        Scene.placeNewUnits(x, 1, 3);
        Scene.placeNewUnits(x, 0, 1);
        x.unit();
        expect.answer(0, () -> x.sectorAt(0, 6));
        x.place(4, 0);
        expect.answer(1, () -> x.sectorAt(0, 6));
        x.place(4, -1);
        expect.answer(0, () -> x.sectorAt(0, 6));
        x.split(0);
        expect.answer(1, () -> x.sectorAt(0, 6));
    }

    private static void passedHasALeader() {
        CommandTree x = new CommandTree();
        x.person(1);
        Scene.placeNewUnits(x, 0, 6);
        expect.answer(0, () -> x.sectorAt(0, 6));
        expect.answer(-1, () -> x.passed(0));
        expect.answer(0, () -> x.span(5));
        x.arrive(0);
        expect.answer(1, () -> x.sectorAt(0, 6));
        expect.answer(1, () -> x.span(5));
        x.leave(0);
        expect.answer(0, () -> x.sectorAt(0, 6));
        expect.answer(-1, () -> x.passed(0));
    }

    private static void tasksAtMost() {
        CommandTree x = new CommandTree();
        for (int i = 0; i < 60; i++) {
            int due = i;
            expect.answer(due, () -> x.task(0, 0));
            x.answer(i, true);
        }
        expect.refuses(ROOM, () -> x.task(0, 0));
        expect.refuses(UNKNOWN, () -> x.taskAt(60, 0), () -> x.answer(60, true));
    }

    private static void tasksAsAnswered() {
        CommandTree x = new CommandTree();
        Scene.giveTasks(x, 0, 9, 3);
        x.answer(1, true);
        x.answer(2, false);
        expect.answer(0, () -> x.taskAt(0, 1));
        expect.answer(1, () -> x.taskAt(1, 1));
        expect.answer(2, () -> x.taskAt(2, 1));
    }

    private static void overdueAboveUntil() {
        CommandTree x = new CommandTree();
        x.task(0, 5000);
        x.task(0, 5001);
        x.tick(5000);
        expect.answer(0, () -> x.taskAt(0, 1));
        expect.answer(1, () -> x.tick(1));
        expect.answer(3, () -> x.taskAt(0, 1));
        expect.answer(0, () -> x.taskAt(1, 1));
    }

    private static void answeredIsNotOverdue() {
        CommandTree x = new CommandTree();
        Scene.giveTasks(x, 0, 1, 2);
        x.answer(0, true);
        x.answer(1, false);
        expect.answer(0, () -> x.tick(2));
        expect.answer(1, () -> x.taskAt(0, 1));
        expect.answer(2, () -> x.taskAt(1, 1));
    }

    private static void overdueIsAnswered() {
        CommandTree x = new CommandTree();
        Scene.giveTasks(x, 0, 0, 2);
        x.tick(4);
        expect.passes(() -> x.answer(0, true), () -> x.answer(1, false));
        expect.taskIs(x, 0, 0, 1, 4);
        expect.taskIs(x, 1, 0, 2, 4);
        expect.answer(0, () -> x.tick(1));
    }

    private static void joinedGivesTasks() {
        CommandTree x = new CommandTree();
        Scene.split(x, 0, 3);
        x.task(1, 9);
        x.task(1, 0);
        x.task(1, 9);
        x.task(1, 9);
        x.task(3, 9);
        x.tick(1);
        x.answer(2, true);
        x.answer(3, false);
        x.join(1, 2);
        expect.taskIs(x, 0, 2, 0, -1);
        expect.taskIs(x, 1, 2, 3, -1);
        expect.taskIs(x, 2, 1, 1, 1);
        expect.taskIs(x, 3, 1, 2, 1);
        expect.taskIs(x, 4, 3, 0, -1);
        expect.answer(2, () -> x.tick(9));
    }

    private static void splitBelow() {
        CommandTree x = Scene.withRanks(3);
        x.split(0);
        expect.answer(2, () -> x.split(1));
        expect.sectorIs(x, 2, 1, -1, 1, 0, 0, -1, 0, 0);
        expect.sectorIs(x, 1, 1, -1, 0, 0, 0, -1, 0, 1);
        expect.sectorIs(x, 0, 1, 0, -1, 1, 0, -1, 0, 1);
    }

    private static void joinNotZero() {
        CommandTree x = new CommandTree();
        x.split(0);
        expect.refuses(STATE, () -> x.join(0, 1), () -> x.join(0, 0));
        expect.answer(1, () -> x.sectorAt(0, 0));
        expect.passes(() -> x.join(1, 0));
    }

    private static void joinToAnotherOpen() {
        CommandTree x = new CommandTree();
        Scene.split(x, 0, 3);
        expect.refuses(STATE, () -> x.join(1, 1));
        x.join(1, 2);
        expect.refuses(STATE, () -> x.join(3, 1), () -> x.join(1, 3), () -> x.join(1, 2), () -> x.join(1, 1));
        expect.answer(1, () -> x.sectorAt(3, 0));
    }

    private static void joinNotToOneBelow() {
        CommandTree x = new CommandTree();
        for (int i = 0; i < 19; i++) {
            x.split(i);
        }
        expect.refuses(STATE, () -> x.join(1, 2), () -> x.join(1, 3), () -> x.join(1, 19), () -> x.join(18, 19));
        expect.passes(() -> x.join(19, 1));
        expect.passes(() -> x.join(17, 0));
        expect.answer(0, () -> x.sectorAt(18, 2));
        expect.passes(() -> x.join(1, 18));
        expect.answer(18, () -> x.sectorAt(2, 2));
        expect.refuses(STATE, () -> x.join(18, 2), () -> x.join(18, 16));
    }

    private static void joinPersons() {
        CommandTree x = Scene.withRanks(5, 4, 3, 2);
        Scene.split(x, 0, 2);
        x.go(1, 1);
        x.go(2, 1);
        x.go(3, 2);
        x.tick(3);
        x.join(1, 2);
        expect.answer(0, () -> x.sectorAt(1, 3));
        expect.answer(3, () -> x.sectorAt(2, 3));
        expect.answer(1, () -> x.sectorAt(0, 3));
        expect.personIs(x, 1, 2, -1, 0);
        expect.personIs(x, 2, 2, -1, 0);
    }

    private static void joinUnits() {
        CommandTree x = new CommandTree();
        Scene.split(x, 0, 2);
        Scene.placeNewUnits(x, 1, 2);
        Scene.placeNewUnits(x, 2, 1);
        Scene.placeNewUnits(x, 0, 1);
        x.unit();
        x.join(1, 2);
        expect.answer(0, () -> x.sectorAt(1, 4));
        expect.answer(3, () -> x.sectorAt(2, 4));
        expect.answer(2, () -> x.unitAt(0));
        expect.answer(0, () -> x.unitAt(3));
        expect.answer(-1, () -> x.unitAt(4));
    }

    private static void joinSectorsBelow() {
        CommandTree x = new CommandTree();
        Scene.split(x, 0, 2);
        Scene.split(x, 1, 2);
        x.split(3);
        x.join(4, 0);
        x.join(1, 2);
        expect.answer(2, () -> x.sectorAt(3, 2));
        expect.answer(1, () -> x.sectorAt(4, 2));
        expect.answer(3, () -> x.sectorAt(5, 2));
        expect.answer(0, () -> x.sectorAt(1, 7));
        expect.answer(1, () -> x.sectorAt(2, 7));
        expect.answer(1, () -> x.sectorAt(0, 7));
    }

    private static void joinNextLeads() {
        CommandTree x = Scene.withRanks(5, 2, 3, 4, 4);
        Scene.split(x, 0, 3);
        for (int person = 1; person <= 4; person++) {
            x.go(person, 1);
        }
        x.join(1, 2);
        expect.sectorIs(x, 2, 1, 3, 0, 4);
        expect.personIs(x, 1, 2, -1, 0);
        expect.personIs(x, 3, 2, 2, 0);
        x.join(2, 3);
        expect.sectorIs(x, 3, 1, 3, 0, 4);
        expect.personIs(x, 3, 3, 3, 0);
    }

    private static void joinNobody() {
        CommandTree x = Scene.withRanks(5);
        Scene.split(x, 0, 2);
        x.join(1, 2);
        expect.sectorIs(x, 2, 1, -1, 0, 0);
        x.join(2, 0);
        expect.sectorIs(x, 0, 1, 0, -1, 1);
    }

    private static void joinOwnLeader() {
        CommandTree x = Scene.withRanks(1, 9);
        x.split(0);
        x.go(1, 1);
        x.join(1, 0);
        expect.answer(-1, () -> x.sectorAt(1, 1));
        expect.answer(0, () -> x.sectorAt(0, 1));
        expect.personIs(x, 1, 0, -1, 0);
        expect.personIs(x, 0, 0, 0, 0);
        expect.passes(() -> x.offer(0, 1), () -> x.take(0, 1));
    }
}
