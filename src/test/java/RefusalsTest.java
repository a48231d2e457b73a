import java.util.ArrayList;
import java.util.List;

/**
 * The refusals of all calls: which one it is when several are so, and that a refused call changes nothing.
 * For the second, two like scenes go on in the same way, and only one of them has refused a call.
 */
public final class RefusalsTest {
    private static final Class<IllegalArgumentException> UNKNOWN = IllegalArgumentException.class;
    private static final Class<IndexOutOfBoundsException> RANGE = IndexOutOfBoundsException.class;
    private static final Class<IllegalStateException> STATE = IllegalStateException.class;
    private static final Class<UnsupportedOperationException> ROOM = UnsupportedOperationException.class;

    private static final int LEADERLESS = 2;
    private static final int JOINED = 4;
    private static final int NO_SECTOR = 5;
    private static final int AWAY = 4;
    private static final int NO_PERSON = 5;

    private static final Expect expect = new Expect("RefusalsTest");

    private interface Call {
        void on(CommandTree x);
    }

    public static void main(String[] args) {
        firstThatIsSo();
        refusedChangesNothing();
        expect.end();
    }

    private static void firstThatIsSo() {
        expect.sentence("person: the range before no room", RefusalsTest::personRangeFirst);
        expect.sentence("go: unknown before the state", RefusalsTest::goUnknownFirst);
        expect.sentence("place: unknown before the state", RefusalsTest::placeUnknownFirst);
        expect.sentence("split: unknown, the state, no room", RefusalsTest::splitOrder);
        expect.sentence("join: unknown before the state", RefusalsTest::joinUnknownFirst);
        expect.sentence("offer: unknown before the state", RefusalsTest::offerUnknownFirst);
        expect.sentence("take: unknown before the state", RefusalsTest::takeUnknownFirst);
        expect.sentence("task: unknown before the range", RefusalsTest::taskUnknownFirst);
        expect.sentence("task: the range before the state", RefusalsTest::taskRangeBeforeState);
        expect.sentence("task: the state before no room", RefusalsTest::taskStateBeforeRoom);
        expect.sentence("task: unknown and the range before no room", RefusalsTest::taskBeforeRoom);
        expect.sentence("led: unknown before the range", RefusalsTest::ledUnknownFirst);
        expect.sentence("led: unknown and the range before no room", RefusalsTest::ledBeforeRoom);
    }

    private static void refusedChangesNothing() {
        expect.sentence("a refused person changes nothing", RefusalsTest::refusedPerson);
        expect.sentence("a refused arrive changes nothing", RefusalsTest::refusedArrive);
        expect.sentence("a refused leave changes nothing", RefusalsTest::refusedLeave);
        expect.sentence("a refused go changes nothing", RefusalsTest::refusedGo);
        expect.sentence("a refused place changes nothing", RefusalsTest::refusedPlace);
        expect.sentence("a refused split changes nothing", RefusalsTest::refusedSplit);
        expect.sentence("a refused join changes nothing", RefusalsTest::refusedJoin);
        expect.sentence("a refused offer changes nothing", RefusalsTest::refusedOffer);
        expect.sentence("a refused take changes nothing", RefusalsTest::refusedTake);
        expect.sentence("a refused task changes nothing", RefusalsTest::refusedTask);
        expect.sentence("a refused answer changes nothing", RefusalsTest::refusedAnswer);
        expect.sentence("a refused span changes nothing", RefusalsTest::refusedSpan);
        expect.sentence("a refused tick changes nothing", RefusalsTest::refusedTick);
        expect.sentence("a refused look changes nothing", RefusalsTest::refusedLooks);
        expect.sentence("what is full stays as it is", RefusalsTest::refusedForNoRoom);
    }

    /**
     * Sector 0 is led by person 0 and offered to 3, sector 1 by 1 and offered to 2, sector 3 is below 1,
     * sector 4 was joined to 1; persons 2 and 3 lead none, 4 is away; the span is 2; second 30.
     */
    private static CommandTree scene() {
        CommandTree x = Scene.withRanks(5, 4, 3, 2);
        x.person(9);
        Scene.split(x, 0, 2);
        Scene.split(x, 1, 2);
        x.tick(10);
        x.go(1, 4);
        x.go(2, 4);
        x.tick(10);
        x.task(4, 25);
        x.task(4, 40);
        x.task(0, 40);
        x.join(JOINED, 1);
        x.offer(0, 3);
        x.offer(1, 2);
        Scene.placeNewUnits(x, 1, 2);
        x.unit();
        x.tick(10);
        x.answer(1, false);
        x.span(2);
        return x;
    }

    private static void personRangeFirst() {
        CommandTree x = new CommandTree();
        for (int i = 0; i < 40; i++) {
            x.person(1);
        }
        expect.refuses(RANGE, () -> x.person(10), () -> x.person(-1));
        expect.refuses(ROOM, () -> x.person(9), () -> x.person(0));
    }

    private static void goUnknownFirst() {
        CommandTree x = scene();
        expect.refuses(UNKNOWN, () -> x.go(AWAY, NO_SECTOR), () -> x.go(AWAY, -1), () -> x.go(NO_PERSON, JOINED),
                () -> x.go(NO_PERSON, NO_SECTOR));
        expect.refuses(STATE, () -> x.go(AWAY, JOINED));
    }

    private static void placeUnknownFirst() {
        CommandTree x = scene();
        expect.refuses(UNKNOWN, () -> x.place(3, JOINED), () -> x.place(3, -1), () -> x.place(2, NO_SECTOR),
                () -> x.place(2, -2));
        expect.refuses(STATE, () -> x.place(2, JOINED));
    }

    private static void splitOrder() {
        CommandTree x = scene();
        Scene.split(x, 0, 15);
        expect.refuses(UNKNOWN, () -> x.split(20), () -> x.split(-1));
        expect.refuses(STATE, () -> x.split(JOINED));
        expect.refuses(ROOM, () -> x.split(0));
    }

    private static void joinUnknownFirst() {
        CommandTree x = scene();
        expect.refuses(UNKNOWN, () -> x.join(0, NO_SECTOR), () -> x.join(JOINED, NO_SECTOR),
                () -> x.join(NO_SECTOR, JOINED), () -> x.join(NO_SECTOR, NO_SECTOR), () -> x.join(-1, -1));
        expect.refuses(STATE, () -> x.join(0, JOINED), () -> x.join(JOINED, JOINED));
    }

    private static void offerUnknownFirst() {
        CommandTree x = scene();
        expect.refuses(UNKNOWN, () -> x.offer(JOINED, NO_PERSON), () -> x.offer(LEADERLESS, NO_PERSON),
                () -> x.offer(NO_SECTOR, AWAY), () -> x.offer(NO_SECTOR, 0), () -> x.offer(LEADERLESS, -1));
        expect.refuses(STATE, () -> x.offer(JOINED, AWAY));
    }

    private static void takeUnknownFirst() {
        CommandTree x = scene();
        expect.refuses(UNKNOWN, () -> x.take(JOINED, NO_PERSON), () -> x.take(LEADERLESS, -1),
                () -> x.take(NO_SECTOR, 0), () -> x.take(NO_SECTOR, AWAY));
        expect.refuses(STATE, () -> x.take(JOINED, AWAY));
    }

    private static void taskUnknownFirst() {
        CommandTree x = scene();
        expect.refuses(UNKNOWN, () -> x.task(NO_SECTOR, 29), () -> x.task(NO_SECTOR, 100_000), () -> x.task(-1, -1));
        expect.refuses(RANGE, () -> x.task(0, 29));
    }

    private static void taskRangeBeforeState() {
        CommandTree x = scene();
        expect.refuses(RANGE, () -> x.task(JOINED, 29), () -> x.task(JOINED, 100_000));
        expect.refuses(STATE, () -> x.task(JOINED, 30), () -> x.task(JOINED, 99_999));
    }

    private static void taskStateBeforeRoom() {
        CommandTree x = scene();
        Scene.giveTasks(x, 0, 99, 57);
        expect.refuses(STATE, () -> x.task(JOINED, 30));
        expect.refuses(ROOM, () -> x.task(0, 30));
    }

    private static void taskBeforeRoom() {
        CommandTree x = scene();
        Scene.giveTasks(x, 0, 99, 57);
        expect.refuses(UNKNOWN, () -> x.task(NO_SECTOR, 30));
        expect.refuses(RANGE, () -> x.task(0, 29), () -> x.task(0, 100_000), () -> x.task(JOINED, 29));
    }

    private static void ledUnknownFirst() {
        CommandTree x = scene();
        expect.refuses(UNKNOWN, () -> x.led(NO_SECTOR, 31), () -> x.led(NO_SECTOR, -1), () -> x.led(-1, -1));
        expect.refuses(RANGE, () -> x.led(JOINED, 31), () -> x.led(JOINED, -1));
    }

    private static void ledBeforeRoom() {
        CommandTree x = scene();
        for (int i = 0; i < 400; i++) {
            if (i % 2 == 0) {
                x.go(3, LEADERLESS);
            } else {
                x.go(3, 0);
            }
        }
        expect.refuses(ROOM, () -> x.led(0, 0), () -> x.led(JOINED, 0));
        expect.refuses(UNKNOWN, () -> x.led(NO_SECTOR, 0));
        expect.refuses(RANGE, () -> x.led(0, -1), () -> x.led(0, 31));
    }

    private static void refusedPerson() {
        leavesAllAsItWas(RANGE, x -> x.person(-1), x -> x.person(10));
    }

    private static void refusedArrive() {
        leavesAllAsItWas(UNKNOWN, x -> x.arrive(NO_PERSON), x -> x.arrive(-1));
        leavesAllAsItWas(STATE, x -> x.arrive(0), x -> x.arrive(2), x -> x.arrive(3));
    }

    private static void refusedLeave() {
        leavesAllAsItWas(UNKNOWN, x -> x.leave(NO_PERSON), x -> x.leave(-1));
        leavesAllAsItWas(STATE, x -> x.leave(AWAY));
    }

    private static void refusedGo() {
        leavesAllAsItWas(UNKNOWN, x -> x.go(0, NO_SECTOR), x -> x.go(0, -1), x -> x.go(NO_PERSON, 2));
        leavesAllAsItWas(STATE, x -> x.go(AWAY, 2), x -> x.go(0, 0), x -> x.go(2, 1), x -> x.go(0, JOINED),
                x -> x.go(3, JOINED));
    }

    private static void refusedPlace() {
        leavesAllAsItWas(UNKNOWN, x -> x.place(0, NO_SECTOR), x -> x.place(0, -2), x -> x.place(3, 0));
        leavesAllAsItWas(STATE, x -> x.place(0, 1), x -> x.place(2, -1), x -> x.place(0, JOINED),
                x -> x.place(2, JOINED));
    }

    private static void refusedSplit() {
        leavesAllAsItWas(UNKNOWN, x -> x.split(NO_SECTOR), x -> x.split(-1));
        leavesAllAsItWas(STATE, x -> x.split(JOINED));
    }

    private static void refusedJoin() {
        leavesAllAsItWas(UNKNOWN, x -> x.join(1, NO_SECTOR), x -> x.join(NO_SECTOR, 1));
        leavesAllAsItWas(STATE, x -> x.join(0, 1), x -> x.join(1, 1), x -> x.join(1, 3), x -> x.join(1, JOINED),
                x -> x.join(JOINED, 0));
    }

    private static void refusedOffer() {
        leavesAllAsItWas(UNKNOWN, x -> x.offer(0, NO_PERSON), x -> x.offer(NO_SECTOR, 3));
        leavesAllAsItWas(STATE, x -> x.offer(0, AWAY), x -> x.offer(0, 0), x -> x.offer(0, 1),
                x -> x.offer(LEADERLESS, 3), x -> x.offer(JOINED, 3));
    }

    private static void refusedTake() {
        leavesAllAsItWas(UNKNOWN, x -> x.take(0, NO_PERSON), x -> x.take(NO_SECTOR, 3), x -> x.take(0, -1));
        leavesAllAsItWas(STATE, x -> x.take(0, 2), x -> x.take(1, 3), x -> x.take(0, 0), x -> x.take(LEADERLESS, 3),
                x -> x.take(JOINED, 2), x -> x.take(0, AWAY));
    }

    private static void refusedTask() {
        leavesAllAsItWas(UNKNOWN, x -> x.task(NO_SECTOR, 40));
        leavesAllAsItWas(RANGE, x -> x.task(0, 29), x -> x.task(0, 100_000));
        leavesAllAsItWas(STATE, x -> x.task(JOINED, 40));
    }

    private static void refusedAnswer() {
        leavesAllAsItWas(UNKNOWN, x -> x.answer(3, true), x -> x.answer(-1, true));
        leavesAllAsItWas(STATE, x -> x.answer(1, true), x -> x.answer(1, false));
    }

    private static void refusedSpan() {
        leavesAllAsItWas(RANGE, x -> x.span(0), x -> x.span(21), x -> x.span(-1));
    }

    private static void refusedTick() {
        leavesAllAsItWas(RANGE, x -> x.tick(0), x -> x.tick(-1), x -> x.tick(5001));
    }

    private static void refusedLooks() {
        leavesAllAsItWas(UNKNOWN, x -> x.led(NO_SECTOR, 0), x -> x.sectorAt(0, 8), x -> x.personAt(0, 3),
                x -> x.unitAt(3), x -> x.taskAt(0, 3));
        leavesAllAsItWas(RANGE, x -> x.led(0, 31), x -> x.passed(-1));
    }

    private static void refusedForNoRoom() {
        CommandTree x = scene();
        for (int i = 5; i < 40; i++) {
            x.person(0);
        }
        Scene.placeNewUnits(x, 0, 17);
        Scene.split(x, 0, 15);
        Scene.giveTasks(x, 0, 50, 57);
        expect.refuses(ROOM, () -> x.person(9), x::unit, () -> x.split(0), () -> x.task(0, 60));
        expect.refuses(UNKNOWN, () -> x.arrive(40), () -> x.place(20, 0), () -> x.go(0, 20), () -> x.answer(60, true));
        expect.sectorIs(x, 0, 1, 0, -1, 2, 17, 3, 1, 17);
        expect.personIs(x, 39, -1, -1, -1);
        expect.taskIs(x, 59, 0, 0, -1);
        expect.answer(58, () -> x.tick(21));
    }

    private static void leavesAllAsItWas(Class<? extends RuntimeException> due, Call... calls) {
        for (Call call : calls) {
            CommandTree x = scene();
            expect.refuses(due, () -> call.on(x));
            expect.same(howItGoesOn(scene()), howItGoesOn(x));
        }
    }

    /** What can be seen of a scene now, and behind calls that use all of it; fewer than 512 calls in all. */
    private static String howItGoesOn(CommandTree x) {
        List<String> seen = new ArrayList<>();
        seen.add(whatIsSeen(x));
        seen.add("new: " + x.person(1) + " " + x.unit() + " " + x.split(0) + " " + x.task(1, 35));
        seen.add("takes: " + thrownBy(() -> x.take(0, 3)) + " " + thrownBy(() -> x.take(1, 2)));
        x.arrive(AWAY);
        x.go(AWAY, LEADERLESS);
        x.place(2, 0);
        x.leave(2);
        seen.add("overdue: " + x.tick(6) + " " + x.tick(5));
        seen.add(whatIsSeen(x));
        seen.add("passed: " + x.span(1));
        return seen.toString();
    }

    private static String whatIsSeen(CommandTree x) {
        List<Integer> seen = new ArrayList<>();
        seen.add(x.clock());
        for (int sector = 0; isKnown(x, sector, CommandTree::sectorAt); sector++) {
            look(x, sector, 8, CommandTree::sectorAt, seen);
            for (int second : new int[] {0, 10, 20, 30}) {
                seen.add(x.led(sector, second));
            }
        }
        for (int person = 0; isKnown(x, person, CommandTree::personAt); person++) {
            look(x, person, 3, CommandTree::personAt, seen);
        }
        for (int task = 0; isKnown(x, task, CommandTree::taskAt); task++) {
            look(x, task, 3, CommandTree::taskAt, seen);
        }
        for (int unit = 0; isKnown(x, unit, (y, number, what) -> y.unitAt(number)); unit++) {
            seen.add(x.unitAt(unit));
        }
        for (int i = 0; i < 3; i++) {
            seen.add(x.passed(i));
        }
        return seen.toString();
    }

    private interface Look {
        int at(CommandTree x, int number, int what);
    }

    private static void look(CommandTree x, int number, int whats, Look look, List<Integer> seen) {
        for (int what = 0; what < whats; what++) {
            seen.add(look.at(x, number, what));
        }
    }

    private static boolean isKnown(CommandTree x, int number, Look look) {
        try {
            look.at(x, number, 0);
            return true;
        } catch (IllegalArgumentException e) {
            return false;
        }
    }

    private static String thrownBy(Runnable call) {
        try {
            call.run();
            return "nothing";
        } catch (RuntimeException e) {
            return e.getClass().getSimpleName();
        }
    }
}
