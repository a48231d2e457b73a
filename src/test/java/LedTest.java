/** Each sentence of promise 16 that names an edge, with a test of its own: the leaders of seconds that were. */
public final class LedTest {
    private static final Class<IllegalArgumentException> UNKNOWN = IllegalArgumentException.class;
    private static final Class<IndexOutOfBoundsException> RANGE = IndexOutOfBoundsException.class;
    private static final Class<UnsupportedOperationException> ROOM = UnsupportedOperationException.class;
    private static final int LOW = Integer.MIN_VALUE;
    private static final int HIGH = Integer.MAX_VALUE;

    /** In the scene with 400 rows: who goes to and fro, who leads sector 0, and one in sector 0 who leads none. */
    private static final int WALKER = 0;
    private static final int CHIEF = 1;
    private static final int HELPER = 2;

    private static final Expect expect = new Expect("LedTest");

    public static void main(String[] args) {
        expect.sentence("behind the last call of a second", LedTest::lastCallOfASecond);
        expect.sentence("a second that was", LedTest::secondsThatWere);
        expect.sentence("(or the present one)", LedTest::presentSecond);
        expect.sentence("-1 when it had none", LedTest::hadNone);
        expect.sentence("or was not open: not split yet", LedTest::notSplitYet);
        expect.sentence("or was not open: joined", LedTest::joined);
        expect.sentence("no such sector", LedTest::unknownSector);
        expect.sentence("the second is to come", LedTest::secondToCome);
        expect.sentence("or below 0", LedTest::secondBelowZero);
        expect.sentence("the latest 400 are kept: 400 rows", LedTest::fourHundredRows);
        expect.sentence("it is below the second of a row .. that is not kept any more", LedTest::belowADroppedRow);
        expect.sentence("below the second of a row: not that second itself", LedTest::secondOfADroppedRow);
        expect.sentence("a row .. not kept: a sector without a kept row has its leader", LedTest::sectorWithoutKeptRow);
        expect.sentence("each change leaves one", LedTest::rowsOfEachCall);
        expect.sentence("the latest 400 are kept: over and over", LedTest::rowsOverAndOver);
        expect.sentence("at most 512 calls: the last of them answers", LedTest::lastCall);
        expect.end();
    }

    private static void lastCallOfASecond() {
        CommandTree x = Scene.withRanks(3, 2);
        x.leave(0);
        x.arrive(0);
        x.offer(0, 0);
        expect.answer(1, () -> x.led(0, 0));
        x.take(0, 0);
        x.tick(1);
        x.leave(0);
        x.leave(1);
        x.arrive(0);
        x.tick(1);
        expect.answer(0, () -> x.led(0, 0));
        expect.answer(0, () -> x.led(0, 1));
        x.leave(0);
        expect.answer(0, () -> x.led(0, 1));
        expect.answer(-1, () -> x.led(0, 2));
    }

    private static void secondsThatWere() {
        CommandTree x = Scene.withRanks(3, 2);
        x.tick(100);
        x.leave(0);
        x.tick(100);
        x.leave(1);
        x.tick(100);
        expect.answer(0, () -> x.led(0, 0));
        expect.answer(0, () -> x.led(0, 99));
        expect.answer(1, () -> x.led(0, 100));
        expect.answer(1, () -> x.led(0, 199));
        expect.answer(-1, () -> x.led(0, 200));
        expect.answer(-1, () -> x.led(0, 299));
    }

    private static void presentSecond() {
        CommandTree x = new CommandTree();
        expect.answer(-1, () -> x.led(0, 0));
        x.arrive(x.person(3));
        expect.answer(0, () -> x.led(0, 0));
        x.tick(7);
        expect.answer(0, () -> x.led(0, 7));
        x.leave(0);
        expect.answer(-1, () -> x.led(0, 7));
    }

    private static void hadNone() {
        CommandTree x = new CommandTree();
        x.split(0);
        x.person(3);
        x.tick(1);
        x.arrive(0);
        x.tick(1);
        x.go(0, 1);
        expect.answer(-1, () -> x.led(0, 0));
        expect.answer(0, () -> x.led(0, 1));
        expect.answer(-1, () -> x.led(0, 2));
        expect.answer(-1, () -> x.led(1, 1));
        expect.answer(0, () -> x.led(1, 2));
    }

    private static void notSplitYet() {
        CommandTree x = Scene.withRanks(3);
        x.tick(10);
        x.split(0);
        x.go(0, 1);
        expect.answer(-1, () -> x.led(1, 0));
        expect.answer(-1, () -> x.led(1, 9));
        expect.answer(0, () -> x.led(1, 10));
    }

    private static void joined() {
        CommandTree x = Scene.withRanks(3, 2);
        x.split(0);
        x.go(1, 1);
        x.tick(10);
        x.join(1, 0);
        x.tick(1);
        expect.answer(1, () -> x.led(1, 9));
        expect.answer(-1, () -> x.led(1, 10));
        expect.answer(-1, () -> x.led(1, 11));
        expect.answer(0, () -> x.led(0, 11));
    }

    private static void unknownSector() {
        CommandTree x = Scene.withRanks(3);
        expect.refuses(UNKNOWN, () -> x.led(1, 0), () -> x.led(-1, 0), () -> x.led(20, 0), () -> x.led(LOW, 0),
                () -> x.led(HIGH, 0));
    }

    private static void secondToCome() {
        CommandTree x = Scene.withRanks(3);
        expect.refuses(RANGE, () -> x.led(0, 1), () -> x.led(0, HIGH));
        x.tick(5);
        expect.refuses(RANGE, () -> x.led(0, 6), () -> x.led(0, 99_999));
        expect.answer(0, () -> x.led(0, 5));
    }

    private static void secondBelowZero() {
        CommandTree x = Scene.withRanks(3);
        x.tick(5);
        expect.refuses(RANGE, () -> x.led(0, -1), () -> x.led(0, LOW));
        expect.answer(0, () -> x.led(0, 0));
    }

    /** Person 0 comes at second 0 and goes at second 10; all rows behind these two are of second 20. */
    private static CommandTree withRows(int rows) {
        CommandTree x = Scene.withRanks(3);
        x.tick(10);
        x.leave(0);
        x.tick(10);
        for (int row = 3; row <= rows; row++) {
            comeOrLeave(x, row % 2 == 1);
        }
        return x;
    }

    private static void comeOrLeave(CommandTree x, boolean come) {
        if (come) {
            x.arrive(0);
        } else {
            x.leave(0);
        }
    }

    private static void fourHundredRows() {
        CommandTree x = withRows(400);
        expect.answer(0, () -> x.led(0, 0));
        expect.answer(0, () -> x.led(0, 9));
        expect.answer(-1, () -> x.led(0, 10));
        expect.answer(-1, () -> x.led(0, 19));
        expect.answer(-1, () -> x.led(0, 20));
    }

    private static void belowADroppedRow() {
        CommandTree x = withRows(402);
        expect.refuses(ROOM, () -> x.led(0, 0), () -> x.led(0, 9));
        expect.answer(-1, () -> x.led(0, 10));
        x.arrive(0);
        expect.refuses(ROOM, () -> x.led(0, 10), () -> x.led(0, 19));
        expect.answer(0, () -> x.led(0, 20));
    }

    private static void secondOfADroppedRow() {
        CommandTree x = withRows(401);
        expect.answer(0, () -> x.led(0, 0));
        expect.answer(0, () -> x.led(0, 9));
        expect.answer(-1, () -> x.led(0, 10));
        x.leave(0);
        expect.answer(-1, () -> x.led(0, 10));
        expect.answer(-1, () -> x.led(0, 19));
        expect.answer(-1, () -> x.led(0, 20));
    }

    private static void sectorWithoutKeptRow() {
        CommandTree x = Scene.withRanks(3, 2);
        Scene.split(x, 0, 3);
        x.go(1, 3);
        for (int i = 0; i < 201; i++) {
            x.tick(1);
            x.go(0, i % 2 == 0 ? 1 : 2);
        }
        // 404 rows: the one of sector 3 is of second 0, and the latest that is not kept of second 1
        expect.refuses(ROOM, () -> x.led(3, 0));
        expect.answer(1, () -> x.led(3, 1));
        expect.answer(1, () -> x.led(3, 201));
        expect.answer(0, () -> x.led(1, 1));
        expect.answer(-1, () -> x.led(0, 1));
        expect.answer(0, () -> x.led(2, 2));
        expect.answer(-1, () -> x.led(1, 2));
    }

    private static void rowsOfEachCall() {
        rowsLeftAre(0, x -> x.arrive(3));
        rowsLeftAre(0, x -> x.leave(HELPER));
        rowsLeftAre(1, x -> x.leave(CHIEF));
        rowsLeftAre(1, x -> x.leave(WALKER));
        rowsLeftAre(0, x -> x.go(HELPER, 1));
        rowsLeftAre(1, x -> x.go(HELPER, 2));
        rowsLeftAre(1, x -> x.go(WALKER, 0));
        rowsLeftAre(2, x -> x.go(WALKER, 2));
        rowsLeftAre(2, x -> x.go(CHIEF, 2));
        rowsLeftAre(0, x -> x.offer(0, HELPER));
        rowsLeftAre(1, LedTest::handOver);
        rowsLeftAre(0, x -> x.split(0));
        rowsLeftAre(0, x -> x.join(2, 1));
        rowsLeftAre(1, x -> x.join(1, 0));
        rowsLeftAre(2, x -> x.join(1, 2));
        rowsLeftAre(0, x -> x.tick(5000));
        rowsLeftAre(0, x -> expect.refuses(IllegalStateException.class, () -> x.go(WALKER, 1)));
    }

    private static void handOver(CommandTree x) {
        x.offer(0, HELPER);
        x.take(0, HELPER);
    }

    private interface Change {
        void on(CommandTree x);
    }

    /** With 400 rows before, of which the first six are of the seconds 1 to 6, each new one drops one of these. */
    private static void rowsLeftAre(int due, Change change) {
        CommandTree x = withFourHundredRows();
        change.on(x);
        if (due > 0) {
            expect.refuses(ROOM, () -> x.led(0, due - 1));
        }
        int before = due % 2 == 1 ? CHIEF : -1;
        expect.answer(before, () -> x.led(0, due));
    }

    private static CommandTree withFourHundredRows() {
        CommandTree x = new CommandTree();
        for (int rank : new int[] {3, 2, 1, 0}) {
            x.person(rank);
        }
        Scene.split(x, 0, 2);
        for (int second = 1; second <= 6; second++) {
            x.tick(1);
            if (second % 2 == 1) {
                x.arrive(CHIEF);
            } else {
                x.leave(CHIEF);
            }
        }
        x.tick(1);
        x.arrive(WALKER);
        for (int i = 0; i < 196; i++) {
            x.go(WALKER, i % 2 == 0 ? 2 : 1);
        }
        x.arrive(CHIEF);
        x.arrive(HELPER);
        return x;
    }

    /** 1,000 rows, two in each go, so that the place of the oldest goes round more than once. */
    private static void rowsOverAndOver() {
        CommandTree x = Scene.withRanks(3);
        Scene.split(x, 0, 2);
        for (int i = 1; i <= 499; i++) {
            if (i == 298 || i == 299 || i == 300) {
                x.tick(10);
            }
            x.go(0, i % 2 == 1 ? 1 : 2);
        }
        // 999 rows; of the kept ones the oldest is the first one of the 300th go, at second 30
        expect.refuses(ROOM, () -> x.led(1, 0), () -> x.led(2, 19));
        expect.answer(-1, () -> x.led(2, 20));
        expect.answer(0, () -> x.led(1, 29));
        expect.answer(0, () -> x.led(1, 30));
        expect.answer(-1, () -> x.led(2, 30));
        expect.answer(-1, () -> x.led(0, 30));
    }

    private static void lastCall() {
        CommandTree x = Scene.withRanks(3);
        x.split(0);
        for (int call = 4; call <= 510; call++) {
            x.go(0, call % 2 == 0 ? 1 : 0);
        }
        expect.answer(0, () -> x.led(1, 0));
        expect.answer(-1, () -> x.led(0, 0));
    }
}
