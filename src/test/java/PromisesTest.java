/** Each promise by itself: ordinary inputs, the edges that the document names, wrong inputs. */
public final class PromisesTest {
    private static final Class<IllegalArgumentException> UNKNOWN = IllegalArgumentException.class;
    private static final Class<IndexOutOfBoundsException> RANGE = IndexOutOfBoundsException.class;
    private static final Class<IllegalStateException> STATE = IllegalStateException.class;
    private static final Class<UnsupportedOperationException> ROOM = UnsupportedOperationException.class;
    private static final int LOW = Integer.MIN_VALUE;
    private static final int HIGH = Integer.MAX_VALUE;

    private static final Expect expect = new Expect("PromisesTest");

    public static void main(String[] args) {
        newObject();
        person();
        unit();
        arrive();
        leave();
        next();
        go();
        place();
        split();
        join();
        joinAndLeaders();
        joinAndTasks();
        offer();
        offersGone();
        take();
        task();
        answer();
        span();
        tick();
        led();
        ledRowsDropped();
        sectorAt();
        personAt();
        unitAt();
        taskAt();
        passed();
        clock();
        expect.end();
    }

    private static void newObject() {
        expect.promise("promise 1, a new object");
        CommandTree x = new CommandTree();
        expect.sectorIs(x, 0, 1, -1, -1, 0, 0, -1, 0, 0);
        expect.answer(0, x::clock);
        expect.answer(-1, () -> x.led(0, 0));
        expect.answer(-1, () -> x.passed(0));
        expect.refuses(UNKNOWN, () -> x.sectorAt(1, 0), () -> x.personAt(0, 0), () -> x.unitAt(0),
                () -> x.taskAt(0, 0), () -> x.led(1, 0), () -> x.arrive(0), () -> x.answer(0, true));
        CommandTree y = Scene.withRanks(3);
        expect.sectorIs(x, 0, 1, -1, -1, 0);
        expect.sectorIs(y, 0, 1, 0, -1, 1);
    }

    private static void person() {
        expect.promise("promise 2, person");
        CommandTree x = new CommandTree();
        expect.refuses(RANGE, () -> x.person(-1), () -> x.person(10), () -> x.person(LOW), () -> x.person(HIGH));
        for (int i = 0; i < 40; i++) {
            int rank = i % 10;
            expect.answer(i, () -> x.person(rank));
        }
        expect.personIs(x, 39, -1, -1, -1);
        expect.refuses(ROOM, () -> x.person(0), () -> x.person(9));
        expect.refuses(RANGE, () -> x.person(10), () -> x.person(-1));
        expect.refuses(UNKNOWN, () -> x.personAt(40, 0));
        expect.passes(() -> x.arrive(39));
        expect.sectorIs(x, 0, 1, 39, -1, 1);
    }

    private static void unit() {
        expect.promise("promise 3, unit");
        CommandTree x = new CommandTree();
        for (int i = 0; i < 20; i++) {
            expect.answer(i, x::unit);
        }
        expect.answer(-1, () -> x.unitAt(19));
        expect.refuses(ROOM, x::unit, x::unit);
        expect.refuses(UNKNOWN, () -> x.unitAt(20));
    }

    private static void arrive() {
        expect.promise("promise 4, arrive");
        CommandTree x = new CommandTree();
        x.person(3);
        x.person(9);
        x.tick(7);
        expect.passes(() -> x.arrive(0));
        expect.personIs(x, 0, 0, 0, 7);
        x.tick(1);
        expect.passes(() -> x.arrive(1));
        expect.personIs(x, 1, 0, -1, 8);
        expect.sectorIs(x, 0, 1, 0, -1, 2);
        expect.refuses(STATE, () -> x.arrive(0), () -> x.arrive(1));
        expect.refuses(UNKNOWN, () -> x.arrive(2), () -> x.arrive(-1), () -> x.arrive(LOW), () -> x.arrive(HIGH));
        x.split(0);
        x.go(0, 1);
        expect.refuses(STATE, () -> x.arrive(0));
        expect.personIs(x, 0, 1, 1, 7);
    }

    private static void leave() {
        expect.promise("promise 5, leave");
        CommandTree x = Scene.withRanks(3);
        x.person(2);
        expect.refuses(STATE, () -> x.leave(1));
        expect.refuses(UNKNOWN, () -> x.leave(2), () -> x.leave(-1), () -> x.leave(LOW), () -> x.leave(HIGH));
        expect.passes(() -> x.leave(0));
        expect.personIs(x, 0, -1, -1, -1);
        expect.sectorIs(x, 0, 1, -1, -1, 0);
        expect.refuses(STATE, () -> x.leave(0));
        x.tick(4);
        x.arrive(1);
        x.arrive(0);
        expect.personIs(x, 0, 0, -1, 4);
        expect.sectorIs(x, 0, 1, 1, -1, 2);
        expect.passes(() -> x.leave(0));
        expect.sectorIs(x, 0, 1, 1, -1, 1);
    }

    private static void next() {
        expect.promise("promise 5, the next to lead");
        CommandTree x = new CommandTree();
        int[] ranks = {1, 4, 6, 6, 6, 9};
        for (int rank : ranks) {
            x.person(rank);
        }
        x.arrive(0);
        x.tick(1);
        x.arrive(4);
        x.tick(1);
        x.arrive(3);
        x.arrive(2);
        x.arrive(1);
        x.split(0);
        x.arrive(5);
        x.go(5, 1);
        x.leave(0);
        expect.answer(4, () -> x.sectorAt(0, 1));
        x.leave(4);
        expect.answer(2, () -> x.sectorAt(0, 1));
        x.leave(2);
        expect.answer(3, () -> x.sectorAt(0, 1));
        x.leave(3);
        expect.answer(1, () -> x.sectorAt(0, 1));
        x.leave(1);
        expect.answer(-1, () -> x.sectorAt(0, 1));
        expect.answer(5, () -> x.sectorAt(1, 1));
    }

    private static void go() {
        expect.promise("promise 6, go");
        CommandTree x = Scene.withRanks(2, 5, 7);
        x.person(1);
        Scene.split(x, 0, 2);
        expect.refuses(UNKNOWN, () -> x.go(4, 0), () -> x.go(-1, 0), () -> x.go(0, 3), () -> x.go(0, -1),
                () -> x.go(LOW, HIGH), () -> x.go(3, 3));
        expect.refuses(STATE, () -> x.go(3, 1), () -> x.go(0, 0));
        x.tick(9);
        expect.passes(() -> x.go(0, 1));
        expect.sectorIs(x, 0, 1, 2, -1, 2);
        expect.sectorIs(x, 1, 1, 0, 0, 1);
        expect.personIs(x, 0, 1, 1, 0);
        expect.passes(() -> x.go(1, 1));
        expect.sectorIs(x, 1, 1, 0, 0, 2);
        expect.personIs(x, 1, 1, -1, 0);
        expect.passes(() -> x.go(2, 1));
        expect.sectorIs(x, 0, 1, -1, -1, 0);
        expect.sectorIs(x, 1, 1, 0, 0, 3);
        expect.personIs(x, 2, 1, -1, 0);
        expect.passes(() -> x.go(0, 2));
        expect.sectorIs(x, 1, 1, 2, 0, 2);
        x.join(2, 1);
        expect.refuses(STATE, () -> x.go(0, 2));
        expect.passes(() -> x.go(1, 0));
        expect.sectorIs(x, 0, 1, 1, -1, 1);
    }

    private static void place() {
        expect.promise("promise 7, place");
        CommandTree x = new CommandTree();
        x.unit();
        x.unit();
        Scene.split(x, 0, 2);
        expect.refuses(STATE, () -> x.place(0, -1));
        expect.passes(() -> x.place(0, 0));
        expect.answer(0, () -> x.unitAt(0));
        expect.refuses(STATE, () -> x.place(0, 0));
        expect.passes(() -> x.place(0, 2));
        expect.passes(() -> x.place(1, 2));
        expect.sectorIs(x, 0, 1, -1, -1, 0, 0);
        expect.sectorIs(x, 2, 1, -1, 0, 0, 2);
        expect.refuses(UNKNOWN, () -> x.place(2, 0), () -> x.place(-1, 0), () -> x.place(0, 3),
                () -> x.place(0, -2), () -> x.place(LOW, -1), () -> x.place(0, LOW), () -> x.place(0, HIGH));
        expect.passes(() -> x.place(1, -1));
        expect.answer(-1, () -> x.unitAt(1));
        x.join(1, 0);
        expect.refuses(STATE, () -> x.place(0, 1), () -> x.place(1, 1), () -> x.place(1, -1));
    }

    private static void split() {
        expect.promise("promise 8, split");
        CommandTree x = Scene.withRanks(4);
        expect.answer(1, () -> x.split(0));
        expect.answer(2, () -> x.split(1));
        expect.sectorIs(x, 1, 1, -1, 0, 0, 0, -1, 0, 1);
        expect.sectorIs(x, 2, 1, -1, 1, 0, 0, -1, 0, 0);
        expect.refuses(UNKNOWN, () -> x.split(3), () -> x.split(-1), () -> x.split(LOW), () -> x.split(HIGH));
        x.join(2, 0);
        expect.refuses(STATE, () -> x.split(2));
        for (int i = 3; i < 20; i++) {
            int due = i;
            expect.answer(due, () -> x.split(due == 3 ? 1 : due - 1));
        }
        expect.answer(18, () -> x.sectorAt(19, 2));
        expect.refuses(ROOM, () -> x.split(0), () -> x.split(19));
        expect.refuses(STATE, () -> x.split(2));
        expect.refuses(UNKNOWN, () -> x.split(20));
    }

    private static void join() {
        expect.promise("promise 9, join");
        CommandTree x = new CommandTree();
        Scene.split(x, 0, 2);
        x.split(1);
        x.split(3);
        x.split(1);
        expect.refuses(UNKNOWN, () -> x.join(6, 0), () -> x.join(0, 6), () -> x.join(-1, 0), () -> x.join(1, -1),
                () -> x.join(LOW, HIGH));
        expect.refuses(STATE, () -> x.join(0, 1), () -> x.join(0, 0), () -> x.join(1, 1), () -> x.join(1, 3),
                () -> x.join(1, 4), () -> x.join(1, 5));
        x.place(x.unit(), 1);
        x.place(x.unit(), 3);
        expect.passes(() -> x.join(5, 4));
        expect.sectorIs(x, 5, 0, -1, 1, 0, 0, -1, 0, 0);
        expect.passes(() -> x.join(1, 2));
        expect.sectorIs(x, 1, 0, -1, 0, 0, 0, -1, 0, 0);
        expect.sectorIs(x, 2, 1, -1, 0, 0, 1, -1, 0, 1);
        expect.sectorIs(x, 3, 1, -1, 2, 0, 1, -1, 0, 1);
        expect.sectorIs(x, 5, 0, -1, 1);
        expect.answer(1, () -> x.sectorAt(0, 7));
        expect.refuses(STATE, () -> x.join(1, 2), () -> x.join(2, 1), () -> x.join(1, 1), () -> x.join(2, 4));
        expect.passes(() -> x.join(3, 2));
        expect.sectorIs(x, 4, 1, -1, 2);
        expect.passes(() -> x.join(2, 0));
        expect.sectorIs(x, 0, 1, -1, -1, 0, 2, -1, 0, 1);
    }

    private static void joinAndLeaders() {
        expect.promise("promise 9, join and leaders");
        CommandTree x = Scene.withRanks(0, 1, 3, 3, 2);
        Scene.split(x, 0, 3);
        x.go(1, 1);
        x.go(2, 1);
        x.go(3, 1);
        x.go(4, 3);
        x.offer(1, 3);
        x.offer(3, 2);
        x.tick(5);
        expect.passes(() -> x.join(1, 2));
        expect.sectorIs(x, 1, 0, -1, 0, 0, 0, -1);
        expect.sectorIs(x, 2, 1, 2, 0, 3, 0, -1);
        expect.sectorIs(x, 3, 1, 4, 0, 1, 0, -1);
        expect.personIs(x, 1, 2, -1, 0);
        expect.personIs(x, 2, 2, 2, 0);
        x.offer(3, 3);
        x.offer(2, 1);
        expect.passes(() -> x.join(2, 3));
        expect.sectorIs(x, 2, 0, -1, 0, 0, 0, -1);
        expect.sectorIs(x, 3, 1, 4, 0, 4, 0, 3);
        expect.personIs(x, 2, 3, -1, 0);
        expect.refuses(STATE, () -> x.take(2, 1));
        expect.answer(1, () -> x.led(1, 4));
        expect.answer(-1, () -> x.led(1, 5));
        expect.answer(-1, () -> x.led(2, 5));
    }

    private static void joinAndTasks() {
        expect.promise("promise 9, join and tasks");
        CommandTree x = new CommandTree();
        Scene.split(x, 0, 2);
        x.task(1, 3);
        x.task(1, 90);
        x.task(1, 90);
        x.task(1, 90);
        x.task(2, 90);
        x.task(1, 3);
        x.tick(4);
        x.answer(2, true);
        x.answer(3, false);
        x.answer(5, true);
        expect.passes(() -> x.join(1, 0));
        expect.taskIs(x, 0, 0, 3, -1);
        expect.taskIs(x, 1, 0, 0, -1);
        expect.taskIs(x, 2, 1, 1, 4);
        expect.taskIs(x, 3, 1, 2, 4);
        expect.taskIs(x, 4, 2, 0, -1);
        expect.taskIs(x, 5, 1, 1, 4);
        expect.passes(() -> x.answer(0, false));
    }

    private static void offer() {
        expect.promise("promise 10, offer");
        CommandTree x = Scene.withRanks(1, 2, 3);
        x.person(4);
        Scene.split(x, 0, 3);
        x.go(2, 1);
        expect.refuses(UNKNOWN, () -> x.offer(4, 1), () -> x.offer(-1, 1), () -> x.offer(0, 4),
                () -> x.offer(0, -1), () -> x.offer(LOW, HIGH));
        expect.refuses(STATE, () -> x.offer(0, 0), () -> x.offer(0, 2), () -> x.offer(0, 3), () -> x.offer(2, 1));
        expect.passes(() -> x.offer(0, 1));
        expect.passes(() -> x.offer(1, 1));
        expect.answer(1, () -> x.sectorAt(0, 5));
        expect.answer(1, () -> x.sectorAt(1, 5));
        x.join(3, 0);
        expect.refuses(STATE, () -> x.offer(3, 1));
        x.arrive(3);
        expect.passes(() -> x.offer(0, 3));
        expect.answer(3, () -> x.sectorAt(0, 5));
        expect.refuses(STATE, () -> x.take(0, 1));
        expect.passes(() -> x.offer(0, 3), () -> x.take(0, 3));
        expect.answer(3, () -> x.sectorAt(0, 1));
    }

    private static void offersGone() {
        expect.promise("promise 10, offers that are gone");
        CommandTree x = Scene.withRanks(5, 4, 3, 2);
        Scene.split(x, 0, 2);
        x.offer(0, 3);
        x.leave(0);
        expect.sectorIs(x, 0, 1, 1, -1, 3, 0, -1);
        x.offer(0, 3);
        x.leave(3);
        expect.answer(-1, () -> x.sectorAt(0, 5));
        x.arrive(3);
        expect.refuses(STATE, () -> x.take(0, 3));
        x.offer(0, 3);
        x.go(3, 2);
        expect.answer(-1, () -> x.sectorAt(0, 5));
        x.offer(2, 2);
        x.go(2, 1);
        expect.answer(-1, () -> x.sectorAt(2, 5));
        x.arrive(0);
        x.go(0, 1);
        x.offer(2, 0);
        x.go(0, 2);
        expect.answer(0, () -> x.sectorAt(2, 5));
        x.go(0, 1);
        x.leave(2);
        expect.answer(0, () -> x.sectorAt(1, 1));
        expect.answer(-1, () -> x.sectorAt(2, 5));
        x.arrive(2);
        x.offer(2, 2);
        x.leave(3);
        expect.sectorIs(x, 2, 1, -1, 0, 0, 0, -1);
        x.arrive(3);
        x.go(3, 2);
        expect.sectorIs(x, 2, 1, 3, 0, 1, 0, -1);
        expect.refuses(STATE, () -> x.take(2, 2));
    }

    private static void take() {
        expect.promise("promise 11, take");
        CommandTree x = Scene.withRanks(1, 2, 3);
        x.split(0);
        x.go(2, 1);
        expect.refuses(UNKNOWN, () -> x.take(2, 1), () -> x.take(-1, 1), () -> x.take(0, 3), () -> x.take(0, -1),
                () -> x.take(HIGH, LOW));
        expect.refuses(STATE, () -> x.take(0, 0), () -> x.take(0, 1), () -> x.take(1, 1));
        x.offer(1, 1);
        x.offer(0, 1);
        x.tick(6);
        expect.refuses(STATE, () -> x.take(1, 0), () -> x.take(1, 2));
        expect.passes(() -> x.take(1, 1));
        expect.sectorIs(x, 1, 1, 1, 0, 2, 0, -1);
        expect.sectorIs(x, 0, 1, 0, -1, 1, 0, -1);
        expect.personIs(x, 1, 1, 1, 0);
        expect.personIs(x, 2, 1, -1, 0);
        expect.refuses(STATE, () -> x.take(1, 1), () -> x.take(0, 1));
        expect.answer(2, () -> x.led(1, 5));
        expect.answer(1, () -> x.led(1, 6));
    }

    private static void task() {
        expect.promise("promise 12, task");
        CommandTree x = new CommandTree();
        Scene.split(x, 0, 2);
        x.tick(10);
        x.join(2, 0);
        expect.answer(0, () -> x.task(1, 10));
        expect.answer(1, () -> x.task(0, 99999));
        expect.taskIs(x, 0, 1, 0, -1);
        expect.refuses(UNKNOWN, () -> x.task(3, 50), () -> x.task(-1, 50), () -> x.task(3, 9), () -> x.task(LOW, HIGH));
        expect.refuses(RANGE, () -> x.task(0, 9), () -> x.task(0, 100000), () -> x.task(0, LOW), () -> x.task(0, HIGH),
                () -> x.task(2, 9), () -> x.task(2, 100000));
        expect.refuses(STATE, () -> x.task(2, 10));
        for (int i = 2; i < 60; i++) {
            int due = i;
            expect.answer(due, () -> x.task(0, 10 + due));
        }
        expect.refuses(ROOM, () -> x.task(0, 10), () -> x.task(1, 99999));
        expect.refuses(STATE, () -> x.task(2, 10));
        expect.refuses(RANGE, () -> x.task(0, 9));
        expect.refuses(UNKNOWN, () -> x.task(3, 10), () -> x.taskAt(60, 0));
    }

    private static void answer() {
        expect.promise("promise 13, answer");
        CommandTree x = new CommandTree();
        for (int i = 0; i < 3; i++) {
            x.task(0, 5);
        }
        expect.refuses(UNKNOWN, () -> x.answer(3, true), () -> x.answer(-1, false), () -> x.answer(LOW, true),
                () -> x.answer(HIGH, true));
        expect.passes(() -> x.answer(0, true));
        expect.taskIs(x, 0, 0, 1, 0);
        x.tick(6);
        expect.passes(() -> x.answer(1, false));
        expect.taskIs(x, 1, 0, 2, 6);
        expect.passes(() -> x.answer(2, true));
        expect.taskIs(x, 2, 0, 1, 6);
        x.tick(1);
        expect.refuses(STATE, () -> x.answer(0, true), () -> x.answer(0, false), () -> x.answer(1, true),
                () -> x.answer(2, false));
        expect.taskIs(x, 0, 0, 1, 0);
        expect.taskIs(x, 1, 0, 2, 6);
    }

    private static void span() {
        expect.promise("promise 14, span");
        CommandTree x = Scene.withRanks(3, 2);
        for (int i = 0; i < 20; i++) {
            x.place(x.unit(), 0);
        }
        expect.answer(0, () -> x.span(20));
        Scene.split(x, 0, 1);
        expect.answer(1, () -> x.span(20));
        expect.refuses(RANGE, () -> x.span(0), () -> x.span(21), () -> x.span(-1), () -> x.span(LOW), () -> x.span(HIGH));
        expect.answer(1, () -> x.sectorAt(0, 6));
        x.go(1, 1);
        x.place(0, 1);
        expect.answer(0, () -> x.span(20));
        expect.answer(1, () -> x.span(1));
        x.split(1);
        expect.answer(2, () -> x.span(1));
        x.join(2, 1);
        expect.answer(1, () -> x.span(1));
        x.leave(0);
        expect.answer(0, () -> x.span(1));
    }

    private static void tick() {
        expect.promise("promise 15, tick");
        CommandTree x = new CommandTree();
        x.task(0, 0);
        x.task(0, 1);
        x.task(0, 1);
        x.task(0, 2);
        x.task(0, 2);
        expect.refuses(RANGE, () -> x.tick(0), () -> x.tick(-1), () -> x.tick(5001), () -> x.tick(LOW), () -> x.tick(HIGH));
        expect.answer(0, x::clock);
        expect.answer(1, () -> x.tick(1));
        x.answer(1, false);
        expect.answer(1, () -> x.tick(1));
        expect.taskIs(x, 3, 0, 0, -1);
        expect.answer(2, () -> x.tick(5000));
        expect.answer(0, () -> x.tick(1));
        expect.answer(5003, x::clock);
        for (int i = 0; i < 18; i++) {
            expect.answer(0, () -> x.tick(5000));
        }
        expect.answer(95003, x::clock);
        expect.refuses(RANGE, () -> x.tick(4997), () -> x.tick(5000));
        x.task(0, 99998);
        x.task(0, 99999);
        expect.answer(1, () -> x.tick(4996));
        expect.answer(99999, x::clock);
        expect.taskIs(x, 6, 0, 0, -1);
        expect.refuses(RANGE, () -> x.tick(1), () -> x.tick(5000));
        expect.answer(99999, x::clock);
    }

    private static void led() {
        expect.promise("promise 16, led");
        CommandTree x = Scene.withRanks(1, 2);
        x.tick(10);
        x.leave(0);
        x.arrive(0);
        x.offer(0, 0);
        x.tick(10);
        x.take(0, 0);
        x.split(0);
        x.go(1, 1);
        x.tick(10);
        x.leave(0);
        x.arrive(0);
        x.leave(0);
        expect.answer(0, () -> x.led(0, 0));
        expect.answer(0, () -> x.led(0, 9));
        expect.answer(1, () -> x.led(0, 10));
        expect.answer(1, () -> x.led(0, 19));
        expect.answer(0, () -> x.led(0, 20));
        expect.answer(0, () -> x.led(0, 29));
        expect.answer(-1, () -> x.led(0, 30));
        expect.answer(-1, () -> x.led(1, 0));
        expect.answer(-1, () -> x.led(1, 19));
        expect.answer(1, () -> x.led(1, 20));
        x.join(1, 0);
        expect.answer(1, () -> x.led(1, 29));
        expect.answer(-1, () -> x.led(1, 30));
        expect.answer(1, () -> x.led(0, 30));
        expect.refuses(UNKNOWN, () -> x.led(2, 0), () -> x.led(-1, 0), () -> x.led(2, 31), () -> x.led(HIGH, LOW));
        expect.refuses(RANGE, () -> x.led(0, 31), () -> x.led(0, -1), () -> x.led(1, HIGH), () -> x.led(1, LOW));
    }

    /** Person 1 goes to and fro: two changes of leaders for each step, one step in a second. */
    private static void ledRowsDropped() {
        expect.promise("promise 16, led and rows that are not kept");
        CommandTree x = Scene.withRanks(5, 4);
        Scene.split(x, 0, 3);
        x.go(0, 3);
        // rows so far: 0 leads sector 0; 1 leads sector 0; 0 leads sector 3
        x.tick(1);
        x.go(1, 1);
        // and two more at second 1: 1 leads none of sector 0, and sector 1
        for (int i = 0; i < 197; i++) {
            x.tick(1);
            x.go(1, i % 2 == 0 ? 2 : 1);
        }
        // 399 rows stand, at second 198
        expect.answer(198, x::clock);
        expect.answer(1, () -> x.led(0, 0));
        x.leave(0);
        expect.answer(1, () -> x.led(0, 0));
        x.arrive(0);
        // the first row is not kept, and it is of second 0: nothing is below that
        expect.answer(1, () -> x.led(0, 0));
        expect.answer(0, () -> x.led(3, 0));
        expect.answer(0, () -> x.led(0, 198));
        expect.answer(-1, () -> x.led(3, 198));
        x.leave(0);
        x.arrive(0);
        expect.answer(0, () -> x.led(3, 197));
        expect.answer(0, () -> x.led(3, 0));
        x.leave(0);
        // the fourth row is of second 1
        expect.refuses(ROOM, () -> x.led(0, 0), () -> x.led(3, 0));
        expect.answer(-1, () -> x.led(0, 1));
        expect.answer(1, () -> x.led(1, 1));
        expect.answer(0, () -> x.led(3, 1));
        expect.refuses(RANGE, () -> x.led(0, 199), () -> x.led(0, -1));
        expect.refuses(UNKNOWN, () -> x.led(4, 0));
        x.arrive(0);
        expect.answer(1, () -> x.led(1, 1));
        x.leave(0);
        // the sixth row is of second 2
        expect.refuses(ROOM, () -> x.led(1, 1), () -> x.led(2, 0));
        expect.answer(-1, () -> x.led(1, 2));
        expect.answer(1, () -> x.led(2, 2));
        expect.answer(0, () -> x.led(3, 2));
    }

    private static void sectorAt() {
        expect.promise("promise 17, sectorAt");
        CommandTree x = Scene.withRanks(1, 2, 3);
        Scene.split(x, 0, 4);
        x.split(1);
        x.place(x.unit(), 0);
        x.place(x.unit(), 0);
        x.unit();
        x.offer(0, 2);
        x.go(1, 1);
        expect.sectorIs(x, 0, 1, 0, -1, 2, 2, 2, 1, 4);
        expect.sectorIs(x, 1, 1, 1, 0, 1, 0, -1, 0, 1);
        x.place(1, 1);
        expect.sectorIs(x, 0, 1, 0, -1, 2, 1, 2, 0, 4);
        x.join(1, 4);
        expect.sectorIs(x, 1, 0, -1, 0, 0, 0, -1, 0, 0);
        expect.sectorIs(x, 4, 1, 1, 0, 1, 1, -1, 0, 1);
        expect.answer(3, () -> x.sectorAt(0, 7));
        expect.refuses(UNKNOWN, () -> x.sectorAt(6, 0), () -> x.sectorAt(-1, 0), () -> x.sectorAt(0, 8),
                () -> x.sectorAt(0, -1), () -> x.sectorAt(LOW, 0), () -> x.sectorAt(0, HIGH));
    }

    private static void personAt() {
        expect.promise("promise 18, personAt");
        CommandTree x = Scene.withRanks(1);
        x.person(2);
        x.split(0);
        x.tick(3);
        expect.personIs(x, 0, 0, 0, 0);
        expect.personIs(x, 1, -1, -1, -1);
        x.go(0, 1);
        x.arrive(1);
        expect.personIs(x, 0, 1, 1, 0);
        expect.personIs(x, 1, 0, 0, 3);
        x.go(1, 1);
        expect.personIs(x, 1, 1, -1, 3);
        x.leave(0);
        expect.personIs(x, 0, -1, -1, -1);
        expect.personIs(x, 1, 1, 1, 3);
        expect.refuses(UNKNOWN, () -> x.personAt(2, 0), () -> x.personAt(-1, 0), () -> x.personAt(0, 3),
                () -> x.personAt(0, -1), () -> x.personAt(HIGH, LOW));
    }

    private static void unitAt() {
        expect.promise("promise 19, unitAt");
        CommandTree x = new CommandTree();
        x.unit();
        x.split(0);
        expect.answer(-1, () -> x.unitAt(0));
        x.place(0, 1);
        expect.answer(1, () -> x.unitAt(0));
        x.join(1, 0);
        expect.answer(0, () -> x.unitAt(0));
        x.place(0, -1);
        expect.answer(-1, () -> x.unitAt(0));
        expect.refuses(UNKNOWN, () -> x.unitAt(1), () -> x.unitAt(-1), () -> x.unitAt(LOW), () -> x.unitAt(HIGH));
    }

    private static void taskAt() {
        expect.promise("promise 20, taskAt");
        CommandTree x = new CommandTree();
        x.split(0);
        x.task(1, 4);
        expect.taskIs(x, 0, 1, 0, -1);
        x.tick(4);
        expect.taskIs(x, 0, 1, 0, -1);
        x.tick(1);
        expect.taskIs(x, 0, 1, 3, -1);
        x.tick(2);
        x.answer(0, false);
        x.tick(1);
        expect.taskIs(x, 0, 1, 2, 7);
        expect.refuses(UNKNOWN, () -> x.taskAt(1, 0), () -> x.taskAt(-1, 0), () -> x.taskAt(0, 3),
                () -> x.taskAt(0, -1), () -> x.taskAt(LOW, HIGH));
    }

    private static void passed() {
        expect.promise("promise 21, passed");
        CommandTree x = Scene.withRanks(3, 2, 1);
        Scene.split(x, 0, 5);
        expect.answer(-1, () -> x.passed(0));
        Scene.split(x, 2, 5);
        x.place(x.unit(), 0);
        x.place(x.unit(), 2);
        Scene.split(x, 4, 6);
        expect.answer(0, () -> x.passed(0));
        expect.answer(-1, () -> x.passed(1));
        x.go(1, 4);
        x.go(2, 2);
        expect.answer(0, () -> x.passed(0));
        expect.answer(2, () -> x.passed(1));
        expect.answer(4, () -> x.passed(2));
        expect.answer(-1, () -> x.passed(3));
        expect.answer(-1, () -> x.passed(HIGH));
        x.place(0, -1);
        expect.answer(2, () -> x.passed(0));
        x.leave(1);
        expect.answer(-1, () -> x.passed(1));
        expect.refuses(RANGE, () -> x.passed(-1), () -> x.passed(LOW));
    }

    private static void clock() {
        expect.promise("promise 22, clock");
        CommandTree x = new CommandTree();
        expect.answer(0, x::clock);
        x.tick(1);
        x.tick(4999);
        expect.answer(5000, x::clock);
        expect.refuses(RANGE, () -> x.tick(5001));
        expect.answer(5000, x::clock);
    }
}
