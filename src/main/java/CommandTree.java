import java.util.Arrays;

/**
 * Command at a scene: sectors in a tree, their leaders, the persons and units in them, their tasks,
 * and who led which sector at any second that was.
 */
public final class CommandTree {
    private static final int NONE = -1;
    private static final int WHOLE_SCENE = 0;

    private static final int MOST_PERSONS = 40;
    private static final int MOST_UNITS = 20;
    private static final int MOST_SECTORS = 20;
    private static final int MOST_TASKS = 60;
    private static final int MOST_ROWS = 400;

    private static final int HIGHEST_RANK = 9;
    private static final int LAST_SECOND = 99999;
    private static final int LONGEST_TICK = 5000;
    private static final int FIRST_SPAN = 5;
    private static final int WIDEST_SPAN = 20;

    private int second;
    private int mostPerLeader;

    private int persons;
    private final int[] rankOf;
    private final int[] arrivedAt;
    private final int[] sectorOfPerson;
    private final int[] sectorLedBy;

    private int units;
    private final int[] sectorOfUnit;

    private int sectors;
    private final boolean[] open;
    private final int[] above;
    private final int[] leaderOf;
    private final int[] offeredTo;

    private final TaskList tasks;
    private final LeaderRows rows;

    public CommandTree() {
        mostPerLeader = FIRST_SPAN;

        rankOf = new int[MOST_PERSONS];
        arrivedAt = new int[MOST_PERSONS];
        sectorOfPerson = new int[MOST_PERSONS];
        sectorLedBy = new int[MOST_PERSONS];
        Arrays.fill(arrivedAt, NONE);
        Arrays.fill(sectorOfPerson, NONE);
        Arrays.fill(sectorLedBy, NONE);

        sectorOfUnit = new int[MOST_UNITS];
        Arrays.fill(sectorOfUnit, NONE);

        open = new boolean[MOST_SECTORS];
        above = new int[MOST_SECTORS];
        leaderOf = new int[MOST_SECTORS];
        offeredTo = new int[MOST_SECTORS];
        Arrays.fill(above, NONE);
        Arrays.fill(leaderOf, NONE);
        Arrays.fill(offeredTo, NONE);
        open[WHOLE_SCENE] = true;
        sectors = 1;

        tasks = new TaskList();
        rows = new LeaderRows();
    }

    public int person(int rank) throws IndexOutOfBoundsException, UnsupportedOperationException {
        if (rank < 0 || rank > HIGHEST_RANK) {
            throw new IndexOutOfBoundsException("the rank is not 0 .. 9");
        }
        if (persons >= MOST_PERSONS) {
            throw new UnsupportedOperationException("there are 40 persons");
        }
        int number = persons;
        rankOf[number] = rank;
        persons++;
        return number;
    }

    public int unit() throws UnsupportedOperationException {
        if (units >= MOST_UNITS) {
            throw new UnsupportedOperationException("there are 20 units");
        }
        int number = units;
        units++;
        return number;
    }

    public void arrive(int person) throws IllegalArgumentException, IllegalStateException {
        requirePerson(person);
        if (isThere(person)) {
            throw new IllegalStateException("the person is there");
        }
        arrivedAt[person] = second;
        comeInto(person, WHOLE_SCENE);
    }

    public void leave(int person) throws IllegalArgumentException, IllegalStateException {
        requirePerson(person);
        requireThere(person);
        sectorOfPerson[person] = NONE;
        arrivedAt[person] = NONE;
        withdrawOffersTo(person);
        leaveLeadToNext(person);
    }

    public void go(int person, int sector) throws IllegalArgumentException, IllegalStateException {
        requirePerson(person);
        requireSector(sector);
        requireThere(person);
        if (sectorOfPerson[person] == sector) {
            throw new IllegalStateException("the person is in it");
        }
        requireOpen(sector);
        comeInto(person, sector);
    }

    public void place(int unit, int sector) throws IllegalArgumentException, IllegalStateException {
        requireUnit(unit);
        if (sector != NONE) {
            requireSector(sector);
        }
        if (sectorOfUnit[unit] == sector) {
            throw new IllegalStateException("it is so");
        }
        if (sector != NONE) {
            requireOpen(sector);
        }
        sectorOfUnit[unit] = sector;
    }

    public int split(int sector)
            throws IllegalArgumentException, IllegalStateException, UnsupportedOperationException {
        requireSector(sector);
        requireOpen(sector);
        if (sectors >= MOST_SECTORS) {
            throw new UnsupportedOperationException("there are 20 sectors");
        }
        int number = sectors;
        open[number] = true;
        above[number] = sector;
        sectors++;
        return number;
    }

    public void join(int sector, int other) throws IllegalArgumentException, IllegalStateException {
        requireSector(sector);
        requireSector(other);
        requireOpen(sector);
        requireOpen(other);
        if (sector == WHOLE_SCENE) {
            throw new IllegalStateException("the whole scene is joined to none");
        }
        if (isSameOrBelow(other, sector)) {
            throw new IllegalStateException("the other one is this one, or below it");
        }
        // the leader leads none before the next is looked for, and so may be the next of the other
        setLeader(sector, NONE);
        open[sector] = false;
        replace(sectorOfPerson, persons, sector, other);
        replace(sectorOfUnit, units, sector, other);
        moveSectorsBelow(sector, other);
        tasks.giveUnanswered(sector, other);
        if (leaderOf[other] == NONE) {
            setLeader(other, nextToLead(other));
        }
    }

    public void offer(int sector, int person) throws IllegalArgumentException, IllegalStateException {
        requireSector(sector);
        requirePerson(person);
        requireOpen(sector);
        if (leaderOf[sector] == NONE) {
            throw new IllegalStateException("the sector has no leader");
        }
        requireThere(person);
        if (sectorLedBy[person] != NONE) {
            throw new IllegalStateException("the person leads a sector");
        }
        offeredTo[sector] = person;
    }

    public void take(int sector, int person) throws IllegalArgumentException, IllegalStateException {
        requireSector(sector);
        requirePerson(person);
        if (offeredTo[sector] != person) {
            throw new IllegalStateException("it is not offered to this person");
        }
        sectorOfPerson[person] = sector;
        setLeader(sector, person);
    }

    public int task(int sector, int until)
            throws IllegalArgumentException, IndexOutOfBoundsException, IllegalStateException,
                    UnsupportedOperationException {
        requireSector(sector);
        if (until < second || until > LAST_SECOND) {
            throw new IndexOutOfBoundsException("until is not the present second .. 99999");
        }
        requireOpen(sector);
        if (tasks.isFull()) {
            throw new UnsupportedOperationException("there are 60 tasks");
        }
        return tasks.add(sector, until);
    }

    public void answer(int task, boolean done) throws IllegalArgumentException, IllegalStateException {
        requireTask(task);
        if (tasks.isAnswered(task)) {
            throw new IllegalStateException("the task was answered");
        }
        tasks.setAnswer(task, done, second);
    }

    public int span(int most) throws IndexOutOfBoundsException {
        if (most < 1 || most > WIDEST_SPAN) {
            throw new IndexOutOfBoundsException("the span is not 1 .. 20");
        }
        mostPerLeader = most;
        int count = 0;
        for (int s = 0; s < sectors; s++) {
            if (isPassed(s)) {
                count++;
            }
        }
        return count;
    }

    public int tick(int seconds) throws IndexOutOfBoundsException {
        if (seconds < 1 || seconds > LONGEST_TICK || seconds > LAST_SECOND - second) {
            throw new IndexOutOfBoundsException("not 1 .. 5000 seconds, or beyond 99999");
        }
        int before = second;
        second = before + seconds;
        return tasks.countNewlyOverdue(before, second);
    }

    public int led(int sector, int t)
            throws IllegalArgumentException, IndexOutOfBoundsException, UnsupportedOperationException {
        requireSector(sector);
        if (t < 0 || t > second) {
            throw new IndexOutOfBoundsException("the second is below 0, or to come");
        }
        if (!rows.reachBackTo(t)) {
            throw new UnsupportedOperationException("the rows of that second are not kept any more");
        }
        return rows.leaderBehind(sector, t);
    }

    public int sectorAt(int sector, int what) throws IllegalArgumentException {
        requireSector(sector);
        switch (what) {
            case 0:
                return open[sector] ? 1 : 0;
            case 1:
                return leaderOf[sector];
            case 2:
                return above[sector];
            case 3:
                return count(sectorOfPerson, persons, sector);
            case 4:
                return count(sectorOfUnit, units, sector);
            case 5:
                return offeredTo[sector];
            case 6:
                return isPassed(sector) ? 1 : 0;
            case 7:
                return countOpenBelow(sector);
            default:
                throw new IllegalArgumentException("no such what");
        }
    }

    public int personAt(int person, int what) throws IllegalArgumentException {
        requirePerson(person);
        switch (what) {
            case 0:
                return sectorOfPerson[person];
            case 1:
                return sectorLedBy[person];
            case 2:
                return arrivedAt[person];
            default:
                throw new IllegalArgumentException("no such what");
        }
    }

    public int unitAt(int unit) throws IllegalArgumentException {
        requireUnit(unit);
        return sectorOfUnit[unit];
    }

    public int taskAt(int task, int what) throws IllegalArgumentException {
        requireTask(task);
        switch (what) {
            case 0:
                return tasks.sectorOf(task);
            case 1:
                return tasks.stateOf(task, second);
            case 2:
                return tasks.answeredAt(task);
            default:
                throw new IllegalArgumentException("no such what");
        }
    }

    public int passed(int i) throws IndexOutOfBoundsException {
        if (i < 0) {
            throw new IndexOutOfBoundsException("i is below 0");
        }
        int seen = 0;
        for (int s = 0; s < sectors; s++) {
            if (isPassed(s)) {
                if (seen == i) {
                    return s;
                }
                seen++;
            }
        }
        return NONE;
    }

    public int clock() {
        return second;
    }

    private void requirePerson(int person) {
        if (person < 0 || person >= persons) {
            throw new IllegalArgumentException("no such person");
        }
    }

    private void requireUnit(int unit) {
        if (unit < 0 || unit >= units) {
            throw new IllegalArgumentException("no such unit");
        }
    }

    private void requireSector(int sector) {
        if (sector < 0 || sector >= sectors) {
            throw new IllegalArgumentException("no such sector");
        }
    }

    private void requireTask(int task) {
        if (!tasks.has(task)) {
            throw new IllegalArgumentException("no such task");
        }
    }

    private void requireThere(int person) {
        if (!isThere(person)) {
            throw new IllegalStateException("the person is away");
        }
    }

    private void requireOpen(int sector) {
        if (!open[sector]) {
            throw new IllegalStateException("the sector is not open");
        }
    }

    private boolean isThere(int person) {
        return sectorOfPerson[person] != NONE;
    }

    private void comeInto(int person, int sector) {
        sectorOfPerson[person] = sector;
        leaveLeadToNext(person);
        if (leaderOf[sector] == NONE) {
            setLeader(sector, person);
        }
    }

    /** The person has gone out of the sector already, and so is not its next. */
    private void leaveLeadToNext(int person) {
        int sector = sectorLedBy[person];
        if (sector >= 0) {
            setLeader(sector, nextToLead(sector));
        }
    }

    private void setLeader(int sector, int person) {
        int former = leaderOf[sector];
        if (former == person) {
            return;
        }
        if (former >= 0) {
            sectorLedBy[former] = NONE;
        }
        leaderOf[sector] = person;
        offeredTo[sector] = NONE;
        if (person >= 0) {
            sectorLedBy[person] = sector;
            withdrawOffersTo(person);
        }
        rows.note(second, sector, person);
    }

    private void withdrawOffersTo(int person) {
        replace(offeredTo, sectors, person, NONE);
    }

    private int nextToLead(int sector) {
        int next = NONE;
        for (int p = 0; p < persons; p++) {
            boolean mayLead = sectorOfPerson[p] == sector && sectorLedBy[p] == NONE;
            if (mayLead && (next == NONE || comesBefore(p, next))) {
                next = p;
            }
        }
        return next;
    }

    private boolean comesBefore(int person, int lowerNumber) {
        if (rankOf[person] != rankOf[lowerNumber]) {
            return rankOf[person] > rankOf[lowerNumber];
        }
        return arrivedAt[person] < arrivedAt[lowerNumber];
    }

    private boolean isSameOrBelow(int sector, int top) {
        int at = sector;
        for (int depth = 0; depth < MOST_SECTORS && at >= 0; depth++) {
            if (at == top) {
                return true;
            }
            at = above[at];
        }
        return false;
    }

    /** Joined sectors stay below the one that they were below. */
    private void moveSectorsBelow(int sector, int other) {
        for (int s = 0; s < sectors; s++) {
            if (open[s] && above[s] == sector) {
                above[s] = other;
            }
        }
    }

    private boolean isPassed(int sector) {
        if (leaderOf[sector] == NONE) {
            return false;
        }
        return countOpenBelow(sector) + count(sectorOfUnit, units, sector) > mostPerLeader;
    }

    private int countOpenBelow(int sector) {
        int count = 0;
        for (int s = 0; s < sectors; s++) {
            if (open[s] && above[s] == sector) {
                count++;
            }
        }
        return count;
    }

    private static int count(int[] row, int length, int value) {
        int count = 0;
        for (int i = 0; i < length && i < row.length; i++) {
            if (row[i] == value) {
                count++;
            }
        }
        return count;
    }

    private static void replace(int[] row, int length, int from, int to) {
        for (int i = 0; i < length && i < row.length; i++) {
            if (row[i] == from) {
                row[i] = to;
            }
        }
    }

    /** The tasks of all sectors; its callers ask has() before they name a task. */
    private static final class TaskList {
        private static final int OPEN = 0;
        private static final int DONE = 1;
        private static final int NOT_DONE = 2;
        private static final int OVERDUE = 3;

        private int size;
        private final int[] sector;
        private final int[] until;
        private final int[] reply;
        private final int[] replySecond;

        TaskList() {
            sector = new int[MOST_TASKS];
            until = new int[MOST_TASKS];
            reply = new int[MOST_TASKS];
            replySecond = new int[MOST_TASKS];
            Arrays.fill(replySecond, NONE);
        }

        boolean isFull() {
            return size >= MOST_TASKS;
        }

        boolean has(int number) {
            return number >= 0 && number < size;
        }

        int add(int forSector, int untilSecond) {
            if (isFull()) {
                return NONE;
            }
            int number = size;
            sector[number] = forSector;
            until[number] = untilSecond;
            size++;
            return number;
        }

        boolean isAnswered(int number) {
            return reply[number] != OPEN;
        }

        void setAnswer(int number, boolean done, int now) {
            reply[number] = done ? DONE : NOT_DONE;
            replySecond[number] = now;
        }

        int sectorOf(int number) {
            return sector[number];
        }

        int stateOf(int number, int now) {
            if (isAnswered(number)) {
                return reply[number];
            }
            return now > until[number] ? OVERDUE : OPEN;
        }

        int answeredAt(int number) {
            return replySecond[number];
        }

        int countNewlyOverdue(int before, int now) {
            int count = 0;
            for (int i = 0; i < size; i++) {
                if (stateOf(i, before) == OPEN && stateOf(i, now) == OVERDUE) {
                    count++;
                }
            }
            return count;
        }

        void giveUnanswered(int from, int to) {
            for (int i = 0; i < size; i++) {
                if (sector[i] == from && !isAnswered(i)) {
                    sector[i] = to;
                }
            }
        }
    }

    /** A row for each change of a sector's leader, the latest 400 of them, in a ring. */
    private static final class LeaderRows {
        private int oldest;
        private int size;
        private final int[] seconds;
        private final int[] sectorNumbers;
        private final int[] leaders;

        /** What the dropped rows led to, so that a sector without a kept row still has its leader. */
        private final int[] leaderBeforeKept;
        private int latestDropped;

        LeaderRows() {
            seconds = new int[MOST_ROWS];
            sectorNumbers = new int[MOST_ROWS];
            leaders = new int[MOST_ROWS];
            leaderBeforeKept = new int[MOST_SECTORS];
            Arrays.fill(leaderBeforeKept, NONE);
        }

        void note(int second, int sector, int leader) {
            if (size >= MOST_ROWS) {
                dropOldest();
            }
            int at = ringIndex(size);
            seconds[at] = second;
            sectorNumbers[at] = sector;
            leaders[at] = leader;
            size++;
        }

        private void dropOldest() {
            leaderBeforeKept[sectorNumbers[oldest]] = leaders[oldest];
            latestDropped = seconds[oldest];
            oldest = ringIndex(1);
            size--;
        }

        private int ringIndex(int age) {
            int at = oldest + age;
            return at < MOST_ROWS ? at : at - MOST_ROWS;
        }

        boolean reachBackTo(int t) {
            return t >= latestDropped;
        }

        int leaderBehind(int sector, int t) {
            int leader = leaderBeforeKept[sector];
            for (int i = 0; i < size; i++) {
                int at = ringIndex(i);
                if (seconds[at] > t) {
                    return leader;
                }
                if (sectorNumbers[at] == sector) {
                    leader = leaders[at];
                }
            }
            return leader;
        }
    }
}
