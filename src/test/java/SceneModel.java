import java.util.ArrayList;
import java.util.Arrays;
import java.util.Comparator;
import java.util.List;
import java.util.Map;
import java.util.Optional;
import java.util.TreeMap;

/**
 * A second program of the document for the tests. It finds the changes of leaders, and the offers that
 * are gone, by comparing what stands before and behind each call, and keeps all leaders of each second.
 */
final class SceneModel {
    static final class Refusal extends RuntimeException {
        private static final long serialVersionUID = 1L;

        Refusal(String name) {
            super(name);
        }
    }

    private static final class Person {
        int number;
        int rank;
        int arrived = -1;
        Sector in;
    }

    private static final class Sector {
        int number;
        boolean open = true;
        Sector above;
        Person leader;
        Person offered;
    }

    private static final class Task {
        Sector sector;
        int until;
        int reply;
        int replied = -1;
    }

    private int now;
    private int span = 5;
    private final List<Person> persons = new ArrayList<>();
    private final List<Sector> sectors = new ArrayList<>();
    private final List<Sector> units = new ArrayList<>();
    private final List<Task> tasks = new ArrayList<>();
    private final List<Integer> rowSeconds = new ArrayList<>();
    private final TreeMap<Integer, int[]> leadersBehind = new TreeMap<>();

    SceneModel() {
        newSector(null);
        leadersBehind.put(0, leaders());
    }

    /** What the call answers: a number, "ok", or the name of what it throws. */
    String answerTo(String name, int a, int b) {
        int[] before = leaders();
        String answer;
        try {
            answer = perform(name, a, b);
        } catch (Refusal e) {
            answer = e.getMessage();
        }
        settle(before);
        return answer;
    }

    int personCount() {
        return persons.size();
    }

    int unitCount() {
        return units.size();
    }

    int sectorCount() {
        return sectors.size();
    }

    int taskCount() {
        return tasks.size();
    }

    int second() {
        return now;
    }

    private String perform(String name, int a, int b) {
        switch (name) {
            case "person": return "" + person(a);
            case "unit": return "" + unit();
            case "arrive": arrive(a); return "ok";
            case "leave": leave(a); return "ok";
            case "go": go(a, b); return "ok";
            case "place": place(a, b); return "ok";
            case "split": return "" + split(a);
            case "join": join(a, b); return "ok";
            case "offer": offer(a, b); return "ok";
            case "take": take(a, b); return "ok";
            case "task": return "" + task(a, b);
            case "answer": answer(a, b == 1); return "ok";
            case "span": return "" + span(a);
            case "tick": return "" + tick(a);
            case "led": return "" + led(a, b);
            case "sectorAt": return "" + sectorAt(a, b);
            case "personAt": return "" + personAt(a, b);
            case "unitAt": unknownUnless(a >= 0 && a < units.size()); return "" + number(units.get(a));
            case "taskAt": return "" + taskAt(a, b);
            case "passed": return "" + passed(a);
            case "clock": return "" + now;
            default: throw new AssertionError(name);
        }
    }

    private void settle(int[] before) {
        int[] after = leaders();
        for (int s = 0; s < sectors.size(); s++) {
            if (before[s] != after[s]) {
                rowSeconds.add(now);
            }
        }
        for (Sector sector : sectors) {
            Person to = sector.offered;
            boolean otherLeader = before[sector.number] != after[sector.number];
            if (to != null && (otherLeader || to.in == null || ledBy(to) != null)) {
                sector.offered = null;
            }
        }
        leadersBehind.put(now, after);
    }

    private int[] leaders() {
        int[] all = new int[20];
        Arrays.fill(all, -1);
        for (Sector sector : sectors) {
            all[sector.number] = number(sector.leader);
        }
        return all;
    }

    private int person(int rank) {
        rangeUnless(rank >= 0 && rank <= 9);
        roomUnless(persons.size() < 40);
        Person one = new Person();
        one.number = persons.size();
        one.rank = rank;
        persons.add(one);
        return one.number;
    }

    private int unit() {
        roomUnless(units.size() < 20);
        units.add(null);
        return units.size() - 1;
    }

    private void arrive(int p) {
        Person one = knownPerson(p);
        stateUnless(one.in == null);
        one.arrived = now;
        move(one, sectors.get(0));
    }

    private void leave(int p) {
        Person one = knownPerson(p);
        stateUnless(one.in != null);
        one.arrived = -1;
        move(one, null);
    }

    private void go(int p, int s) {
        Person one = knownPerson(p);
        Sector to = knownSector(s);
        stateUnless(one.in != null && one.in != to && to.open);
        move(one, to);
    }

    private void move(Person one, Sector to) {
        Sector led = ledBy(one);
        one.in = to;
        if (led != null) {
            led.leader = null;
            led.leader = next(led);
        }
        if (to != null && to.leader == null) {
            to.leader = one;
        }
    }

    private Person next(Sector sector) {
        Optional<Person> best = persons.stream()
                .filter(one -> one.in == sector && ledBy(one) == null)
                .min(Comparator.<Person>comparingInt(one -> -one.rank)
                        .thenComparingInt(one -> one.arrived)
                        .thenComparingInt(one -> one.number));
        return best.orElse(null);
    }

    private void place(int u, int s) {
        unknownUnless(u >= 0 && u < units.size());
        Sector to = s == -1 ? null : knownSector(s);
        stateUnless(units.get(u) != to && (to == null || to.open));
        units.set(u, to);
    }

    private int split(int s) {
        Sector top = knownSector(s);
        stateUnless(top.open);
        roomUnless(sectors.size() < 20);
        return newSector(top).number;
    }

    private Sector newSector(Sector top) {
        Sector made = new Sector();
        made.number = sectors.size();
        made.above = top;
        sectors.add(made);
        return made;
    }

    private void join(int s, int o) {
        Sector from = knownSector(s);
        Sector to = knownSector(o);
        stateUnless(from.open && to.open && s != 0 && s != o && !isBelow(to, from));
        from.open = false;
        from.leader = null;
        for (Person one : persons) {
            if (one.in == from) {
                one.in = to;
            }
        }
        units.replaceAll(at -> at == from ? to : at);
        for (Task task : tasks) {
            if (task.sector == from && task.reply == 0) {
                task.sector = to;
            }
        }
        for (Sector sector : sectors) {
            if (sector.open && sector.above == from) {
                sector.above = to;
            }
        }
        if (to.leader == null) {
            to.leader = next(to);
        }
    }

    private static boolean isBelow(Sector sector, Sector top) {
        return sector.above != null && (sector.above == top || isBelow(sector.above, top));
    }

    private void offer(int s, int p) {
        Sector sector = knownSector(s);
        Person one = knownPerson(p);
        stateUnless(sector.open && sector.leader != null && one.in != null && ledBy(one) == null);
        sector.offered = one;
    }

    private void take(int s, int p) {
        Sector sector = knownSector(s);
        Person one = knownPerson(p);
        stateUnless(sector.offered == one);
        one.in = sector;
        sector.leader = one;
    }

    private int task(int s, int until) {
        Sector sector = knownSector(s);
        rangeUnless(until >= now && until <= 99_999);
        stateUnless(sector.open);
        roomUnless(tasks.size() < 60);
        Task made = new Task();
        made.sector = sector;
        made.until = until;
        tasks.add(made);
        return tasks.size() - 1;
    }

    private void answer(int t, boolean done) {
        unknownUnless(t >= 0 && t < tasks.size());
        Task task = tasks.get(t);
        stateUnless(task.reply == 0);
        task.reply = done ? 1 : 2;
        task.replied = now;
    }

    private int span(int most) {
        rangeUnless(most >= 1 && most <= 20);
        span = most;
        return (int) sectors.stream().filter(this::isPassed).count();
    }

    private int tick(int seconds) {
        rangeUnless(seconds >= 1 && seconds <= 5000 && now + seconds <= 99_999);
        long before = tasks.stream().filter(task -> stateOf(task) == 3).count();
        now += seconds;
        return (int) (tasks.stream().filter(task -> stateOf(task) == 3).count() - before);
    }

    private int led(int s, int t) {
        knownSector(s);
        rangeUnless(t >= 0 && t <= now);
        int dropped = rowSeconds.size() - 400;
        for (int i = 0; i < dropped; i++) {
            roomUnless(t >= rowSeconds.get(i));
        }
        Map.Entry<Integer, int[]> then = leadersBehind.floorEntry(t);
        return then.getValue()[s];
    }

    private int sectorAt(int s, int what) {
        Sector sector = knownSector(s);
        switch (what) {
            case 0: return sector.open ? 1 : 0;
            case 1: return number(sector.leader);
            case 2: return number(sector.above);
            case 3: return (int) persons.stream().filter(one -> one.in == sector).count();
            case 4: return unitsIn(sector);
            case 5: return number(sector.offered);
            case 6: return isPassed(sector) ? 1 : 0;
            case 7: return openBelow(sector);
            default: throw new Refusal("IllegalArgumentException");
        }
    }

    private int personAt(int p, int what) {
        Person one = knownPerson(p);
        switch (what) {
            case 0: return number(one.in);
            case 1: return number(ledBy(one));
            case 2: return one.arrived;
            default: throw new Refusal("IllegalArgumentException");
        }
    }

    private int taskAt(int t, int what) {
        unknownUnless(t >= 0 && t < tasks.size());
        Task task = tasks.get(t);
        switch (what) {
            case 0: return task.sector.number;
            case 1: return stateOf(task);
            case 2: return task.replied;
            default: throw new Refusal("IllegalArgumentException");
        }
    }

    private int passed(int i) {
        rangeUnless(i >= 0);
        return sectors.stream().filter(this::isPassed).skip(i).findFirst().map(one -> one.number).orElse(-1);
    }

    private int stateOf(Task task) {
        return task.reply == 0 && now > task.until ? 3 : task.reply;
    }

    private boolean isPassed(Sector sector) {
        return sector.leader != null && openBelow(sector) + unitsIn(sector) > span;
    }

    private int openBelow(Sector sector) {
        return (int) sectors.stream().filter(one -> one.open && one.above == sector).count();
    }

    private int unitsIn(Sector sector) {
        return (int) units.stream().filter(at -> at == sector).count();
    }

    private Sector ledBy(Person one) {
        return sectors.stream().filter(sector -> sector.leader == one).findFirst().orElse(null);
    }

    private Person knownPerson(int p) {
        unknownUnless(p >= 0 && p < persons.size());
        return persons.get(p);
    }

    private Sector knownSector(int s) {
        unknownUnless(s >= 0 && s < sectors.size());
        return sectors.get(s);
    }

    private static int number(Sector sector) {
        return sector == null ? -1 : sector.number;
    }

    private static int number(Person one) {
        return one == null ? -1 : one.number;
    }

    private static void unknownUnless(boolean held) {
        refuseUnless(held, "IllegalArgumentException");
    }

    private static void rangeUnless(boolean held) {
        refuseUnless(held, "IndexOutOfBoundsException");
    }

    private static void stateUnless(boolean held) {
        refuseUnless(held, "IllegalStateException");
    }

    private static void roomUnless(boolean held) {
        refuseUnless(held, "UnsupportedOperationException");
    }

    private static void refuseUnless(boolean held, String name) {
        if (!held) {
            throw new Refusal(name);
        }
    }
}
