/** What several tests begin with. */
final class Scene {
    private static final int LONGEST_TICK = 5000;

    private Scene() {
    }

    /** Persons of these ranks, all arrived in the order of their numbers: 0 leads sector 0. */
    static CommandTree withRanks(int... ranks) {
        CommandTree x = new CommandTree();
        for (int rank : ranks) {
            x.arrive(x.person(rank));
        }
        return x;
    }

    static void split(CommandTree x, int sector, int times) {
        for (int i = 0; i < times; i++) {
            x.split(sector);
        }
    }

    static void placeNewUnits(CommandTree x, int sector, int count) {
        for (int i = 0; i < count; i++) {
            x.place(x.unit(), sector);
        }
    }

    static void giveTasks(CommandTree x, int sector, int until, int count) {
        for (int i = 0; i < count; i++) {
            x.task(sector, until);
        }
    }

    static void tickTo(CommandTree x, int second) {
        int left = second - x.clock();
        while (left > 0) {
            int seconds = Math.min(left, LONGEST_TICK);
            x.tick(seconds);
            left -= seconds;
        }
    }
}
