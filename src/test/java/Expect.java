/** Counts the answers that are not as due, and prints each of them. */
final class Expect {
    interface Answer {
        int get();
    }

    interface Act {
        void run();
    }

    private final String test;
    private String promise = "";
    private int checks;
    private int wrong;

    Expect(String test) {
        this.test = test;
    }

    void promise(String name) {
        promise = name;
    }

    /** Words of the document, with the test that is theirs alone: what goes wrong in it stops no other. */
    void sentence(String words, Act ownTest) {
        promise(words);
        int before = checks;
        same("no exception", thrownBy(ownTest));
        if (checks == before + 1) {
            tell("nothing is checked", "a check");
        }
    }

    void answer(int due, Answer call) {
        String got;
        try {
            got = Integer.toString(call.get());
        } catch (RuntimeException e) {
            got = e.getClass().getName();
        }
        same(Integer.toString(due), got);
    }

    /** None of the calls throws. */
    void passes(Act... calls) {
        for (Act call : calls) {
            same("no exception", thrownBy(call));
        }
    }

    /** Each of the calls throws this very class, none below it. */
    void refuses(Class<? extends RuntimeException> due, Act... calls) {
        for (Act call : calls) {
            same(due.getName(), thrownBy(call));
        }
    }

    void sectorIs(CommandTree x, int sector, int... due) {
        for (int what = 0; what < due.length; what++) {
            int w = what;
            answer(due[what], () -> x.sectorAt(sector, w));
        }
    }

    void personIs(CommandTree x, int person, int... due) {
        for (int what = 0; what < due.length; what++) {
            int w = what;
            answer(due[what], () -> x.personAt(person, w));
        }
    }

    void taskIs(CommandTree x, int task, int... due) {
        for (int what = 0; what < due.length; what++) {
            int w = what;
            answer(due[what], () -> x.taskAt(task, w));
        }
    }

    void same(String due, String got) {
        checks++;
        if (!due.equals(got)) {
            tell(got, due);
        }
    }

    void end() {
        System.out.println(test + ": " + checks + " checks, " + wrong + " wrong");
        if (wrong != 0 || checks == 0) {
            System.exit(1);
        }
    }

    private void tell(String got, String due) {
        wrong++;
        System.out.println(test + ", " + promise + ", line " + callerLine()
                + ": answered " + got + ", due is " + due);
    }

    private static String thrownBy(Act call) {
        try {
            call.run();
            return "no exception";
        } catch (RuntimeException e) {
            return e.getClass().getName();
        }
    }

    private int callerLine() {
        for (StackTraceElement at : new Throwable().getStackTrace()) {
            if (!at.getClassName().startsWith("Expect")) {
                return at.getLineNumber();
            }
        }
        return 0;
    }
}
