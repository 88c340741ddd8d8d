/** Counts and prints the answers of one test that are not those that are due. */
final class Check {
    private int asked = 0;
    private int wrong = 0;

    void due(String what, long got, long want) {
        asked++;
        if (got != want) {
            wrong++;
            System.out.println(what + " answered " + got + ", due is " + want);
        }
    }

    void due(String what, boolean got, boolean want) {
        due(what, got ? 1L : 0L, want ? 1L : 0L);
    }

    void yes(String what, boolean got) {
        due(what, got, true);
    }

    void no(String what, boolean got) {
        due(what, got, false);
    }

    /** Ends the program with exit code 1 if an answer was wrong. */
    void end() {
        System.out.println(asked + " answers, " + wrong + " wrong");
        if (wrong != 0 || asked == 0) {
            System.exit(1);
        }
    }

    static long text(int... lines) {
        long number = 0;
        for (int line : lines) {
            number = number * 32 + line;
        }
        return number;
    }

    /** A store whose client 0 has committed the text as revision 0 of file 0. */
    static RevisionStore storeWith(int... lines) {
        RevisionStore store = new RevisionStore();
        store.add(0, 0, text(lines));
        store.commit(0, 0);
        return store;
    }
}
