/** Counts the answers that are not as due, and ends the program with 1 if there was one. */
final class Check {
    private final String name;
    private String sentence = "";
    private int answers;
    private int wrong;

    Check(String name) {
        this.name = name;
    }

    /** The sentence of the document that the answers from now on are tested by. */
    void sentence(String told) {
        sentence = "\"" + told + "\": ";
    }

    void due(String what, long got, long want) {
        answers++;
        if (got != want) {
            wrong++;
            System.out.println(
                name + ": " + sentence + what + " answered " + got + ", due is " + want);
        }
    }

    void holds(String what, boolean is) {
        due(what, is ? 1 : 0, 1);
    }

    /** Compares two texts line by line, and tells the first line that is another. */
    void alike(String what, String got, String want) {
        String[] gotLines = got.split("\n");
        String[] wantLines = want.split("\n");
        int i = 0;
        while (i < gotLines.length && i < wantLines.length && gotLines[i].equals(wantLines[i])) {
            i++;
        }
        boolean same = i == gotLines.length && i == wantLines.length;
        String first = i < gotLines.length ? gotLines[i] : "no more";
        String due = i < wantLines.length ? wantLines[i] : "no more";
        holds(what + (same ? "" : " (" + first + ", not " + due + ")"), same);
    }

    /** Pairs of a what and the answer that is due. */
    void states(String what, RollingSync x, int... pairs) {
        for (int i = 0; i < pairs.length; i += 2) {
            due(what + ": state(" + pairs[i] + ")", x.state(pairs[i]), pairs[i + 1]);
        }
    }

    /** The kinds of what is sent from now on, a MESSAGE with each STEP, till the RUN is OVER. */
    void goesOn(String what, RollingSync x, String want) {
        int before = x.state(1);
        String got = Told.kinds(x);
        holds(what + ": kinds " + got + " are " + want, got.equals(want));
        due(what + ": the RUN is OVER", x.state(0), 2);
        due(what + ": a STEP for each MESSAGE", x.state(1), before + want.length());
    }

    void finish() {
        System.out.println(name + ": " + answers + " answers, " + wrong + " not as due");
        if (wrong != 0) {
            System.exit(1);
        }
    }
}
