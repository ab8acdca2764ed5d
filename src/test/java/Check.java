/** Counts and prints the answers that are not as due; one object a test file. */
final class Check {
    private final String file;
    private String part = "";
    private int rows = 0;
    private int wrong = 0;

    Check(String file) {
        this.file = file;
    }

    /** From here on the answers belong to this part of the file: a promise and the edge that is tried. */
    void of(String promiseAndEdge) {
        part = promiseAndEdge + ": ";
    }

    void due(String call, long got, long want) {
        rows++;
        if (got != want) {
            wrong++;
            System.out.println(file + ": " + part + call + " answered " + got + ", due is " + want);
        }
    }

    void holds(String what, boolean so) {
        due(what, so ? 1 : 0, 1);
    }

    /** One stage's row: pairs of what and the answer that is due. */
    void stage(TapCascade x, int i, int... pairs) {
        for (int k = 0; k + 1 < pairs.length; k += 2) {
            due("stage(" + i + ", " + pairs[k] + ")", x.stage(i, pairs[k]), pairs[k + 1]);
        }
    }

    /** The k-th of the last steps done: its tick, its stage, its way. */
    void step(TapCascade x, int k, int tick, int stage, int way) {
        due("done(" + k + ", 0)", x.done(k, 0), tick);
        due("done(" + k + ", 1)", x.done(k, 1), stage);
        due("done(" + k + ", 2)", x.done(k, 2), way);
    }

    void settled(TapCascade x, int quiet, int from, int ticks, int steps) {
        due("settle(0)", x.settle(0), quiet);
        due("settle(1)", x.settle(1), from);
        due("settle(2)", x.settle(2), ticks);
        due("settle(3)", x.settle(3), steps);
    }

    void end() {
        System.out.println(file + ": " + rows + " answers, " + wrong + " not as due");
        if (wrong != 0 || rows == 0) {
            System.exit(1);
        }
    }

    static TapCascade written(String text) {
        TapCascade x = new TapCascade();
        write(x, text);
        return x;
    }

    static void write(TapCascade x, String text) {
        for (int i = 0; i < text.length(); i++) {
            x.write(text.charAt(i));
        }
    }

    static TapCascade laid(String text) {
        TapCascade x = written(text);
        if (x.lay() < 1) {
            System.out.println("could not be laid: " + text);
            System.exit(1);
        }
        return x;
    }
}
