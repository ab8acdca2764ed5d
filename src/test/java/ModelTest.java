import java.util.Random;

/** Runs of at most 512 calls drawn from fixed seeds, each answer held against the model's. */
final class ModelTest {
    private static final int CALLS = 512;

    private final Check check;
    private final Random random;
    private final String name;
    private final TapCascade x = new TapCascade();
    private final Model m = new Model();
    private int calls = 0;

    private ModelTest(Check check, int run) {
        this.check = check;
        this.random = new Random(run);
        this.name = "run " + run + ": ";
    }

    public static void main(String[] args) {
        Check check = new Check("ModelTest");
        for (int run = 0; run < 1500; run++) {
            new ModelTest(check, run).go(run % 3);
        }
        for (int run = 0; run < 20000; run++) {
            new ModelTest(check, run).layAnew(new ModelTest(check, -run).spoiledText());
        }
        check.end();
    }

    private void go(int kind) {
        if (kind != 0) {
            layAnew(randomText(kind == 2));
        }
        // one turn asks twice at most
        while (calls + 2 <= CALLS) {
            if (random.nextInt(4) == 0) {
                change();
            } else {
                ask();
            }
        }
    }

    private void same(String call, long got, long want) {
        calls++;
        check.due(name + call, got, want);
    }

    private int between(int low, int high) {
        return low + random.nextInt(high - low + 1);
    }

    private String randomText(boolean lively) {
        StringBuilder text = new StringBuilder();
        int stages = between(1, 4);
        for (int i = 0; i < stages; i++) {
            if (random.nextInt(3) == 0) {
                text.append("v").append(between(800, 1200)).append(";");
            }
            text.append("s").append(lively ? between(20, 50) : between(1, 50));
            text.append(",").append(lively ? between(950, 1050) : between(800, 1200));
            text.append(",").append(lively ? between(1, 15) : between(1, 99));
            text.append(",").append(between(1, 9)).append(",").append(between(0, 2));
            text.append(",").append(between(-50, 50));
            text.append(",").append(lively ? between(0, 2) : between(0, 9)).append(";");
        }
        if (random.nextInt(10) == 0) {
            text.setCharAt(random.nextInt(text.length()), "0123456789;,-sv x".charAt(random.nextInt(17)));
        }
        return text.toString();
    }

    /** A few letters of a text put in, taken out or become others. */
    private String spoiledText() {
        StringBuilder text = new StringBuilder(randomText(random.nextBoolean()));
        for (int k = between(0, 2); k >= 0 && text.length() > 0; k--) {
            int place = random.nextInt(text.length());
            char letter = "0123456789;,-sv x".charAt(random.nextInt(17));
            switch (random.nextInt(3)) {
                case 0:
                    text.insert(place, letter);
                    break;
                case 1:
                    text.deleteCharAt(place);
                    break;
                default:
                    text.setCharAt(place, letter);
                    break;
            }
        }
        return text.toString();
    }

    private void layAnew(String text) {
        if (calls + text.length() + 3 > CALLS) {
            return;
        }
        same("wipe()", x.wipe(), m.wipe());
        for (int i = 0; i < text.length(); i++) {
            int letter = text.charAt(i);
            same("write(" + letter + ")", x.write(letter), m.write(letter));
        }
        same("fault() of " + text, x.fault(), m.fault());
        same("lay() of " + text, x.lay(), m.lay());
    }

    private void change() {
        int i = between(-1, 4);
        int v;
        switch (random.nextInt(16)) {
            case 0:
                v = between(798, 1202);
                same("source(" + v + ")", x.source(v), m.source(v));
                break;
            case 1:
                v = between(949, 1051);
                same("tell(" + i + ", 0, " + v + ")", x.tell(i, 0, v), m.tell(i, 0, v));
                break;
            case 2:
                v = between(994, 1006);
                same("tell(" + i + ", 1, " + v + ")", x.tell(i, 1, v), m.tell(i, 1, v));
                break;
            case 3:
                v = between(0, 10);
                same("tell(" + i + ", 2, " + v + ")", x.tell(i, 2, v), m.tell(i, 2, v));
                break;
            case 4:
            case 5:
                v = between(-1, 2);
                same("stick(" + i + ", " + v + ")", x.stick(i, v), m.stick(i, v));
                break;
            case 6:
            case 7:
                same("undo()", x.undo(), m.undo());
                break;
            case 8:
                v = between(0, 51);
                same("tick(" + v + ")", x.tick(v), m.tick(v));
                break;
            case 9:
                if (random.nextInt(8) == 0) {
                    layAnew(randomText(random.nextBoolean()));
                }
                break;
            default:
                v = between(1, 3);
                same("tick(" + v + ")", x.tick(v), m.tick(v));
                break;
        }
    }

    private void ask() {
        int i = between(-1, 4);
        int what;
        switch (random.nextInt(9)) {
            case 0:
            case 1:
            case 2:
                what = between(-1, 16);
                same("stage(" + i + ", " + what + ")", x.stage(i, what), m.stage(i, what));
                break;
            case 3:
                what = between(-1, 12);
                same("count(" + what + ")", x.count(what), m.count(what));
                break;
            case 4:
                what = between(-1, 4);
                same("settle(" + what + ")", x.settle(what), m.settle(what));
                break;
            case 5:
                int k = between(-1, 21);
                what = between(-1, 3);
                same("done(" + k + ", " + what + ")", x.done(k, what), m.done(k, what));
                break;
            case 6:
                int g = between(-1, 10);
                same("waits(" + i + ", " + g + ")", x.waits(i, g), m.waits(i, g));
                same("graded(" + g + ")", x.graded(g), m.graded(g));
                break;
            case 7:
                what = between(-1, 2);
                same("ratio(" + i + ", " + what + ")", x.ratio(i, what), m.ratio(i, what));
                break;
            default:
                // the model tries every tap there is, so it is asked seldom
                if (random.nextInt(30) == 0) {
                    same("best(" + i + ")", x.best(i), m.best(i));
                }
                break;
        }
    }
}
