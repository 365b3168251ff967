import java.util.ArrayList;
import java.util.List;
import java.util.Random;

/** Random runs of calls (always the same ones), held against the model. */
public final class RandomRunsTest {
    private static final int RUNS = 400;
    private static final int CALLS = 512;

    private final Check check;
    private final Random random;
    private final SnowSuits x = new SnowSuits();
    private final Model model = new Model();
    private final List<String> calls = new ArrayList<>();

    private RandomRunsTest(Check check, int run) {
        this.check = check;
        this.random = new Random(run);
    }

    public static void main(String[] args) {
        Check check = new Check();
        for (int run = 0; run < RUNS && check.wrong() == 0; run++) {
            new RandomRunsTest(check, run).play();
        }
        check.end("RandomRunsTest");
    }

    private void play() {
        int searches = 0;
        while (calls.size() < CALLS && check.wrong() == 0) {
            int n = random.nextInt(100);
            if (n < 4 && calls.size() < CALLS - 3) {
                writeText();
            } else if (n < 60) {
                act();
            } else if (n < 62 && searches < 6) {
                searches++;
                int k = number(-3, 7);
                due("best(" + k + ")", x.best(k), model.best(k));
            } else {
                ask();
            }
        }
        if (check.wrong() != 0) {
            calls.forEach(System.out::println);
        }
    }

    private void due(String call, int got, int want) {
        calls.add(call + " = " + got);
        check.due("call " + calls.size() + ": " + call, got, want);
    }

    /** Mostly within these bounds, now and then beside them. */
    private int number(int least, int most) {
        int n = random.nextInt(60);
        if (n == 0) {
            return least - 1;
        }
        if (n == 1) {
            return most + 1;
        }
        if (n == 2) {
            return random.nextInt();
        }
        return least + random.nextInt(most - least + 1);
    }

    private void writeText() {
        if (random.nextInt(4) != 0) {
            due("wipe()", x.wipe(), model.wipe());
        }
        StringBuilder text = new StringBuilder();
        int items = random.nextInt(12);
        for (int i = 0; i < items; i++) {
            text.append(item());
        }
        if (text.length() > 0 && random.nextInt(4) == 0) {
            text.setCharAt(random.nextInt(text.length()), "cwhgl0123456789,;; x".charAt(random.nextInt(20)));
        }
        // With what is asked behind it, no more calls than an object is used for.
        for (int i = 0; i < text.length() && calls.size() < CALLS - 2; i++) {
            int letter = text.charAt(i);
            due("write(" + letter + ")", x.write(letter), model.write(letter));
        }
        due("fault()", x.fault(), model.fault());
        due("lay()", x.lay(), model.lay());
    }

    private String item() {
        boolean wild = random.nextInt(30) == 0;
        switch (random.nextInt(8)) {
            case 0: return "w" + (wild ? random.nextInt(120) : 1 + random.nextInt(3)) + ";";
            case 1: return "h" + (wild ? random.nextInt(120) : 1 + random.nextInt(20)) + ";";
            case 2: return "g" + (wild ? random.nextInt(120) : 1 + random.nextInt(4)) + ";";
            case 3: return "l" + (wild ? random.nextInt(120) : 1 + random.nextInt(99)) + ";";
            default:
                String zero = random.nextInt(9) == 0 ? "0" : "";
                int s = wild ? random.nextInt(120) : 1 + random.nextInt(12);
                return "c" + zero + random.nextInt(wild ? 6 : 4) + "," + (s < 10 ? zero : "") + s + ";";
        }
    }

    private void act() {
        int w = number(0, 2);
        int c = number(0, 5);
        switch (random.nextInt(12)) {
            case 0: due("layOut(" + w + ")", x.layOut(w), model.layOut(w)); break;
            case 1: due("door(" + w + ")", x.door(w), model.door(w)); break;
            case 2: due("undo()", x.undo(), model.undo()); break;
            case 3: due("keep()", x.keep(), model.keep()); break;
            case 4: due("back()", x.back(), model.back()); break;
            case 5: case 6: case 7:
                int n = random.nextInt(5) == 0 ? number(1, 40) : 1 + random.nextInt(6);
                due("pass(" + n + ")", x.pass(n), model.pass(n));
                break;
            default: due("take(" + w + ", " + c + ")", x.take(w, c), model.take(w, c)); break;
        }
    }

    private void ask() {
        int w = number(0, 2);
        int c = number(0, 5);
        int what = number(0, 1);
        switch (random.nextInt(14)) {
            case 0: due("asTold(" + what + ")", x.asTold(what), model.asTold(what)); break;
            case 1: due("last()", x.last(), model.last()); break;
            case 2: due("pays()", x.pays(), model.pays()); break;
            case 3: due("women(" + (w + 1) + ")", x.women(w + 1), model.women(w + 1)); break;
            case 4: askSeen(c, what); break;
            case 5: due("kinds(" + c + ")", x.kinds(c), model.kinds(c)); break;
            case 6: due("takes(" + c + ", " + what + ")", x.takes(c, what), model.takes(c, what)); break;
            case 7: askMust(what); break;
            case 8: askMorning(what); break;
            case 9: due("woman(" + w + ", " + what + ")", x.woman(w, what), model.woman(w, what)); break;
            case 10: case 11:
                int how = number(0, 5);
                due("child(" + c + ", " + how + ")", x.child(c, how), model.child(c, how));
                break;
            default: askCounts(); break;
        }
    }

    private void askSeen(int c, int laidOut) {
        if (random.nextInt(10) == 0) {
            due("forget()", x.forget(), model.forget());
            return;
        }
        int n = random.nextInt(3) == 0 ? number(1, 20) : Math.max(1, model.child(c, 4) - laidOut);
        due("seen(" + c + ", " + n + ", " + laidOut + ")", x.seen(c, n, laidOut), model.seen(c, n, laidOut));
    }

    private void askMust(int part) {
        int m = number(0, 6);
        int of = number(0, 10);
        due("must(" + m + ", " + of + ", " + part + ")", x.must(m, of, part), model.must(m, of, part));
    }

    private void askMorning(int what) {
        int z = number(0, 9999);
        int n = number(1, 60);
        due("morning(" + z + ", " + n + ", " + what + ")", x.morning(z, n, what), model.morning(z, n, what));
    }

    private void askCounts() {
        int what = number(0, 13);
        due("count(" + what + ")", x.count(what), model.count(what));
    }
}
