import java.util.ArrayList;
import java.util.List;
import java.util.function.Function;
import java.util.function.Supplier;
import java.util.function.ToIntBiFunction;
import java.util.function.ToIntFunction;

/**
 * "BAD: a number is none that is told (CHILDREN, WOMEN: such as there are). NO: not as things stand. NONE: there is none.
 * FULL. Of several the first in this order; nothing changes then."
 *
 * Every refused call is made on an object that has something of everything, which is then held against a twin that
 * was not asked. No object is used for more than 512 calls: each way to look at it has twins of its own.
 */
public final class RefusedTest {
    private static final int BAD = -1, NO = -2, FULL = -3, NONE = -4;

    private static final Check CHECK = new Check();

    public static void main(String[] args) {
        busyIsSo();
        childrenThatThereAre();
        womenThatThereAre();
        numbersThatAreTold();
        letters();
        fewerChildrenAndWomen();
        notAsThingsStand();
        notInTheText();
        noneAtAll();
        full();
        ofSeveralTheFirst();
        tellingChangesNothing();
        tellingIsOfNow();
        CHECK.end("RefusedTest");
    }

    /**
     * Children 0 and 1 are ready, 2 is bare, 3 in hands, 4 out; woman 0 dresses, 1 is free, 2 out; eight acts can be
     * undone, one hall is kept, two things are seen, and the text is another one than that laid.
     */
    private static SnowSuits busy() {
        SnowSuits x = Halls.of("c0,4;c1,5;c2,3;c3,4;c0,2;w3;h5;g1;l40;");
        x.take(0, 0);
        x.take(1, 1);
        x.take(2, 4);
        x.pass(2);
        x.door(2);
        x.pass(1);
        x.keep();
        x.pass(1);
        x.take(0, 3);
        x.seen(0, 4, 0);
        x.seen(1, 2, 1);
        x.wipe();
        Halls.tell(x, "c0,1;w1;");
        return x;
    }

    private static void busyIsSo() {
        SnowSuits x = busy();
        int[] children = {2, 2, 0, 1, 3};
        for (int c = 0; c < children.length; c++) {
            CHECK.due("busy: child(" + c + ", 1)", x.child(c, 1), children[c]);
        }
        int[] women = {1, 0, 3};
        for (int w = 0; w < women.length; w++) {
            CHECK.due("busy: woman(" + w + ", 0)", x.woman(w, 0), women[w]);
        }
        int[] counts = {2, 8, 1, 8};
        for (int i = 0; i < counts.length; i++) {
            CHECK.due("busy: count(" + (10 + i) + ")", x.count(10 + i), counts[i]);
        }
    }

    /** Two women, one of whom lays out; the only child is bare. */
    private static SnowSuits laying() {
        SnowSuits x = Halls.of("c0,4;w2;");
        x.layOut(1);
        return x;
    }

    private static SnowSuits laidOut() {
        SnowSuits x = laying();
        x.pass(3);
        return x;
    }

    private static SnowSuits atMinute(int minute) {
        SnowSuits x = Halls.of("c0,1;c2,4;w2;h2;");
        x.take(0, 0);
        for (int left = minute; left > 0; left -= 40) {
            x.pass(Math.min(left, 40));
        }
        return x;
    }

    /** 200 letters, 8 seen, 2 kept, 8 to be undone. */
    private static SnowSuits fullOfAll() {
        String most = "c0,4;c1,5;c2,3;c3,4;h5;g2;l40;w02;w02;" + "w2;".repeat(54);
        CHECK.due("letters of the full text", most.length(), 200);
        SnowSuits x = Halls.of(most);
        for (int i = 0; i < 8; i++) {
            x.seen(i % 4, i + 1, i % 2);
            x.pass(1);
        }
        x.keep();
        x.take(1, 2);
        x.keep();
        return x;
    }

    /** Lunch is ahead of all by any row, and no child takes four minutes and one as well. */
    private static SnowSuits hopeless() {
        SnowSuits x = Halls.of("c0,4;c0,5;w1;l8;");
        x.seen(0, 4, 0);
        x.seen(0, 1, 0);
        return x;
    }

    private static void due(Supplier<SnowSuits> hall, int want, String call, ToIntFunction<SnowSuits> asked) {
        CHECK.due(call, asked.applyAsInt(hall.get()), want);
        nothingChanges(hall, call, asked);
    }

    private static void nothingChanges(Supplier<SnowSuits> hall, String call, ToIntFunction<SnowSuits> asked) {
        same(hall, call + ", all that can be told", asked, RefusedTest::all);
        same(hall, call + ", what is undone", asked, RefusedTest::undone);
        same(hall, call + ", what was kept", asked, RefusedTest::kept);
        same(hall, call + ", what the text lays", asked, RefusedTest::laid);
    }

    private static void same(Supplier<SnowSuits> hall, String call, ToIntFunction<SnowSuits> asked,
            Function<SnowSuits, List<Integer>> look) {
        SnowSuits x = hall.get();
        asked.applyAsInt(x);
        CHECK.isTrue("nothing changes by " + call, look.apply(x).equals(look.apply(hall.get())));
    }

    private static List<Integer> all(SnowSuits x) {
        List<Integer> told = new ArrayList<>(how(x));
        for (int what = 0; what <= 13; what++) {
            told.add(x.count(what));
        }
        for (int c = 0; c < 6; c++) {
            told.addAll(List.of(x.child(c, 0), x.child(c, 4), x.kinds(c), x.takes(c, 0), x.takes(c, 1)));
        }
        for (int k = -2; k < 6; k++) {
            told.add(x.best(k));
        }
        told.addAll(List.of(x.fault(), x.asTold(0), x.asTold(1), x.last(), x.pays(), x.women(1), x.women(2), x.women(3)));
        told.addAll(List.of(x.must(1, 3, 0), x.must(1, 3, 1), x.morning(7, 30, 0), x.morning(7, 30, 1)));
        return told;
    }

    private static List<Integer> how(SnowSuits x) {
        List<Integer> told = new ArrayList<>(List.of(x.count(2), x.count(8)));
        for (int c = 0; c < 6; c++) {
            told.addAll(List.of(x.child(c, 1), x.child(c, 2), x.child(c, 3), x.child(c, 5)));
        }
        for (int w = 0; w < 3; w++) {
            told.addAll(List.of(x.woman(w, 0), x.woman(w, 1)));
        }
        return told;
    }

    private static List<Integer> undone(SnowSuits x) {
        List<Integer> told = new ArrayList<>();
        for (int i = 0; i < 9; i++) {
            told.add(x.undo());
            told.addAll(briefly(x));
        }
        return told;
    }

    /** Few calls, for what is looked at again and again. */
    private static List<Integer> briefly(SnowSuits x) {
        List<Integer> told = new ArrayList<>();
        for (int what = 2; what <= 9; what++) {
            told.add(x.count(what));
        }
        for (int c = 0; c < 6; c++) {
            told.add(x.child(c, 1));
        }
        for (int w = 0; w < 3; w++) {
            told.add(x.woman(w, 1));
        }
        return told;
    }

    private static List<Integer> kept(SnowSuits x) {
        List<Integer> told = new ArrayList<>();
        for (int i = 0; i < 3; i++) {
            told.add(x.back());
            told.addAll(how(x));
        }
        return told;
    }

    private static List<Integer> laid(SnowSuits x) {
        List<Integer> told = new ArrayList<>(List.of(x.lay()));
        told.addAll(all(x));
        return told;
    }

    /** BAD for the numbers beside these and far from them, another answer for the least and the most of them. */
    private static void told(String call, int least, int most, ToIntBiFunction<SnowSuits, Integer> asked) {
        CHECK.isTrue(call + " of " + least + " is not BAD", asked.applyAsInt(busy(), least) != BAD);
        CHECK.isTrue(call + " of " + most + " is not BAD", asked.applyAsInt(busy(), most) != BAD);
        beside(call, least - 1, asked);
        beside(call, most + 1, asked);
        beside(call, Integer.MIN_VALUE, asked);
        beside(call, Integer.MAX_VALUE, asked);
    }

    private static void beside(String call, int n, ToIntBiFunction<SnowSuits, Integer> asked) {
        due(RefusedTest::busy, BAD, call + " of " + n, x -> asked.applyAsInt(x, n));
    }

    private static void childrenThatThereAre() {
        for (int what = 0; what <= 5; what++) {
            int asked = what;
            told("6 child(c, " + what + ")", 0, 4, (x, c) -> x.child(c, asked));
        }
        told("8 take(1, c)", 0, 4, (x, c) -> x.take(1, c));
        told("18 seen(c, 3, 1)", 0, 4, (x, c) -> x.seen(c, 3, 1));
        told("20 kinds(c)", 0, 4, (x, c) -> x.kinds(c));
        told("21 takes(c, 0)", 0, 4, (x, c) -> x.takes(c, 0));
        told("21 takes(c, 1)", 0, 4, (x, c) -> x.takes(c, 1));
    }

    private static void womenThatThereAre() {
        told("7 woman(w, 0)", 0, 2, (x, w) -> x.woman(w, 0));
        told("7 woman(w, 1)", 0, 2, (x, w) -> x.woman(w, 1));
        told("8 take(w, 2)", 0, 2, (x, w) -> x.take(w, 2));
        told("9 layOut(w)", 0, 2, (x, w) -> x.layOut(w));
        told("10 door(w)", 0, 2, (x, w) -> x.door(w));
    }

    private static void numbersThatAreTold() {
        told("6 child(0, what)", 0, 5, (x, n) -> x.child(0, n));
        told("7 woman(0, what)", 0, 1, (x, n) -> x.woman(0, n));
        told("11 pass(n)", 1, 40, (x, n) -> x.pass(n));
        told("13 asTold(what)", 0, 1, (x, n) -> x.asTold(n));
        told("17 women(n)", 1, 3, (x, n) -> x.women(n));
        told("18 seen(0, n, 0)", 1, 20, (x, n) -> x.seen(0, n, 0));
        told("18 seen(0, 4, laidOut)", 0, 1, (x, n) -> x.seen(0, 4, n));
        told("21 takes(0, what)", 0, 1, (x, n) -> x.takes(0, n));
        told("22 must(m, 5, 0)", 0, 6, (x, n) -> x.must(n, 5, 0));
        told("22 must(1, x, 0)", 0, 10, (x, n) -> x.must(1, n, 0));
        told("22 must(1, 5, part)", 0, 1, (x, n) -> x.must(1, 5, n));
        told("23 morning(z, 9, 0)", 0, 9999, (x, n) -> x.morning(n, 9, 0));
        told("23 morning(7, n, 0)", 1, 60, (x, n) -> x.morning(7, n, 0));
        told("23 morning(7, 9, what)", 0, 1, (x, n) -> x.morning(7, 9, n));
        told("26 count(what)", 0, 13, (x, n) -> x.count(n));
        // There is a k-th one or not, however great k is: only below -2 no k is told.
        due(RefusedTest::busy, BAD, "14 best(-3)", x -> x.best(-3));
        due(RefusedTest::busy, BAD, "14 best(MIN)", x -> x.best(Integer.MIN_VALUE));
        due(RefusedTest::busy, NONE, "14 best(5) of five", x -> x.best(5));
        due(RefusedTest::busy, NONE, "14 best(MAX) of five", x -> x.best(Integer.MAX_VALUE));
        CHECK.isTrue("14 best(-2) is not BAD", busy().best(-2) >= 0);
        CHECK.isTrue("14 best(4) of five", busy().best(4) >= 0);
    }

    private static void letters() {
        told("2 write(letter)", 32, 126, (x, letter) -> x.write(letter));
        // Numbers that would be letters if cut to 8 or 16 bits.
        beside("2 write(letter)", 256 + 65, (x, letter) -> x.write(letter));
        beside("2 write(letter)", 65536 + 65, (x, letter) -> x.write(letter));
    }

    /** There is place for six and three, but only such as there are can be told. */
    private static void fewerChildrenAndWomen() {
        Supplier<SnowSuits> one = () -> Halls.of("c1,5;w1;");
        due(one, BAD, "6 child(1, 0) of one", x -> x.child(1, 0));
        due(one, BAD, "7 woman(1, 0) of one", x -> x.woman(1, 0));
        due(one, BAD, "8 take(0, 1) of one", x -> x.take(0, 1));
        due(one, BAD, "8 take(1, 0) of one", x -> x.take(1, 0));
        due(one, BAD, "9 layOut(1) of one", x -> x.layOut(1));
        due(one, BAD, "10 door(1) of one", x -> x.door(1));
        due(one, BAD, "18 seen(1, 3, 0) of one", x -> x.seen(1, 3, 0));
        due(one, BAD, "20 kinds(1) of one", x -> x.kinds(1));
        due(one, BAD, "21 takes(1, 0) of one", x -> x.takes(1, 0));
        CHECK.due("17 women(3) of one: were there so many", one.get().women(3), 3);
    }

    private static void notAsThingsStand() {
        due(RefusedTest::busy, NO, "8 take(0, 2), she dresses", x -> x.take(0, 2));
        due(RefusedTest::busy, NO, "8 take(2, 2), she is out", x -> x.take(2, 2));
        due(RefusedTest::busy, NO, "8 take(1, 1), it is ready", x -> x.take(1, 1));
        due(RefusedTest::busy, NO, "8 take(1, 3), it is in hands", x -> x.take(1, 3));
        due(RefusedTest::busy, NO, "8 take(1, 4), it is out", x -> x.take(1, 4));
        due(RefusedTest::laying, NO, "8 take(1, 0), she lays out", x -> x.take(1, 0));
        due(RefusedTest::busy, NO, "9 layOut(0), she dresses", x -> x.layOut(0));
        due(RefusedTest::busy, NO, "9 layOut(2), she is out", x -> x.layOut(2));
        due(RefusedTest::laying, NO, "9 layOut(1), she does it", x -> x.layOut(1));
        due(RefusedTest::laying, NO, "9 layOut(0), another one does it", x -> x.layOut(0));
        due(RefusedTest::laidOut, NO, "9 layOut(1), she has", x -> x.layOut(1));
        due(RefusedTest::laidOut, NO, "9 layOut(0), another one has", x -> x.layOut(0));
        due(RefusedTest::busy, NO, "10 door(0), she dresses", x -> x.door(0));
        due(RefusedTest::busy, NO, "10 door(2), she is out", x -> x.door(2));
        due(RefusedTest::laidOut, NO, "10 door(0), nobody is ready", x -> x.door(0));
        due(() -> atMinute(960), NO, "11 pass(40) at 960", x -> x.pass(40));
        due(() -> atMinute(999), NO, "11 pass(1) at 999", x -> x.pass(1));
        due(() -> atMinute(999), NO, "11 pass(40) at 999", x -> x.pass(40));
        CHECK.due("11 pass(39) at 960", atMinute(960).pass(39), 0);
        due(SnowSuits::new, NO, "12 undo() of nothing", x -> x.undo());
        due(SnowSuits::new, NO, "25 back() of nothing", x -> x.back());
        // What is kept is no act, and acts are not kept.
        due(() -> keptOnly(), NO, "12 undo() of what is kept", x -> x.undo());
        due(RefusedTest::laidOut, NO, "25 back() of acts", x -> x.back());
    }

    private static SnowSuits keptOnly() {
        SnowSuits x = new SnowSuits();
        x.keep();
        return x;
    }

    private static void notInTheText() {
        String[] texts = {"", "w3;h5;g2;l40;", "c0,1;c4,1;", "c0,1", "c0,1;w2", "c0,1;c0,1;c0,1;c0,1;c0,1;c0,1;c0,1;"};
        for (String text : texts) {
            due(() -> busyWith(text), NO, "5 lay() of " + text, x -> x.lay());
        }
    }

    private static SnowSuits busyWith(String text) {
        SnowSuits x = busy();
        x.wipe();
        Halls.tell(x, text);
        return x;
    }

    private static void noneAtAll() {
        due(RefusedTest::busy, NONE, "4 fault()", x -> x.fault());
        due(SnowSuits::new, NONE, "4 fault() of no letter", x -> x.fault());
        due(RefusedTest::busy, NONE, "6 child(2, 2), it is bare", x -> x.child(2, 2));
        due(RefusedTest::busy, NONE, "6 child(3, 2), it is in hands", x -> x.child(3, 2));
        due(RefusedTest::busy, NONE, "6 child(4, 2), it is out", x -> x.child(4, 2));
        due(RefusedTest::busy, NONE, "6 child(2, 3), it is bare", x -> x.child(2, 3));
        due(RefusedTest::busy, NONE, "6 child(0, 3), it is ready", x -> x.child(0, 3));
        due(RefusedTest::busy, NONE, "6 child(4, 3), it is out", x -> x.child(4, 3));
        due(RefusedTest::hopeless, NONE, "13 asTold(0)", x -> x.asTold(0));
        due(RefusedTest::hopeless, NONE, "13 asTold(1)", x -> x.asTold(1));
        for (int k = -2; k <= 2; k++) {
            int asked = k;
            due(RefusedTest::hopeless, NONE, "14 best(" + k + ")", x -> x.best(asked));
        }
        due(RefusedTest::hopeless, 0, "15 last()", x -> x.last());
        due(RefusedTest::hopeless, NONE, "16 pays()", x -> x.pays());
        due(RefusedTest::hopeless, NONE, "17 women(1)", x -> x.women(1));
        due(RefusedTest::hopeless, 0, "20 kinds(0)", x -> x.kinds(0));
        due(RefusedTest::hopeless, 0, "21 takes(0, 0)", x -> x.takes(0, 0));
        due(RefusedTest::hopeless, NONE, "21 takes(0, 1)", x -> x.takes(0, 1));
    }

    private static void full() {
        due(RefusedTest::fullOfAll, FULL, "2 write(32)", x -> x.write(32));
        due(RefusedTest::fullOfAll, FULL, "2 write(126)", x -> x.write(126));
        due(RefusedTest::fullOfAll, FULL, "18 seen(3, 20, 1)", x -> x.seen(3, 20, 1));
        due(RefusedTest::fullOfAll, FULL, "24 keep()", x -> x.keep());
        SnowSuits x = fullOfAll();
        CHECK.due("3 wipe() of the full text", x.wipe(), 200);
        CHECK.due("2 write(65) again", x.write(65), 1);
        CHECK.due("19 forget() of eight", x.forget(), 8);
        CHECK.due("18 seen(3, 20, 1) again", x.seen(3, 20, 1), 1);
        CHECK.due("25 back() of two", x.back(), 1);
        CHECK.due("24 keep() again", x.keep(), 2);
        CHECK.due("24 keep() of three", x.keep(), FULL);
    }

    private static void ofSeveralTheFirst() {
        due(RefusedTest::fullOfAll, BAD, "2 write(31), bad and full", x -> x.write(31));
        due(RefusedTest::fullOfAll, BAD, "2 write(127), bad and full", x -> x.write(127));
        due(RefusedTest::fullOfAll, BAD, "18 seen(4, 3, 0), bad and full", x -> x.seen(4, 3, 0));
        due(RefusedTest::fullOfAll, BAD, "18 seen(0, 21, 0), bad and full", x -> x.seen(0, 21, 0));
        due(RefusedTest::fullOfAll, BAD, "18 seen(0, 3, 2), bad and full", x -> x.seen(0, 3, 2));
        due(RefusedTest::busy, BAD, "8 take(2, 5), she is out, too", x -> x.take(2, 5));
        due(RefusedTest::busy, BAD, "8 take(3, 4), it is out, too", x -> x.take(3, 4));
        due(RefusedTest::laying, BAD, "9 layOut(2), one does it, too", x -> x.layOut(2));
        due(RefusedTest::laidOut, BAD, "9 layOut(2), one has, too", x -> x.layOut(2));
        due(RefusedTest::laidOut, BAD, "10 door(2), nobody is ready, too", x -> x.door(2));
        due(() -> atMinute(999), BAD, "11 pass(41) at 999", x -> x.pass(41));
        due(() -> atMinute(999), BAD, "11 pass(0) at 999", x -> x.pass(0));
        due(RefusedTest::hopeless, BAD, "6 child(2, 2), bad and none", x -> x.child(2, 2));
        due(RefusedTest::hopeless, BAD, "6 child(2, 3), bad and none", x -> x.child(2, 3));
        due(RefusedTest::hopeless, BAD, "13 asTold(2), bad and none", x -> x.asTold(2));
        due(RefusedTest::hopeless, BAD, "13 asTold(-1), bad and none", x -> x.asTold(-1));
        due(RefusedTest::hopeless, BAD, "14 best(-3), bad and none", x -> x.best(-3));
        due(RefusedTest::hopeless, BAD, "17 women(0), bad and none", x -> x.women(0));
        due(RefusedTest::hopeless, BAD, "21 takes(0, 2), bad and none", x -> x.takes(0, 2));
    }

    /** What is asked and answered changes nothing either ("A MORNING .. (nothing changes by it)"). */
    private static void tellingChangesNothing() {
        nothingChanges(RefusedTest::busy, "6 child(0, 2)", x -> x.child(0, 2));
        nothingChanges(RefusedTest::busy, "7 woman(0, 1)", x -> x.woman(0, 1));
        nothingChanges(RefusedTest::busy, "13 asTold(0)", x -> x.asTold(0));
        nothingChanges(RefusedTest::busy, "14 best(-1)", x -> x.best(-1));
        nothingChanges(RefusedTest::busy, "15 last()", x -> x.last());
        nothingChanges(RefusedTest::busy, "16 pays()", x -> x.pays());
        nothingChanges(RefusedTest::busy, "17 women(1)", x -> x.women(1));
        nothingChanges(RefusedTest::busy, "20 kinds(0)", x -> x.kinds(0));
        nothingChanges(RefusedTest::busy, "21 takes(0, 0)", x -> x.takes(0, 0));
        nothingChanges(RefusedTest::busy, "22 must(1, 5, 0)", x -> x.must(1, 5, 0));
        nothingChanges(RefusedTest::busy, "23 morning(0, 60, 0)", x -> x.morning(0, 60, 0));
        nothingChanges(RefusedTest::busy, "23 morning(9999, 60, 1)", x -> x.morning(9999, 60, 1));
        nothingChanges(RefusedTest::busy, "26 count(9)", x -> x.count(9));
        nothingChanges(() -> busyWith("c0,1;c4,1;"), "4 fault()", x -> x.fault());
    }

    /** What was told ahead of two acts, whichever they are, is no more told behind them. */
    private static void tellingIsOfNow() {
        List<ToIntFunction<SnowSuits>> acts = List.of(x -> x.take(1, 2), x -> x.layOut(1), x -> x.door(1), x -> x.pass(1),
            x -> x.pass(6), x -> x.undo(), x -> x.back(), x -> x.lay());
        for (int first = 0; first < acts.size(); first++) {
            for (int second = 0; second < acts.size(); second++) {
                SnowSuits asked = busy();
                SnowSuits twin = busy();
                all(asked);
                for (SnowSuits x : List.of(asked, twin)) {
                    acts.get(first).applyAsInt(x);
                    acts.get(second).applyAsInt(x);
                }
                String call = "14 all behind acts " + first + " and " + second;
                CHECK.isTrue(call + ", asked ahead of them or not", all(asked).equals(all(twin)));
            }
        }
    }
}
