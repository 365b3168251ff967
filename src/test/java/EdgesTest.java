/** The sentences of the document that name a bound: the last that is so, and the first that is not. */
public final class EdgesTest {
    private static final int NO = -2, FULL = -3, NONE = -4;
    private static final String SIX = "c0,1;c0,1;c0,1;c0,1;c0,1;c0,1;";

    private static final Check CHECK = new Check();

    public static void main(String[] args) {
        letters200();
        faultAtTheEnd();
        figures();
        kindsAndMinutes();
        oneToSixChildren();
        oneToThreeWomen();
        boilsAbove();
        goAtATime();
        lunchAt();
        layOutTakesThree();
        laidOutForGood();
        oneMinuteIsEnough();
        boilsAgainAndAgain();
        outStaysOut();
        doorForTheHottest();
        doorOfTheLastWoman();
        undoTheLastEight();
        undoAllOfOneCall();
        undoActsAlone();
        minutesInAll();
        doorAgainAndAgain();
        doorAtGOrMore();
        doorWithoutFreeOne();
        allOutAlready();
        allOutByLunch();
        bestRows();
        bestIsTheLastRow();
        lastOfFew();
        paysOrNot();
        womenFromTheFirst();
        seenEight();
        kindsByOneAtLeast();
        takesOneToTwelve();
        mustSoMany();
        morningAtTheEnd();
        keptTwo();
        CHECK.end("EdgesTest");
    }

    private static void due(String call, int got, int want) {
        CHECK.due(call, got, want);
    }

    /** "A TEXT is letters (200 at most)": one of 200 can be laid, and the letter 201 is none of it. */
    private static void letters200() {
        String most = "w1;".repeat(65) + "c3,2;";
        CHECK.due("letters", most.length(), 200);
        SnowSuits x = new SnowSuits();
        for (int i = 0; i < 200; i++) {
            due("2 write of " + (i + 1), x.write(most.charAt(i)), i + 1);
        }
        due("2 write(120) of 201", x.write('x'), FULL);
        due("4 fault() of 200", x.fault(), NONE);
        due("5 lay() of 200", x.lay(), 1);
        due("5 count(1)", x.count(1), 1);
        due("5 child(0, 4)", x.child(0, 4), 4);
        due("5 count(13), the text stays", x.count(13), 200);
        due("2 write(120) of 201 behind lay", x.write('x'), FULL);
        due("3 wipe() of 200", x.wipe(), 200);
        due("3 wipe() of 0", x.wipe(), 0);
        due("4 fault() of 0", x.fault(), NONE);
        due("2 write(120) of 1", x.write('x'), 1);
    }

    /** "FAULT: the place (from 0 on) of the first letter of the first ITEM that is not so." */
    private static void faultAtTheEnd() {
        faultOf("x", 0);
        faultOf("w1;".repeat(65) + "w01;x", 199);
        faultOf("w1;".repeat(65) + "w01;w", 199);
        faultOf("w1;".repeat(65) + "c0,1", 195);
        faultOf("w1;".repeat(65) + "w;c9;", 195);
        faultOf("w4;c9,9;", 0);
        faultOf("w3;w4;c9,9;", 3);
        faultOf("c0,1;" + "w3;".repeat(65), NONE);
        faultOf("~", 0);
        faultOf("c0,1; ", 5);
    }

    private static void faultOf(String text, int want) {
        SnowSuits x = new SnowSuits();
        Halls.tell(x, text);
        due("4 fault() of " + text, x.fault(), want);
    }

    /** "numbers (one or two figures) parted by , and a ; behind the last one" */
    private static void figures() {
        String[] none = {"c,1;", "c0,;", "w;", "h;", "g;", "l;"};
        String[] one = {"c0,1;", "w1;", "h9;", "g4;", "l9;"};
        String[] two = {"c03,12;", "w03;", "h20;", "g04;", "l99;"};
        String[] three = {"c003,1;", "c0,012;", "w003;", "h020;", "g004;", "l099;"};
        String[] notParted = {"c01;", "c0;1;", "c0.1;", "c0,,1;", "c,0,1;", "c0,1,;", "c0,1"};
        // Signs beside 0 and 9, and others where a figure is due.
        String[] noFigures = {"h:;", "l;;", "c0,:;", "c0,;;", "l/;", "c/,1;", "c0,/;", "l1:;", "l:1;", "c0,1:;", "c0,1/;",
            "l+1;", "l 1;", "l1 ;", "l-1;", "c0, 1;"};
        for (String[] wrong : new String[][] {none, three, notParted, noFigures}) {
            for (String text : wrong) {
                faultOf(text, 0);
                faultOf("l60;" + text, 4);
            }
        }
        for (String[] right : new String[][] {one, two}) {
            for (String text : right) {
                faultOf(text, NONE);
                faultOf("l60;" + text, NONE);
            }
        }
    }

    /**
     * "KIND K (0 PLAIN, 1 QUICK, 2 COOL, 3 CRYING) that takes S (1 to 12)"; "a QUICK one half of that, rounded up, a
     * CRYING one 2 more, all 1 less (1 at least), if things are LAID OUT"
     */
    private static void kindsAndMinutes() {
        int[][] without = {{1, 2, 11, 12}, {1, 1, 6, 6}, {1, 2, 11, 12}, {3, 4, 13, 14}};
        int[][] laidOut = {{1, 1, 10, 11}, {1, 1, 5, 5}, {1, 1, 10, 11}, {2, 3, 12, 13}};
        int[] s = {1, 2, 11, 12};
        for (int kind = 0; kind < 4; kind++) {
            for (int i = 0; i < 4; i++) {
                String text = "c" + kind + "," + s[i] + ";w1;";
                SnowSuits x = Halls.of(text);
                due("6 child(0, 0) of " + text, x.child(0, 0), kind);
                due("6 child(0, 4) of " + text, x.child(0, 4), without[kind][i]);
                due("8 take(0, 0) of " + text, x.take(0, 0), without[kind][i]);
                x.undo();
                x.layOut(0);
                x.pass(3);
                due("6 laid out: child(0, 4) of " + text, x.child(0, 4), laidOut[kind][i]);
                due("8 laid out: take(0, 0) of " + text, x.take(0, 0), laidOut[kind][i]);
            }
            faultOf("c" + kind + ",0;", 0);
            faultOf("c" + kind + ",13;", 0);
        }
        faultOf("c4,1;", 0);
        faultOf("c4,12;", 0);
    }

    /** "6 at most, 0, 1, .." */
    private static void oneToSixChildren() {
        for (int n = 1; n <= 6; n++) {
            StringBuilder text = new StringBuilder();
            for (int c = 0; c < n; c++) {
                text.append("c0,").append(c + 1).append(";");
            }
            SnowSuits x = new SnowSuits();
            Halls.tell(x, text.toString());
            due("5 lay() of " + n, x.lay(), n);
            due("26 count(0) of " + n, x.count(0), n);
            due("26 count(3) of " + n, x.count(3), n);
            for (int c = 0; c < n; c++) {
                due("6 child(" + c + ", 4) of " + n, x.child(c, 4), c + 1);
            }
        }
        faultOf(SIX, NONE);
        faultOf(SIX + "c0,1;", 30);
        faultOf("w1;" + SIX + "h5;c0,1;", 36);
    }

    /** "W (1 to 3) WOMEN, 0, 1, .. (2 without; of several the last one counts)" */
    private static void oneToThreeWomen() {
        for (int w = 1; w <= 3; w++) {
            SnowSuits x = Halls.of(SIX + "w" + w + ";");
            due("26 count(1) of w" + w, x.count(1), w);
            due("26 count(7) of w" + w, x.count(7), w);
            for (int i = 0; i < w; i++) {
                due("8 take by each of w" + w, x.take(i, i), 1);
            }
        }
        faultOf("w0;", 0);
        faultOf("w4;", 0);
        due("26 count(1) without", Halls.of("c0,1;").count(1), 2);
        due("26 count(1) of w3, then w1", Halls.of("w3;c0,1;w1;").count(1), 1);
        due("26 count(1) of w1, then w3", Halls.of("w1;w3;c0,1;").count(1), 3);
    }

    /** "one BOILS who is HOTTER than H (1 to 20) (9 without; of several the last one counts)" */
    private static void boilsAbove() {
        for (int h = 1; h <= 20; h++) {
            boilsAbove("h" + h + ";", h);
        }
        boilsAbove("", 9);
        boilsAbove("h2;h7;", 7);
        boilsAbove("h7;h2;", 2);
        faultOf("h0;", 0);
        faultOf("h21;", 0);
    }

    private static void boilsAbove(String item, int h) {
        SnowSuits x = Halls.of("c0,1;w1;" + item);
        Halls.dress(x, 0, 0);
        due("11 pass(" + h + ") by " + item, x.pass(h), 0);
        due("6 child(0, 2) by " + item, x.child(0, 2), h);
        due("6 child(0, 1) by " + item, x.child(0, 1), 2);
        due("11 pass(1) by " + item, x.pass(1), 1);
        due("6 child(0, 1), bare again by " + item, x.child(0, 1), 0);
    }

    /** "G (1 to 4) go out at a time (3 without; of several the last one counts)" */
    private static void goAtATime() {
        for (int g = 1; g <= 4; g++) {
            goAtATime("g" + g + ";", g);
        }
        goAtATime("", 3);
        goAtATime("g4;g2;", 2);
        goAtATime("g2;g4;", 4);
        faultOf("g0;", 0);
        faultOf("g5;", 0);
    }

    private static void goAtATime(String item, int g) {
        SnowSuits x = Halls.of(SIX + "w3;h20;" + item);
        Halls.dress(x, 0, 5, 4, 3, 2, 1);
        due("10 door(1) with five ready by " + item, x.door(1), bitsDown(5, g));
        due("10 door(0) with " + (5 - g) + " ready by " + item, x.door(0), bitsDown(5 - g, Math.min(g, 5 - g)));
    }

    /** So many bits from the highest on. */
    private static int bitsDown(int highest, int howMany) {
        int bits = 0;
        for (int c = highest; c > highest - howMany; c--) {
            bits += 1 << c;
        }
        return bits;
    }

    /** "LUNCH is at MINUTE L (1 to 99) (60 without; of several the last one counts)" */
    private static void lunchAt() {
        int[] lunches = {1, 2, 40, 98, 99};
        for (int lunch : lunches) {
            lunchAt("l" + lunch + ";", lunch);
        }
        lunchAt("", 60);
        lunchAt("l9;l30;", 30);
        lunchAt("l30;l9;", 9);
        faultOf("l0;", 0);
        faultOf("l100;", 0);
    }

    private static void lunchAt(String item, int lunch) {
        SnowSuits x = Halls.of("c0,1;w1;" + item);
        for (int left = lunch - 1; left > 0; left -= 40) {
            x.pass(Math.min(left, 40));
        }
        due("13 asTold(0) a minute ahead of lunch by " + item, x.asTold(0), 1);
        x.pass(1);
        due("13 asTold(0) at lunch by " + item, x.asTold(0), NONE);
        x.undo();
        x.take(0, 0);
        x.pass(1);
        due("13 asTold(0), ready at lunch by " + item, x.asTold(0), 0);
        x.pass(1);
        due("13 asTold(0), ready behind lunch by " + item, x.asTold(0), NONE);
    }

    /** "that takes 3 MINUTES; behind them things are LAID OUT" */
    private static void layOutTakesThree() {
        SnowSuits x = Halls.of("c0,5;c0,5;w2;");
        due("9 layOut(0)", x.layOut(0), 3);
        for (int left = 3; left > 0; left--) {
            due("7 woman(0, 1)", x.woman(0, 1), left);
            due("7 woman(0, 0)", x.woman(0, 0), 2);
            due("26 count(8)", x.count(8), 0);
            due("6 child(0, 4)", x.child(0, 4), 5);
            x.pass(1);
        }
        due("7 woman(0, 1)", x.woman(0, 1), 0);
        due("7 woman(0, 0)", x.woman(0, 0), 0);
        due("26 count(8)", x.count(8), 1);
        due("6 child(0, 4)", x.child(0, 4), 4);
    }

    /** "LAID OUT for good": she who did it may go; only what is undone is not. */
    private static void laidOutForGood() {
        SnowSuits x = Halls.of("c0,5;c0,5;w2;h20;");
        x.layOut(1);
        x.pass(3);
        Halls.dress(x, 0, 0);
        x.door(1);
        x.pass(40);
        due("26 count(8), she is out", x.count(8), 1);
        due("8 take(0, 1)", x.take(0, 1), 4);
        due("9 layOut(1)", x.layOut(1), NO);
        SnowSuits undone = Halls.of("c0,5;w1;");
        undone.layOut(0);
        undone.pass(3);
        undone.undo();
        due("12 count(8), undone", undone.count(8), 0);
        due("12 layOut(0), she does it still", undone.layOut(0), NO);
        undone.undo();
        due("12 layOut(0) again", undone.layOut(0), 3);
    }

    /** "who has none left is FREE, that CHILD READY, HOT by 0": in the same minute, and not hotter by it. */
    private static void oneMinuteIsEnough() {
        SnowSuits x = Halls.of("c0,1;c0,2;w2;");
        x.take(0, 0);
        x.take(1, 1);
        x.pass(1);
        due("7 woman(0, 0)", x.woman(0, 0), 0);
        due("6 child(0, 1)", x.child(0, 1), 2);
        due("6 child(0, 2)", x.child(0, 2), 0);
        due("6 child(0, 3)", x.child(0, 3), NONE);
        due("7 woman(1, 0)", x.woman(1, 0), 1);
        due("7 woman(1, 1)", x.woman(1, 1), 1);
        due("6 child(1, 3)", x.child(1, 3), 1);
        x.pass(1);
        due("6 child(0, 2)", x.child(0, 2), 1);
        due("6 child(1, 2)", x.child(1, 2), 0);
    }

    /** "who is HOTTER than H then BOILS: it is BARE again": and is counted each time; HOT by 0 when READY again. */
    private static void boilsAgainAndAgain() {
        SnowSuits x = Halls.of("c0,1;c0,1;w2;h1;");
        for (int i = 1; i <= 3; i++) {
            due("8 take(0, 1)", x.take(0, 1), 1);
            due("11 pass(1)", x.pass(1), 0);
            due("6 child(1, 2), hot by 0 again", x.child(1, 2), 0);
            due("11 pass(2)", x.pass(2), 1);
            due("6 child(1, 5)", x.child(1, 5), i);
            due("26 count(9)", x.count(9), i);
        }
        due("6 child(0, 5)", x.child(0, 5), 0);
        x.take(0, 0);
        x.take(1, 1);
        due("11 pass(40), each once: nobody takes it again", x.pass(40), 2);
        due("26 count(9)", x.count(9), 5);
        SnowSuits cool = Halls.of("c2,1;w1;h1;");
        Halls.dress(cool, 0, 0);
        due("11 pass(3), hotter by minute 2 alone", cool.pass(3), 0);
        due("6 child(0, 2)", cool.child(0, 2), 1);
        due("11 pass(1), minute 4", cool.pass(1), 1);
    }

    /** Who is OUT is neither hotter, nor boils, nor comes back. */
    private static void outStaysOut() {
        SnowSuits x = Halls.of("c0,1;w2;h1;");
        Halls.dress(x, 0, 0);
        x.pass(1);
        due("10 door(0), as hot as one can be", x.door(0), 1);
        due("11 pass(40)", x.pass(40), 0);
        due("6 child(0, 1)", x.child(0, 1), 3);
        due("6 child(0, 2)", x.child(0, 2), NONE);
        due("7 woman(0, 0)", x.woman(0, 0), 3);
        due("7 woman(0, 1)", x.woman(0, 1), 0);
        due("10 door(1), nobody is ready", x.door(1), NO);
    }

    /** "the HOTTEST first, of several the lowest" */
    private static void doorForTheHottest() {
        SnowSuits x = Halls.of("c0,1;c0,1;c2,1;c0,1;w3;g1;h9;");
        x.take(0, 3);
        x.take(1, 2);
        x.pass(1);
        x.take(0, 1);
        x.take(1, 0);
        x.pass(1);
        due("6 child(3, 2)", x.child(3, 2), 1);
        due("6 child(2, 2), cool in minute 1", x.child(2, 2), 0);
        due("10 door(2), the hottest is the highest", x.door(2), 8);
        due("10 door(1), of three the lowest", x.door(1), 1);
        x.undo();
        x.pass(1);
        due("6 child(2, 2), cool in minute 2", x.child(2, 2), 1);
        due("10 door(0), of three the lowest", x.door(0), 1);
        due("10 door(1), the last woman", x.door(1), 2 + 4);
    }

    /** "G of those READY (all, if there are no more, or she is the last WOMAN not OUT)" */
    private static void doorOfTheLastWoman() {
        SnowSuits x = Halls.of(SIX + "w1;g1;h20;");
        Halls.dress(x, 0, 0, 1, 2, 3, 4, 5);
        due("10 door(0), one woman and six", x.door(0), 63);
        SnowSuits lays = Halls.of(SIX + "w2;g1;h20;");
        Halls.dress(lays, 0, 0, 1);
        lays.layOut(1);
        due("10 door(0), another one lays out", lays.door(0), 1);
        lays.pass(3);
        due("10 door(1), the other one is out", lays.door(1), 2);
        SnowSuits dresses = Halls.of(SIX + "w2;g1;h20;");
        Halls.dress(dresses, 1, 4, 3);
        dresses.take(1, 0);
        due("10 door(0), another one dresses", dresses.door(0), 16);
        dresses.pass(1);
        due("10 door(1), the other one is out", dresses.door(1), 1 + 8);
        SnowSuits justG = Halls.of(SIX + "w2;g2;h20;");
        Halls.dress(justG, 0, 5, 2);
        due("10 door(1), just so many as go", justG.door(1), 4 + 32);
        due("26 count(5)", justG.count(5), 0);
    }

    /** "the last 8 can be": of nine the first can not, and what is done behind an undone one takes its place. */
    private static void undoTheLastEight() {
        SnowSuits x = Halls.of(SIX + "w3;h20;g1;");
        x.take(0, 0);
        for (int i = 1; i <= 8; i++) {
            due("26 count(11)", x.count(11), i);
            x.pass(1);
        }
        due("26 count(11) of nine", x.count(11), 8);
        for (int left = 7; left >= 0; left--) {
            due("12 undo()", x.undo(), left);
        }
        due("12 undo() of the ninth", x.undo(), NO);
        due("6 child(0, 1), the first is not undone", x.child(0, 1), 1);
        due("26 count(2)", x.count(2), 0);
        for (int i = 0; i < 7; i++) {
            x.pass(2);
        }
        x.undo();
        x.undo();
        x.layOut(2);
        x.pass(5);
        due("26 count(11)", x.count(11), 7);
        due("12 undo()", x.undo(), 6);
        due("26 count(2)", x.count(2), 10);
        due("12 undo()", x.undo(), 5);
        due("7 woman(2, 0)", x.woman(2, 0), 0);
        due("12 undo()", x.undo(), 4);
        due("26 count(2)", x.count(2), 8);
    }

    /** "MINUTES (all of one call at once; such by which nothing becomes another, too)" */
    private static void undoAllOfOneCall() {
        SnowSuits x = Halls.of("c0,1;w1;h1;");
        Halls.dress(x, 0, 0);
        due("11 pass(40)", x.pass(40), 1);
        due("12 undo()", x.undo(), 2);
        due("26 count(2)", x.count(2), 1);
        due("6 child(0, 1)", x.child(0, 1), 2);
        x.door(0);
        due("11 pass(1), all are out", x.pass(1), 0);
        due("26 count(11)", x.count(11), 4);
        due("12 undo() of it", x.undo(), 3);
        due("26 count(2)", x.count(2), 1);
        due("6 child(0, 1), it is out still", x.child(0, 1), 3);
        due("12 undo() of the door", x.undo(), 2);
        due("6 child(0, 1)", x.child(0, 1), 2);
    }

    /** "UNDONE is the latest of taking, laying out, the DOOR, MINUTES": nothing else is. */
    private static void undoActsAlone() {
        SnowSuits x = Halls.of("c0,4;w2;");
        x.take(0, 0);
        x.seen(0, 4, 0);
        x.keep();
        x.keep();
        x.back();
        due("25 count(11), nothing is undone", x.count(11), 0);
        x.layOut(1);
        x.seen(0, 3, 1);
        x.forget();
        x.seen(0, 2, 1);
        x.keep();
        x.wipe();
        x.write('w');
        x.asTold(0);
        x.morning(5, 50, 0);
        due("26 count(11)", x.count(11), 1);
        due("12 undo()", x.undo(), 0);
        due("7 woman(1, 0)", x.woman(1, 0), 0);
        due("7 woman(0, 0)", x.woman(0, 0), 1);
        due("26 count(10), seen", x.count(10), 1);
        due("26 count(12), kept", x.count(12), 2);
        due("26 count(13), letters", x.count(13), 1);
    }

    /** "n (1 to 40) MINUTES go by"; "NO: it would be above 999 in all" */
    private static void minutesInAll() {
        SnowSuits x = new SnowSuits();
        for (int i = 1; i <= 24; i++) {
            due("11 pass(40)", x.pass(40), 0);
            due("26 count(2)", x.count(2), 40 * i);
        }
        due("11 pass(40) to 1000", x.pass(40), NO);
        due("11 pass(39) to 999", x.pass(39), 0);
        due("11 pass(1) to 1000", x.pass(1), NO);
        due("26 count(2)", x.count(2), 999);
        due("26 count(11)", x.count(11), 8);
        x.undo();
        due("11 pass(38) to 998", x.pass(38), 0);
        due("11 pass(2) to 1000", x.pass(2), NO);
        due("11 pass(1) to 999", x.pass(1), 0);
        due("8 take(0, 0) at 999", x.take(0, 0), 4);
    }

    /** "first the DOOR, again and again": both free ones go at minute 1, and the third has to dress 3 alone. */
    private static void doorAgainAndAgain() {
        due("13 asTold(0)", Halls.of("c0,1;c0,1;c0,5;c0,3;w3;g1;").asTold(0), 8);
        due("13 asTold(0), one at a time stays", Halls.of("c0,1;c0,1;c0,5;c0,3;w3;g2;").asTold(0), 5);
        // Three doors in one minute, one for each woman; the last one goes with all, but not ahead of a bare one.
        due("13 asTold(0), three doors", Halls.of("c0,1;c0,1;c0,1;w3;g1;").asTold(0), 1);
        due("13 asTold(0), two doors", Halls.of("c0,1;c0,1;c0,1;c0,4;w3;g1;").asTold(0), 5);
        // All are ready: the first of two goes with one, the other one with all others.
        SnowSuits x = Halls.of("c0,1;c0,1;c0,1;w2;g1;");
        Halls.dress(x, 0, 0, 1, 2);
        due("13 asTold(0), all are ready", x.asTold(0), 0);
    }

    /** "as long as G or more are READY and there is a FREE one who is not the last WOMAN not OUT (or all ..)" */
    private static void doorAtGOrMore() {
        // With 2 ready woman 1 goes at minute 1, and woman 0 dresses 2 and 3; with 3 at a time both dress.
        due("13 g2: asTold(0)", Halls.of("c0,1;c0,1;c0,4;c0,4;w2;g2;").asTold(0), 9);
        due("13 g3: asTold(0)", Halls.of("c0,1;c0,1;c0,4;c0,4;w2;g3;").asTold(0), 5);
        // The only woman does not go with some, however many they are.
        due("13 w1 g1: asTold(0)", Halls.of("c0,1;c0,1;c0,4;w1;g1;").asTold(0), 6);
        // Fewer than go at a time, but all that are not out.
        due("13 g4: asTold(0)", Halls.of("c0,1;c0,2;w2;g4;").asTold(0), 2);
        // One who dresses is no last woman: she who is free may go.
        SnowSuits x = Halls.of("c0,9;c0,1;w2;g1;h1;");
        due("13 asTold(0)", x.asTold(0), 9);
        due("13 asTold(1)", x.asTold(1), 0);
    }

    /** ".. and there is a FREE one": all are ready, but she lays out for three minutes. */
    private static void doorWithoutFreeOne() {
        SnowSuits x = Halls.of("c0,1;w1;h3;");
        Halls.dress(x, 0, 0);
        due("13 asTold(0)", x.asTold(0), 0);
        x.layOut(0);
        due("13 asTold(0) behind laying out", x.asTold(0), 3);
        due("13 asTold(1) behind laying out", x.asTold(1), 0);
        SnowSuits boils = Halls.of("c0,1;w1;h2;");
        Halls.dress(boils, 0, 0);
        boils.layOut(0);
        due("13 asTold(0), dressed again", boils.asTold(0), 4);
        due("13 asTold(1), dressed again", boils.asTold(1), 1);
    }

    /** "behind how many MINUTES from now .. all CHILDREN are OUT first": behind none if they are. */
    private static void allOutAlready() {
        SnowSuits x = Halls.of("c0,1;c0,1;w2;h1;l9;");
        x.take(0, 0);
        x.take(1, 1);
        x.pass(3);
        due("26 count(9)", x.count(9), 2);
        x.take(0, 0);
        x.take(1, 1);
        x.pass(1);
        x.door(1);
        due("26 count(6)", x.count(6), 2);
        due("13 asTold(0)", x.asTold(0), 0);
        due("13 asTold(1), those boiled ahead of now are not in these", x.asTold(1), 0);
        due("14 best(-1)", x.best(-1), 0);
        due("14 best(-2)", x.best(-2), 0);
        due("14 best(0)", x.best(0), 0);
        due("14 best(1)", x.best(1), 1);
        due("14 best(2)", x.best(2), NONE);
        due("15 last()", x.last(), 3);
        due("16 pays()", x.pays(), 100);
        x.pass(5);
        due("26 count(2), at lunch", x.count(2), 9);
        due("13 asTold(0)", x.asTold(0), 0);
        due("15 last()", x.last(), 3);
        x.pass(1);
        due("13 asTold(0), behind lunch", x.asTold(0), NONE);
        due("13 asTold(1), behind lunch", x.asTold(1), NONE);
        due("14 best(-1), behind lunch", x.best(-1), NONE);
        due("14 best(0), behind lunch", x.best(0), NONE);
        due("15 last(), behind lunch", x.last(), 0);
        due("16 pays(), behind lunch", x.pays(), NONE);
        due("17 women(2), from the first", x.women(2), 1);
    }

    /** "if it is no more than MINUTE L then" */
    private static void allOutByLunch() {
        String hall = "c0,3;c0,4;c0,2;w1;h20;";
        SnowSuits at = Halls.of(hall + "l9;");
        SnowSuits behind = Halls.of(hall + "l8;");
        due("13 asTold(0) at lunch", at.asTold(0), 9);
        due("13 asTold(0) behind it", behind.asTold(0), NONE);
        due("14 best(-1) at lunch", at.best(-1), 9);
        due("14 best(-1) behind it", behind.best(-1), NONE);
        due("15 last() at lunch", at.last(), 7);
        due("15 last() behind it", behind.last(), 0);
        due("17 women(1) at lunch", at.women(1), 9);
        due("17 women(1) behind it", behind.women(1), NONE);
        at.take(0, 1);
        at.pass(4);
        due("13 asTold(0) at lunch, four minutes on", at.asTold(0), 5);
        at.pass(1);
        due("13 asTold(0) behind it, five minutes on", at.asTold(0), NONE);
    }

    /** "the k-th (0 first; NONE: there are not so many)" */
    private static void bestRows() {
        SnowSuits one = Halls.of("c0,3;w1;");
        due("14 best(-1) of one", one.best(-1), 3);
        due("14 best(-2) of one", one.best(-2), 0);
        due("14 best(0) of one", one.best(0), 0);
        due("14 best(1) of one", one.best(1), NONE);
        SnowSuits six = Halls.of(SIX + "w1;h20;");
        due("14 best(-1) of six", six.best(-1), 6);
        for (int k = 0; k < 6; k++) {
            due("14 best(" + k + ") of six", six.best(k), k);
        }
        due("14 best(6) of six", six.best(6), NONE);
        due("14 best(7) of six", six.best(7), NONE);
        // The last of all rows: 0 and 1 boil behind a longer one, 2 is cool and is just not hotter than 4.
        SnowSuits turned = Halls.of("c0,1;c0,6;c2,4;w1;h4;");
        due("14 best(-1), the last row", turned.best(-1), 11);
        due("14 best(-2), the last row", turned.best(-2), 0);
        for (int k = 0; k < 3; k++) {
            due("14 best(" + k + "), the last row", turned.best(k), 2 - k);
        }
        // Rows near the end of all: none ahead of them is as soon with as few that boil.
        bestIs("c0,3;c0,6;c2,6;c1,2;c0,2;w2;h1;g4;", 12, 2, 4, 3, 2, 1, 0);
        bestIs("c0,5;c1,1;c0,1;c0,7;c2,2;c2,8;w1;h8;", 24, 0, 5, 4, 3, 0, 1, 2);
        bestIs("c1,5;c2,4;c3,1;c2,6;c1,1;c3,2;w1;h7;g4;l99;", 26, 2, 5, 4, 3, 1, 0, 2);
    }

    private static void bestIs(String text, int minutes, int boils, int... row) {
        bestIs(Halls.of(text), modelOf(text), text, minutes, boils, row);
    }

    private static Model modelOf(String text) {
        Model model = new Model();
        text.chars().forEach(model::write);
        model.lay();
        return model;
    }

    private static void bestIs(SnowSuits x, Model model, String of, int minutes, int boils, int... row) {
        due("14 the model's best(-1) of " + of, model.best(-1), minutes);
        due("14 best(-1) of " + of, x.best(-1), minutes);
        due("14 best(-2) of " + of, x.best(-2), boils);
        for (int k = 0; k < row.length; k++) {
            due("14 the model's best(" + k + ") of " + of, model.best(k), row[k]);
            due("14 best(" + k + ") of " + of, x.best(k), row[k]);
        }
    }

    /** "by that of all rows": the last of all 720, too, here the only one that is as soon with as few that boil. */
    private static void bestIsTheLastRow() {
        String hall = "c0,1;c1,5;c2,4;c2,5;c2,1;c3,9;w2;h2;g4;l50;";
        SnowSuits x = Halls.of(hall);
        Model model = modelOf(hall);
        due("8 take(0, 1)", x.take(0, 1), model.take(0, 1));
        due("11 pass(1)", x.pass(1), model.pass(1));
        bestIs(x, model, hall + " behind a minute", 15, 2, 5, 4, 3, 2, 1, 0);
    }

    /** "CHILDREN (bits) such that, were one of them behind all others (these by number) in the row" */
    private static void lastOfFew() {
        due("15 last() of one", Halls.of("c0,3;w1;").last(), 1);
        due("15 last() of six", Halls.of(SIX + "w1;").last(), 63);
        // As many minutes as one may be ready without boiling, and one more.
        due("15 last(), just none boils", Halls.of("c0,1;c0,4;w1;h4;").last(), 3);
        due("15 last(), just one boils", Halls.of("c0,1;c0,4;w1;h3;").last(), 1);
    }

    /** "by how many MINUTES sooner (less, if later)"; "none (she can not, or ALL OUT is none for one of both)" */
    private static void paysOrNot() {
        due("16 pays(), 3 later", Halls.of("c0,1;w1;").pays(), 97);
        due("16 pays(), 3 later, just at lunch", Halls.of("c0,1;w1;l4;").pays(), 97);
        due("16 pays(), 3 later, behind lunch", Halls.of("c0,1;w1;l3;").pays(), NONE);
        due("16 pays(), 1 sooner", Halls.of("c0,2;c0,2;c0,2;c0,2;w1;h20;l8;").pays(), 101);
        due("16 pays(), 1 sooner, but behind lunch without", Halls.of("c0,2;c0,2;c0,2;c0,2;w1;h20;l7;").pays(), NONE);
    }

    /** "ALL OUT AS TOLD from the first, nothing done, were there n of them" */
    private static void womenFromTheFirst() {
        SnowSuits x = Halls.of("c0,2;c0,4;w1;l6;");
        due("17 women(1)", x.women(1), 6);
        due("17 women(2)", x.women(2), 4);
        due("17 women(3)", x.women(3), 4);
        Halls.dress(x, 0, 0);
        x.layOut(0);
        x.pass(40);
        due("17 women(1) behind lunch", x.women(1), 6);
        x.wipe();
        Halls.tell(x, "c0,2;c0,4;w3;l5;");
        x.lay();
        due("17 women(1) of another hall", x.women(1), NONE);
        due("17 women(2) of another hall", x.women(2), 4);
    }

    /** "SEEN (8 at most) is that a CHILD took n (1 to 20) MINUTES, things LAID OUT, or not (1, 0)" */
    private static void seenEight() {
        SnowSuits x = Halls.of("c0,4;c0,5;");
        for (int i = 1; i <= 7; i++) {
            due("18 seen(0, 4, 0)", x.seen(0, 4, 0), i);
        }
        due("20 kinds(0)", x.kinds(0), 5);
        due("18 seen(0, 20, 1), the eighth", x.seen(0, 20, 1), 8);
        due("20 kinds(0) by the eighth", x.kinds(0), 0);
        due("18 seen(1, 5, 0), the ninth", x.seen(1, 5, 0), FULL);
        due("20 kinds(1), the ninth is not seen", x.kinds(1), 15);
        due("19 forget()", x.forget(), 8);
        due("19 forget() of none", x.forget(), 0);
        due("18 seen(1, 1, 0), the first again", x.seen(1, 1, 0), 1);
        due("5 lay()", x.lay(), 2);
        due("5 count(10), nothing is seen", x.count(10), 0);
        due("5 kinds(1)", x.kinds(1), 15);
    }

    /** "those (bits) by which all that is SEEN of it would be so, S as told", with "1 at least" */
    private static void kindsByOneAtLeast() {
        SnowSuits x = Halls.of("c3,1;c3,12;");
        x.seen(0, 1, 0);
        due("20 kinds(0), 1 of 1", x.kinds(0), 7);
        x.seen(0, 1, 1);
        due("20 kinds(0), 1 of 1 laid out", x.kinds(0), 7);
        x.seen(1, 14, 0);
        due("20 kinds(1), 14 of 12", x.kinds(1), 8);
        x.seen(1, 13, 1);
        due("20 kinds(1), and 13 laid out", x.kinds(1), 8);
        x.seen(1, 13, 0);
        due("20 kinds(1), and 13 without", x.kinds(1), 0);
        x.forget();
        x.seen(1, 6, 0);
        due("20 kinds(1), 6 of 12", x.kinds(1), 2);
        x.forget();
        x.seen(0, 2, 1);
        due("20 kinds(0), 2 of 1 laid out", x.kinds(0), 8);
    }

    /** "S (1 to 12) likewise, its KIND as told: how many; the least; none" */
    private static void takesOneToTwelve() {
        SnowSuits x = Halls.of("c0,4;c1,4;c2,4;c3,4;");
        takesBy(x, 0, 12, 0, 1, 12);
        takesBy(x, 0, 13, 0, 0, NONE);
        takesBy(x, 0, 11, 1, 1, 12);
        takesBy(x, 0, 12, 1, 0, NONE);
        takesBy(x, 0, 1, 0, 1, 1);
        takesBy(x, 0, 1, 1, 2, 1);
        takesBy(x, 1, 6, 0, 2, 11);
        takesBy(x, 1, 7, 0, 0, NONE);
        takesBy(x, 1, 5, 1, 2, 11);
        takesBy(x, 1, 1, 0, 2, 1);
        takesBy(x, 1, 1, 1, 4, 1);
        takesBy(x, 2, 12, 0, 1, 12);
        takesBy(x, 3, 14, 0, 1, 12);
        takesBy(x, 3, 15, 0, 0, NONE);
        takesBy(x, 3, 13, 1, 1, 12);
        takesBy(x, 3, 14, 1, 0, NONE);
        takesBy(x, 3, 3, 0, 1, 1);
        takesBy(x, 3, 2, 0, 0, NONE);
        takesBy(x, 3, 2, 1, 1, 1);
        takesBy(x, 3, 1, 1, 0, NONE);
        takesBy(x, 3, 20, 0, 0, NONE);
    }

    private static void takesBy(SnowSuits x, int c, int n, int laidOut, int howMany, int least) {
        String by = " by seen(" + c + ", " + n + ", " + laidOut + ")";
        x.forget();
        x.seen(c, n, laidOut);
        due("21 takes(" + c + ", 0)" + by, x.takes(c, 0), howMany);
        due("21 takes(" + c + ", 1)" + by, x.takes(c, 1), least);
    }

    /** "each CHILD that is READY must by x (0 to 10) of ten .. how likely it is that m or more must, in lowest terms" */
    private static void mustSoMany() {
        SnowSuits x = Halls.of(SIX + "w2;h20;");
        for (int ready = 0; ready <= 6; ready++) {
            if (ready > 0) {
                Halls.dress(x, 0, ready - 1);
            }
            for (int m = 0; m <= 6; m++) {
                mustBe(x, m, 0, m == 0 ? 1 : 0, 1);
                mustBe(x, m, 10, m <= ready ? 1 : 0, 1);
            }
            mustBe(x, 0, 3, 1, 1);
            if (ready < 6) {
                mustBe(x, ready + 1, 5, 0, 1);
            }
            mustBe(x, ready, 5, 1, 1 << ready);
        }
        x.take(1, 0);
        due("22 must(6, 9, 0) of six", x.must(6, 9, 0), 531441);
        due("22 must(6, 9, 1) of six", x.must(6, 9, 1), 1000000);
        x.door(1);
        mustBe(x, 4, 9, 0, 1);
        mustBe(x, 3, 1, 1, 1000);
    }

    private static void mustBe(SnowSuits x, int m, int of, int above, int below) {
        due("22 must(" + m + ", " + of + ", 0)", x.must(m, of, 0), above);
        due("22 must(" + m + ", " + of + ", 1)", x.must(m, of, 1), below);
    }

    /** "A MORNING .. of n (1 to 60) MINUTES from now on": from the last minute, too, and with nobody to do anything. */
    private static void morningAtTheEnd() {
        SnowSuits x = Halls.of("c0,1;w1;h1;");
        for (int i = 0; i < 24; i++) {
            x.pass(40);
        }
        x.pass(39);
        due("23 morning(0, 3, 1) at 999", x.morning(0, 3, 1), 1);
        due("23 morning(0, 60, 1) at 999", x.morning(0, 60, 1), 20);
        due("26 count(2)", x.count(2), 999);
        SnowSuits gone = Halls.of("c0,1;c0,1;w1;h1;");
        Halls.dress(gone, 0, 1);
        gone.door(0);
        due("23 morning(9999, 60, 0), no woman is left", gone.morning(9999, 60, 0), 2);
        due("23 morning(9999, 60, 1), no woman is left", gone.morning(9999, 60, 1), 0);
        // By z 0 the draw of the first minute is 0: child 0 is taken, and nobody is free to open.
        SnowSuits one = Halls.of("c0,2;c0,1;w2;h1;g1;");
        Halls.dress(one, 1, 1);
        due("23 morning(0, 1, 0), the other one opens", one.morning(0, 1, 0), 2);
        one.layOut(1);
        due("23 morning(0, 1, 0), the other one lays out", one.morning(0, 1, 0), 0);
        due("23 morning(0, 2, 1), so it boils", one.morning(0, 2, 1), 1);
    }

    /** "2 at most"; "As KEPT last (it is KEPT no more then)" */
    private static void keptTwo() {
        SnowSuits x = Halls.of("c0,9;");
        x.pass(1);
        due("24 keep()", x.keep(), 1);
        x.pass(1);
        due("24 keep()", x.keep(), 2);
        x.pass(1);
        due("24 keep()", x.keep(), FULL);
        due("25 back()", x.back(), 1);
        due("26 count(2)", x.count(2), 2);
        x.pass(5);
        due("24 keep()", x.keep(), 2);
        x.pass(5);
        due("25 back()", x.back(), 1);
        due("26 count(2)", x.count(2), 7);
        due("25 back()", x.back(), 0);
        due("26 count(2)", x.count(2), 1);
        due("25 back()", x.back(), NO);
        due("26 count(2)", x.count(2), 1);
        x.keep();
        x.keep();
        due("5 lay()", x.lay(), 1);
        due("5 back(), nothing is kept", x.back(), NO);
        due("24 keep()", x.keep(), 1);
    }
}
