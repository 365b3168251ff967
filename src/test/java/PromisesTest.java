/** Every promise of the document: ordinary inputs, the edges that it names, and wrong inputs. */
public final class PromisesTest {
    private static final int BAD = -1, NO = -2, FULL = -3, NONE = -4;
    private static final int[] FAR = {Integer.MIN_VALUE, -1000, 1000, Integer.MAX_VALUE};

    private static final Check CHECK = new Check();

    public static void main(String[] args) {
        newObject();
        newObjectBoilsGoesAndLunches();
        write();
        wipe();
        fault();
        lay();
        layWithout();
        child();
        woman();
        take();
        layOut();
        door();
        pass();
        heatOfCool();
        undo();
        undoLastEight();
        asTold();
        asTiming();
        best();
        bestOfSeveral();
        bestFromNowOn();
        last();
        pays();
        women();
        seen();
        forget();
        kinds();
        takes();
        must();
        morning();
        keep();
        back();
        count();
        CHECK.end("PromisesTest");
    }

    private static void due(String call, int got, int want) {
        CHECK.due(call, got, want);
    }

    /** All of count, in one row. */
    private static void counts(String when, SnowSuits x, int... want) {
        for (int what = 0; what < want.length; what++) {
            due(when + ": count(" + what + ")", x.count(what), want[what]);
        }
    }

    private static void newObject() {
        SnowSuits x = new SnowSuits();
        counts("1 new", x, 6, 2, 0, 6, 0, 0, 0, 2, 0, 0, 0, 0, 0, 0);
        int[] kinds = {0, 1, 2, 3, 0, 1};
        int[] told = {4, 5, 3, 4, 6, 3};
        int[] takes = {4, 3, 3, 6, 6, 2};
        for (int c = 0; c < 6; c++) {
            due("1 child(" + c + ", 0)", x.child(c, 0), kinds[c]);
            due("1 child(" + c + ", 4)", x.child(c, 4), takes[c]);
            x.seen(c, told[c], 0);
            due("1 as long as a plain or cool one: kinds(" + c + ")", x.kinds(c), 5);
        }
        due("1 fault()", x.fault(), NONE);
        due("1 lay()", x.lay(), NO);
        due("1 undo()", x.undo(), NO);
        due("1 back()", x.back(), NO);
    }

    /** One boils above 5, 3 go out at a time, lunch is at minute 40. */
    private static void newObjectBoilsGoesAndLunches() {
        SnowSuits x = new SnowSuits();
        x.take(1, 5);
        x.pass(2);
        due("1 pass(5)", x.pass(5), 0);
        due("1 child(5, 2)", x.child(5, 2), 5);
        due("1 pass(1)", x.pass(1), 1);

        x = new SnowSuits();
        allOutAtMinute16(x);
        due("1 all out", x.count(6), 6);
        x.pass(24);
        due("1 asTold(0) at lunch", x.asTold(0), 0);
        x.pass(1);
        due("1 asTold(0) behind lunch", x.asTold(0), NONE);
    }

    private static void allOutAtMinute16(SnowSuits x) {
        due("take(0, 3)", x.take(0, 3), 6);
        due("take(1, 4)", x.take(1, 4), 6);
        due("pass(6)", x.pass(6), 0);
        due("take(0, 2)", x.take(0, 2), 3);
        due("take(1, 5)", x.take(1, 5), 2);
        due("pass(2)", x.pass(2), 0);
        due("door(1)", x.door(1), 8 + 16 + 32);
        due("pass(1)", x.pass(1), 0);
        due("take(0, 0)", x.take(0, 0), 4);
        due("pass(4)", x.pass(4), 0);
        due("take(0, 1)", x.take(0, 1), 3);
        due("pass(3)", x.pass(3), 0);
        due("child(2, 2), a cool one in minutes 9 to 15", x.child(2, 2), 3);
        due("door(0)", x.door(0), 1 + 2 + 4);
    }

    private static void write() {
        SnowSuits x = new SnowSuits();
        due("2 write(32)", x.write(32), 1);
        due("2 write(126)", x.write(126), 2);
        due("2 write(31)", x.write(31), BAD);
        due("2 write(127)", x.write(127), BAD);
        for (int far : FAR) {
            due("2 write(" + far + ")", x.write(far), BAD);
        }
        due("2 count(13)", x.count(13), 2);
        for (int i = 3; i <= 200; i++) {
            due("2 write(65)", x.write(65), i);
        }
        due("2 write(65) of 201", x.write(65), FULL);
        due("2 write(31) when full", x.write(31), BAD);
        due("2 count(13) when full", x.count(13), 200);
        due("2 the text changes nothing", x.count(0), 6);
    }

    private static void wipe() {
        SnowSuits x = new SnowSuits();
        due("3 wipe() of nothing", x.wipe(), 0);
        Halls.tell(x, "xyz");
        due("3 wipe()", x.wipe(), 3);
        due("3 count(13)", x.count(13), 0);
        Halls.tell(x, "c0,1;");
        due("3 lay() of what was written since", x.lay(), 1);
        due("3 wipe() again", x.wipe(), 5);
        due("3 the hall stays", x.count(0), 1);
    }

    private static void fault() {
        String[] right = {"", "c0,4;", "c3,1;", "c0,12;", "c00,04;", "w1;w3;", "h1;h20;", "g1;g4;", "l1;l99;", "w02;",
            "c0,1;c0,1;c0,1;c0,1;c0,1;c0,1;", "l40;g3;h5;w2;c1,3;"};
        for (String text : right) {
            faultOf(text, NONE);
        }
        String[] wrongFirst = {"c4,4;", "c0,0;", "c0,13;", "c000,4;", "c0,004;", "w0;", "w4;", "h0;", "h21;", "g0;", "g5;",
            "l0;", "l100;", "c0;", "c0,1,2;", "w1,2;", "c,1;", "c0,;", "w;", ";", "x1;", " c0,1;", "C0,1;", "c-1,4;", "c0,4",
            "c0,", "c0", "c", "cc0,4;", "c0 ,4;", "c0,4 ;", "c0.4;", "00;", "w1,;", "w,1;", "w1,0;", "w1,00;", "l9,1;", "c10,4;", "c:,4;", "c0,/;"};
        for (String text : wrongFirst) {
            faultOf(text, 0);
            faultOf("c0,4;" + text, 5);
            faultOf("c0,12;w2;" + text + "c9,9;", 9);
        }
        faultOf("c0,1;;", 5);
        faultOf("c0,1; c0,1;", 5);
        faultOf("c0,4;w2", 5);
        faultOf("c0,1;c0,1;c0,1;c0,1;c0,1;c0,1;w2;c0,1;", 33);
        faultOf("c0,1;c0,1;c0,1;c0,1;c0,1;c0,1;c0,1;w9;", 30);
        SnowSuits full = new SnowSuits();
        for (int i = 0; i < 66; i++) {
            Halls.tell(full, "w1;");
        }
        due("4 fault() of 198", full.fault(), NONE);
        Halls.tell(full, "w1");
        due("4 fault() of 200", full.fault(), 198);
    }

    private static void faultOf(String text, int want) {
        SnowSuits x = new SnowSuits();
        Halls.tell(x, text);
        due("4 fault() of " + text, x.fault(), want);
        due("4 the text stays", x.count(13), text.length());
        if (want != NONE) {
            due("5 lay() of " + text, x.lay(), NO);
            due("5 the hall stays", x.count(0), 6);
        }
    }

    private static void lay() {
        SnowSuits x = new SnowSuits();
        x.take(0, 0);
        x.keep();
        x.seen(0, 4, 0);
        x.layOut(1);
        x.pass(11);
        due("5 one has boiled", x.count(9), 1);
        Halls.tell(x, "w3;");
        due("5 lay() without a child", x.lay(), NO);
        counts("5 nothing changes", x, 6, 2, 11, 6, 0, 0, 0, 2, 1, 1, 1, 3, 1, 3);
        x.wipe();
        Halls.tell(x, "c3,7;c1,9;w1;w3;h1;h2;g2;g1;l5;l9;");
        due("5 lay()", x.lay(), 2);
        counts("5 laid", x, 2, 3, 0, 2, 0, 0, 0, 3, 0, 0, 0, 0, 0, 34);
        due("5 child(0, 0)", x.child(0, 0), 3);
        due("5 child(0, 4)", x.child(0, 4), 9);
        due("5 child(1, 4)", x.child(1, 4), 5);
        due("5 child(0, 5)", x.child(0, 5), 0);
        due("5 woman(1, 0)", x.woman(1, 0), 0);
        due("5 woman(1, 1)", x.woman(1, 1), 0);
        due("5 undo()", x.undo(), NO);
        due("5 back()", x.back(), NO);
        x.take(0, 0);
        x.take(1, 1);
        x.pass(9);
        due("5 both boils above 2: child(1, 1)", x.child(1, 1), 0);
        due("5 child(1, 5)", x.child(1, 5), 1);
        x.take(2, 0);
        x.layOut(1);
        x.pass(1);
        due("5 lay() again", x.lay(), 2);
        for (int w = 0; w < 3; w++) {
            due("5 woman(" + w + ", 0)", x.woman(w, 0), 0);
            due("5 woman(" + w + ", 1)", x.woman(w, 1), 0);
        }
        counts("5 laid again", x, 2, 3, 0, 2, 0, 0, 0, 3, 0, 0, 0, 0, 0, 34);
        due("5 women(3), lunch is at minute 9", x.women(3), 9);
    }

    /** Without w, h, g, l: 2 women, one boils above 9, 3 at a time, lunch at minute 60. */
    private static void layWithout() {
        SnowSuits x = Halls.of("c0,1;c0,1;c0,1;c0,1;");
        due("5 count(1)", x.count(1), 2);
        for (int c = 0; c < 4; c++) {
            due("5 take(0, " + c + ")", x.take(0, c), 1);
            due("5 pass(1)", x.pass(1), 0);
        }
        due("5 child(0, 2)", x.child(0, 2), 3);
        due("5 pass(6)", x.pass(6), 0);
        x.keep();
        due("5 pass(1) boils above 9", x.pass(1), 1);
        x.back();
        due("5 door(0), three", x.door(0), 7);
        due("5 door(1), the last woman", x.door(1), 8);
        x.pass(40);
        x.pass(10);
        due("5 count(2)", x.count(2), 60);
        due("5 asTold(0) at 60", x.asTold(0), 0);
        x.pass(1);
        due("5 asTold(0) at 61", x.asTold(0), NONE);
    }

    private static void child() {
        SnowSuits x = Halls.of("c0,4;c1,5;c2,3;c3,4;w2;h2;");
        due("6 child(3, 0)", x.child(3, 0), 3);
        due("6 bare: child(0, 1)", x.child(0, 1), 0);
        due("6 bare: child(0, 2)", x.child(0, 2), NONE);
        due("6 bare: child(0, 3)", x.child(0, 3), NONE);
        x.take(1, 1);
        due("6 in hands: child(1, 1)", x.child(1, 1), 1);
        due("6 in hands: child(1, 2)", x.child(1, 2), NONE);
        due("6 in hands: child(1, 3)", x.child(1, 3), 1);
        x.layOut(0);
        due("6 nothing laid out yet: child(3, 4)", x.child(3, 4), 6);
        x.pass(3);
        due("6 ready: child(1, 1)", x.child(1, 1), 2);
        due("6 ready: child(1, 2)", x.child(1, 2), 0);
        due("6 ready: child(1, 3)", x.child(1, 3), NONE);
        int[] laidOut = {3, 2, 2, 5};
        for (int c = 0; c < 4; c++) {
            due("6 laid out: child(" + c + ", 4)", x.child(c, 4), laidOut[c]);
        }
        x.pass(2);
        due("6 child(1, 2) of 2", x.child(1, 2), 2);
        due("6 child(1, 5) of none", x.child(1, 5), 0);
        x.pass(1);
        due("6 boiled: child(1, 1)", x.child(1, 1), 0);
        due("6 boiled: child(1, 2)", x.child(1, 2), NONE);
        due("6 boiled: child(1, 5)", x.child(1, 5), 1);
        due("6 boiled: child(0, 5) of another", x.child(0, 5), 0);
        x.take(0, 1);
        x.pass(2);
        due("6 ready again: child(1, 2)", x.child(1, 2), 0);
        x.door(0);
        due("6 out: child(1, 1)", x.child(1, 1), 3);
        due("6 out: child(1, 2)", x.child(1, 2), NONE);
        due("6 out: child(1, 3)", x.child(1, 3), NONE);
        due("6 out: child(1, 4)", x.child(1, 4), 2);
        due("6 child(-1, 0)", x.child(-1, 0), BAD);
        due("6 child(4, 0)", x.child(4, 0), BAD);
        due("6 child(0, -1)", x.child(0, -1), BAD);
        due("6 child(0, 6)", x.child(0, 6), BAD);
        for (int far : FAR) {
            due("6 child(" + far + ", 0)", x.child(far, 0), BAD);
            due("6 child(0, " + far + ")", x.child(0, far), BAD);
        }
    }

    private static void woman() {
        SnowSuits x = Halls.of("c0,4;c1,1;w3;");
        x.take(0, 0);
        x.layOut(1);
        x.take(2, 1);
        x.pass(1);
        x.door(2);
        int[] does = {1, 2, 3};
        int[] toDo = {3, 2, 0};
        for (int w = 0; w < 3; w++) {
            due("7 woman(" + w + ", 0)", x.woman(w, 0), does[w]);
            due("7 woman(" + w + ", 1)", x.woman(w, 1), toDo[w]);
        }
        x.pass(3);
        due("7 free again: woman(0, 0)", x.woman(0, 0), 0);
        due("7 free again: woman(0, 1)", x.woman(0, 1), 0);
        due("7 out for good: woman(2, 0)", x.woman(2, 0), 3);
        due("7 woman(3, 0)", x.woman(3, 0), BAD);
        due("7 woman(-1, 0)", x.woman(-1, 0), BAD);
        due("7 woman(0, 2)", x.woman(0, 2), BAD);
        due("7 woman(0, -1)", x.woman(0, -1), BAD);
        due("7 woman(1, 0) of one", Halls.of("c0,1;w1;").woman(1, 0), BAD);
        for (int far : FAR) {
            due("7 woman(" + far + ", 0)", x.woman(far, 0), BAD);
            due("7 woman(0, " + far + ")", x.woman(0, far), BAD);
        }
    }

    private static void take() {
        String every = "c0,1;c1,1;c2,1;c3,1;w1;";
        int[] least = {1, 1, 1, 3};
        int[] leastLaidOut = {1, 1, 1, 2};
        for (int c = 0; c < 4; c++) {
            SnowSuits x = Halls.of(every);
            due("8 take(0, " + c + ")", x.take(0, c), least[c]);
            x = Halls.of(every);
            x.layOut(0);
            x.pass(3);
            due("8 laid out: take(0, " + c + ")", x.take(0, c), leastLaidOut[c]);
        }
        due("8 a quick one of 12", Halls.of("c1,12;").take(0, 0), 6);
        due("8 a quick one of 11", Halls.of("c1,11;").take(0, 0), 6);
        SnowSuits x = Halls.of("c0,2;c0,5;w2;");
        due("8 take(0, 0)", x.take(0, 0), 2);
        due("8 take(0, 1), she is not free", x.take(0, 1), NO);
        due("8 take(1, 0), it is not bare", x.take(1, 0), NO);
        due("8 count(11)", x.count(11), 1);
        x.pass(2);
        due("8 take(1, 0), it is ready", x.take(1, 0), NO);
        x.layOut(1);
        due("8 take(1, 1), she lays out", x.take(1, 1), NO);
        due("8 take(0, 1)", x.take(0, 1), 5);
        x.pass(3);
        due("8 who is in hands takes as long as before", x.woman(0, 1), 2);
        x.door(1);
        due("8 take(1, 1), she is out", x.take(1, 1), NO);
        x.pass(2);
        due("8 take(0, 0), it is out", x.take(0, 0), NO);
        due("8 take(2, 1)", x.take(2, 1), BAD);
        due("8 take(-1, 1)", x.take(-1, 1), BAD);
        due("8 take(0, 2)", x.take(0, 2), BAD);
        due("8 take(1, -1), bad ahead of no", x.take(1, -1), BAD);
        for (int far : FAR) {
            due("8 take(" + far + ", 0)", x.take(far, 0), BAD);
            due("8 take(0, " + far + ")", x.take(0, far), BAD);
        }
    }

    private static void layOut() {
        SnowSuits x = Halls.of("c0,5;c0,4;w3;");
        x.take(0, 0);
        due("9 layOut(0), not free", x.layOut(0), NO);
        due("9 layOut(1)", x.layOut(1), 3);
        due("9 layOut(2), one does it", x.layOut(2), NO);
        due("9 woman(1, 0)", x.woman(1, 0), 2);
        due("9 count(8)", x.count(8), 0);
        x.pass(2);
        due("9 count(8) behind 2", x.count(8), 0);
        due("9 take(2, 1) ahead of the third", x.take(2, 1), 4);
        x.pass(1);
        due("9 count(8) behind 3", x.count(8), 1);
        due("9 woman(1, 0) behind 3", x.woman(1, 0), 0);
        due("9 layOut(1), it is laid out", x.layOut(1), NO);
        due("9 woman(2, 1)", x.woman(2, 1), 3);
        due("9 count(11)", x.count(11), 5);
        due("9 layOut(3)", x.layOut(3), BAD);
        due("9 layOut(-1)", x.layOut(-1), BAD);
        for (int far : FAR) {
            due("9 layOut(" + far + ")", x.layOut(far), BAD);
        }
    }

    private static void door() {
        SnowSuits x = Halls.of("c0,3;c0,1;c0,1;c0,1;c0,9;w3;g2;");
        due("10 door(0), nobody is ready", x.door(0), NO);
        x.take(0, 1);
        x.take(1, 0);
        x.pass(1);
        x.take(0, 3);
        x.take(2, 2);
        x.pass(2);
        due("10 child(0, 2)", x.child(0, 2), 0);
        due("10 child(1, 2)", x.child(1, 2), 2);
        due("10 child(2, 2)", x.child(2, 2), 1);
        due("10 child(3, 2)", x.child(3, 2), 1);
        x.take(0, 4);
        due("10 door(0), not free", x.door(0), NO);
        due("10 door(1), the hottest, then the lowest", x.door(1), 2 + 4);
        due("10 woman(1, 0)", x.woman(1, 0), 3);
        due("10 door(1), out", x.door(1), NO);
        due("10 count(5)", x.count(5), 2);
        due("10 door(2), no more than go at a time", x.door(2), 1 + 8);
        x.pass(9);
        due("10 door(0)", x.door(0), 16);
        due("10 door(3)", x.door(3), BAD);
        due("10 door(-1)", x.door(-1), BAD);
        for (int far : FAR) {
            due("10 door(" + far + ")", x.door(far), BAD);
        }
        SnowSuits one = Halls.of("c0,1;c0,1;c0,1;c0,1;w1;g1;");
        for (int c = 0; c < 3; c++) {
            one.take(0, c);
            one.pass(1);
        }
        due("10 door(0), the last woman goes with all", one.door(0), 7);
        due("10 count(3), who is left", one.count(3), 1);
        SnowSuits few = Halls.of("c0,1;w2;g4;");
        few.take(0, 0);
        few.pass(1);
        due("10 door(1), fewer than go at a time", few.door(1), 1);
    }

    private static void pass() {
        SnowSuits x = Halls.of("c0,1;c0,3;w2;h1;");
        x.take(0, 0);
        x.take(1, 1);
        due("11 pass(1)", x.pass(1), 0);
        due("11 child(0, 2), ready by this one", x.child(0, 2), 0);
        due("11 pass(1)", x.pass(1), 0);
        due("11 child(0, 2)", x.child(0, 2), 1);
        due("11 pass(3), both boil", x.pass(3), 2);
        due("11 count(9)", x.count(9), 2);
        due("11 pass(0)", x.pass(0), BAD);
        due("11 pass(41)", x.pass(41), BAD);
        for (int far : FAR) {
            due("11 pass(" + far + ")", x.pass(far), BAD);
        }
        due("11 count(2)", x.count(2), 5);
        for (int i = 0; i < 24; i++) {
            due("11 pass(40)", x.pass(40), 0);
        }
        due("11 pass(35) above 999", x.pass(35), NO);
        due("11 pass(41) above 999", x.pass(41), BAD);
        due("11 count(2), nothing changes", x.count(2), 965);
        due("11 pass(34) to 999", x.pass(34), 0);
        due("11 pass(1) above 999", x.pass(1), NO);
        due("11 count(2)", x.count(2), 999);
    }

    /** A cool one is hotter by minutes of even number alone, whenever it became ready. */
    private static void heatOfCool() {
        int[] fromOdd = {0, 0, 1, 1, 2};
        int[] fromEven = {0, 1, 1, 2, 2};
        SnowSuits odd = Halls.of("c2,1;w1;h2;");
        odd.take(0, 0);
        SnowSuits even = Halls.of("c2,2;w1;h2;");
        even.take(0, 0);
        odd.pass(1);
        even.pass(2);
        for (int i = 0; i < 5; i++) {
            due("11 cool since minute 1: child(0, 2)", odd.child(0, 2), fromOdd[i]);
            due("11 cool since minute 2: child(0, 2)", even.child(0, 2), fromEven[i]);
            odd.pass(1);
            even.pass(1);
        }
        due("11 odd boils by minute 6: pass(1)", odd.pass(1), 1);
        due("11 even has boiled by minute 6: count(9)", even.count(9), 1);
    }

    private static void undo() {
        SnowSuits x = Halls.of("c0,1;c0,2;c3,1;w2;h1;g1;");
        due("12 undo() of nothing", x.undo(), NO);
        x.take(0, 0);
        x.take(1, 1);
        x.pass(2);
        x.layOut(0);
        x.pass(4);
        x.seen(0, 1, 0);
        x.keep();
        Halls.tell(x, "w3;");
        counts("12 done", x, 3, 2, 6, 3, 0, 0, 0, 2, 1, 2, 1, 5, 1, 27);
        due("12 undo() of minutes, all at once", x.undo(), 4);
        due("12 count(2)", x.count(2), 2);
        due("12 count(8)", x.count(8), 0);
        due("12 count(9)", x.count(9), 0);
        due("12 child(0, 5)", x.child(0, 5), 0);
        due("12 child(0, 2)", x.child(0, 2), 1);
        due("12 woman(0, 0)", x.woman(0, 0), 2);
        due("12 woman(0, 1)", x.woman(0, 1), 3);
        due("12 count(10), seen stays", x.count(10), 1);
        due("12 count(12), kept stays", x.count(12), 1);
        due("12 undo() of laying out", x.undo(), 3);
        due("12 woman(0, 0)", x.woman(0, 0), 0);
        due("12 door(1)", x.door(1), 1);
        due("12 undo() of the door", x.undo(), 3);
        due("12 child(0, 1)", x.child(0, 1), 2);
        due("12 child(0, 2)", x.child(0, 2), 1);
        due("12 woman(1, 0)", x.woman(1, 0), 0);
        due("12 undo() of minutes", x.undo(), 2);
        due("12 child(1, 3)", x.child(1, 3), 1);
        due("12 woman(1, 1)", x.woman(1, 1), 2);
        due("12 undo() of taking", x.undo(), 1);
        due("12 child(1, 1)", x.child(1, 1), 0);
        due("12 child(0, 1)", x.child(0, 1), 1);
        due("12 what is refused is not undone", x.take(0, 1), NO);
        due("12 undo() of the first", x.undo(), 0);
        due("12 undo() of no more", x.undo(), NO);
        due("12 count(3)", x.count(3), 3);
    }

    private static void undoLastEight() {
        SnowSuits x = Halls.of("c0,9;");
        for (int i = 1; i <= 20; i++) {
            x.pass(i);
            due("12 count(11)", x.count(11), Math.min(i, 8));
        }
        int minute = 210;
        for (int i = 20; i > 12; i--) {
            due("12 count(2)", x.count(2), minute);
            due("12 undo()", x.undo(), i - 13);
            minute -= i;
        }
        due("12 undo() of the ninth", x.undo(), NO);
        due("12 count(2)", x.count(2), 78);
        x.pass(1);
        due("12 count(11) goes on", x.count(11), 1);
        due("12 undo() goes on", x.undo(), 0);
        due("12 count(2) goes on", x.count(2), 78);
    }

    private static void asTold() {
        SnowSuits x = Halls.of("c0,2;c0,2;c0,4;w2;");
        due("13 asTold(0)", x.asTold(0), 6);
        due("13 asTold(1)", x.asTold(1), 0);
        due("13 nothing changes", x.count(3), 3);
        due("13 nothing is to be undone", x.count(11), 0);
        due("13 asTold(2)", x.asTold(2), BAD);
        due("13 asTold(-1)", x.asTold(-1), BAD);
        for (int far : FAR) {
            due("13 asTold(" + far + ")", x.asTold(far), BAD);
        }
        x.take(1, 2);
        due("13 with one in hands: asTold(0)", x.asTold(0), 4);
        x.pass(3);
        due("13 three minutes on: asTold(0)", x.asTold(0), 3);

        SnowSuits none = Halls.of("c0,2;c0,2;c0,4;w2;l5;");
        due("13 lunch is sooner: asTold(0)", none.asTold(0), NONE);
        due("13 lunch is sooner: asTold(1)", none.asTold(1), NONE);
        due("13 bad ahead of none: asTold(2)", none.asTold(2), BAD);
        due("13 just at lunch: asTold(0)", Halls.of("c0,2;c0,2;c0,4;w2;l6;").asTold(0), 6);

        // 0 is ready at 1, boils at 3, is taken again at 3, and is ready with 1 at 4.
        SnowSuits boils = Halls.of("c0,1;c0,4;w2;h1;");
        due("13 asTold(0)", boils.asTold(0), 4);
        due("13 asTold(1)", boils.asTold(1), 1);
        boils.take(0, 0);
        boils.pass(3);
        due("13 one has boiled ahead of now: asTold(1)", boils.count(9), 1);
        due("13 asTold(1) from now on", boils.asTold(1), 1);
    }

    /** The doors in what comes: who opens, when, and what the last woman does. */
    private static void asTiming() {
        // 0 and 1 are out with woman 1 at 1; woman 0 alone dresses 2 and 3 by 3.
        due("13 g2: asTold(0)", Halls.of("c0,1;c0,1;c0,1;c0,1;w2;g2;").asTold(0), 3);
        // Nobody goes at 1 or 2 with less than 3 ready; at 2 all are, and go with both.
        due("13 g3: asTold(0)", Halls.of("c0,1;c0,1;c0,1;c0,1;w2;g3;").asTold(0), 2);
        // The door comes ahead of taking: woman 1 goes at 1 with 0, woman 0 dresses 2.
        due("13 g1: asTold(0)", Halls.of("c0,1;c0,3;c0,3;w2;g1;").asTold(0), 6);
        // She who is the last does not go with some, so 0 boils by 11 and is dressed again.
        SnowSuits last = Halls.of("c0,1;c0,10;w1;g1;");
        due("13 the last woman waits: asTold(0)", last.asTold(0), 12);
        due("13 the last woman waits: asTold(1)", last.asTold(1), 1);
        SnowSuits gone = Halls.of("c0,1;c0,1;w1;");
        gone.take(0, 0);
        gone.pass(1);
        gone.door(0);
        due("13 no woman is left: asTold(0)", gone.asTold(0), NONE);
        due("13 no woman is left: best(0)", gone.best(0), NONE);
        due("13 no woman is left: last()", gone.last(), 0);
        due("13 no woman is left: pays()", gone.pays(), NONE);
        due("13 no woman is left: women(1)", gone.women(1), 2);
        SnowSuits ready = Halls.of("c0,1;w1;");
        ready.take(0, 0);
        ready.pass(1);
        due("13 by the door ahead of the next minute: asTold(0)", ready.asTold(0), 0);
    }

    private static void best() {
        SnowSuits x = Halls.of("c0,2;c0,2;c0,4;w2;");
        due("14 best(-1)", x.best(-1), 4);
        due("14 best(-2)", x.best(-2), 0);
        int[] row = {0, 2, 1};
        for (int k = 0; k < 3; k++) {
            due("14 best(" + k + ")", x.best(k), row[k]);
        }
        due("14 best(3), not so many", x.best(3), NONE);
        due("14 best(-3)", x.best(-3), BAD);
        due("14 best(MIN)", x.best(Integer.MIN_VALUE), BAD);
        due("14 nothing changes", x.count(3), 3);
        SnowSuits none = Halls.of("c0,2;c0,2;c0,4;w2;l3;");
        for (int k = -2; k <= 3; k++) {
            due("14 lunch is sooner: best(" + k + ")", none.best(k), NONE);
        }
        due("14 bad ahead of none: best(-3)", none.best(-3), BAD);
        due("14 just at lunch: best(-1)", Halls.of("c0,2;c0,2;c0,4;w2;l4;").best(-1), 4);
        SnowSuits out = Halls.of("c0,1;c0,1;w1;");
        out.take(0, 1);
        out.pass(1);
        due("14 those not bare are in the row: best(1)", out.best(1), 1);
    }

    /** As told 1 is ready at 1 and boils by 5; behind 2 it does not, and all are out at 7 either way. */
    private static void bestOfSeveral() {
        SnowSuits x = Halls.of("c0,7;c0,1;c0,4;w2;h3;g3;");
        due("14 asTold(0)", x.asTold(0), 7);
        due("14 asTold(1)", x.asTold(1), 1);
        due("14 as soon, but boils less: best(-1)", x.best(-1), 7);
        due("14 as soon, but boils less: best(-2)", x.best(-2), 0);
        int[] row = {0, 2, 1};
        for (int k = 0; k < 3; k++) {
            due("14 as soon, but boils less: best(" + k + ")", x.best(k), row[k]);
        }
        // One woman: none boils only if the longest one is the first; of these rows the others by number come first.
        bestIs("c0,1;c0,2;c0,3;c0,4;w1;h6;", 10, 3, 0, 1, 2);
        bestIs("c0,1;c0,1;c0,1;c0,1;c0,1;c0,6;w1;h5;", 11, 5, 0, 1, 2, 3, 4);
    }

    /** Every change makes BEST another than it was in the call ahead of it. */
    private static void bestFromNowOn() {
        SnowSuits x = Halls.of("c0,2;c0,2;c0,4;w2;l40;");
        due("14 best(-1)", x.best(-1), 4);
        x.keep();
        x.take(0, 0);
        x.take(1, 1);
        due("14 both short ones taken: best(-1)", x.best(-1), 6);
        x.undo();
        due("14 one undone: best(-1)", x.best(-1), 4);
        x.layOut(1);
        due("14 one lays out: best(-1)", x.best(-1), 6);
        x.pass(3);
        due("14 behind three minutes: best(-1)", x.best(-1), 3);
        x.pass(40);
        due("14 behind lunch: best(-1)", x.best(-1), NONE);
        x.back();
        due("14 as kept: best(-1)", x.best(-1), 4);
        x.wipe();
        Halls.tell(x, "c0,1;c0,1;w1;");
        x.lay();
        due("14 another hall: best(-1)", x.best(-1), 2);
        x.take(0, 0);
        x.pass(1);
        due("14 one is ready: best(-1)", x.best(-1), 1);
        x.door(0);
        due("14 the last woman is out: best(-1)", x.best(-1), NONE);
    }

    private static void bestIs(String text, int minutes, int... row) {
        SnowSuits x = Halls.of(text);
        due("14 best(-1) of " + text, x.best(-1), minutes);
        due("14 best(-2) of " + text, x.best(-2), 0);
        for (int k = 0; k < row.length; k++) {
            due("14 best(" + k + ") of " + text, x.best(k), row[k]);
        }
    }

    private static void last() {
        due("15 last() of one", Halls.of("c0,1;").last(), 1);
        due("15 last() of all", Halls.of("c0,2;c0,2;c0,4;w2;").last(), 7);
        // One woman: who is ready boils above 2, so the long one can not be behind another.
        due("15 last() of some", Halls.of("c0,1;c0,2;c0,5;w1;h2;").last(), 0);
        due("15 last() but the long one", Halls.of("c0,5;c0,2;w1;h2;").last(), 2);
        due("15 last() of either", Halls.of("c0,2;c0,2;w1;h2;").last(), 3);
        due("15 last(), lunch is sooner", Halls.of("c0,2;c0,2;w1;h2;l3;").last(), 0);
        // Behind: 2, then 0 and 1 (ready at 2 and 6); in front: 2 keeps one woman until 4.
        due("15 last() by lunch", Halls.of("c0,2;c0,2;c0,4;w2;l4;").last(), 2 + 1);
        SnowSuits x = Halls.of("c0,5;c0,2;w1;h2;");
        x.take(0, 1);
        due("15 last() from now on", x.last(), 0);
        due("15 nothing changes", x.count(4), 1);
    }

    private static void pays() {
        due("16 pays(), a minute later", Halls.of("c0,2;c0,3;w1;").pays(), 99);
        due("16 pays(), three sooner", Halls.of("c0,2;c0,2;c0,2;c0,2;c0,2;c0,2;w1;h20;").pays(), 103);
        due("16 pays(), as soon", Halls.of("c0,2;c0,2;c0,2;w1;").pays(), 100);
        due("16 pays(), lunch is sooner by it", Halls.of("c0,2;c0,3;w1;l5;").pays(), NONE);
        due("16 pays(), lunch is sooner without", Halls.of("c0,2;c0,2;c0,2;c0,2;c0,2;c0,2;w1;h20;l11;").pays(), NONE);
        SnowSuits x = Halls.of("c0,2;c0,2;c0,4;w2;");
        x.take(0, 0);
        due("16 pays(), the lowest free one", x.pays(), 100);
        due("16 nothing changes", x.count(7), 1);
        x.take(1, 1);
        due("16 pays(), none is free", x.pays(), NONE);
        x.pass(2);
        x.layOut(1);
        due("16 pays(), one does it", x.pays(), NONE);
        x.pass(3);
        due("16 pays(), it is laid out", x.pays(), NONE);
    }

    private static void women() {
        SnowSuits x = Halls.of("c0,2;c0,2;c0,4;w1;l8;");
        due("17 women(1)", x.women(1), 8);
        due("17 women(2)", x.women(2), 6);
        due("17 women(3)", x.women(3), 4);
        x.layOut(0);
        x.pass(40);
        due("17 from the first: women(1)", x.women(1), 8);
        due("17 from the first: women(2)", x.women(2), 6);
        due("17 nothing changes", x.count(1), 1);
        due("17 women(1), none", Halls.of("c0,2;c0,2;c0,4;w3;l7;").women(1), NONE);
        due("17 women(0)", x.women(0), BAD);
        due("17 women(4)", x.women(4), BAD);
        for (int far : FAR) {
            due("17 women(" + far + ")", x.women(far), BAD);
        }
    }

    private static void seen() {
        SnowSuits x = new SnowSuits();
        due("18 seen(6, 1, 0)", x.seen(6, 1, 0), BAD);
        due("18 seen(-1, 1, 0)", x.seen(-1, 1, 0), BAD);
        due("18 seen(0, 0, 0)", x.seen(0, 0, 0), BAD);
        due("18 seen(0, 21, 0)", x.seen(0, 21, 0), BAD);
        due("18 seen(0, 1, 2)", x.seen(0, 1, 2), BAD);
        due("18 seen(0, 1, -1)", x.seen(0, 1, -1), BAD);
        due("18 count(10)", x.count(10), 0);
        for (int i = 1; i <= 8; i++) {
            due("18 seen", x.seen(i % 6, i == 1 ? 1 : 20, i % 2), i);
        }
        due("18 seen of 9", x.seen(0, 1, 0), FULL);
        due("18 bad ahead of full", x.seen(0, 0, 0), BAD);
        due("18 count(10)", x.count(10), 8);
        due("18 nothing is to be undone", x.count(11), 0);
    }

    private static void forget() {
        SnowSuits x = new SnowSuits();
        due("19 forget() of nothing", x.forget(), 0);
        x.seen(0, 20, 0);
        x.seen(1, 20, 0);
        due("19 kinds(0)", x.kinds(0), 0);
        due("19 forget()", x.forget(), 2);
        due("19 kinds(0)", x.kinds(0), 15);
        due("19 count(10)", x.count(10), 0);
        due("19 seen again", x.seen(0, 4, 0), 1);
    }

    private static void kinds() {
        SnowSuits x = Halls.of("c0,4;c3,1;c1,2;");
        due("20 kinds(0), nothing seen", x.kinds(0), 15);
        x.seen(0, 4, 0);
        due("20 kinds(0), plain or cool", x.kinds(0), 5);
        due("20 kinds(1), of another", x.kinds(1), 15);
        x.seen(0, 3, 1);
        due("20 kinds(0), laid out", x.kinds(0), 5);
        x.seen(0, 2, 0);
        due("20 kinds(0), neither", x.kinds(0), 0);
        x.seen(1, 1, 1);
        due("20 kinds(1), 1 at least", x.kinds(1), 7);
        x.seen(2, 1, 1);
        due("20 kinds(2), 2 laid out", x.kinds(2), 7);
        x.seen(2, 1, 0);
        due("20 kinds(2), quick", x.kinds(2), 2);
        x.forget();
        x.seen(1, 3, 0);
        due("20 kinds(1), crying", x.kinds(1), 8);
        due("20 kinds(3)", x.kinds(3), BAD);
        due("20 kinds(-1)", x.kinds(-1), BAD);
        for (int far : FAR) {
            due("20 kinds(" + far + ")", x.kinds(far), BAD);
        }
    }

    private static void takes() {
        SnowSuits x = Halls.of("c0,4;c1,1;c3,12;");
        due("21 takes(0, 0), nothing seen", x.takes(0, 0), 12);
        due("21 takes(0, 1), nothing seen", x.takes(0, 1), 1);
        x.seen(1, 3, 0);
        due("21 takes(1, 0), quick", x.takes(1, 0), 2);
        due("21 takes(1, 1), quick", x.takes(1, 1), 5);
        x.seen(1, 1, 1);
        due("21 takes(1, 0), none", x.takes(1, 0), 0);
        due("21 takes(1, 1), none", x.takes(1, 1), NONE);
        x.seen(0, 1, 1);
        due("21 takes(0, 0), 1 or 2", x.takes(0, 0), 2);
        due("21 takes(0, 1), 1 or 2", x.takes(0, 1), 1);
        x.seen(2, 14, 0);
        due("21 takes(2, 0), crying", x.takes(2, 0), 1);
        due("21 takes(2, 1), crying", x.takes(2, 1), 12);
        x.forget();
        x.seen(2, 15, 0);
        due("21 takes(2, 0), no more than 12", x.takes(2, 0), 0);
        x.seen(0, 12, 0);
        due("21 takes(0, 1)", x.takes(0, 1), 12);
        due("21 takes(3, 0)", x.takes(3, 0), BAD);
        due("21 takes(-1, 0)", x.takes(-1, 0), BAD);
        due("21 takes(0, 2)", x.takes(0, 2), BAD);
        due("21 takes(0, -1)", x.takes(0, -1), BAD);
        for (int far : FAR) {
            due("21 takes(" + far + ", 0)", x.takes(far, 0), BAD);
            due("21 takes(0, " + far + ")", x.takes(0, far), BAD);
        }
    }

    private static void must() {
        SnowSuits x = Halls.of("c0,1;c0,1;c0,1;c0,1;c0,1;c0,1;w1;h20;");
        mustBe(x, 0, 0, 1, 1);
        mustBe(x, 1, 10, 0, 1);
        x.take(0, 0);
        x.pass(1);
        mustBe(x, 1, 4, 2, 5);
        x.take(0, 1);
        x.pass(1);
        mustBe(x, 1, 5, 3, 4);
        mustBe(x, 2, 5, 1, 4);
        mustBe(x, 3, 5, 0, 1);
        mustBe(x, 2, 10, 1, 1);
        mustBe(x, 1, 0, 0, 1);
        for (int c = 2; c < 6; c++) {
            x.take(0, c);
            x.pass(1);
        }
        mustBe(x, 6, 3, 729, 1000000);
        mustBe(x, 1, 1, 468559, 1000000);
        mustBe(x, 3, 5, 21, 32);
        mustBe(x, 6, 10, 1, 1);
        due("22 must(7, 5, 0)", x.must(7, 5, 0), BAD);
        due("22 must(-1, 5, 0)", x.must(-1, 5, 0), BAD);
        due("22 must(1, 11, 0)", x.must(1, 11, 0), BAD);
        due("22 must(1, -1, 0)", x.must(1, -1, 0), BAD);
        due("22 must(1, 5, 2)", x.must(1, 5, 2), BAD);
        due("22 must(1, 5, -1)", x.must(1, 5, -1), BAD);
        x.door(0);
        mustBe(x, 1, 5, 0, 1);
    }

    private static void mustBe(SnowSuits x, int m, int of, int above, int below) {
        due("22 must(" + m + ", " + of + ", 0)", x.must(m, of, 0), above);
        due("22 must(" + m + ", " + of + ", 1)", x.must(m, of, 1), below);
    }

    private static void morning() {
        // By z 0 the first two draws are 0 and 20743: child 0, and the door, both times.
        SnowSuits x = Halls.of("c0,1;w2;");
        due("23 morning(0, 1, 0)", x.morning(0, 1, 0), 0);
        due("23 morning(0, 2, 0)", x.morning(0, 2, 0), 1);
        due("23 nothing changes", x.count(3), 1);
        due("23 nothing is to be undone", x.count(11), 0);
        due("23 the last woman: morning(0, 2, 0)", Halls.of("c0,1;w1;").morning(0, 2, 0), 0);
        SnowSuits boils = Halls.of("c0,1;w1;h1;");
        due("23 morning(0, 2, 1)", boils.morning(0, 2, 1), 0);
        due("23 morning(0, 3, 1)", boils.morning(0, 3, 1), 1);
        due("23 morning(0, 60, 1), dressed 3, boiled 2 minutes later, and again", boils.morning(0, 60, 1), 20);
        boils.take(0, 0);
        boils.pass(3);
        due("23 what boiled ahead of it is not in it", boils.morning(0, 2, 1), 0);
        SnowSuits first = new SnowSuits();
        due("23 morning(-1, 1, 0)", first.morning(-1, 1, 0), BAD);
        due("23 morning(10000, 1, 0)", first.morning(10000, 1, 0), BAD);
        due("23 morning(0, 0, 0)", first.morning(0, 0, 0), BAD);
        due("23 morning(0, 61, 0)", first.morning(0, 61, 0), BAD);
        due("23 morning(0, 1, 2)", first.morning(0, 1, 2), BAD);
        due("23 morning(0, 1, -1)", first.morning(0, 1, -1), BAD);
        Model model = new Model();
        for (int z = 0; z <= 9999; z += 99) {
            for (int what = 0; what < 2; what++) {
                String call = "23 morning(" + z + ", 60, " + what + ")";
                due(call, first.morning(z, 60, what), model.morning(z, 60, what));
            }
        }
        allOutAtMinute16(first);
        due("23 who was out is out", first.morning(9999, 60, 0), 63);
    }

    private static void keep() {
        SnowSuits x = Halls.of("c0,2;c0,1;w1;");
        due("24 keep()", x.keep(), 1);
        x.take(0, 0);
        due("24 keep()", x.keep(), 2);
        due("24 keep() of 3", x.keep(), FULL);
        due("24 count(12)", x.count(12), 2);
        due("24 count(11), what can be undone stays", x.count(11), 1);
        due("24 undo()", x.undo(), 0);
        due("24 count(12)", x.count(12), 2);
    }

    private static void back() {
        SnowSuits x = Halls.of("c0,1;c0,2;w2;h1;");
        due("25 back() of nothing", x.back(), NO);
        x.take(0, 0);
        x.keep();
        x.pass(1);
        x.layOut(0);
        x.keep();
        x.pass(5);
        x.seen(0, 1, 0);
        x.wipe();
        due("25 count(9)", x.count(9), 1);
        due("25 back()", x.back(), 1);
        counts("25 as kept last", x, 2, 2, 1, 1, 0, 1, 0, 1, 0, 0, 1, 0, 1, 0);
        due("25 woman(0, 0)", x.woman(0, 0), 2);
        due("25 woman(0, 1)", x.woman(0, 1), 3);
        due("25 child(0, 2)", x.child(0, 2), 0);
        due("25 child(0, 5)", x.child(0, 5), 0);
        due("25 undo(), nothing is undone", x.undo(), NO);
        x.pass(3);
        due("25 back()", x.back(), 0);
        counts("25 as kept first", x, 2, 2, 0, 1, 1, 0, 0, 1, 0, 0, 1, 0, 0, 0);
        due("25 child(0, 3)", x.child(0, 3), 0);
        due("25 back() of no more", x.back(), NO);
        due("25 keep() again", x.keep(), 1);
    }

    private static void count() {
        SnowSuits x = Halls.of("c0,1;c0,1;c0,9;c0,1;c0,1;w3;h1;g1;");
        x.take(0, 0);
        x.take(1, 1);
        x.layOut(2);
        x.pass(3);
        x.take(0, 3);
        x.pass(1);
        x.door(1);
        x.take(2, 4);
        x.pass(1);
        x.take(0, 2);
        x.seen(0, 1, 0);
        x.keep();
        x.wipe();
        Halls.tell(x, "ab");
        counts("26", x, 5, 3, 5, 2, 1, 1, 1, 1, 1, 2, 1, 8, 1, 2);
        due("26 count(14)", x.count(14), BAD);
        due("26 count(-1)", x.count(-1), BAD);
        for (int far : FAR) {
            due("26 count(" + far + ")", x.count(far), BAD);
        }
    }
}
