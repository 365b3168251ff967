import java.math.BigInteger;
import java.util.ArrayDeque;
import java.util.ArrayList;
import java.util.Comparator;
import java.util.Deque;
import java.util.List;
import java.util.regex.Matcher;
import java.util.regex.Pattern;

/**
 * The document told a second time, with the Java library and without regard to speed,
 * so that random runs of the class can be held against it.
 */
final class Model {
    static final int BAD = -1, NO = -2, FULL = -3, NONE = -4;

    enum Is { BARE, IN_HANDS, READY, OUT }

    enum Does { FREE, DRESSES, LAYS_OUT, OUT }

    static final class Child {
        int number, kind, s, hot, boiled;
        Is is = Is.BARE;

        Child copy() {
            Child c = new Child();
            c.number = number;
            c.kind = kind;
            c.s = s;
            c.hot = hot;
            c.boiled = boiled;
            c.is = is;
            return c;
        }
    }

    static final class Woman {
        Does does = Does.FREE;
        int left;
        int child = -1;

        Woman copy() {
            Woman w = new Woman();
            w.does = does;
            w.left = left;
            w.child = child;
            return w;
        }
    }

    record Seen(int child, int minutes, boolean laidOut) { }

    /** minutes and boils, or null where the document says none. */
    record AllOut(int minutes, int boils) { }

    static final class State {
        List<Child> children = new ArrayList<>();
        List<Woman> women = new ArrayList<>();
        int minute, h = 9, g = 3, l = 60;
        boolean laidOut;

        State copy() {
            State s = new State();
            children.forEach(c -> s.children.add(c.copy()));
            women.forEach(w -> s.women.add(w.copy()));
            s.minute = minute;
            s.h = h;
            s.g = g;
            s.l = l;
            s.laidOut = laidOut;
            return s;
        }

        List<Child> that(Is is) {
            return children.stream().filter(c -> c.is == is).toList();
        }

        List<Integer> free() {
            List<Integer> numbers = new ArrayList<>();
            for (int w = 0; w < women.size(); w++) {
                if (women.get(w).does == Does.FREE) {
                    numbers.add(w);
                }
            }
            return numbers;
        }

        long in() {
            return women.stream().filter(w -> w.does != Does.OUT).count();
        }

        boolean canLayOut(int w) {
            return women.get(w).does == Does.FREE && !laidOut
                && women.stream().noneMatch(x -> x.does == Does.LAYS_OUT);
        }

        int take(int w, int c) {
            int n = minutes(children.get(c).kind, children.get(c).s, laidOut);
            women.get(w).does = Does.DRESSES;
            women.get(w).left = n;
            women.get(w).child = c;
            children.get(c).is = Is.IN_HANDS;
            return n;
        }

        void layOut(int w) {
            women.get(w).does = Does.LAYS_OUT;
            women.get(w).left = 3;
        }

        int door(int w) {
            List<Child> ready = new ArrayList<>(that(Is.READY));
            ready.sort(Comparator.comparingInt((Child c) -> -c.hot).thenComparingInt(c -> c.number));
            int go = in() == 1 ? ready.size() : Math.min(g, ready.size());
            women.get(w).does = Does.OUT;
            int bits = 0;
            for (Child c : ready.subList(0, go)) {
                c.is = Is.OUT;
                bits += 1 << c.number;
            }
            return bits;
        }

        int minute() {
            List<Child> wereReady = that(Is.READY);
            for (Woman w : women) {
                if (w.left > 0 && --w.left == 0) {
                    if (w.does == Does.LAYS_OUT) {
                        laidOut = true;
                    } else {
                        children.get(w.child).is = Is.READY;
                        children.get(w.child).hot = 0;
                    }
                    w.does = Does.FREE;
                    w.child = -1;
                }
            }
            int boils = 0;
            for (Child c : wereReady) {
                if (c.kind != 2 || minute % 2 == 0) {
                    c.hot++;
                }
                if (c.hot > h) {
                    c.is = Is.BARE;
                    c.boiled++;
                    boils++;
                }
            }
            minute++;
            return boils;
        }

        boolean doorDue() {
            int ready = that(Is.READY).size();
            if (free().isEmpty()) {
                return false;
            }
            if (ready >= g && in() > 1) {
                return true;
            }
            return ready >= 1 && children.stream().allMatch(c -> c.is == Is.OUT || c.is == Is.READY);
        }

        AllOut allOut(List<Integer> row) {
            State s = copy();
            int boils = 0;
            for (int t = 0; s.minute <= s.l; t++) {
                while (s.doorDue()) {
                    s.door(s.free().get(s.free().size() - 1));
                }
                if (s.that(Is.OUT).size() == s.children.size()) {
                    return new AllOut(t, boils);
                }
                for (int w : s.free()) {
                    for (int c : row) {
                        if (s.children.get(c).is == Is.BARE) {
                            s.take(w, c);
                            break;
                        }
                    }
                }
                boils += s.minute();
            }
            return null;
        }

        List<Integer> told() {
            List<Integer> row = new ArrayList<>();
            children.forEach(c -> row.add(c.number));
            return row;
        }
    }

    private String text = "";
    private State now = read("c0,4;c1,5;c2,3;c3,4;c0,6;c1,3;w2;h5;g3;l40;");
    private final Deque<State> past = new ArrayDeque<>();
    private final Deque<State> kept = new ArrayDeque<>();
    private final List<Seen> seen = new ArrayList<>();
    private int faultPlace;

    static int minutes(int kind, int s, boolean laidOut) {
        int n = switch (kind) {
            case 1 -> s / 2 + s % 2;
            case 3 -> s + 2;
            default -> s;
        };
        return laidOut ? Math.max(n - 1, 1) : n;
    }

    private static final Pattern ITEM = Pattern.compile("([a-z])([0-9]{1,2})(?:,([0-9]{1,2}))?;");

    /** null with a fault, whose place is left behind in faultPlace. */
    private State read(String t) {
        State s = new State();
        int women = 2;
        int place = 0;
        Matcher m = ITEM.matcher(t);
        while (place < t.length()) {
            faultPlace = place;
            if (!m.find(place) || m.start() != place) {
                return null;
            }
            int a = Integer.parseInt(m.group(2));
            char letter = m.group(1).charAt(0);
            if ((letter == 'c') != (m.group(3) != null)) {
                return null;
            }
            if (letter == 'c') {
                int b = Integer.parseInt(m.group(3));
                if (a > 3 || b < 1 || b > 12 || s.children.size() == 6) {
                    return null;
                }
                Child c = new Child();
                c.number = s.children.size();
                c.kind = a;
                c.s = b;
                s.children.add(c);
            } else if (letter == 'w' && a >= 1 && a <= 3) {
                women = a;
            } else if (letter == 'h' && a >= 1 && a <= 20) {
                s.h = a;
            } else if (letter == 'g' && a >= 1 && a <= 4) {
                s.g = a;
            } else if (letter == 'l' && a >= 1) {
                s.l = a;
            } else {
                return null;
            }
            place = m.end();
        }
        for (int i = 0; i < women; i++) {
            s.women.add(new Woman());
        }
        faultPlace = NONE;
        return s;
    }

    private boolean noChild(int c) {
        return c < 0 || c >= now.children.size();
    }

    private boolean noWoman(int w) {
        return w < 0 || w >= now.women.size();
    }

    private static boolean not(int n, int least, int most) {
        return n < least || n > most;
    }

    private void remember() {
        past.push(now.copy());
        if (past.size() > 8) {
            past.removeLast();
        }
    }

    int write(int letter) {
        if (not(letter, 32, 126)) {
            return BAD;
        }
        if (text.length() == 200) {
            return FULL;
        }
        text += (char) letter;
        return text.length();
    }

    int wipe() {
        int n = text.length();
        text = "";
        return n;
    }

    int fault() {
        read(text);
        return text.isEmpty() ? NONE : faultPlace;
    }

    int lay() {
        State s = read(text);
        if (s == null || s.children.isEmpty()) {
            return NO;
        }
        now = s;
        past.clear();
        kept.clear();
        seen.clear();
        return s.children.size();
    }

    int child(int c, int what) {
        if (noChild(c) || not(what, 0, 5)) {
            return BAD;
        }
        Child x = now.children.get(c);
        if (what == 3) {
            for (int w = 0; w < now.women.size(); w++) {
                if (now.women.get(w).child == c) {
                    return w;
                }
            }
            return NONE;
        }
        return switch (what) {
            case 0 -> x.kind;
            case 1 -> x.is.ordinal();
            case 2 -> x.is == Is.READY ? x.hot : NONE;
            case 4 -> minutes(x.kind, x.s, now.laidOut);
            default -> x.boiled;
        };
    }

    int woman(int w, int what) {
        if (noWoman(w) || not(what, 0, 1)) {
            return BAD;
        }
        return what == 0 ? now.women.get(w).does.ordinal() : now.women.get(w).left;
    }

    int take(int w, int c) {
        if (noWoman(w) || noChild(c)) {
            return BAD;
        }
        if (now.women.get(w).does != Does.FREE || now.children.get(c).is != Is.BARE) {
            return NO;
        }
        remember();
        return now.take(w, c);
    }

    int layOut(int w) {
        if (noWoman(w)) {
            return BAD;
        }
        if (!now.canLayOut(w)) {
            return NO;
        }
        remember();
        now.layOut(w);
        return 3;
    }

    int door(int w) {
        if (noWoman(w)) {
            return BAD;
        }
        if (now.women.get(w).does != Does.FREE || now.that(Is.READY).isEmpty()) {
            return NO;
        }
        remember();
        return now.door(w);
    }

    int pass(int n) {
        if (not(n, 1, 40)) {
            return BAD;
        }
        if (now.minute + n > 999) {
            return NO;
        }
        remember();
        int boils = 0;
        for (int i = 0; i < n; i++) {
            boils += now.minute();
        }
        return boils;
    }

    int undo() {
        if (past.isEmpty()) {
            return NO;
        }
        now = past.pop();
        return past.size();
    }

    int asTold(int what) {
        if (not(what, 0, 1)) {
            return BAD;
        }
        AllOut all = now.allOut(now.told());
        return all == null ? NONE : what == 0 ? all.minutes : all.boils;
    }

    int best(int k) {
        if (k < -2) {
            return BAD;
        }
        List<List<Integer>> rows = new ArrayList<>();
        allRows(new ArrayList<>(), now.children.size(), rows);
        AllOut found = null;
        List<Integer> foundRow = null;
        for (List<Integer> row : rows) {
            AllOut all = now.allOut(row);
            if (all != null && (found == null || 10_000 * all.minutes + all.boils < 10_000 * found.minutes + found.boils)) {
                found = all;
                foundRow = row;
            }
        }
        if (found == null || k >= foundRow.size()) {
            return NONE;
        }
        return k == -1 ? found.minutes : k == -2 ? found.boils : foundRow.get(k);
    }

    private static void allRows(List<Integer> begun, int n, List<List<Integer>> rows) {
        if (begun.size() == n) {
            rows.add(new ArrayList<>(begun));
        }
        for (int c = 0; c < n; c++) {
            if (!begun.contains(c)) {
                begun.add(c);
                allRows(begun, n, rows);
                begun.remove(begun.size() - 1);
            }
        }
    }

    int last() {
        int bits = 0;
        for (Child c : now.children) {
            List<Integer> row = now.told();
            row.remove((Integer) c.number);
            row.add(c.number);
            AllOut all = now.allOut(row);
            if (all != null && all.boils == 0) {
                bits += 1 << c.number;
            }
        }
        return bits;
    }

    int pays() {
        if (now.free().isEmpty() || !now.canLayOut(now.free().get(0))) {
            return NONE;
        }
        State s = now.copy();
        s.layOut(now.free().get(0));
        AllOut with = s.allOut(s.told());
        AllOut without = now.allOut(now.told());
        return with == null || without == null ? NONE : 100 + without.minutes - with.minutes;
    }

    int women(int n) {
        if (not(n, 1, 3)) {
            return BAD;
        }
        State s = new State();
        s.h = now.h;
        s.g = now.g;
        s.l = now.l;
        for (Child c : now.children) {
            Child x = new Child();
            x.number = c.number;
            x.kind = c.kind;
            x.s = c.s;
            s.children.add(x);
        }
        for (int i = 0; i < n; i++) {
            s.women.add(new Woman());
        }
        AllOut all = s.allOut(s.told());
        return all == null ? NONE : all.minutes;
    }

    int seen(int c, int n, int laidOut) {
        if (noChild(c) || not(n, 1, 20) || not(laidOut, 0, 1)) {
            return BAD;
        }
        if (seen.size() == 8) {
            return FULL;
        }
        seen.add(new Seen(c, n, laidOut == 1));
        return seen.size();
    }

    int forget() {
        int n = seen.size();
        seen.clear();
        return n;
    }

    private boolean fits(int c, int kind, int s) {
        return seen.stream().filter(x -> x.child == c).allMatch(x -> x.minutes == minutes(kind, s, x.laidOut));
    }

    int kinds(int c) {
        if (noChild(c)) {
            return BAD;
        }
        int bits = 0;
        for (int kind = 0; kind < 4; kind++) {
            bits += fits(c, kind, now.children.get(c).s) ? 1 << kind : 0;
        }
        return bits;
    }

    int takes(int c, int what) {
        if (noChild(c) || not(what, 0, 1)) {
            return BAD;
        }
        List<Integer> all = new ArrayList<>();
        for (int s = 1; s <= 12; s++) {
            if (fits(c, now.children.get(c).kind, s)) {
                all.add(s);
            }
        }
        return what == 0 ? all.size() : all.isEmpty() ? NONE : all.get(0);
    }

    int must(int m, int x, int part) {
        if (not(m, 0, 6) || not(x, 0, 10) || not(part, 0, 1)) {
            return BAD;
        }
        int ready = now.that(Is.READY).size();
        BigInteger above = BigInteger.ZERO;
        for (int who = 0; who < 1 << ready; who++) {
            int n = Integer.bitCount(who);
            if (n >= m) {
                above = above.add(BigInteger.valueOf(x).pow(n).multiply(BigInteger.valueOf(10 - x).pow(ready - n)));
            }
        }
        BigInteger below = BigInteger.TEN.pow(ready);
        return (part == 0 ? above : below).divide(above.gcd(below)).intValueExact();
    }

    int morning(int z, int n, int what) {
        if (not(z, 0, 9999) || not(n, 1, 60) || not(what, 0, 1)) {
            return BAD;
        }
        State s = now.copy();
        int boils = 0;
        for (int i = 0; i < n; i++) {
            BigInteger x = BigInteger.valueOf(7919L * z + 6151L * i + 1);
            int draw = x.pow(2).mod(BigInteger.valueOf(65521)).intValue() / 2;
            int c = draw % s.children.size();
            if (!s.free().isEmpty() && s.children.get(c).is == Is.BARE) {
                s.take(s.free().get(0), c);
            }
            if (draw / 8 % 3 == 0 && !s.free().isEmpty() && s.in() > 1 && !s.that(Is.READY).isEmpty()) {
                s.door(s.free().get(s.free().size() - 1));
            }
            boils += s.minute();
        }
        return what == 1 ? boils : s.that(Is.OUT).stream().mapToInt(c -> 1 << c.number).sum();
    }

    int keep() {
        if (kept.size() == 2) {
            return FULL;
        }
        kept.push(now.copy());
        return kept.size();
    }

    int back() {
        if (kept.isEmpty()) {
            return NO;
        }
        now = kept.pop();
        past.clear();
        return kept.size();
    }

    int count(int what) {
        return switch (what) {
            case 0 -> now.children.size();
            case 1 -> now.women.size();
            case 2 -> now.minute;
            case 3 -> now.that(Is.BARE).size();
            case 4 -> now.that(Is.IN_HANDS).size();
            case 5 -> now.that(Is.READY).size();
            case 6 -> now.that(Is.OUT).size();
            case 7 -> now.free().size();
            case 8 -> now.laidOut ? 1 : 0;
            case 9 -> now.children.stream().mapToInt(c -> c.boiled).sum();
            case 10 -> seen.size();
            case 11 -> past.size();
            case 12 -> kept.size();
            case 13 -> text.length();
            default -> BAD;
        };
    }
}
