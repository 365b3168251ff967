/**
 * Into snow suits: a few women dress many children of two years, and who is ready first stands there and boils.
 * The document is ../shared/DOC.md; its words in capitals are used in the comments here as it uses them.
 */
public final class SnowSuits {
    public static final int BAD = -1, NO = -2, FULL = -3, NONE = -4;

    private static final int MOST_LETTERS = 200;
    private static final int MOST_CHILDREN = 6;
    private static final int MOST_WOMEN = 3;
    private static final int MOST_KINDS = 4;
    private static final int MOST_TAKEN = 12;
    private static final int MOST_UNDONE = 8;
    private static final int MOST_KEPT = 2;
    private static final int MOST_MINUTE = 999;
    private static final int[] BY_NUMBER = {0, 1, 2, 3, 4, 5};
    private static final String FIRST_TEXT = "c0,4;c1,5;c2,3;c3,4;c0,6;c1,3;w2;h5;g3;l40;";

    private final Text text = new Text();
    private final Plan draft = new Plan();
    private final Plan plan = new Plan();
    private final Hall now = new Hall(plan);
    private final Pile past = new Pile(MOST_UNDONE, plan);
    private final Pile kept = new Pile(MOST_KEPT, plan);
    private final Course course = new Course(plan);
    private final Search search = new Search(plan, course);
    private final Sights sights = new Sights();

    public SnowSuits() {
        for (int i = 0; i < FIRST_TEXT.length(); i++) {
            text.add(FIRST_TEXT.charAt(i));
        }
        text.readInto(plan);
        text.clear();
        now.startAgain(plan.women);
    }

    // ---- halls

    public int write(int letter) {
        if (letter < 32 || letter > 126) {
            return BAD;
        }
        return text.add((char) letter) ? text.length : FULL;
    }

    public int wipe() {
        int length = text.length;
        text.clear();
        return length;
    }

    public int fault() {
        return text.readInto(draft);
    }

    public int lay() {
        if (text.readInto(draft) != NONE || draft.children == 0) {
            return NO;
        }
        plan.copyFrom(draft);
        now.startAgain(plan.women);
        past.clear();
        kept.clear();
        sights.count = 0;
        return plan.children;
    }

    public int child(int c, int what) {
        if (!plan.hasChild(c)) {
            return BAD;
        }
        switch (what) {
            case 0: return plan.kind[c];
            case 1: return now.childIs[c];
            case 2: return now.childIs[c] == Hall.READY ? now.hot[c] : NONE;
            case 3: return now.whoDresses(c);
            case 4: return now.minutesToDress(c);
            case 5: return now.boiled[c];
            default: return BAD;
        }
    }

    public int woman(int w, int what) {
        if (!now.hasWoman(w)) {
            return BAD;
        }
        switch (what) {
            case 0: return now.womanIs[w];
            case 1: return now.toDo[w];
            default: return BAD;
        }
    }

    // ---- acts

    public int take(int w, int c) {
        if (!now.hasWoman(w) || !plan.hasChild(c)) {
            return BAD;
        }
        if (!now.canDress(w, c)) {
            return NO;
        }
        past.push(now);
        return now.dress(w, c);
    }

    public int layOut(int w) {
        if (!now.hasWoman(w)) {
            return BAD;
        }
        if (!now.canLayThings(w)) {
            return NO;
        }
        past.push(now);
        return now.layThings(w);
    }

    public int door(int w) {
        if (!now.hasWoman(w)) {
            return BAD;
        }
        if (!now.canOpenDoor(w)) {
            return NO;
        }
        past.push(now);
        return now.openDoor(w);
    }

    public int pass(int n) {
        if (n < 1 || n > 40) {
            return BAD;
        }
        if (now.minute + n > MOST_MINUTE) {
            return NO;
        }
        past.push(now);
        int boils = 0;
        for (int i = 0; i < n; i++) {
            boils += now.goMinute();
        }
        return boils;
    }

    public int undo() {
        if (past.count == 0) {
            return NO;
        }
        past.popInto(now);
        return past.count;
    }

    // ---- what comes

    public int asTold(int what) {
        if (what < 0 || what > 1) {
            return BAD;
        }
        course.startFrom(now);
        course.goOn(BY_NUMBER, course.minutesTillLunch());
        return what == 0 ? course.minutes : course.boils;
    }

    public int best(int k) {
        if (k < -2) {
            return BAD;
        }
        search.tryAllRows(now);
        if (k == -1) {
            return search.minutes;
        }
        if (k == -2) {
            return search.boils;
        }
        return search.minutes != NONE && plan.hasChild(k) ? search.bestRow[k] : NONE;
    }

    public int last() {
        return search.tryEachLast(now);
    }

    public int pays() {
        int free = now.lowestFree();
        if (!now.canLayThings(free)) {
            return NONE;
        }
        course.startFrom(now);
        course.goOn(BY_NUMBER, course.minutesTillLunch());
        int without = course.minutes;
        course.startFrom(now);
        course.trial.layThings(free);
        course.goOn(BY_NUMBER, course.minutesTillLunch());
        if (without == NONE || course.minutes == NONE) {
            return NONE;
        }
        return without - course.minutes + 100;
    }

    public int women(int n) {
        if (n < 1 || n > MOST_WOMEN) {
            return BAD;
        }
        course.trial.startAgain(n);
        course.goOn(BY_NUMBER, course.minutesTillLunch());
        return course.minutes;
    }

    // ---- what was seen

    public int seen(int c, int n, int laidOut) {
        if (!plan.hasChild(c) || n < 1 || n > 20 || laidOut < 0 || laidOut > 1) {
            return BAD;
        }
        return sights.add(c, n, laidOut == 1) ? sights.count : FULL;
    }

    public int forget() {
        int count = sights.count;
        sights.count = 0;
        return count;
    }

    public int kinds(int c) {
        if (!plan.hasChild(c)) {
            return BAD;
        }
        int bits = 0;
        for (int kind = 0; kind < MOST_KINDS; kind++) {
            if (sights.wouldBe(c, kind, plan.takes[c])) {
                bits |= 1 << kind;
            }
        }
        return bits;
    }

    public int takes(int c, int what) {
        if (!plan.hasChild(c) || what < 0 || what > 1) {
            return BAD;
        }
        int count = 0;
        int least = NONE;
        for (int s = MOST_TAKEN; s >= 1; s--) {
            if (sights.wouldBe(c, plan.kind[c], s)) {
                count++;
                least = s;
            }
        }
        return what == 0 ? count : least;
    }

    // ---- chances, mornings

    public int must(int m, int x, int part) {
        if (m < 0 || m > 6 || x < 0 || x > 10 || part < 0 || part > 1) {
            return BAD;
        }
        int ready = now.countChildren(Hall.READY);
        int above = Chance.waysOfSoMany(ready, m, x);
        int below = Chance.power(10, ready);
        int common = Chance.commonDivisor(above, below);
        if (common == 0) {
            return NONE;
        }
        return (part == 0 ? above : below) / common;
    }

    public int morning(int z, int n, int what) {
        if (z < 0 || z > 9999 || n < 1 || n > 60 || what < 0 || what > 1) {
            return BAD;
        }
        course.startFrom(now);
        course.goByDraws(z, n);
        return what == 0 ? course.trial.whoIsOut() : course.boils;
    }

    // ---- kept

    public int keep() {
        if (kept.count >= MOST_KEPT) {
            return FULL;
        }
        kept.push(now);
        return kept.count;
    }

    public int back() {
        if (kept.count == 0) {
            return NO;
        }
        kept.popInto(now);
        past.clear();
        return kept.count;
    }

    public int count(int what) {
        switch (what) {
            case 0: return plan.children;
            case 1: return now.women;
            case 2: return now.minute;
            case 3: return now.countChildren(Hall.BARE);
            case 4: return now.countChildren(Hall.IN_HANDS);
            case 5: return now.countChildren(Hall.READY);
            case 6: return now.countChildren(Hall.OUT);
            case 7: return now.countWomen(Hall.FREE);
            case 8: return now.laidOut ? 1 : 0;
            case 9: return now.boiledInAll();
            case 10: return sights.count;
            case 11: return past.count;
            case 12: return kept.count;
            case 13: return text.length;
            default: return BAD;
        }
    }

    /** THE TEXT, and how it is read. */
    private static final class Text {
        private static final int NO_NUMBER = -1;

        private final char[] letters = new char[MOST_LETTERS];
        private int length;

        boolean add(char letter) {
            if (length < 0 || length >= letters.length) {
                return false;
            }
            letters[length] = letter;
            length++;
            return true;
        }

        void clear() {
            length = 0;
        }

        /** Tells the plan every ITEM ahead of the FAULT, and answers the FAULT, or NONE. */
        int readInto(Plan plan) {
            plan.clear();
            int place = 0;
            while (place < length) {
                int next = readItem(place, plan);
                if (next <= place) {
                    return place;
                }
                place = next;
            }
            return NONE;
        }

        /** Where the next ITEM begins; the same place again if this one is not so. */
        private int readItem(int start, Plan plan) {
            char letter = letterAt(start);
            int place = start + 1;
            int first = numberAt(place);
            place += figuresAt(place);
            int second = NO_NUMBER;
            if (letterAt(place) == ',') {
                second = numberAt(place + 1);
                if (second == NO_NUMBER) {
                    return start;
                }
                place += 1 + figuresAt(place + 1);
            }
            boolean ends = first != NO_NUMBER && letterAt(place) == ';';
            return ends && plan.tell(letter, first, second) ? place + 1 : start;
        }

        private int numberAt(int place) {
            int figures = figuresAt(place);
            if (figures == 0) {
                return NO_NUMBER;
            }
            int number = letterAt(place) - '0';
            return figures == 1 ? number : 10 * number + letterAt(place + 1) - '0';
        }

        /** How many figures a number at this place has, 2 at most: a third one is no part of it. */
        private int figuresAt(int place) {
            if (!isFigure(letterAt(place))) {
                return 0;
            }
            return isFigure(letterAt(place + 1)) ? 2 : 1;
        }

        private static boolean isFigure(char letter) {
            return letter >= '0' && letter <= '9';
        }

        /** The letter at a place; behind the end one that no ITEM has. */
        private char letterAt(int place) {
            return place >= 0 && place < length && place < letters.length ? letters[place] : (char) 0;
        }
    }

    /** What a TEXT tells. */
    private static final class Plan {
        private static final int PLAIN = 0, QUICK = 1, COOL = 2, CRYING = 3;

        private final int[] kind = new int[MOST_CHILDREN];
        private final int[] takes = new int[MOST_CHILDREN];
        private int children;
        private int women;
        private int boilsAbove;
        private int goAtATime;
        private int lunch;

        void clear() {
            children = 0;
            women = 2;
            boilsAbove = 9;
            goAtATime = 3;
            lunch = 60;
        }

        void copyFrom(Plan other) {
            System.arraycopy(other.kind, 0, kind, 0, MOST_CHILDREN);
            System.arraycopy(other.takes, 0, takes, 0, MOST_CHILDREN);
            children = other.children;
            women = other.women;
            boilsAbove = other.boilsAbove;
            goAtATime = other.goAtATime;
            lunch = other.lunch;
        }

        boolean hasChild(int c) {
            return c >= 0 && c < children && c < MOST_CHILDREN;
        }

        /** Takes one ITEM in, if it is so; the second number is below 0 if it has none. */
        boolean tell(char letter, int first, int second) {
            if (letter == 'c') {
                return tellChild(first, second);
            }
            return second < 0 && tellNumber(letter, first);
        }

        private boolean tellChild(int itsKind, int minutes) {
            if (children >= MOST_CHILDREN || itsKind < PLAIN || itsKind > CRYING) {
                return false;
            }
            if (minutes < 1 || minutes > MOST_TAKEN) {
                return false;
            }
            kind[children] = itsKind;
            takes[children] = minutes;
            children++;
            return true;
        }

        private boolean tellNumber(char letter, int number) {
            if (number < 1 || number > mostOf(letter)) {
                return false;
            }
            switch (letter) {
                case 'w': women = number; break;
                case 'h': boilsAbove = number; break;
                case 'g': goAtATime = number; break;
                default: lunch = number; break;
            }
            return true;
        }

        /** The highest number that an ITEM of one number may have; 0 if there is no such ITEM. */
        private static int mostOf(char letter) {
            switch (letter) {
                case 'w': return MOST_WOMEN;
                case 'h': return 20;
                case 'g': return 4;
                case 'l': return 99;
                default: return 0;
            }
        }

        static int minutesFor(int kind, int s, boolean laidOut) {
            int minutes = s;
            if (kind == QUICK) {
                minutes = (s + 1) / 2;
            } else if (kind == CRYING) {
                minutes = s + 2;
            }
            return laidOut && minutes > 1 ? minutes - 1 : minutes;
        }
    }

    /** How CHILDREN and WOMEN stand at a MINUTE. An act that can not be answers NO and changes nothing. */
    private static final class Hall {
        private static final int BARE = 0, IN_HANDS = 1, READY = 2;
        private static final int FREE = 0, DRESSES = 1, LAYS_OUT = 2;
        private static final int OUT = 3;
        private static final int MINUTES_TO_LAY_OUT = 3;

        private final Plan plan;
        private final int[] childIs = new int[MOST_CHILDREN];
        private final int[] hot = new int[MOST_CHILDREN];
        private final int[] boiled = new int[MOST_CHILDREN];
        private final int[] womanIs = new int[MOST_WOMEN];
        private final int[] toDo = new int[MOST_WOMEN];
        private final int[] inHands = new int[MOST_WOMEN];
        private int women;
        private int minute;
        private boolean laidOut;
        // Counts on with every act, so that what was found out about a hall is known to be of old.
        private int changes;

        Hall(Plan plan) {
            this.plan = plan;
        }

        void startAgain(int howManyWomen) {
            for (int c = 0; c < MOST_CHILDREN; c++) {
                childIs[c] = BARE;
                hot[c] = 0;
                boiled[c] = 0;
            }
            for (int w = 0; w < MOST_WOMEN; w++) {
                womanIs[w] = FREE;
                toDo[w] = 0;
                inHands[w] = NONE;
            }
            women = howManyWomen;
            minute = 0;
            laidOut = false;
            changes++;
        }

        void copyFrom(Hall other) {
            System.arraycopy(other.childIs, 0, childIs, 0, MOST_CHILDREN);
            System.arraycopy(other.hot, 0, hot, 0, MOST_CHILDREN);
            System.arraycopy(other.boiled, 0, boiled, 0, MOST_CHILDREN);
            System.arraycopy(other.womanIs, 0, womanIs, 0, MOST_WOMEN);
            System.arraycopy(other.toDo, 0, toDo, 0, MOST_WOMEN);
            System.arraycopy(other.inHands, 0, inHands, 0, MOST_WOMEN);
            women = other.women;
            minute = other.minute;
            laidOut = other.laidOut;
            changes++;
        }

        boolean hasWoman(int w) {
            return w >= 0 && w < women && w < MOST_WOMEN;
        }

        boolean isFree(int w) {
            return w >= 0 && w < women && w < MOST_WOMEN && womanIs[w] == FREE;
        }

        boolean isBare(int c) {
            return c >= 0 && c < plan.children && c < MOST_CHILDREN && childIs[c] == BARE;
        }

        int lowestFree() {
            for (int w = 0; w < women; w++) {
                if (isFree(w)) {
                    return w;
                }
            }
            return NONE;
        }

        int highestFree() {
            for (int w = women - 1; w >= 0; w--) {
                if (isFree(w)) {
                    return w;
                }
            }
            return NONE;
        }

        int countChildren(int how) {
            int count = 0;
            for (int c = 0; c < plan.children && c < MOST_CHILDREN; c++) {
                if (childIs[c] == how) {
                    count++;
                }
            }
            return count;
        }

        int countWomen(int how) {
            int count = 0;
            for (int w = 0; w < women && w < MOST_WOMEN; w++) {
                if (womanIs[w] == how) {
                    count++;
                }
            }
            return count;
        }

        boolean oneWomanLeft() {
            return countWomen(OUT) == women - 1;
        }

        boolean allAreOut() {
            return countChildren(OUT) == plan.children;
        }

        int whoIsOut() {
            int bits = 0;
            for (int c = 0; c < plan.children && c < MOST_CHILDREN; c++) {
                if (childIs[c] == OUT) {
                    bits |= 1 << c;
                }
            }
            return bits;
        }

        int boiledInAll() {
            int sum = 0;
            for (int c = 0; c < MOST_CHILDREN; c++) {
                sum += boiled[c];
            }
            return sum;
        }

        int whoDresses(int c) {
            for (int w = 0; w < women && w < MOST_WOMEN; w++) {
                if (womanIs[w] == DRESSES && inHands[w] == c) {
                    return w;
                }
            }
            return NONE;
        }

        int minutesToDress(int c) {
            return plan.hasChild(c) ? Plan.minutesFor(plan.kind[c], plan.takes[c], laidOut) : NONE;
        }

        boolean canDress(int w, int c) {
            return isFree(w) && isBare(c);
        }

        int dress(int w, int c) {
            if (!canDress(w, c)) {
                return NO;
            }
            womanIs[w] = DRESSES;
            toDo[w] = minutesToDress(c);
            inHands[w] = c;
            childIs[c] = IN_HANDS;
            changes++;
            return toDo[w];
        }

        boolean canLayThings(int w) {
            return isFree(w) && !laidOut && countWomen(LAYS_OUT) == 0;
        }

        int layThings(int w) {
            if (!canLayThings(w)) {
                return NO;
            }
            womanIs[w] = LAYS_OUT;
            toDo[w] = MINUTES_TO_LAY_OUT;
            changes++;
            return toDo[w];
        }

        boolean canOpenDoor(int w) {
            return isFree(w) && countChildren(READY) > 0;
        }

        /** Answers who goes OUT, as bits. */
        int openDoor(int w) {
            if (!canOpenDoor(w)) {
                return NO;
            }
            int places = oneWomanLeft() ? MOST_CHILDREN : plan.goAtATime;
            womanIs[w] = OUT;
            changes++;
            int bits = 0;
            for (int i = 0; i < places; i++) {
                int c = hottest();
                if (plan.hasChild(c)) {
                    childIs[c] = OUT;
                    bits |= 1 << c;
                }
            }
            return bits;
        }

        /** Of several the lowest; NONE if nobody is READY. */
        private int hottest() {
            int found = NONE;
            int most = -1;
            for (int c = 0; c < plan.children && c < MOST_CHILDREN; c++) {
                if (childIs[c] == READY && hot[c] > most) {
                    found = c;
                    most = hot[c];
                }
            }
            return found;
        }

        /** A MINUTE goes by; answers how many BOILED in it. */
        int goMinute() {
            // Heat comes ahead of work: who becomes READY in this MINUTE is not HOTTER by it.
            int boils = heat();
            work();
            minute++;
            changes++;
            return boils;
        }

        private int heat() {
            int boils = 0;
            for (int c = 0; c < plan.children && c < MOST_CHILDREN; c++) {
                boolean stays = plan.kind[c] == Plan.COOL && minute % 2 != 0;
                if (childIs[c] == READY && !stays) {
                    hot[c]++;
                    if (hot[c] > plan.boilsAbove) {
                        childIs[c] = BARE;
                        boiled[c]++;
                        boils++;
                    }
                }
            }
            return boils;
        }

        private void work() {
            for (int w = 0; w < women && w < MOST_WOMEN; w++) {
                if (womanIs[w] == DRESSES || womanIs[w] == LAYS_OUT) {
                    toDo[w]--;
                    if (toDo[w] <= 0) {
                        finish(w);
                    }
                }
            }
        }

        private void finish(int w) {
            if (!hasWoman(w)) {
                return;
            }
            if (womanIs[w] == LAYS_OUT) {
                laidOut = true;
            } else if (plan.hasChild(inHands[w])) {
                childIs[inHands[w]] = READY;
                hot[inHands[w]] = 0;
            }
            womanIs[w] = FREE;
            inHands[w] = NONE;
        }
    }

    /** Halls one upon the other; one more than it holds drops the lowest. */
    private static final class Pile {
        private final Hall[] halls;
        private int top;
        private int count;

        Pile(int most, Plan plan) {
            halls = new Hall[Math.max(1, most)];
            for (int i = 0; i < halls.length; i++) {
                halls[i] = new Hall(plan);
            }
        }

        void clear() {
            count = 0;
        }

        void push(Hall hall) {
            top = top + 1 < halls.length ? top + 1 : 0;
            halls[top].copyFrom(hall);
            count = Math.min(count + 1, halls.length);
        }

        void popInto(Hall hall) {
            if (count > 0) {
                hall.copyFrom(halls[top]);
                top = top > 0 ? top - 1 : halls.length - 1;
                count--;
            }
        }
    }

    /** How it goes on from a hall, tried on a hall of its own, so that nothing changes by it. */
    private static final class Course {
        private final Plan plan;
        private final Hall trial;
        private int minutes;
        private int boils;

        Course(Plan plan) {
            this.plan = plan;
            trial = new Hall(plan);
        }

        void startFrom(Hall hall) {
            trial.copyFrom(hall);
        }

        /** Below 0 if LUNCH was ahead of now. */
        int minutesTillLunch() {
            return plan.lunch - trial.minute;
        }

        /** ALL OUT by the row, both NONE if that takes more MINUTES than these. */
        void goOn(int[] row, int most) {
            boils = 0;
            for (int gone = 0; gone <= most; gone++) {
                openDoors();
                if (trial.allAreOut()) {
                    minutes = gone;
                    return;
                }
                dressByRow(row);
                boils += trial.goMinute();
            }
            minutes = NONE;
            boils = NONE;
        }

        private void openDoors() {
            for (int i = 0; i < MOST_WOMEN && doorIsDue(); i++) {
                trial.openDoor(trial.highestFree());
            }
        }

        private boolean doorIsDue() {
            int ready = trial.countChildren(Hall.READY);
            if (ready == 0 || trial.countWomen(Hall.FREE) == 0) {
                return false;
            }
            boolean enough = ready >= plan.goAtATime && !trial.oneWomanLeft();
            return enough || ready + trial.countChildren(Hall.OUT) == plan.children;
        }

        private void dressByRow(int[] row) {
            for (int w = 0; w < trial.women; w++) {
                if (trial.isFree(w)) {
                    trial.dress(w, firstBare(row));
                }
            }
        }

        private int firstBare(int[] row) {
            for (int i = 0; i < row.length; i++) {
                if (trial.isBare(row[i])) {
                    return row[i];
                }
            }
            return NONE;
        }

        /** A MORNING. */
        void goByDraws(int z, int n) {
            boils = 0;
            for (int i = 0; i < n; i++) {
                int draw = draw(z, i);
                if (plan.children > 0) {
                    trial.dress(trial.lowestFree(), draw % plan.children);
                }
                if (draw / 8 % 3 == 0 && !trial.oneWomanLeft()) {
                    trial.openDoor(trial.highestFree());
                }
                boils += trial.goMinute();
            }
        }

        private static int draw(int z, int i) {
            long x = 7919L * z + 6151L * i + 1;
            return (int) (x * x % 65521 / 2);
        }
    }

    /** Rows of all CHILDREN, and the BEST of them. */
    private static final class Search {
        private static final int MOST_ROWS = 720;

        private final Plan plan;
        private final Course course;
        private final int[] row = new int[MOST_CHILDREN];
        private final int[] bestRow = new int[MOST_CHILDREN];
        private int minutes;
        private int boils;
        private int triedAt = NONE;

        Search(Plan plan, Course course) {
            this.plan = plan;
            this.course = course;
        }

        /** Finds the BEST row from the hall of the object, always the same one. */
        void tryAllRows(Hall from) {
            // What is asked of BEST comes in several calls: the rows are tried again only if something has changed.
            if (from.changes == triedAt) {
                return;
            }
            triedAt = from.changes;
            minutes = NONE;
            boils = NONE;
            System.arraycopy(BY_NUMBER, 0, row, 0, MOST_CHILDREN);
            boolean more = true;
            for (int i = 0; i < MOST_ROWS && more; i++) {
                course.startFrom(from);
                // A row that is slower than the best one so far need not be followed to its end.
                course.goOn(row, minutes == NONE ? course.minutesTillLunch() : minutes);
                if (isBetter()) {
                    minutes = course.minutes;
                    boils = course.boils;
                    System.arraycopy(row, 0, bestRow, 0, MOST_CHILDREN);
                }
                more = nextRow();
            }
        }

        private boolean isBetter() {
            if (course.minutes == NONE || minutes == NONE) {
                return course.minutes != NONE;
            }
            return course.minutes < minutes || course.minutes == minutes && course.boils < boils;
        }

        /** Makes the row that comes next by number; false if there is none. */
        private boolean nextRow() {
            int end = Math.min(plan.children, MOST_CHILDREN);
            int rise = end - 2;
            while (rise >= 0 && row[rise] > row[rise + 1]) {
                rise--;
            }
            if (rise < 0) {
                return false;
            }
            int above = end - 1;
            while (above > rise && row[above] < row[rise]) {
                above--;
            }
            swap(rise, above);
            int high = end - 1;
            for (int low = rise + 1; low < high; low++) {
                swap(low, high);
                high--;
            }
            return true;
        }

        private void swap(int i, int j) {
            if (Math.min(i, j) >= 0 && Math.max(i, j) < MOST_CHILDREN) {
                int held = row[i];
                row[i] = row[j];
                row[j] = held;
            }
        }

        /** LAST, as bits. */
        int tryEachLast(Hall from) {
            int bits = 0;
            for (int c = 0; c < plan.children; c++) {
                makeRowWithLast(c);
                course.startFrom(from);
                course.goOn(row, course.minutesTillLunch());
                if (course.minutes != NONE && course.boils == 0) {
                    bits |= 1 << c;
                }
            }
            return bits;
        }

        private void makeRowWithLast(int c) {
            for (int i = 0; i < MOST_CHILDREN; i++) {
                row[i] = i < c ? i : i + 1;
            }
            int end = Math.min(plan.children, MOST_CHILDREN);
            if (end > 0) {
                row[end - 1] = c;
            }
        }
    }

    /** What is SEEN. */
    private static final class Sights {
        private static final int MOST = 8;

        private final int[] child = new int[MOST];
        private final int[] minutes = new int[MOST];
        private final boolean[] laidOut = new boolean[MOST];
        private int count;

        boolean add(int c, int n, boolean thingsLaidOut) {
            if (count < 0 || count >= MOST) {
                return false;
            }
            child[count] = c;
            minutes[count] = n;
            laidOut[count] = thingsLaidOut;
            count++;
            return true;
        }

        /** Whether all that is SEEN of a CHILD would be so by this kind and these minutes. */
        boolean wouldBe(int c, int kind, int s) {
            for (int i = 0; i < count && i < MOST; i++) {
                if (child[i] == c && Plan.minutesFor(kind, s, laidOut[i]) != minutes[i]) {
                    return false;
                }
            }
            return true;
        }
    }

    /** Chances of ten for each of a few. */
    private static final class Chance {

        /** In how many of the ways (10 for each) m or more of them must, if each must in x of its 10. */
        static int waysOfSoMany(int of, int m, int x) {
            int ways = 0;
            for (int j = m; j <= of; j++) {
                ways += choose(of, j) * power(x, j) * power(10 - x, of - j);
            }
            return ways;
        }

        private static int choose(int of, int j) {
            int ways = 1;
            for (int i = 1; i <= j; i++) {
                ways = ways * (of - i + 1) / i;
            }
            return ways;
        }

        static int power(int base, int exponent) {
            int product = 1;
            for (int i = 0; i < exponent; i++) {
                product *= base;
            }
            return product;
        }

        static int commonDivisor(int a, int b) {
            int high = a;
            int low = b;
            // Numbers below two to the 31st need fewer than 50 steps.
            for (int i = 0; i < 50 && low != 0; i++) {
                int rest = high % low;
                high = low;
                low = rest;
            }
            return high;
        }
    }
}
