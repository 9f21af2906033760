import java.util.Arrays;

/**
 * An order that gives each monk the vow that is hardest for him, which falls with use.
 * What each method promises stands in DOC.md; the words in capitals there are the plain words here.
 */
public final class HardestVows {
    public static final int NONE = -1;

    private static final int VOWS = 7;
    private static final int MONKS = 7;
    private static final int HARDEST = 99;
    private static final int LONGEST_HELD = 99;
    private static final int LAST_YEAR = 999;
    private static final int MOODS = 10;
    private static final int LAWS = 6;
    private static final int SEEN = 8;
    private static final int IMAGES = 2;
    private static final int TAPE = 400;
    private static final int UNDONE = 16;
    private static final int FED = 5;

    /** How a row of vows by monks tells that a monk has none: behind all vows, as rows of numbers go. */
    private static final int NO_VOW = 100;

    private static final int CANT_BE = -1;
    private static final int NO_SUCH = -2;
    private static final int NOT_NOW = -3;
    private static final int NO_ROOM = -5;
    private static final int BAD_TEXT = -6;

    private static final int CLAUSES = 12;
    private static final int PARTS = 50;
    private static final int BRACKETS = 8;
    private static final int GREATEST_NUMBER = 1000;
    private static final int MOST_TIMES = 20;
    private static final long BOUND = 1000000000L;

    private static final int FALLS = 0;
    private static final int RISES = 1;
    private static final int SHOWS = 2;
    private static final int BREAKS = 3;
    private static final int BARS = 4;
    private static final String LAW_KINDS = "falls rises shows breaks bars";
    private static final String LAW_WORDS = "monk vow hard held has year mood";
    private static final int LAW_WORD_COUNT = 7;

    /** These are also what undo() answers. */
    private static final int GIVE = 0;
    private static final int LAY = 1;
    private static final int SWAP = 2;
    private static final int PASS = 3;
    private static final String ORDER_KINDS = "give lay swap pass";
    private static final String ORDER_WORDS = "year done latest given sum has held";
    private static final int HAS_WORD = 5;
    private static final int HELD_WORD = 12;
    private static final int ORDER_WORD_COUNT = 19;

    /** A step is its kind times STEP and its operand, which is a number, a word or a place behind it. */
    private static final int STEP = 1024;
    private static final int STOP = 0;
    private static final int NUMBER = 1;
    private static final int WORD = 2;
    private static final int PLUS = 3;
    private static final int MINUS = 4;
    private static final int TIMES = 5;
    private static final int OVER = 6;
    private static final int REST = 7;
    private static final int LESS = 8;
    private static final int MORE = 9;
    private static final int SAME = 10;
    private static final int NOT = 11;
    private static final int AND = 12;
    private static final int OR = 13;

    /** What is marked of a clause. */
    private static final int MARKS = 5;
    private static final int KIND = 0;
    private static final int OFTEN = 1;
    private static final int FIRST_SUM = 2;
    private static final int SECOND_SUM = 3;
    private static final int CONDITION = 4;

    private static final int TENTHS = 10;
    private static final int MOST_TOLD = 99;
    private static final int USUAL_FALL = 5;
    private static final int USUAL_RISE = 1;
    private static final int USUAL_BREAKS = 1;
    private static final int MOST_BELOW = 700;
    /** The year so many on from now, which is year 0, is the last that is looked at. */
    private static final int LAST_SOFT_YEAR = 100;
    private static final int KEPT_YEARS = 60;
    private static final long ALL_PARTS = 1000000000000L;
    private static final int MOST_SEED = 1000000;
    private static final int DRAWN_YEARS = 100;

    private final Whole now = new Whole();
    private final House house = now.house;
    private final Whole[] images = new Whole[IMAGES];
    private final Machine machine = new Machine();
    private final Rules rules = new Rules(machine, house);
    private final Chooser chooser = new Chooser();
    private final Paper paper = new Paper(rules, chooser);
    private final Deeds deeds = new Deeds(now, rules, machine);
    private final int[] tape = new int[TAPE];
    private final Reader reader = new Reader(tape);
    private final int[] refused = new int[5];
    private int tapeLength = 0;
    private int crumbCount = 0;
    private int faultPlace = NONE;
    private int latestRefusal = 0;

    public HardestVows() {
    }

    // ---- monks and terms

    public int monk(int hard) {
        if (!isHard(hard)) {
            return refuse(CANT_BE);
        }
        if (house.monks() >= MONKS) {
            return refuse(NO_ROOM);
        }
        int monk = house.addMonk();
        for (int vow = 0; vow < VOWS; vow++) {
            house.setHard(monk, vow, hard);
        }
        deeds.trail.clear();
        return accept(monk);
    }

    public int put(int monk, int vow, int hard) {
        if (!isVow(vow) || !isHard(hard)) {
            return refuse(CANT_BE);
        }
        if (!house.isMonk(monk)) {
            return refuse(NO_SUCH);
        }
        int before = house.hardOf(monk, vow);
        house.setHard(monk, vow, hard);
        deeds.trail.clear();
        return accept(before);
    }

    public int of(int monk, int vow, int what) {
        if (!house.isMonk(monk) || !isVow(vow)) {
            return NONE;
        }
        Rules asked = rulesNow();
        switch (what) {
            case 0: return house.hardOf(monk, vow);
            case 1: return house.heldOf(monk, vow);
            case 2: return asked.shownBy(monk, vow);
            case 3: return asked.breaksOf(monk, vow);
            case 4: return asked.isBarred(monk, vow) ? 1 : 0;
            case 5: return asked.fallOf(monk, vow);
            case 6: return asked.riseOf(monk, vow);
            default: return NONE;
        }
    }

    public int has(int monk) {
        return house.isMonk(monk) ? house.vowOf(monk) : NONE;
    }

    public int terms(int what, int value) {
        boolean ofYear = what == 0 && value >= 0 && value <= LAST_YEAR;
        boolean ofMood = what == 1 && value >= 0 && value < MOODS;
        if (!ofYear && !ofMood) {
            return refuse(CANT_BE);
        }
        int before = ofYear ? house.year() : house.mood();
        if (ofYear) {
            house.setYear(value);
        } else {
            house.setMood(value);
        }
        deeds.trail.clear();
        return accept(before);
    }

    // ---- the tape

    public int feed(int a, int b, int c, int d, int e) {
        if (tapeLength + FED * 4 > TAPE) {
            return NONE;
        }
        addBytes(a);
        addBytes(b);
        addBytes(c);
        addBytes(d);
        addBytes(e);
        return tapeLength;
    }

    private void addBytes(int number) {
        for (int shift = 24; shift >= 0 && tapeLength < TAPE; shift -= 8) {
            tape[tapeLength] = (number >> shift) & 255;
            tapeLength++;
        }
    }

    public int end(int n) {
        if (n < 0 || n > tapeLength) {
            return NONE;
        }
        tapeLength = n;
        return n;
    }

    public int row() {
        if (tapeLength == 0) {
            return refuse(BAD_TEXT);
        }
        int came = 0;
        crumbCount = 0;
        for (int from = 0; from < tapeLength; from += VOWS) {
            if (isRow(from) && house.monks() < MONKS) {
                addMonkOfRow(from);
                came++;
            } else {
                crumbCount++;
            }
        }
        tapeLength = 0;
        deeds.trail.clear();
        return accept(came);
    }

    private boolean isRow(int from) {
        if (from < 0 || from + VOWS > tapeLength) {
            return false;
        }
        for (int vow = 0; vow < VOWS; vow++) {
            if (!isHard(tape[from + vow])) {
                return false;
            }
        }
        return true;
    }

    private void addMonkOfRow(int from) {
        int monk = house.addMonk();
        for (int vow = 0; vow < VOWS; vow++) {
            house.setHard(monk, vow, tape[from + vow]);
        }
    }

    public int crumbs() {
        return crumbCount;
    }

    // ---- laws and orders

    public int law() {
        int length = tapeLength;
        tapeLength = 0;
        if (now.lawCount >= LAWS) {
            return refuse(NO_ROOM);
        }
        faultPlace = reader.faultOf(length, false);
        if (faultPlace != NONE) {
            return refuse(BAD_TEXT);
        }
        return accept(now.addLaw(new Code(reader.draft)));
    }

    public int orders() {
        int length = tapeLength;
        tapeLength = 0;
        deeds.stoppedAt = NONE;
        faultPlace = reader.faultOf(length, true);
        if (faultPlace != NONE) {
            return refuse(BAD_TEXT);
        }
        return acceptDeed(deeds.run(reader.draft));
    }

    public int fault() {
        return faultPlace;
    }

    public int stopped() {
        return deeds.stoppedAt;
    }

    public int force(int law) {
        if (law != NONE && !now.isLaw(law)) {
            return refuse(NO_SUCH);
        }
        int before = now.inForce;
        now.inForce = law;
        return accept(before);
    }

    // ---- givings, exchanges, years

    public int give(int vow, int monk) {
        return acceptDeed(deeds.giveVow(vow, monk));
    }

    public int lay(int monk) {
        return acceptDeed(deeds.layDown(monk));
    }

    public int swap(int one, int other) {
        return acceptDeed(deeds.swapVows(one, other));
    }

    public int pass() {
        return acceptDeed(deeds.passYear());
    }

    public int undo() {
        return acceptDeed(deeds.takeBack());
    }

    // ---- on paper

    public int best(int what) {
        return chosenOrTotal(chooser.chooseBest(rulesNow(), house), what);
    }

    /** What 0 asks for the total, 1 and more for the vow of a monk. */
    private int chosenOrTotal(int total, int what) {
        if (what == 0) {
            return total;
        }
        return house.isMonk(what - 1) ? chooser.chosen(what - 1) : NONE;
    }

    public int fair(int what) {
        if (what < 0 || what > house.monks() + 1) {
            return NONE;
        }
        int least = chooser.chooseFair(rulesNow(), house);
        if (least < 0) {
            return NONE;
        }
        if (what == 0) {
            return least;
        }
        return what == 1 ? chooser.total() : chooser.chosen(what - 2);
    }

    public int wished(int what) {
        return chosenOrTotal(chooser.chooseWished(rulesNow(), house), what);
    }

    public int swaps(int i) {
        if (i < NONE) {
            return NONE;
        }
        Rules asked = rulesNow();
        int found = 0;
        for (int lower = 0; lower < house.monks(); lower++) {
            for (int higher = lower + 1; higher < house.monks(); higher++) {
                if (!asked.isHarderSwapped(lower, higher)) {
                    continue;
                }
                if (found == i) {
                    return lower * 10 + higher;
                }
                found++;
            }
        }
        return i == NONE ? found : NONE;
    }

    public int hide(int monk, int what) {
        if (!house.isMonk(monk) || what < 0 || what > 2) {
            return NONE;
        }
        return paper.hidden(now, monk, what);
    }

    public int soft(int below) {
        // nothing is below 0, so 0 needs no paper
        if (below <= 0 || below > MOST_BELOW) {
            return NONE;
        }
        return paper.firstSoftYear(now, below);
    }

    public long kept(int monk, int n) {
        if (n < 0 || n > KEPT_YEARS || !house.isMonk(monk) || house.vowOf(monk) == NONE) {
            return NONE;
        }
        return paper.chanceKept(now, monk, n);
    }

    // ---- who it is by what he shows

    public int seen(int vow, int shown) {
        if (!isVow(vow) || !isHard(shown)) {
            return refuse(CANT_BE);
        }
        if (now.seenCount >= SEEN) {
            return refuse(NO_ROOM);
        }
        now.addSeen(vow, shown);
        return accept(now.seenCount);
    }

    public int forget() {
        int before = now.seenCount;
        now.seenCount = 0;
        return before;
    }

    public int who() {
        return paper.possibleMonks(now);
    }

    public int look(int what) {
        if (what < 0 || what > 1) {
            return NONE;
        }
        return paper.nextToSee(now, what);
    }

    public int compare(int law) {
        if (law != NONE && !now.isLaw(law)) {
            return NONE;
        }
        rules.take(house, now.lawOf(law));
        return chooser.chooseBest(rules, house);
    }

    // ---- years by draws

    public int years(int seed, int n) {
        if (seed < 0 || seed > MOST_SEED || n < 1 || n > DRAWN_YEARS) {
            return refuse(CANT_BE);
        }
        if (house.monks() == 0) {
            return refuse(NOT_NOW);
        }
        return accept(paper.drawYears(now, seed, n));
    }

    public int drawn(int monk, int vow) {
        House latest = paper.drawnHouse;
        if (!latest.isMonk(monk)) {
            return NONE;
        }
        if (vow == VOWS) {
            return latest.vowOf(monk);
        }
        return isVow(vow) ? latest.hardOf(monk, vow) : NONE;
    }

    // ---- images

    public int image(int k) {
        if (k < 0 || k >= IMAGES) {
            return refuse(CANT_BE);
        }
        Whole kept = images[k];
        if (kept == null) {
            kept = new Whole();
            images[k] = kept;
        }
        kept.copyFrom(now);
        return accept(0);
    }

    public int back(int k) {
        if (k < 0 || k >= IMAGES) {
            return refuse(CANT_BE);
        }
        Whole kept = images[k];
        if (kept == null) {
            return refuse(NO_SUCH);
        }
        now.copyFrom(kept);
        deeds.trail.clear();
        return accept(0);
    }

    // ---- counts

    public int count(int what) {
        switch (what) {
            case 0: return house.monks();
            case 1: return house.given();
            case 2: return house.hardOfAllHad();
            case 3: return now.seenCount;
            case 4: return now.lawCount;
            case 5: return deeds.trail.length();
            case 6: return tapeLength;
            case 7: return refused[0];
            case 8: return refused[1];
            case 9: return refused[2];
            case 10: return refused[3];
            case 11: return refused[4];
            case 12: return now.inForce;
            case 13: return house.year();
            case 14: return house.mood();
            default: return NONE;
        }
    }

    public int status() {
        return latestRefusal;
    }

    private Rules rulesNow() {
        rules.take(house, now.lawOf(now.inForce));
        return rules;
    }

    private int accept(int told) {
        latestRefusal = 0;
        return told;
    }

    /** No deed that can be tells a number below 0. */
    private int acceptDeed(int told) {
        return told < 0 ? refuse(told) : accept(told);
    }

    private int refuse(int reason) {
        latestRefusal = reason;
        switch (reason) {
            case CANT_BE: refused[0]++; break;
            case NO_SUCH: refused[1]++; break;
            case NOT_NOW: refused[2]++; break;
            case NO_ROOM: refused[3]++; break;
            default: refused[4]++; break;
        }
        return reason;
    }

    private static boolean isVow(int vow) {
        return vow >= 0 && vow < VOWS;
    }

    private static boolean isHard(int hard) {
        return hard >= 0 && hard <= HARDEST;
    }

    /**
     * Monks with how hard each vow is, what they have, the year and the mood.
     * All stands in one row of numbers, so that what is kept to be undone is a copy of one row.
     */
    private static final class House {
        private static final int VOW_AT = MONKS * VOWS;
        private static final int HELD_AT = VOW_AT + MONKS;
        private static final int YEAR_AT = HELD_AT + MONKS;
        private static final int MOOD_AT = YEAR_AT + 1;
        private static final int MONKS_AT = MOOD_AT + 1;
        private static final int CELLS = MONKS_AT + 1;

        private final int[] cells = new int[CELLS];

        int monks() {
            return cells[MONKS_AT];
        }

        boolean isMonk(int monk) {
            return monk >= 0 && monk < cells[MONKS_AT];
        }

        /** Asked only while there is room. */
        int addMonk() {
            int monk = cells[MONKS_AT];
            cells[MONKS_AT] = monk + 1;
            setVow(monk, NONE);
            return monk;
        }

        int hardOf(int monk, int vow) {
            return cells[monk * VOWS + vow];
        }

        void setHard(int monk, int vow, int hard) {
            cells[monk * VOWS + vow] = hard;
        }

        int vowOf(int monk) {
            return cells[VOW_AT + monk];
        }

        /** A vow that comes to a monk, and none, has been held for no year. */
        void setVow(int monk, int vow) {
            cells[VOW_AT + monk] = vow;
            cells[HELD_AT + monk] = 0;
        }

        int heldOf(int monk, int vow) {
            return cells[VOW_AT + monk] == vow ? cells[HELD_AT + monk] : 0;
        }

        void holdOneMore(int monk) {
            int held = cells[HELD_AT + monk] + 1;
            cells[HELD_AT + monk] = Math.min(LONGEST_HELD, held);
        }

        boolean isHad(int vow) {
            for (int monk = 0; monk < monks(); monk++) {
                if (vowOf(monk) == vow) {
                    return true;
                }
            }
            return false;
        }

        int given() {
            int given = 0;
            for (int monk = 0; monk < monks(); monk++) {
                if (vowOf(monk) != NONE) {
                    given++;
                }
            }
            return given;
        }

        int hardOfAllHad() {
            int sum = 0;
            for (int monk = 0; monk < monks(); monk++) {
                if (vowOf(monk) != NONE) {
                    sum += hardOf(monk, vowOf(monk));
                }
            }
            return sum;
        }

        int year() {
            return cells[YEAR_AT];
        }

        void setYear(int year) {
            cells[YEAR_AT] = year;
        }

        int mood() {
            return cells[MOOD_AT];
        }

        void setMood(int mood) {
            cells[MOOD_AT] = mood;
        }

        void copyFrom(House other) {
            System.arraycopy(other.cells, 0, cells, 0, CELLS);
        }
    }

    /** All that an image keeps. Laws never change once read, so that images share them. */
    private static final class Whole {
        private final House house = new House();
        private final Code[] laws = new Code[LAWS];
        private final int[] seenVows = new int[SEEN];
        private final int[] seenShown = new int[SEEN];
        private int lawCount = 0;
        private int inForce = NONE;
        private int seenCount = 0;

        boolean isLaw(int law) {
            return law >= 0 && law < lawCount;
        }

        /** Null for NONE: a law without a clause. */
        Code lawOf(int law) {
            return isLaw(law) ? laws[law] : null;
        }

        /** Asked only while there is room. */
        int addLaw(Code law) {
            laws[lawCount] = law;
            lawCount++;
            return lawCount - 1;
        }

        /** Asked only while there is room. */
        void addSeen(int vow, int shown) {
            seenVows[seenCount] = vow;
            seenShown[seenCount] = shown;
            seenCount++;
        }

        void copyFrom(Whole other) {
            house.copyFrom(other.house);
            for (int law = 0; law < LAWS; law++) {
                laws[law] = other.laws[law];
            }
            System.arraycopy(other.seenVows, 0, seenVows, 0, SEEN);
            System.arraycopy(other.seenShown, 0, seenShown, 0, SEEN);
            lawCount = other.lawCount;
            inForce = other.inForce;
            seenCount = other.seenCount;
        }
    }

    /** A text that was read: its clauses, and the steps by which their sums and tests are worked out. */
    private static final class Code {
        private final int[] marks;
        private final int[] steps;
        private int clauses = 0;
        private int length = 0;

        /** Room for any text: no byte of the tape makes more than one step. */
        Code() {
            marks = new int[CLAUSES * MARKS];
            steps = new int[TAPE];
        }

        Code(Code draft) {
            marks = Arrays.copyOf(draft.marks, draft.clauses * MARKS);
            steps = Arrays.copyOf(draft.steps, draft.length);
            clauses = draft.clauses;
            length = draft.length;
        }

        void clear() {
            clauses = 0;
            length = 0;
        }

        /** Asked only while there is room. */
        void addClause(int kind) {
            clauses++;
            mark(KIND, kind);
            mark(OFTEN, 1);
            mark(FIRST_SUM, NONE);
            mark(SECOND_SUM, NONE);
            mark(CONDITION, NONE);
        }

        void mark(int which, int value) {
            marks[(clauses - 1) * MARKS + which] = value;
        }

        int marked(int clause, int which) {
            return marks[clause * MARKS + which];
        }

        int addStep(int kind, int operand) {
            if (length >= steps.length) {
                return NONE;
            }
            steps[length] = kind * STEP + operand;
            length++;
            return length - 1;
        }

        /** The step leads behind all that stands now. */
        void leadHere(int step) {
            if (step >= 0 && step < length) {
                steps[step] += length;
            }
        }
    }

    /**
     * Reads texts of both languages into a draft. Each method that reads a part answers whether it could be;
     * if not, the token at which it stands is the fault.
     */
    private static final class Reader {
        /** Kinds of tokens; a single byte is its own kind. */
        private static final int AT_END = -1;
        private static final int LETTERS = -2;
        private static final int DIGITS = -3;

        private final int[] tape;
        private final Code draft = new Code();
        private int length = 0;
        private boolean asOrders = false;
        private int at = 0;
        private int behind = 0;
        private int kind = AT_END;
        private int number = 0;
        private int parts = 0;

        Reader(int[] tape) {
            this.tape = tape;
        }

        /** Reads so many bytes: the place of the fault, NONE if the draft is whole. */
        int faultOf(int byteCount, boolean ordersAreRead) {
            length = Math.min(byteCount, tape.length);
            asOrders = ordersAreRead;
            behind = 0;
            parts = 0;
            draft.clear();
            step();
            for (int clause = 0; clause < CLAUSES; clause++) {
                if (!(asOrders ? readsOrder() : readsRule())) {
                    return at;
                }
                if (kind == AT_END) {
                    return NONE;
                }
                if (!takes(';')) {
                    return at;
                }
            }
            return at;
        }

        private boolean readsRule() {
            int which = placeIn(LAW_KINDS);
            if (which == NONE) {
                return false;
            }
            draft.addClause(which);
            step();
            return (which == BARS || readsMarkedSum(FIRST_SUM)) && readsCondition();
        }

        private boolean readsOrder() {
            int which = placeIn(ORDER_KINDS);
            if (which == NONE) {
                return false;
            }
            draft.addClause(which);
            step();
            boolean fine = which == PASS || readsMarkedSum(FIRST_SUM);
            if (fine && (which == GIVE || which == SWAP)) {
                fine = takesWord(which == GIVE ? "to" : "with") && readsMarkedSum(SECOND_SUM);
            }
            return fine && readsTimes() && readsCondition();
        }

        private boolean readsMarkedSum(int which) {
            draft.mark(which, draft.length);
            if (!readsSum(0)) {
                return false;
            }
            draft.addStep(STOP, 0);
            return true;
        }

        private boolean readsTimes() {
            if (!takesWord("times")) {
                return true;
            }
            if (kind != DIGITS || number < 1 || number > MOST_TIMES) {
                return false;
            }
            draft.mark(OFTEN, number);
            step();
            return true;
        }

        private boolean readsCondition() {
            if (!takesWord("if")) {
                return true;
            }
            draft.mark(CONDITION, draft.length);
            if (!readsTest(0)) {
                return false;
            }
            draft.addStep(STOP, 0);
            return true;
        }

        private boolean readsTest(int depth) {
            boolean fine = readsBoth(depth);
            for (int i = 0; i < TAPE && fine && takesWord("or"); i++) {
                int lead = draft.addStep(OR, 0);
                fine = readsBoth(depth);
                draft.leadHere(lead);
            }
            return fine;
        }

        private boolean readsBoth(int depth) {
            boolean fine = readsPlain(depth);
            for (int i = 0; i < TAPE && fine && takesWord("and"); i++) {
                int lead = draft.addStep(AND, 0);
                fine = readsPlain(depth);
                draft.leadHere(lead);
            }
            return fine;
        }

        /** A row of "not" is counted, not gone down into: the tape could hold a hundred of them. */
        private boolean readsPlain(int depth) {
            boolean turned = false;
            for (int i = 0; i < TAPE && takesWord("not"); i++) {
                turned = !turned;
            }
            boolean fine = kind == '(' ? readsInner(depth, ')') : readsComparison(depth);
            if (turned) {
                draft.addStep(NOT, 0);
            }
            return fine;
        }

        private boolean readsInner(int depth, int closing) {
            if (depth >= BRACKETS) {
                return false;
            }
            step();
            boolean fine = closing == ')' ? readsTest(depth + 1) : readsSum(depth + 1);
            return fine && takes(closing);
        }

        private boolean readsComparison(int depth) {
            if (!readsSum(depth)) {
                return false;
            }
            int sign = kind == '<' ? LESS : kind == '>' ? MORE : kind == '=' ? SAME : NONE;
            if (sign == NONE) {
                return false;
            }
            step();
            if (!readsSum(depth)) {
                return false;
            }
            draft.addStep(sign, 0);
            return true;
        }

        private boolean readsSum(int depth) {
            boolean fine = readsTerm(depth);
            for (int i = 0; i < TAPE && fine && (kind == '+' || kind == '-'); i++) {
                int sign = kind == '+' ? PLUS : MINUS;
                step();
                fine = readsTerm(depth);
                draft.addStep(sign, 0);
            }
            return fine;
        }

        private boolean readsTerm(int depth) {
            boolean fine = readsPart(depth);
            for (int i = 0; i < TAPE && fine && (kind == '*' || kind == '/' || kind == '%'); i++) {
                int sign = kind == '*' ? TIMES : kind == '/' ? OVER : REST;
                step();
                fine = readsPart(depth);
                draft.addStep(sign, 0);
            }
            return fine;
        }

        private boolean readsPart(int depth) {
            if (kind == '[') {
                return readsInner(depth, ']');
            }
            if (parts >= PARTS) {
                return false;
            }
            parts++;
            if (kind == DIGITS) {
                if (number > GREATEST_NUMBER) {
                    return false;
                }
                draft.addStep(NUMBER, number);
                step();
                return true;
            }
            return readsWord();
        }

        private boolean readsWord() {
            int which = placeIn(asOrders ? ORDER_WORDS : LAW_WORDS);
            if (which == NONE) {
                return false;
            }
            step();
            if (asOrders && which >= HAS_WORD) {
                if (kind != DIGITS || number >= MONKS) {
                    return false;
                }
                which = (which == HAS_WORD ? HAS_WORD : HELD_WORD) + number;
                step();
            }
            draft.addStep(WORD, which);
            return true;
        }

        private boolean takes(int sign) {
            if (kind != sign) {
                return false;
            }
            step();
            return true;
        }

        private boolean takesWord(String word) {
            if (placeIn(word) != 0) {
                return false;
            }
            step();
            return true;
        }

        /** Which of the words, which blanks part, the token is. */
        private int placeIn(String words) {
            if (kind != LETTERS) {
                return NONE;
            }
            int place = 0;
            int spelled = 0;
            boolean alike = true;
            for (int i = 0; i < words.length(); i++) {
                if (words.charAt(i) != ' ') {
                    alike = alike && at + spelled < behind && words.charAt(i) == tape[at + spelled];
                    spelled++;
                } else if (alike && at + spelled == behind) {
                    return place;
                } else {
                    place++;
                    spelled = 0;
                    alike = true;
                }
            }
            return alike && at + spelled == behind ? place : NONE;
        }

        /** Goes on to the next token. */
        private void step() {
            at = behind;
            while (at < length && tape[at] == ' ') {
                at++;
            }
            behind = at;
            if (at >= length) {
                kind = AT_END;
            } else if (isLetter(tape[at])) {
                kind = LETTERS;
                while (behind < length && isLetter(tape[behind])) {
                    behind++;
                }
            } else if (isDigit(tape[at])) {
                kind = DIGITS;
                number = 0;
                while (behind < length && isDigit(tape[behind])) {
                    // beyond the greatest number all are alike, however many digits there are
                    number = Math.min(GREATEST_NUMBER + 1, number * 10 + tape[behind] - '0');
                    behind++;
                }
            } else {
                kind = tape[at];
                behind++;
            }
        }

        private static boolean isLetter(int sign) {
            return sign >= 'a' && sign <= 'z';
        }

        private static boolean isDigit(int sign) {
            return sign >= '0' && sign <= '9';
        }
    }

    /** Works out sums and tests. */
    private static final class Machine {
        private final int[] stack = new int[PARTS];
        private int top = 0;
        private int told = 0;

        int told() {
            return told;
        }

        /** Answers whether what begins at the step is not broken; told() has its value then. */
        boolean works(Code text, int start, int[] words) {
            top = 0;
            for (int at = Math.max(0, start); at < text.length; at++) {
                int kind = text.steps[at] / STEP;
                int operand = text.steps[at] % STEP;
                if (kind == STOP) {
                    return endsWell();
                }
                if (kind == NUMBER) {
                    push(operand);
                } else if (kind == WORD) {
                    push(operand < words.length ? words[operand] : 0);
                } else if (kind == NOT) {
                    turn();
                } else if (kind != AND && kind != OR) {
                    if (!combines(kind)) {
                        return false;
                    }
                } else if (isSettled(kind)) {
                    at = Math.max(at, operand - 1);
                }
            }
            return false;
        }

        private boolean endsWell() {
            if (top < 1) {
                return false;
            }
            told = stack[top - 1];
            return true;
        }

        private void push(int value) {
            if (top < stack.length) {
                stack[top] = value;
                top++;
            }
        }

        private void turn() {
            if (top >= 1) {
                stack[top - 1] = 1 - stack[top - 1];
            }
        }

        /** Whether what stands behind "and", "or" can't matter; if it can, what stands ahead is let go. */
        private boolean isSettled(int kind) {
            if (top < 1) {
                return true;
            }
            boolean settled = (stack[top - 1] == 0) == (kind == AND);
            if (!settled) {
                top--;
            }
            return settled;
        }

        private boolean combines(int kind) {
            if (top < 2) {
                return false;
            }
            long left = stack[top - 2];
            long right = stack[top - 1];
            if (right == 0 && (kind == OVER || kind == REST)) {
                return false;
            }
            long result;
            switch (kind) {
                case PLUS: result = left + right; break;
                case MINUS: result = left - right; break;
                case TIMES: result = left * right; break;
                case OVER: result = left / right; break;
                case REST: result = left % right; break;
                case LESS: result = left < right ? 1 : 0; break;
                case MORE: result = left > right ? 1 : 0; break;
                default: result = left == right ? 1 : 0; break;
            }
            if (result > BOUND || result < -BOUND) {
                return false;
            }
            top--;
            stack[top - 1] = (int) result;
            return true;
        }
    }

    /** What a law tells of the monks of a house, and what can be there by it. */
    private static final class Rules {
        private final Machine machine;
        private final int[] words = new int[LAW_WORD_COUNT];
        private House house;
        private Code law = null;

        Rules(Machine machine, House house) {
            this.machine = machine;
            this.house = house;
        }

        void take(House ofHouse, Code byLaw) {
            house = ofHouse;
            law = byLaw;
        }

        int shownBy(int monk, int vow) {
            return told(SHOWS, monk, vow);
        }

        int breaksOf(int monk, int vow) {
            return told(BREAKS, monk, vow);
        }

        int fallOf(int monk, int vow) {
            return told(FALLS, monk, vow);
        }

        int riseOf(int monk, int vow) {
            return told(RISES, monk, vow);
        }

        boolean isBarred(int monk, int vow) {
            return told(BARS, monk, vow) != 0;
        }

        /** What the last clause of the kind that holds tells; that a clause bars is told as 1. */
        private int told(int kind, int monk, int vow) {
            if (law == null) {
                return toldWithout(kind, monk, vow);
            }
            setWords(monk, vow);
            for (int clause = law.clauses - 1; clause >= 0; clause--) {
                if (law.marked(clause, KIND) != kind) {
                    continue;
                }
                int condition = law.marked(clause, CONDITION);
                if (condition != NONE && (!machine.works(law, condition, words) || machine.told() == 0)) {
                    continue;
                }
                int sum = law.marked(clause, FIRST_SUM);
                if (sum == NONE) {
                    return 1;
                }
                if (machine.works(law, sum, words)) {
                    return Math.max(0, Math.min(kind == BREAKS ? TENTHS : MOST_TOLD, machine.told()));
                }
            }
            return toldWithout(kind, monk, vow);
        }

        private int toldWithout(int kind, int monk, int vow) {
            switch (kind) {
                case FALLS: return USUAL_FALL;
                case RISES: return USUAL_RISE;
                case SHOWS: return house.hardOf(monk, vow);
                case BREAKS: return USUAL_BREAKS;
                default: return 0;
            }
        }

        /** In the order of LAW_WORDS. */
        private void setWords(int monk, int vow) {
            words[0] = monk;
            words[1] = vow;
            words[2] = house.hardOf(monk, vow);
            words[3] = house.heldOf(monk, vow);
            words[4] = house.vowOf(monk);
            words[5] = house.year();
            words[6] = house.mood();
        }

        /** By what a giving is refused; 0 if it can be. */
        int refusalToGive(int vow, int monk) {
            if (!isVow(vow)) {
                return CANT_BE;
            }
            if (!house.isMonk(monk)) {
                return NO_SUCH;
            }
            return house.isHad(vow) || told(BARS, monk, vow) != 0 ? NOT_NOW : 0;
        }

        /** By what an exchange is refused; 0 if it can be. */
        int refusalToSwap(int one, int other) {
            if (one == other) {
                return CANT_BE;
            }
            if (!house.isMonk(one) || !house.isMonk(other)) {
                return NO_SUCH;
            }
            int vowOfOne = house.vowOf(one);
            int vowOfOther = house.vowOf(other);
            if (vowOfOne == NONE || vowOfOther == NONE) {
                return NOT_NOW;
            }
            boolean barred = told(BARS, one, vowOfOther) != 0 || told(BARS, other, vowOfOne) != 0;
            return barred ? NOT_NOW : 0;
        }

        boolean isHarderSwapped(int one, int other) {
            if (refusalToSwap(one, other) != 0) {
                return false;
            }
            int vowOfOne = house.vowOf(one);
            int vowOfOther = house.vowOf(other);
            int ahead = house.hardOf(one, vowOfOne) + house.hardOf(other, vowOfOther);
            return house.hardOf(one, vowOfOther) + house.hardOf(other, vowOfOne) > ahead;
        }

        /** A law asks of no other monk and vow than these two, so each can change as soon as it was asked. */
        void passYear() {
            for (int monk = 0; monk < house.monks(); monk++) {
                for (int vow = 0; vow < VOWS; vow++) {
                    boolean had = house.vowOf(monk) == vow;
                    int hard = house.hardOf(monk, vow) + (had ? -told(FALLS, monk, vow) : told(RISES, monk, vow));
                    house.setHard(monk, vow, Math.max(0, Math.min(HARDEST, hard)));
                }
                if (house.vowOf(monk) != NONE) {
                    house.holdOneMore(monk);
                }
            }
            house.setYear(house.year() + 1);
        }

        /** A year of one monk and the vow that he has, as if there were nothing else. */
        void passYearOf(int monk, int vow) {
            int hard = house.hardOf(monk, vow) - told(FALLS, monk, vow);
            house.setHard(monk, vow, Math.max(0, hard));
            house.holdOneMore(monk);
            house.setYear(house.year() + 1);
        }
    }

    /** What can be undone: the house as it was ahead of each deed, the oldest first. */
    private static final class Trail {
        private final int[] kinds = new int[UNDONE];
        private final int[] rows = new int[UNDONE * House.CELLS];
        private int length = 0;

        int length() {
            return length;
        }

        void clear() {
            length = 0;
        }

        void keep(int kind, House house) {
            if (length >= UNDONE) {
                System.arraycopy(kinds, 1, kinds, 0, UNDONE - 1);
                System.arraycopy(rows, House.CELLS, rows, 0, (UNDONE - 1) * House.CELLS);
                length = UNDONE - 1;
            }
            kinds[length] = kind;
            System.arraycopy(house.cells, 0, rows, length * House.CELLS, House.CELLS);
            length++;
        }

        /** The house is as ahead of the latest deed, whose kind is answered; asked only if there is one. */
        int takeBack(House house) {
            length--;
            System.arraycopy(rows, length * House.CELLS, house.cells, 0, House.CELLS);
            return kinds[length];
        }

        void copyFrom(Trail other) {
            length = other.length;
            System.arraycopy(other.kinds, 0, kinds, 0, length);
            System.arraycopy(other.rows, 0, rows, 0, length * House.CELLS);
        }
    }

    /** Givings, exchanges and years, one by one or by orders; each tells what its method answers. */
    private static final class Deeds {
        private final Whole now;
        private final House house;
        private final Rules rules;
        private final Machine machine;
        private final Trail trail = new Trail();
        private final Trail trailAhead = new Trail();
        private final House houseAhead = new House();
        private final int[] words = new int[ORDER_WORD_COUNT];
        private int done = 0;
        private int latestGiven = NONE;
        private int stoppedAt = NONE;

        Deeds(Whole now, Rules rules, Machine machine) {
            this.now = now;
            this.house = now.house;
            this.rules = rules;
            this.machine = machine;
        }

        int giveVow(int vow, int monk) {
            rules.take(house, now.lawOf(now.inForce));
            int refusal = rules.refusalToGive(vow, monk);
            if (refusal != 0) {
                return refusal;
            }
            trail.keep(GIVE, house);
            house.setVow(monk, vow);
            return house.hardOf(monk, vow);
        }

        int layDown(int monk) {
            if (!house.isMonk(monk)) {
                return NO_SUCH;
            }
            int vow = house.vowOf(monk);
            if (vow == NONE) {
                return NOT_NOW;
            }
            trail.keep(LAY, house);
            house.setVow(monk, NONE);
            return vow;
        }

        int swapVows(int one, int other) {
            rules.take(house, now.lawOf(now.inForce));
            int refusal = rules.refusalToSwap(one, other);
            if (refusal != 0) {
                return refusal;
            }
            trail.keep(SWAP, house);
            int vowOfOne = house.vowOf(one);
            int vowOfOther = house.vowOf(other);
            house.setVow(one, vowOfOther);
            house.setVow(other, vowOfOne);
            return house.hardOf(one, vowOfOther) + house.hardOf(other, vowOfOne);
        }

        int passYear() {
            if (house.year() >= LAST_YEAR) {
                return NOT_NOW;
            }
            trail.keep(PASS, house);
            rules.take(house, now.lawOf(now.inForce));
            rules.passYear();
            return house.year();
        }

        int takeBack() {
            return trail.length() == 0 ? NOT_NOW : trail.takeBack(house);
        }

        /** Runs orders wholly or not at all: how many were run, or what they are refused by. */
        int run(Code text) {
            houseAhead.copyFrom(house);
            trailAhead.copyFrom(trail);
            done = 0;
            latestGiven = NONE;
            for (int clause = 0; clause < text.clauses; clause++) {
                int often = text.marked(clause, OFTEN);
                for (int time = 0; time < often; time++) {
                    setWords();
                    if (!isWanted(text, clause)) {
                        continue;
                    }
                    if (carryOut(text, clause) < 0) {
                        house.copyFrom(houseAhead);
                        trail.copyFrom(trailAhead);
                        stoppedAt = clause;
                        return NOT_NOW;
                    }
                    done++;
                }
            }
            return done;
        }

        private boolean isWanted(Code text, int clause) {
            int condition = text.marked(clause, CONDITION);
            return condition == NONE || (machine.works(text, condition, words) && machine.told() != 0);
        }

        private int carryOut(Code text, int clause) {
            int first = text.marked(clause, FIRST_SUM);
            int second = text.marked(clause, SECOND_SUM);
            if (first != NONE && !machine.works(text, first, words)) {
                return NOT_NOW;
            }
            int one = machine.told();
            if (second != NONE && !machine.works(text, second, words)) {
                return NOT_NOW;
            }
            int other = machine.told();
            switch (text.marked(clause, KIND)) {
                case GIVE:
                    latestGiven = giveVow(one, other);
                    return latestGiven;
                case LAY:
                    return layDown(one);
                case SWAP:
                    return swapVows(one, other);
                default:
                    return passYear();
            }
        }

        /** In the order of ORDER_WORDS, "has" and "held" with a place for each monk that can be named. */
        private void setWords() {
            words[0] = house.year();
            words[1] = done;
            words[2] = latestGiven;
            words[3] = house.given();
            words[4] = house.hardOfAllHad();
            for (int monk = 0; monk < MONKS; monk++) {
                int vow = house.isMonk(monk) ? house.vowOf(monk) : NONE;
                words[HAS_WORD + monk] = vow;
                words[HELD_WORD + monk] = vow == NONE ? NONE : house.heldOf(monk, vow);
            }
        }
    }

    /** Chooses a vow for each monk on paper: the best row, the fairest, the one by wishes. */
    private static final class Chooser {
        private static final int SETS = 1 << VOWS;
        private static final int CANT = -1;

        /** What it is worth that a monk has a vow; CANT if he may not have it. */
        private final int[] worth = new int[MONKS * VOWS];
        /** The most that monks from one on can be worth when a set of vows is taken; CANT if it can't be. */
        private final int[] most = new int[(MONKS + 1) * SETS];
        private final int[] row = new int[MONKS];
        private final int[] asked = new int[MONKS];
        private final int[] keeps = new int[VOWS];
        private boolean leastCounts = false;
        private boolean allMustHave = false;

        int chosen(int monk) {
            return monk >= 0 && monk < MONKS ? row[monk] : NO_VOW;
        }

        int total() {
            return most[0];
        }

        /** What is shown together. */
        int chooseBest(Rules rules, House house) {
            weighShown(rules, house);
            return chooseWeighed(house.monks());
        }

        /** By what each is worth as it stands. */
        int chooseWeighed(int monks) {
            allMustHave = false;
            leastCounts = false;
            fillMost(monks);
            fillRow(monks);
            return most[0];
        }

        void weighShown(Rules rules, House house) {
            for (int monk = 0; monk < house.monks(); monk++) {
                for (int vow = 0; vow < VOWS; vow++) {
                    boolean barred = rules.isBarred(monk, vow);
                    worth[monk * VOWS + vow] = barred ? CANT : rules.shownBy(monk, vow);
                }
            }
        }

        int worthOf(int monk, int vow) {
            return worth[monk * VOWS + vow];
        }

        void setWorth(int monk, int vow, int value) {
            worth[monk * VOWS + vow] = value;
        }

        /**
         * The least hard of all, CANT if not all can have one; total() tells hard together.
         * The greatest least comes first; then only what is as hard or harder can be in the row.
         */
        int chooseFair(Rules rules, House house) {
            if (house.monks() == 0) {
                return CANT;
            }
            weighHard(rules, house);
            allMustHave = true;
            leastCounts = true;
            fillMost(house.monks());
            int least = most[0];
            for (int i = 0; i < worth.length; i++) {
                if (worth[i] < least) {
                    worth[i] = CANT;
                }
            }
            leastCounts = false;
            fillMost(house.monks());
            fillRow(house.monks());
            return least;
        }

        private void weighHard(Rules rules, House house) {
            for (int monk = 0; monk < house.monks(); monk++) {
                for (int vow = 0; vow < VOWS; vow++) {
                    boolean barred = rules.isBarred(monk, vow);
                    worth[monk * VOWS + vow] = barred ? CANT : house.hardOf(monk, vow);
                }
            }
        }

        /** Ahead of a monk no more vows are taken than there are monks ahead of him. */
        private void fillMost(int monks) {
            int behindAll = leastCounts ? HARDEST : 0;
            for (int taken = 0; taken < SETS; taken++) {
                most[monks * SETS + taken] = behindAll;
            }
            for (int monk = monks - 1; monk >= 0; monk--) {
                for (int taken = 0; taken < SETS; taken++) {
                    if (Integer.bitCount(taken) <= monk) {
                        most[monk * SETS + taken] = mostFrom(monk, taken);
                    }
                }
            }
        }

        private int mostFrom(int monk, int taken) {
            int best = allMustHave ? CANT : most[(monk + 1) * SETS + taken];
            for (int vow = 0; vow < VOWS; vow++) {
                if ((taken >> vow & 1) == 0) {
                    best = Math.max(best, mostWith(monk, taken, vow));
                }
            }
            return best;
        }

        private int mostWith(int monk, int taken, int vow) {
            int own = worth[monk * VOWS + vow];
            if (own < 0 || (taken >> vow & 1) != 0) {
                return CANT;
            }
            int others = most[(monk + 1) * SETS + (taken | 1 << vow)];
            if (others < 0) {
                return CANT;
            }
            return leastCounts ? Math.min(own, others) : own + others;
        }

        /** The first row that reaches the most: each monk in turn has the lowest vow by which it is still reached. */
        private void fillRow(int monks) {
            int taken = 0;
            for (int monk = 0; monk < monks; monk++) {
                row[monk] = NO_VOW;
                int goal = most[monk * SETS + taken];
                for (int vow = 0; vow < VOWS && goal >= 0; vow++) {
                    if (mostWith(monk, taken, vow) == goal) {
                        row[monk] = vow;
                        taken |= 1 << vow;
                        break;
                    }
                }
            }
        }

        /** How often was asked. */
        int chooseWished(Rules rules, House house) {
            weighShown(rules, house);
            Arrays.fill(row, NO_VOW);
            Arrays.fill(asked, 0);
            Arrays.fill(keeps, NONE);
            int asks = 0;
            int monk = lowestToAsk(house);
            while (monk != NONE && asks < MONKS * VOWS) {
                askFor(monk, nextWish(house, monk));
                asks++;
                monk = lowestToAsk(house);
            }
            return asks;
        }

        private int lowestToAsk(House house) {
            for (int monk = 0; monk < house.monks(); monk++) {
                if (row[monk] == NO_VOW && nextWish(house, monk) != NONE) {
                    return monk;
                }
            }
            return NONE;
        }

        private int nextWish(House house, int monk) {
            int wish = NONE;
            for (int vow = 0; vow < VOWS; vow++) {
                if ((asked[monk] >> vow & 1) != 0 || worthOf(monk, vow) < 0) {
                    continue;
                }
                if (wish == NONE || house.hardOf(monk, vow) < house.hardOf(monk, wish)) {
                    wish = vow;
                }
            }
            return wish;
        }

        private void askFor(int monk, int vow) {
            if (vow == NONE) {
                return;
            }
            asked[monk] |= 1 << vow;
            int other = keeps[vow];
            if (other != NONE && worthOf(other, vow) >= worthOf(monk, vow)) {
                return;
            }
            if (other != NONE) {
                row[other] = NO_VOW;
            }
            keeps[vow] = monk;
            row[monk] = vow;
        }
    }

    /** What would be: nothing here changes the order itself. */
    private static final class Paper {
        private final Rules rules;
        private final Chooser chooser;
        private final House sheet = new House();
        private final House drawnHouse = new House();
        private final int[] shown = new int[MONKS];
        private int drawState = 0;

        Paper(Rules rules, Chooser chooser) {
            this.rules = rules;
            this.chooser = chooser;
        }

        /** What 0: the vow, 1: what is shown of it, 2: how hard is what he has then. */
        int hidden(Whole now, int monk, int what) {
            House house = now.house;
            rules.take(house, now.lawOf(now.inForce));
            chooser.chooseBest(rules, house);
            int least = hardOfChosen(house, monk);
            int vowThen = NONE;
            int shownThen = NONE;
            for (int vow = 0; vow < VOWS; vow++) {
                int ever = chooser.worthOf(monk, vow);
                for (int lie = 0; lie <= HARDEST && ever >= 0; lie += HARDEST) {
                    chooser.setWorth(monk, vow, lie);
                    chooser.chooseWeighed(house.monks());
                    int hard = hardOfChosen(house, monk);
                    if (hard < least) {
                        least = hard;
                        vowThen = vow;
                        shownThen = lie;
                    }
                }
                chooser.setWorth(monk, vow, ever);
            }
            if (vowThen == NONE) {
                return NONE;
            }
            return what == 0 ? vowThen : what == 1 ? shownThen : least;
        }

        private int hardOfChosen(House house, int monk) {
            int vow = chooser.chosen(monk);
            return isVow(vow) ? house.hardOf(monk, vow) : 0;
        }

        int firstSoftYear(Whole now, int below) {
            takeSheet(now);
            for (int year = 0; year <= LAST_SOFT_YEAR; year++) {
                chooser.chooseBest(rules, sheet);
                for (int monk = 0; monk < sheet.monks(); monk++) {
                    takeChosen(monk);
                }
                if (sheet.hardOfAllHad() < below) {
                    return year;
                }
                rules.passYear();
            }
            return NONE;
        }

        private void takeSheet(Whole now) {
            sheet.copyFrom(now.house);
            rules.take(sheet, now.lawOf(now.inForce));
        }

        /** One who has the same as ahead goes on holding it. */
        private void takeChosen(int monk) {
            int chosen = chooser.chosen(monk);
            int vow = isVow(chosen) ? chosen : NONE;
            if (sheet.vowOf(monk) != vow) {
                sheet.setVow(monk, vow);
            }
        }

        long chanceKept(Whole now, int monk, int n) {
            takeSheet(now);
            int vow = sheet.vowOf(monk);
            long parts = ALL_PARTS;
            for (int year = 0; year < n; year++) {
                parts = parts * (TENTHS - rules.breaksOf(monk, vow)) / TENTHS;
                rules.passYearOf(monk, vow);
            }
            return parts;
        }

        /** As bits. */
        int possibleMonks(Whole now) {
            rules.take(now.house, now.lawOf(now.inForce));
            int possible = 0;
            for (int monk = 0; monk < now.house.monks(); monk++) {
                if (showsAllSeen(now, monk)) {
                    possible |= 1 << monk;
                }
            }
            return possible;
        }

        private boolean showsAllSeen(Whole now, int monk) {
            for (int i = 0; i < now.seenCount; i++) {
                if (rules.shownBy(monk, now.seenVows[i]) != now.seenShown[i]) {
                    return false;
                }
            }
            return true;
        }

        /** What 0: the vow, 1: how many are left at most. */
        int nextToSee(Whole now, int what) {
            int possible = possibleMonks(now);
            if (possible == 0) {
                return NONE;
            }
            int fewest = MONKS + 1;
            int vowThen = NONE;
            for (int vow = 0; vow < VOWS; vow++) {
                int alike = mostAlike(possible, vow);
                if (alike < fewest) {
                    fewest = alike;
                    vowThen = vow;
                }
            }
            return what == 0 ? vowThen : fewest;
        }

        private int mostAlike(int possible, int vow) {
            int most = 0;
            for (int monk = 0; monk < MONKS; monk++) {
                if ((possible >> monk & 1) == 0) {
                    shown[monk] = NONE;
                    continue;
                }
                shown[monk] = rules.shownBy(monk, vow);
                int alike = 0;
                for (int other = 0; other <= monk; other++) {
                    if (shown[other] == shown[monk]) {
                        alike++;
                    }
                }
                most = Math.max(most, alike);
            }
            return most;
        }

        /** How many vows were given. */
        int drawYears(Whole now, int seed, int n) {
            drawnHouse.copyFrom(now.house);
            rules.take(drawnHouse, now.lawOf(now.inForce));
            drawState = seed;
            int given = 0;
            for (int year = 0; year < n && drawnHouse.year() < LAST_YEAR; year++) {
                int monk = draw(drawnHouse.monks());
                int vow = draw(VOWS);
                if (rules.refusalToGive(vow, monk) == 0) {
                    drawnHouse.setVow(monk, vow);
                    given++;
                }
                rules.passYear();
            }
            return given;
        }

        private int draw(int many) {
            drawState = (drawState * 1103 + 12345) % 1000003;
            return many > 0 ? drawState % many : 0;
        }
    }
}
