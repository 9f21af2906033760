/** The edges that the document's "Terms" name, sentence by sentence: each test is that of the words it quotes. */
public final class TermsSentencesTest extends Sentences {
    /** Years in which nothing but what is held and the year matters. */
    private static void passYears(HardestVows x, int n) {
        for (int i = 0; i < n; i++) {
            x.pass();
        }
    }

    // ---- I

    @Says(where = "Terms I", text = "VOWS 0 .. 6.")
    static void vowsAreZeroToSix() {
        HardestVows x = with(10, 20);
        due("put of vow -1", x.put(0, -1, 5), -1);
        due("put of vow 0", x.put(0, 0, 5), 10);
        due("put of vow 6", x.put(0, 6, 5), 10);
        due("put of vow 7", x.put(0, 7, 5), -1);
        due("hard of the next monk's vow 0", x.of(1, 0, 0), 20);
    }

    @Says(where = "Terms I", text = "MONKS 0 .. 6 (7 at most):")
    static void monksAreSevenAtMost() {
        HardestVows x = new HardestVows();
        for (int m = 0; m <= 6; m++) {
            due("no monk " + m + " yet", x.lay(m), -2);
            due("monk " + m, x.monk(m), m);
            due("monk " + m + " stands", x.lay(m), -3);
        }
        due("an eighth monk", x.monk(1), -5);
        due("monk 7", x.lay(7), -2);
        due("monk -1", x.lay(-1), -2);
    }

    @Says(where = "Terms I", text = "HARD 0 .. 99 of each VOW;")
    static void hardIsZeroToNinetyNine() {
        HardestVows x = with(50);
        for (int vow = 0; vow <= 6; vow++) {
            due("hard -1", x.put(0, vow, -1), -1);
            due("hard 0", x.put(0, vow, 0), 50);
            due("hard 99", x.put(0, vow, 99), 0);
            due("hard 100", x.put(0, vow, 100), -1);
            due("hard still", x.of(0, vow, 0), 99);
        }
    }

    @Says(where = "Terms I", text = "a MONK HAS one VOW, or none (at first),")
    static void aMonkHasOneVowOrNone() {
        HardestVows x = with(10);
        due("at first", x.has(0), -1);
        due("how many have one at first", x.count(1), 0);
        x.give(0, 0);
        x.give(6, 0);
        due("the second one", x.has(0), 6);
        due("one alone", x.count(1), 1);
        due("hard of one alone", x.count(2), 10);
    }

    @Says(where = "Terms I", text = "each VOW is had by one MONK at most;")
    static void aVowIsHadByOneMonk() {
        HardestVows x = with(10, 20);
        x.give(3, 0);
        due("had by another", x.give(3, 1), -3);
        due("he still has it", x.has(0), 3);
        due("the other one has none", x.has(1), -1);
        x.lay(0);
        due("had by nobody", x.give(3, 1), 20);
    }

    @Says(where = "Terms I", text = "HELD 0 .. 99 years (0 of one he has not).")
    static void heldIsZeroToNinetyNine() {
        HardestVows x = with(10);
        x.give(2, 0);
        due("held at first", x.of(0, 2, 1), 0);
        passYears(x, 98);
        due("held 98", x.of(0, 2, 1), 98);
        passYears(x, 1);
        due("held 99", x.of(0, 2, 1), 99);
        passYears(x, 1);
        due("held 99 still", x.of(0, 2, 1), 99);
        due("of one he has not", x.of(0, 1, 1), 0);
        x.give(1, 0);
        due("of the one he had", x.of(0, 2, 1), 0);
    }

    @Says(where = "Terms I", text = "SEEN, 8 at most:")
    static void seenIsEightAtMost() {
        HardestVows x = with(10);
        for (int i = 1; i <= 8; i++) {
            due("seen " + i, x.seen(i % 7, 10), i);
        }
        due("the ninth", x.seen(0, 10), -5);
        due("eight are seen", x.count(3), 8);
        due("who is as ahead", x.who(), 1);
    }

    @Says(where = "Terms I", text = "of a VOW somebody shows 0 .. 99.")
    static void whatIsSeenIsZeroToNinetyNine() {
        HardestVows x = with(0, 99);
        due("shown -1", x.seen(0, -1), -1);
        due("shown 100", x.seen(0, 100), -1);
        due("shown 0", x.seen(6, 0), 1);
        due("who shows 0", x.who(), 1);
        x.forget();
        due("shown 99", x.seen(0, 99), 1);
        due("who shows 99", x.who(), 2);
        due("vow -1", x.seen(-1, 9), -1);
        due("vow 7", x.seen(7, 9), -1);
    }

    @Says(where = "Terms I", text = "TERMS: 0 YEAR 0 .. 999 (0 at first),")
    static void theYearIsZeroToLast() {
        HardestVows x = new HardestVows();
        due("at first", x.count(13), 0);
        due("year -1", x.terms(0, -1), -1);
        due("year 1000", x.terms(0, 1000), -1);
        due("year 999", x.terms(0, 999), 0);
        due("year 0", x.terms(0, 0), 999);
        due("term -1", x.terms(-1, 0), -1);
    }

    @Says(where = "Terms I", text = "1 MOOD 0 .. 9 (0).")
    static void theMoodIsZeroToNine() {
        HardestVows x = new HardestVows();
        due("at first", x.count(14), 0);
        due("mood -1", x.terms(1, -1), -1);
        due("mood 10", x.terms(1, 10), -1);
        due("mood 9", x.terms(1, 9), 0);
        due("mood 0", x.terms(1, 0), 9);
        due("term 2", x.terms(2, 0), -1);
    }

    @Says(where = "Terms I", text = "REFUSED by: -1 a number that can't be;")
    static void refusedByANumber() {
        HardestVows x = with(10, 20);
        refused(x, "monk(-1)", () -> x.monk(-1), -1);
        refused(x, "monk(100)", () -> x.monk(100), -1);
        refused(x, "put of vow 7", () -> x.put(0, 7, 0), -1);
        refused(x, "put of hard 100", () -> x.put(0, 0, 100), -1);
        refused(x, "terms(2, 0)", () -> x.terms(2, 0), -1);
        refused(x, "terms(0, 1000)", () -> x.terms(0, 1000), -1);
        refused(x, "give(7, 0)", () -> x.give(7, 0), -1);
        refused(x, "swap(1, 1)", () -> x.swap(1, 1), -1);
        refused(x, "seen(7, 0)", () -> x.seen(7, 0), -1);
        refused(x, "seen(0, 100)", () -> x.seen(0, 100), -1);
        refused(x, "years(1000001, 1)", () -> x.years(1000001, 1), -1);
        refused(x, "years(0, 101)", () -> x.years(0, 101), -1);
        refused(x, "image(2)", () -> x.image(2), -1);
        refused(x, "back(2)", () -> x.back(2), -1);
        refused(x, "monk of the least number", () -> x.monk(Integer.MIN_VALUE), -1);
        refused(x, "monk of the greatest number", () -> x.monk(Integer.MAX_VALUE), -1);
    }

    @Says(where = "Terms I", text = "-2 there is no such MONK, LAW, IMAGE;")
    static void refusedAsThereIsNone() {
        HardestVows x = with(10, 20);
        refused(x, "put of monk 2", () -> x.put(2, 0, 0), -2);
        refused(x, "put of monk -1", () -> x.put(-1, 0, 0), -2);
        refused(x, "give to monk 2", () -> x.give(0, 2), -2);
        refused(x, "give to monk -1", () -> x.give(0, -1), -2);
        refused(x, "lay of monk 2", () -> x.lay(2), -2);
        refused(x, "lay of monk -1", () -> x.lay(-1), -2);
        refused(x, "swap with monk 2", () -> x.swap(0, 2), -2);
        refused(x, "swap of monk -1", () -> x.swap(-1, 0), -2);
        refused(x, "law 0", () -> x.force(0), -2);
        refused(x, "law -2", () -> x.force(-2), -2);
        refused(x, "image 0", () -> x.back(0), -2);
        refused(x, "image 1", () -> x.back(1), -2);
        refused(x, "lay of the least number", () -> x.lay(Integer.MIN_VALUE), -2);
        refused(x, "lay of the greatest number", () -> x.lay(Integer.MAX_VALUE), -2);
    }

    @Says(where = "Terms I", text = "-3 it can't be by what stands;")
    static void refusedByWhatStands() {
        HardestVows none = new HardestVows();
        refused(none, "years without monks", () -> none.years(0, 1), -3);
        HardestVows x = under("bars if vow = 6", 10, 20);
        refused(x, "nothing to undo", x::undo, -3);
        refused(x, "barred", () -> x.give(6, 0), -3);
        refused(x, "he has none", () -> x.lay(0), -3);
        refused(x, "both have none", () -> x.swap(0, 1), -3);
        x.give(1, 0);
        refused(x, "it is had", () -> x.give(1, 1), -3);
        tape(x, "lay 1");
        refused(x, "orders that can't be", x::orders, -3);
        x.terms(0, 999);
        refused(x, "the last year", x::pass, -3);
    }

    @Says(where = "Terms I", text = "-5 no room;")
    static void refusedForWantOfRoom() {
        HardestVows x = with(1, 2, 3, 4, 5, 6, 7);
        refused(x, "the eighth monk", () -> x.monk(8), -5);
        for (int i = 0; i < 8; i++) {
            x.seen(0, 0);
        }
        refused(x, "the ninth seen", () -> x.seen(0, 0), -5);
        for (int i = 0; i < 6; i++) {
            law(x, "bars");
        }
        tape(x, "bars");
        refused(x, "the seventh law", x::law, -5);
    }

    @Says(where = "Terms I", text = "-6 a TEXT, a ROW that can't be.")
    static void refusedAsATextOrARow() {
        HardestVows x = with(1);
        refused(x, "no row", x::row, -6);
        refused(x, "no law", x::law, -6);
        refused(x, "no orders", x::orders, -6);
        tape(x, "pass");
        refused(x, "a law that is none", x::law, -6);
        tape(x, "bars");
        refused(x, "orders that are none", x::orders, -6);
    }

    @Says(where = "Terms I", text = "The first of these in that order.")
    static void theFirstReasonCounts() {
        HardestVows none = new HardestVows();
        due("-1 ahead of -3, years", none.years(-1, 1), -1);
        due("-1 ahead of -2, put", none.put(0, 7, 0), -1);
        due("-1 ahead of -2, give", none.give(7, 0), -1);
        due("-1 ahead of -2, swap", none.swap(3, 3), -1);
        due("-1 ahead of -2, back", none.back(2), -1);
        HardestVows x = under("bars", 1, 2, 3, 4, 5, 6, 7);
        due("-1 ahead of -5, monk", x.monk(100), -1);
        due("-1 ahead of -3, give", x.give(7, 0), -1);
        due("-1 ahead of -3, swap", x.swap(0, 0), -1);
        due("-2 ahead of -3, swap", x.swap(0, 7), -2);
        x.force(-1);
        x.give(0, 0);
        due("-2 ahead of -3, give", x.give(0, 7), -2);
        for (int i = 0; i < 8; i++) {
            x.seen(0, 0);
        }
        due("-1 ahead of -5, seen", x.seen(0, 100), -1);
        for (int i = 0; i < 5; i++) {
            law(x, "bars");
        }
        due("-5 ahead of -6, law", law(x, "nothing"), -5);
    }

    // ---- II: texts

    @Says(where = "Terms II", text = "TEXTS are on a TAPE of at most 400 bytes.")
    static void theTapeHasFourHundredBytes() {
        HardestVows x = under("falls" + repeated(" ", "", 394) + "7", 50);
        due("the 400th byte is read", x.of(0, 0, 5), 7);
        for (int i = 1; i <= 20; i++) {
            due("fed", x.feed(0x20202020, 0x20202020, 0x20202020, 0x20202020, 0x20202020), 20 * i);
        }
        due("beyond 400", x.feed(0x20202020, 0x20202020, 0x20202020, 0x20202020, 0x20202020), -1);
        due("400 bytes", x.count(6), 400);
        due("blanks alone", x.law(), -6);
        due("the end of 400", x.fault(), 400);
    }

    @Says(where = "Terms II", text = "TOKENS: longest rows of letters a .. z,")
    static void rowsOfLetters() {
        lawFault("falls vowz", 6);
        lawFault("falls vowa", 6);
        lawFault("falls avow", 6);
        lawFault("falls zvow", 6);
        lawFault("falls vow`", 9);
        lawFault("falls vow{", 9);
        lawFault("falls vowA", 9);
        lawFault("falls vowZ", 9);
        lawFault("falls vow\u00e1", 9);
        lawFault("Bars", 0);
        lawFault("barsif vow=1", 0);
        lawFault("bars ifvow=1", 5);
    }

    @Says(where = "Terms II", text = "of digits,")
    static void rowsOfDigits() {
        lawFault("falls 1009", 6);
        lawFault("falls 1000", -1);
        lawFault("falls 90", -1);
        lawFault("falls 10:", 8);
        lawFault("falls 10/", 9);
        lawFault("falls 1 0", 8);
        due("one number", under("falls 90", 5).of(0, 0, 5), 90);
        due("ahead of letters", under("falls 9if vow=1", 5).of(0, 1, 5), 9);
        due("behind letters", under("falls9if vow=1", 5).of(0, 1, 5), 9);
    }

    @Says(where = "Terms II", text = "single other bytes,")
    static void singleBytes() {
        lawFault("falls 1++1", 8);
        lawFault("bars if 1<=2", 10);
        lawFault("bars if 1<>2", 10);
        lawFault("bars;;bars", 5);
        lawFault("bars\0", 4);
        lawFault("bars\u00ff", 4);
        lawFault("falls [[1]]", -1);
        lawFault("bars if((1=1))", -1);
    }

    @Says(where = "Terms II", text = "any blanks (32) between.")
    static void blanks() {
        lawFault("bars if vow=1 and vow<2", -1);
        lawFault("   bars   if   vow   =   1   ", -1);
        lawFault("bars\37", 4);
        lawFault("bars!", 4);
        lawFault("bars\tif vow=1", 4);
        lawFault("bars\nif vow=1", 4);
        lawFault("bars\u00a0if vow=1", 4);
        due("no blanks", under("falls[1+vow]*2if(vow=1)", 5).of(0, 1, 5), 4);
    }

    @Says(where = "Terms II", text = "Of both languages: CLAUSE {\";\" CLAUSE}, 12 at most (FAULT at the 13th's first TOKEN).")
    static void twelveClauses() {
        lawFault(repeated("bars", ";", 12), -1);
        lawFault(repeated("bars", ";", 13), 60);
        lawFault(repeated("bars", ";", 12) + ";  bars", 62);
        lawFault(repeated("bars", ";", 12) + ";", 60);
        lawFault(repeated("bars", ";", 12) + ";;", 60);
        orderFault(repeated("pass", ";", 12), -1);
        orderFault(repeated("pass", ";", 13), 60);
        lawFault("bars;", 5);
        lawFault(";bars", 0);
        lawFault("bars bars", 5);
        due("the twelfth counts", under(repeated("falls 1", ";", 11) + ";falls 9", 5).of(0, 0, 5), 9);
    }

    @Says(where = "Terms II", text = "TEST: BOTH {\"or\" BOTH}.")
    static void testsWithOr() {
        lawFault("bars if", 7);
        lawFault("bars if or 1=1", 8);
        lawFault("bars if 1=1 or", 14);
        lawFault("bars if 1=1 or or 1=1", 15);
        HardestVows x = under("bars if vow=1 or vow=2 or vow=6", 5);
        int[] barred = {0, 1, 1, 0, 0, 0, 1};
        for (int vow = 0; vow < 7; vow++) {
            due("one of three, vow " + vow, x.of(0, vow, 4), barred[vow]);
        }
    }

    @Says(where = "Terms II", text = "BOTH: PLAIN {\"and\" PLAIN}.")
    static void testsWithAnd() {
        lawFault("bars if and 1=1", 8);
        lawFault("bars if 1=1 and", 15);
        lawFault("bars if 1=1 or and", 15);
        HardestVows x = under("bars if vow=1 or vow>2 and vow<6 and not vow=4", 5);
        int[] barred = {0, 1, 0, 1, 0, 1, 0};
        for (int vow = 0; vow < 7; vow++) {
            due("and ahead of or, vow " + vow, x.of(0, vow, 4), barred[vow]);
        }
    }

    @Says(where = "Terms II", text = "PLAIN: \"not\" PLAIN | \"(\" TEST \")\" | SUM (\"&lt;\" | \"&gt;\" | \"=\") SUM.")
    static void plainTests() {
        lawFault("bars if not", 11);
        lawFault("bars if ()", 9);
        lawFault("bars if (1=1", 12);
        lawFault("bars if (1=1]", 12);
        lawFault("bars if (1)=1", 10);
        lawFault("bars if 1", 9);
        lawFault("bars if 1=", 10);
        lawFault("bars if =1", 8);
        lawFault("bars if 1=1=1", 11);
        lawFault("bars if not not not 1=1", -1);
        HardestVows x = under("bars if vow<3;falls 7 if vow>3;rises 8 if vow=3;breaks 6 if not vow=3;shows 9 if not not vow=3", 5);
        due("2 < 3", x.of(0, 2, 4), 1);
        due("3 < 3", x.of(0, 3, 4), 0);
        due("3 > 3", x.of(0, 3, 5), 5);
        due("4 > 3", x.of(0, 4, 5), 7);
        due("3 = 3", x.of(0, 3, 6), 8);
        due("4 = 3", x.of(0, 4, 6), 1);
        due("not 3 = 3", x.of(0, 3, 3), 1);
        due("not 2 = 3", x.of(0, 2, 3), 6);
        due("not not 3 = 3", x.of(0, 3, 2), 9);
        HardestVows not = under("falls 7 if not vow<3;rises 8 if not vow>3", 5);
        due("not 2 < 3", not.of(0, 2, 5), 5);
        due("not 3 < 3", not.of(0, 3, 5), 7);
        due("not 4 > 3", not.of(0, 4, 6), 1);
        due("not 3 > 3", not.of(0, 3, 6), 8);
        due("brackets", under("bars if not (vow=1 or vow=2)", 5).of(0, 2, 4), 0);
    }

    @Says(where = "Terms II", text = "SUM: TERM {(\"+\" | \"-\") TERM}.")
    static void sums() {
        lawFault("falls 1+", 8);
        lawFault("falls +1", 6);
        lawFault("falls -1", 6);
        lawFault("falls 1 - - 1", 10);
        due("from the left", under("falls 20-3-4+1", 5).of(0, 0, 5), 14);
        due("below 0 between", under("falls 0-9+12", 5).of(0, 0, 5), 3);
    }

    @Says(where = "Terms II", text = "TERM: PART {(\"*\" | \"/\" | \"%\") PART}.")
    static void terms() {
        lawFault("falls 2*", 8);
        lawFault("falls *2", 6);
        lawFault("falls /2", 6);
        lawFault("falls 2*/2", 8);
        due("ahead of +", under("falls 2+3*4", 5).of(0, 0, 5), 14);
        due("/ from the left", under("falls 100/5/4", 5).of(0, 0, 5), 5);
        due("% and * from the left", under("falls 17%10*2", 5).of(0, 0, 5), 14);
    }

    @Says(where = "Terms II", text = "PART: NUMBER (to 1,000) | \"[\" SUM \"]\" | a word, as told.")
    static void parts() {
        lawFault("falls 0", -1);
        lawFault("falls 1000", -1);
        lawFault("falls 1001", 6);
        lawFault("falls 4294967297", 6);
        lawFault("falls 18446744073709551617", 6);
        lawFault("falls []", 7);
        lawFault("falls [1", 8);
        lawFault("falls [1)", 8);
        lawFault("falls (1)", 6);
        lawFault("falls word", 6);
        lawFault("falls ;", 6);
        due("1000 is whole", under("falls 1000/100", 5).of(0, 0, 5), 10);
        due("brackets", under("falls [2+3]*4", 5).of(0, 0, 5), 20);
    }

    @Says(where = "Terms II", text = "50 PARTS that are NUMBERS and words (FAULT at the 51st),")
    static void fiftyParts() {
        lawFault("falls " + repeated("1", "+", 50), -1);
        lawFault("falls " + repeated("1", "+", 51), 106);
        lawFault("falls " + repeated("vow", "+", 51), 206);
        lawFault("falls " + repeated("[1]", "+", 50), -1);
        lawFault("falls " + repeated("[1]", "+", 51), 207);
        lawFault("bars if " + repeated("1=1", " or ", 25), -1);
        lawFault("falls " + repeated("1", "+", 25) + ";rises " + repeated("1", "+", 26), 112);
        orderFault("lay " + repeated("1", "+", 51), 104);
        lawFault("falls " + repeated("1", "+", 50) + "+", 106);
        HardestVows again = with(5);
        for (int i = 0; i < 20; i++) {
            due("fifty in each text", orders(again, "pass if " + repeated("1", "+", 49) + "=49"), 1);
        }
        due("the fiftieth counts", under("falls " + repeated("1", "+", 49) + "+vow", 5).of(0, 6, 5), 55);
    }

    @Says(where = "Terms II", text = "8 brackets of both kinds within one another (FAULT at the 9th) at most.")
    static void eightBrackets() {
        lawFault("falls " + repeated("[", "", 8) + "1" + repeated("]", "", 8), -1);
        lawFault("falls " + repeated("[", "", 9) + "1" + repeated("]", "", 9), 14);
        lawFault("bars if " + repeated("(", "", 8) + "1=1" + repeated(")", "", 8), -1);
        lawFault("bars if " + repeated("(", "", 9) + "1=1" + repeated(")", "", 9), 16);
        lawFault("bars if ((((([[[1]]]=1)))))", -1);
        lawFault("bars if ((((([[[[1]]]]=1)))))", 16);
        lawFault("falls " + repeated("[1]", "+", 9), -1);
        lawFault("bars if " + repeated("((((((((1=1))))))))", " and ", 3), -1);
        orderFault("lay " + repeated("[", "", 9) + "1" + repeated("]", "", 9), 12);
        due("eight deep", under("falls 1+[1+[1+[1+[1+[1+[1+[1+[vow]]]]]]]]", 5).of(0, 6, 5), 14);
    }

    @Says(where = "Terms II", text = "FAULT: the first TOKEN that can't go on there (the end's: the TEXT's length).")
    static void theFirstFault() {
        lawFault("falls 1 x y z", 8);
        lawFault("bars   x", 7);
        lawFault("falls", 5);
        lawFault("falls   ", 8);
        lawFault("bars if   ", 10);
        lawFault("", 0);
        lawFault(" ", 1);
        orderFault("give 1 to", 9);
        orderFault("give 1 to  ", 11);
        orderFault("pass times 2 x 3 y", 13);
    }

    @Says(where = "Terms II", text = "Beyond 1,000,000,000 either way,")
    static void beyondTheBound() {
        String most = "1000*1000*1000";
        due("at it", under("falls 3;falls " + most, 5).of(0, 0, 5), 99);
        due("beyond it", under("falls 3;falls " + most + "+1", 5).of(0, 0, 5), 3);
        due("at it below 0", under("falls 3;falls 0-" + most, 5).of(0, 0, 5), 0);
        due("beyond it below 0", under("falls 3;falls 0-" + most + "-1", 5).of(0, 0, 5), 3);
        due("far beyond it", under("falls 3;falls " + repeated("1000", "*", 7), 5).of(0, 0, 5), 3);
        due("beyond it for a while", under("falls 3;falls " + most + "+1-" + most, 5).of(0, 0, 5), 3);
        due("in a test", under("bars if " + most + "+1>0", 5).of(0, 0, 4), 0);
        due("in a test with not", under("bars if not " + most + "+1>0", 5).of(0, 0, 4), 0);
        due("a test at it", under("bars if " + most + ">0", 5).of(0, 0, 4), 1);
    }

    @Says(where = "Terms II", text = "or divided by 0 (/ cut towards 0, % what is left then), a SUM, a TEST is BROKEN")
    static void dividedByZero() {
        due("/ 0", under("falls 3;falls 1/0", 5).of(0, 0, 5), 3);
        due("% 0", under("falls 3;falls 1%0", 5).of(0, 0, 5), 3);
        due("0 / 0", under("falls 3;falls 0/0", 5).of(0, 0, 5), 3);
        due("0 / 1", under("falls 3;falls 0/1", 5).of(0, 0, 5), 0);
        due("-7 / 2", under("falls [0-7]/2+9", 5).of(0, 0, 5), 6);
        due("7 / -2", under("falls 7/[0-2]+9", 5).of(0, 0, 5), 6);
        due("-7 % 4", under("falls [0-7]%4+9", 5).of(0, 0, 5), 6);
        due("7 % -4", under("falls 7%[0-4]+9", 5).of(0, 0, 5), 12);
        due("a test", under("bars if 1/0=1", 5).of(0, 0, 4), 0);
        due("a test with %", under("bars if not 1%0=1", 5).of(0, 0, 4), 0);
        due("a test with not", under("bars if not 1/0=1", 5).of(0, 0, 4), 0);
    }

    @Says(where = "Terms II", text = "(\"or\", \"and\" ask what stands behind only if it can still matter).")
    static void whatCanStillMatter() {
        HardestVows or = under("bars if vow=0 or 1/vow=1", 5);
        due("so ahead of or", or.of(0, 0, 4), 1);
        due("not so ahead of or, so behind", or.of(0, 1, 4), 1);
        due("not so at all", or.of(0, 2, 4), 0);
        due("it matters behind or", under("bars if vow=9 or 1/vow=1 or vow=0", 5).of(0, 0, 4), 0);
        due("behind two", under("bars if vow=9 or vow=0 or 1/vow=1", 5).of(0, 0, 4), 1);
        HardestVows and = under("bars if not (vow>0 and 4/vow=2)", 5);
        due("not so ahead of and", and.of(0, 0, 4), 1);
        due("so ahead of and, so behind", and.of(0, 2, 4), 0);
        due("so ahead of and, not so behind", and.of(0, 1, 4), 1);
        due("it matters behind and", under("bars if not (vow=0 and 1/vow=5)", 5).of(0, 0, 4), 0);
        due("broken ahead of or", under("bars if 1/vow=1 or vow=0", 5).of(0, 0, 4), 0);
        due("broken ahead of and", under("bars if not (1/vow=1 and vow=9)", 5).of(0, 0, 4), 0);
        due("and within or", under("bars if vow=0 or vow=9 and 1/vow=1", 5).of(0, 0, 4), 1);
        due("and within or", under("bars if vow=9 and 1/vow=1 or vow=0", 5).of(0, 0, 4), 1);
    }

    // ---- II: laws

    @Says(where = "Terms II", text = "LAWS, 6 at most;")
    static void sixLaws() {
        HardestVows x = with(5);
        for (int i = 0; i < 6; i++) {
            due("law " + i, law(x, "falls " + i), i);
        }
        due("the seventh", law(x, "falls 6"), -5);
        due("six laws", x.count(4), 6);
        due("law 5 can be in force", x.force(5), -1);
        due("law 5", x.of(0, 0, 5), 5);
        due("law 6 can't", x.force(6), -2);
    }

    @Says(where = "Terms II", text = "one is in FORCE (NONE at first: no CLAUSE):")
    static void oneLawIsInForce() {
        HardestVows x = with(50);
        due("none at first", x.count(12), -1);
        law(x, "falls 7");
        law(x, "rises 8");
        due("none yet", x.count(12), -1);
        due("no clause", x.of(0, 0, 5), 5);
        x.force(0);
        x.force(1);
        due("one alone", x.of(0, 0, 5), 5);
        due("the latest", x.of(0, 0, 6), 8);
        x.force(-1);
        due("none again", x.of(0, 0, 6), 1);
    }

    @Says(where = "Terms II",
        text = "CLAUSE: ((\"falls\" | \"rises\" | \"shows\" | \"breaks\") SUM | \"bars\") [\"if\" TEST].")
    static void clausesOfLaws() {
        lawFault("falls", 5);
        lawFault("rises", 5);
        lawFault("shows", 5);
        lawFault("breaks", 6);
        lawFault("bars", -1);
        lawFault("bars 1", 5);
        lawFault("fall 1", 0);
        lawFault("fallss 1", 0);
        lawFault("falls if 1=1", 6);
        lawFault("bars if", 7);
        lawFault("bars if 1=1 if 1=1", 12);
        lawFault("falls 1 times 2", 8);
        lawFault("give 1 to 1", 0);
        lawFault("1", 0);
        lawFault("if 1=1", 0);
    }

    @Says(where = "Terms II",
        text = "Words: \"monk\" | \"vow\" | \"hard\" | \"held\" | \"has\" | \"year\" | \"mood\".")
    static void wordsOfLaws() {
        lawFault("falls monk+vow+hard+held+has+year+mood", -1);
        lawFault("falls done", 6);
        lawFault("falls latest", 6);
        lawFault("falls given", 6);
        lawFault("falls sum", 6);
        lawFault("falls vo", 6);
        lawFault("falls vows", 6);
        lawFault("falls has 1", 10);
        HardestVows x = under("shows 10*monk+vow;falls year/11;rises mood;breaks hard-90", 1, 2, 3, 4, 5, 6, 99);
        x.terms(0, 999);
        x.terms(1, 9);
        due("monk 6, vow 6", x.of(6, 6, 2), 66);
        due("monk 0, vow 0", x.of(0, 0, 2), 0);
        due("year 999", x.of(0, 0, 5), 90);
        due("mood 9", x.of(0, 0, 6), 9);
        due("hard 99", x.of(6, 0, 3), 9);
    }

    @Says(where = "Terms II", text = "All are asked of a MONK and a VOW: held: HELD, if he HAS that VOW, else 0;")
    static void heldInLaws() {
        HardestVows x = under("falls held+1", 50, 50);
        due("he has none", x.of(0, 3, 5), 1);
        x.give(3, 0);
        passYears(x, 2);
        due("he has it", x.of(0, 3, 5), 3);
        due("he has another one", x.of(0, 2, 5), 1);
        due("another monk has it", x.of(1, 3, 5), 1);
    }

    @Says(where = "Terms II", text = "has: the VOW that he HAS (-1: none).")
    static void hasInLaws() {
        HardestVows x = under("shows has+1", 50, 50);
        due("none", x.of(0, 3, 2), 0);
        x.give(0, 0);
        x.give(6, 1);
        due("vow 0", x.of(0, 3, 2), 1);
        due("vow 6", x.of(1, 3, 2), 7);
    }

    @Says(where = "Terms II", text = "A CLAUSE HOLDS, if its \"if\" (if it has one) is so,")
    static void aClauseHolds() {
        HardestVows x = under("falls 7;falls 8 if vow=1;bars;rises 6 if vow=9", 50);
        due("without an if", x.of(0, 0, 5), 7);
        due("its if is so", x.of(0, 1, 5), 8);
        due("bars without an if", x.of(0, 0, 4), 1);
        due("its if is not so", x.of(0, 0, 6), 1);
    }

    @Says(where = "Terms II", text = "and neither that nor its SUM is BROKEN.")
    static void aBrokenClauseDoesNotHold() {
        HardestVows x = under("falls 7;falls 8 if 1/vow=1;rises 6;rises 9/vow;bars if 1/vow=1", 50);
        due("its if is broken", x.of(0, 0, 5), 7);
        due("its if is whole", x.of(0, 1, 5), 8);
        due("its sum is broken", x.of(0, 0, 6), 6);
        due("its sum is whole", x.of(0, 1, 6), 9);
        due("bars with a broken if", x.of(0, 0, 4), 0);
        due("the only one is broken", under("falls 1/0", 50).of(0, 0, 5), 5);
    }

    @Says(where = "Terms II", text = "HARD of a VOW that is had FALLS in a YEAR by what the last \"falls\" that HOLDS tells,"
        + " 0 .. 99 (else the nearest), 5 without,")
    static void falls() {
        HardestVows x = under("falls 7;falls 0 if vow=1;falls 99 if vow=2;falls 100 if vow=3;falls 0-1 if vow=4;"
            + "falls 1000*1000*1000 if vow=5;falls 0-1000*1000*1000 if vow=6", 50);
        int[] told = {7, 0, 99, 99, 0, 99, 0};
        for (int vow = 0; vow < 7; vow++) {
            due("falls of vow " + vow, x.of(0, vow, 5), told[vow]);
        }
        due("the last that holds", under("falls 7;falls 8;falls 9 if vow=9", 50).of(0, 0, 5), 8);
        due("without", under("rises 9;falls 3 if vow=9", 50).of(0, 0, 5), 5);
        HardestVows y = with(50);
        y.give(0, 0);
        y.pass();
        due("had", y.of(0, 0, 0), 45);
    }

    @Says(where = "Terms II", text = "of others it RISES by 0 .. 99, 1 without;")
    static void rises() {
        HardestVows x = under("rises 0 if vow=1;rises 99 if vow=2;rises 100 if vow=3;rises 0-1 if vow=4", 50, 0);
        int[] told = {1, 0, 99, 99, 0, 1, 1};
        for (int vow = 0; vow < 7; vow++) {
            due("rises of vow " + vow, x.of(0, vow, 6), told[vow]);
        }
        x.give(0, 0);
        x.pass();
        due("one he has not", x.of(0, 6, 0), 51);
        due("one that another monk has", x.of(1, 0, 0), 1);
        due("by 99", x.of(1, 3, 0), 99);
        due("by 0", x.of(1, 4, 0), 0);
    }

    @Says(where = "Terms II", text = "he SHOWS 0 .. 99, HARD without;")
    static void shows() {
        HardestVows x = under("shows 0 if vow=1;shows 99 if vow=2;shows 100 if vow=3;shows 0-1 if vow=4", 50);
        int[] told = {50, 0, 99, 99, 0, 50, 50};
        for (int vow = 0; vow < 7; vow++) {
            due("shows of vow " + vow, x.of(0, vow, 2), told[vow]);
        }
        x.put(0, 5, 0);
        x.put(0, 6, 99);
        due("hard 0 without", x.of(0, 5, 2), 0);
        due("hard 99 without", x.of(0, 6, 2), 99);
    }

    @Says(where = "Terms II", text = "in 0 .. 10 of ten he BREAKS it in a YEAR, 1 without;")
    static void breaks() {
        HardestVows x = under("breaks 0 if vow=1;breaks 10 if vow=2;breaks 11 if vow=3;breaks 0-1 if vow=4;"
            + "breaks 1000 if vow=5", 50);
        int[] told = {1, 0, 10, 10, 0, 10, 1};
        for (int vow = 0; vow < 7; vow++) {
            due("breaks of vow " + vow, x.of(0, vow, 3), told[vow]);
        }
    }

    @Says(where = "Terms II", text = "a MONK is BARRED from a VOW, if \"bars\" HOLDS.")
    static void bars() {
        HardestVows x = under("bars if vow=6;bars if monk=0 and vow=0;falls 3", 50, 50);
        due("by the first", x.of(1, 6, 4), 1);
        due("by the second", x.of(0, 0, 4), 1);
        due("by none", x.of(1, 0, 4), 0);
        due("without a law", with(50).of(0, 0, 4), 0);
    }

    // ---- II: orders

    @Says(where = "Terms II", text = "ORDERS: CLAUSE: (\"give\" SUM \"to\" SUM | \"lay\" SUM | \"swap\" SUM \"with\" SUM |"
        + " \"pass\") [\"times\" TIMES] [\"if\" TEST].")
    static void clausesOfOrders() {
        orderFault("give", 4);
        orderFault("give to 1", 5);
        orderFault("give 1", 6);
        orderFault("give 1 with 1", 7);
        orderFault("give 1 to", 9);
        orderFault("lay", 3);
        orderFault("lay 0 to 1", 6);
        orderFault("swap 0", 6);
        orderFault("swap 0 to 1", 7);
        orderFault("swap 0 with", 11);
        orderFault("pass 1", 5);
        orderFault("pass times", 10);
        orderFault("pass times 2 times 2", 13);
        orderFault("pass if 1=2 times 2", 12);
        orderFault("pass times 2 if", 15);
        orderFault("pass times 2 if 1=2", -1);
        orderFault("pass if 1=2", -1);
        orderFault("passes", 0);
        orderFault("falls 1", 0);
    }

    @Says(where = "Terms II", text = "(a VOW, a MONK; a MONK; two MONKS; a YEAR.)")
    static void whatOrdersAskFor() {
        HardestVows x = with(10, 20);
        due("give", orders(x, "give 6 to 1"), 1);
        due("the vow first", x.has(1), 6);
        String[] cant = {"give 7 to 0", "give 0-1 to 0", "give 0 to 2", "give 0 to 0-1", "lay 2", "lay 0-1", "swap 0 with 2",
            "swap 0-1 with 1", "swap 1 with 1"};
        for (String text : cant) {
            due(text, orders(x, text), -3);
        }
        due("nothing changed", x.has(0) * 10 + x.has(1), -4);
        x.give(1, 0);
        due("swap", orders(x, "swap 1 with 0"), 1);
        due("swapped", x.has(0) * 10 + x.has(1), 61);
        due("lay", orders(x, "lay 1"), 1);
        due("laid down", x.has(1), -1);
        due("pass", orders(x, "pass"), 1);
        due("a year", x.count(13), 1);
    }

    @Says(where = "Terms II", text = "TIMES: a NUMBER 1 .. 20.")
    static void timesOfOrders() {
        orderFault("pass times 0", 11);
        orderFault("pass times 1", -1);
        orderFault("pass times 20", -1);
        orderFault("pass times 21", 11);
        orderFault("pass times 1000", 11);
        orderFault("pass times 4294967297", 11);
        orderFault("pass times year", 11);
        orderFault("pass times [1]", 11);
        orderFault("pass times 1+1", 12);
    }

    @Says(where = "Terms II", text = "Words: \"year\" | \"done\" | \"latest\" | \"given\" | \"sum\" | \"has\" M | \"held\" M"
        + " (M: a NUMBER 0 .. 6).")
    static void wordsOfOrders() {
        orderFault("lay year+done+latest+given+sum+has 0+held 6 if 1=2", -1);
        orderFault("lay has 6 if 1=2", -1);
        orderFault("lay has 7", 8);
        orderFault("lay held 7", 9);
        orderFault("lay has 4294967296", 8);
        orderFault("lay has", 7);
        orderFault("lay held", 8);
        orderFault("lay has year", 8);
        orderFault("lay has [1]", 8);
        orderFault("lay has -1", 8);
        orderFault("lay year 1", 9);
        orderFault("lay monk", 4);
        orderFault("lay vow", 4);
        orderFault("lay hard", 4);
        orderFault("lay mood", 4);
        HardestVows x = with(1, 2, 3, 4, 5, 6, 7);
        x.give(5, 6);
        x.pass();
        due("has 6, held 6", orders(x, "pass if has 6=5 and held 6=1 and has 0=0-1"), 1);
    }

    @Says(where = "Terms II", text = "M, TIMES aside, NUMBERS and words count as PARTS.")
    static void whatCountsAsAPart() {
        orderFault("pass times 20 if " + repeated("has 1", "+", 49) + "=0", -1);
        orderFault("pass times 20 if " + repeated("has 1", "+", 50) + "=0", 317);
        orderFault("pass times 20 if " + repeated("year", "+", 51) + "=0", 267);
        orderFault("pass times 20 if " + repeated("1", "+", 51) + "=0", 117);
        orderFault(repeated("pass times 2 if 1=2", ";", 12), -1);
    }

    @Says(where = "Terms II", text = "Run CLAUSE by CLAUSE, each as often as TIMES tell (once without);")
    static void asOftenAsTimesTell() {
        HardestVows x = with(10);
        due("once without", orders(x, "pass"), 1);
        due("once", orders(x, "pass times 1"), 1);
        due("twenty times", orders(x, "pass times 20"), 20);
        due("years", x.count(13), 22);
        due("clause by clause", orders(x, "give 3 to 0;pass times 2;lay 0"), 4);
        due("twice can't be", orders(x, "give 3 to 0;lay 0 times 2"), -3);
    }

    @Says(where = "Terms II",
        text = "each time its \"if\" is asked (not run, if it is not so or BROKEN), then its SUMS from the left.")
    static void theIfIsAskedEachTime() {
        HardestVows x = with(10);
        due("not so from the fourth on", orders(x, "pass times 20 if year<3"), 3);
        due("not so at all", orders(x, "pass if 1=2"), 0);
        due("broken", orders(x, "pass if 1/0=1"), 0);
        due("broken with not", orders(x, "pass if not 1/0=1"), 0);
        due("ahead of a broken sum", orders(x, "lay 1/0 if 1=2"), 0);
        due("ahead of what can't be", orders(x, "lay 9 if 1=2"), 0);
        due("sums are asked each time", orders(x, "give done to 0 times 3"), 3);
        due("the third", x.has(0), 2);
    }

    @Says(where = "Terms II", text = "done: how many were run in this TEXT,")
    static void done() {
        HardestVows x = with(10);
        due("0 at first", orders(x, "pass if done=0"), 1);
        due("0 in the next text", orders(x, "pass if done=0"), 1);
        due("what is not run does not count", orders(x, "pass if 1=2;pass if done=0;pass if done=0"), 1);
        due("each time counts", orders(x, "pass times 20;pass if done=20"), 21);
        orders(x, "pass;lay 0");
        due("0 behind what could not be", orders(x, "pass if done=0"), 1);
    }

    @Says(where = "Terms II", text = "latest: what the latest give in it told (-1: none),")
    static void latest() {
        HardestVows x = with(10);
        x.put(0, 1, 0);
        due("none", orders(x, "pass if latest=0-1"), 1);
        x.put(0, 0, 99);
        x.put(0, 1, 0);
        due("99, then 0", orders(x, "give 0 to 0;pass if latest=99;give 1 to 0;lay 0 if latest=1"), 4);
        due("none in the next text", orders(x, "pass if latest=0-1"), 1);
        x.give(2, 0);
        due("give() is not in it", orders(x, "pass if latest=0-1"), 1);
    }

    @Says(where = "Terms II", text = "given: how many MONKS HAVE a VOW, sum: HARD of all that is had,")
    static void givenAndSum() {
        HardestVows none = new HardestVows();
        due("nobody", orders(none, "pass if given=0 and sum=0"), 1);
        HardestVows x = with(99, 99, 99, 99, 99, 99, 99);
        due("none is had", orders(x, "pass if given=0 and sum=0;pass if given>0 or sum>0"), 1);
        for (int m = 0; m < 7; m++) {
            x.give(m, m);
        }
        due("all", orders(x, "swap 0 with 1 if given=7 and sum=693"), 1);
        due("not all", orders(x, "lay 6;lay 5 if given=6 and sum=594"), 2);
    }

    @Says(where = "Terms II", text = "has, held: -1 without such a MONK, without a VOW.")
    static void hasAndHeldWithout() {
        HardestVows x = with(10);
        due("no such monk", orders(x, "pass if has 1=0-1 and held 1=0-1"), 1);
        due("no such monk, the last", orders(x, "pass if has 6=0-1 and held 6=0-1"), 1);
        due("no vow", orders(x, "pass if has 0=0-1 and held 0=0-1"), 1);
        x.give(0, 0);
        due("a vow, held 0", orders(x, "pass if has 0=0 and held 0=0"), 1);
        due("held 1", orders(x, "lay 0 if held 0=1"), 1);
        due("laid down", orders(x, "pass if held 0=0-1"), 1);
    }

    @Says(where = "Terms II",
        text = "One that can't be (a BROKEN SUM, as give(), lay(), swap(), pass() are REFUSED) ends it:")
    static void oneThatCantBe() {
        HardestVows x = under("bars if vow=6", 10, 20, 30);
        x.give(0, 0);
        x.give(1, 1);
        String[] cant = {"give 1/0 to 2", "give 2 to 1/0", "lay 1%0", "swap 1/0 with 0", "swap 0 with 1/0",
            "lay 1000*1000*1000+1", "give 0 to 2", "give 6 to 2", "give 7 to 2", "give 2 to 3", "lay 2", "lay 3", "swap 0 with 2",
            "swap 0 with 0", "swap 0 with 3"};
        for (String text : cant) {
            due(text, orders(x, text), -3);
            due("the text '" + text + "' was read", x.fault(), -1);
            due("in the middle: " + text, orders(x, "pass;" + text + ";pass"), -3);
            due("where it stopped: " + text, x.stopped(), 1);
        }
        x.terms(0, 999);
        due("pass", orders(x, "pass"), -3);
    }

    @Says(where = "Terms II", text = "all is as it was ahead of it.")
    static void allIsAsItWas() {
        HardestVows x = with(10, 20);
        x.give(0, 0);
        x.give(1, 1);
        x.pass();
        due("it can't be", orders(x, "pass times 20;swap 0 with 1;lay 0;give 5 to 1;pass;lay 0"), -3);
        due("has", x.has(0) * 10 + x.has(1), 1);
        due("held", x.of(0, 0, 1) * 10 + x.of(1, 1, 1), 11);
        due("hard", x.of(0, 0, 0) * 100 + x.of(1, 0, 0), 521);
        due("year", x.count(13), 1);
        due("what can be undone", x.count(5), 3);
        due("the year", x.undo(), 3);
        due("hard ahead of it", x.of(0, 0, 0), 10);
        due("the giving", x.undo(), 0);
        due("has none", x.has(1), -1);
    }

    // ---- III: deeds

    @Says(where = "Terms III", text = "To GIVE a VOW that nobody HAS to a MONK who is not BARRED from it:")
    static void whatCanBeGiven() {
        HardestVows x = under("bars if vow=6 and monk=0", 10, 20);
        x.give(0, 0);
        due("another monk has it", x.give(0, 1), -3);
        due("he himself has it", x.give(0, 0), -3);
        due("he is barred", x.give(6, 0), -3);
        due("another one is not", x.give(6, 1), 20);
        due("what stood stands", x.has(0) * 10 + x.has(1), 6);
    }

    @Says(where = "Terms III", text = "he HAS it (what he had nobody HAS), HELD is 0.")
    static void whatIsGiven() {
        HardestVows x = with(10, 20);
        x.give(0, 0);
        passYears(x, 3);
        due("another one", x.give(1, 0), 13);
        due("he has it", x.has(0), 1);
        due("held", x.of(0, 1, 1), 0);
        due("what he had is free", x.give(0, 1), 23);
    }

    @Says(where = "Terms III", text = "To LAY down: he HAS none.")
    static void whatIsLaidDown() {
        HardestVows x = with(10, 20);
        x.give(0, 0);
        passYears(x, 2);
        x.lay(0);
        due("he has none", x.has(0), -1);
        due("held", x.of(0, 0, 1), 0);
        due("it is free", x.give(0, 0), 0);
        due("held anew", x.of(0, 0, 1), 0);
    }

    @Says(where = "Terms III", text = "To SWAP: two MONKS who HAVE one each HAVE the other one's (neither BARRED from it),")
    static void whoCanSwap() {
        HardestVows x = under("bars if monk=0 and vow=1", 10, 20, 30, 40);
        x.give(0, 0);
        x.give(1, 1);
        x.give(2, 2);
        due("the second has none", x.swap(0, 3), -3);
        due("the first has none", x.swap(3, 0), -3);
        due("the first is barred", x.swap(0, 1), -3);
        due("the second is barred", x.swap(1, 0), -3);
        due("what stood stands", x.has(0) * 100 + x.has(1) * 10 + x.has(2), 12);
        x.compare(-1);
        due("the first is barred by the law in force", x.swap(0, 1), -3);
        due("neither is", x.swap(2, 0), 40);
        due("swapped", x.has(0) * 100 + x.has(1) * 10 + x.has(2), 210);
    }

    @Says(where = "Terms III", text = "HELD is 0 of both.")
    static void heldBehindASwap() {
        HardestVows x = with(10, 20);
        x.give(0, 0);
        x.pass();
        x.give(1, 1);
        x.pass();
        due("ahead", x.of(0, 0, 1) * 10 + x.of(1, 1, 1), 21);
        x.swap(0, 1);
        due("of the first", x.of(0, 1, 1), 0);
        due("of the second", x.of(1, 0, 1), 0);
    }

    @Says(where = "Terms III", text = "A YEAR: HARD of each MONK and VOW FALLS (0 at least) or RISES (99 at most),")
    static void hardInAYear() {
        HardestVows x = with(5, 98);
        x.give(0, 0);
        x.put(0, 0, 5);
        x.pass();
        due("5 falls to 0", x.of(0, 0, 0), 0);
        due("98 rises to 99", x.of(1, 6, 0), 99);
        x.pass();
        due("0 at least", x.of(0, 0, 0), 0);
        due("99 at most", x.of(1, 6, 0), 99);
        HardestVows paper = with(50);
        law(paper, "rises 7");
        paper.years(0, 1);
        paper.soft(1);
        paper.compare(0);
        paper.pass();
        due("behind what was on paper", paper.of(0, 0, 0), 51);
        HardestVows far = under("falls 99;rises 99", 98, 1);
        far.give(0, 0);
        far.pass();
        due("far below 0", far.of(0, 0, 0), 0);
        due("far beyond 99", far.of(1, 0, 0), 99);
    }

    @Says(where = "Terms III", text = "all asked as it was ahead;")
    static void askedAsItWasAhead() {
        HardestVows x = under("falls held+year+1;rises year*10+has+1", 50, 50);
        x.give(0, 0);
        x.pass();
        due("held 0, year 0", x.of(0, 0, 0), 49);
        due("has 0, year 0", x.of(0, 1, 0), 51);
        due("has none, year 0", x.of(1, 6, 0), 50);
        x.pass();
        due("held 1, year 1", x.of(0, 0, 0), 46);
        due("has 0, year 1", x.of(0, 6, 0), 62);
        due("has none, year 1", x.of(1, 0, 0), 60);
    }

    @Says(where = "Terms III", text = "HELD of what is had is one more (99 at most);")
    static void heldInAYear() {
        HardestVows x = with(50, 50);
        x.give(0, 0);
        passYears(x, 1);
        due("one more", x.of(0, 0, 1), 1);
        due("of what is not had", x.of(0, 1, 1) + x.of(1, 0, 1), 0);
        passYears(x, 97);
        x.give(1, 1);
        passYears(x, 1);
        due("99", x.of(0, 0, 1), 99);
        passYears(x, 1);
        due("99 at most", x.of(0, 0, 1), 99);
        due("of another one", x.of(1, 1, 1), 2);
    }

    @Says(where = "Terms III", text = "it is the next YEAR (at 999 it can't be).")
    static void theNextYear() {
        HardestVows x = with(50);
        x.give(0, 0);
        x.terms(0, 998);
        due("998", x.pass(), 999);
        due("999", x.pass(), -3);
        due("the year stays", x.count(13), 999);
        due("hard stays", x.of(0, 0, 0), 45);
        due("held stays", x.of(0, 0, 1), 1);
    }

    // ---- III: on paper

    @Says(where = "Terms III", text = "(On paper:) BEST: of rows of VOWS by MONKS (100: none), none twice, nobody BARRED,")
    static void rowsOfBest() {
        HardestVows x = under("bars if vow<6", 10, 30, 20);
        due("one alone can have one", x.best(0), 30);
        due("none", x.best(1), 100);
        due("the last vow", x.best(2), 6);
        due("none", x.best(3), 100);
        HardestVows all = under("bars", 10, 20);
        due("all are barred", all.best(0), 0);
        due("all have none", all.best(1) + all.best(2), 200);
        HardestVows y = with(10, 10);
        y.put(0, 3, 90);
        y.put(1, 3, 80);
        due("none twice", y.best(0), 100);
        HardestVows behindFair = under("bars if vow<6", 10, 20);
        due("not all can", behindFair.fair(0), -1);
        due("behind fair()", behindFair.best(0), 20);
        HardestVows fewer = under("bars if monk=0", 10);
        fewer.image(0);
        fewer.monk(20);
        due("the second alone", fewer.best(0), 20);
        fewer.back(0);
        due("without him", fewer.best(0), 0);
        due("on paper alone", y.has(0) + y.has(1) + y.count(5), -2);
    }

    @Says(where = "Terms III", text = "that by which what is SHOWN is most together; the first as rows of numbers go.")
    static void theFirstBest() {
        HardestVows x = with(10, 10, 10);
        due("as much in any row", x.best(1) * 100 + x.best(2) * 10 + x.best(3), 12);
        HardestVows shown = under("shows 99-hard", 10, 10);
        shown.put(0, 4, 0);
        due("what is shown", shown.best(0), 99 + 89);
        due("the first of these", shown.best(1) * 10 + shown.best(2), 40);
        HardestVows zero = under("shows 0", 10, 10);
        due("0 is shown", zero.best(0), 0);
        due("a vow is ahead of none", zero.best(1) * 10 + zero.best(2), 1);
        HardestVows tie = with(10, 10);
        tie.put(0, 0, 20);
        tie.put(1, 0, 30);
        tie.put(1, 1, 20);
        due("two rows of 40", tie.best(0), 40);
        due("the first of the two", tie.best(1) * 10 + tie.best(2), 1);
    }

    @Says(where = "Terms III", text = "FAIR: likewise, all MONKS having one:")
    static void fairIsForAll() {
        HardestVows one = under("bars if vow>0", 10, 20);
        due("not all can", one.fair(0), -1);
        HardestVows two = under("bars if vow>1", 10, 20);
        due("all can", two.fair(0), 10);
        HardestVows seven = under("bars if monk<6 and vow=0", 1, 2, 3, 4, 5, 6, 7);
        due("all seven", seven.fair(0), 1);
        due("the last has what the others may not", seven.fair(8), 0);
        HardestVows taken = under("bars if monk=1 and vow>0", 10, 10);
        taken.put(0, 0, 99);
        due("the second has but one", taken.fair(1), 20);
        due("the first leaves it", taken.fair(2) * 10 + taken.fair(3), 10);
        HardestVows most = under("bars if vow=6", 1, 2, 3, 4, 5, 6, 7);
        due("seven of six", most.fair(0), -1);
    }

    @Says(where = "Terms III", text = "the least HARD of all greatest, then HARD together, then the first.")
    static void theFairest() {
        HardestVows x = with(10, 10);
        x.put(0, 0, 90);
        x.put(1, 0, 50);
        x.put(0, 1, 40);
        due("the least", x.fair(0), 40);
        due("together", x.fair(1), 90);
        due("the row", x.fair(2) * 10 + x.fair(3), 10);
        due("best is more together", x.best(0), 100);
        HardestVows y = with(10, 10);
        y.put(0, 5, 20);
        due("the least is as great", y.fair(0), 10);
        due("then together", y.fair(1), 30);
        due("then the first", y.fair(2) * 10 + y.fair(3), 50);
        HardestVows zero = with(0, 0);
        due("0 is a least one", zero.fair(0), 0);
        due("the first of all", zero.fair(2) * 10 + zero.fair(3), 1);
        HardestVows low = with(1, 1);
        low.put(0, 0, 5);
        low.put(0, 1, 10);
        low.put(1, 0, 10);
        low.put(1, 1, 90);
        due("the least goes ahead", low.fair(0), 10);
        due("of what is together", low.fair(1), 20);
        due("and of the first", low.fair(2) * 10 + low.fair(3), 10);
    }

    @Says(where = "Terms III", text = "WISHED: as long as there is a MONK whom no VOW keeps and who has not asked for all"
        + " from which he is not BARRED,")
    static void whoCanStillWish() {
        due("nobody", with().wished(0), 0);
        HardestVows barred = under("bars", 10, 20);
        due("all are barred", barred.wished(0), 0);
        due("none", barred.wished(1), 100);
        HardestVows one = under("bars if vow>0", 20, 10);
        due("both have asked for all", one.wished(0), 2);
        due("kept", one.wished(1), 0);
        due("none", one.wished(2), 100);
        HardestVows zero = under("shows 0", 10, 10);
        due("who shows 0 asks, too", zero.wished(0), 3);
        due("he is kept", zero.wished(1) * 10 + zero.wished(2), 1);
        HardestVows away = under("bars if vow>0", 10, 20);
        due("the first can't ask again", away.wished(0), 2);
        due("none", away.wished(1), 100);
        due("kept", away.wished(2), 0);
    }

    @Says(where = "Terms III",
        text = "the lowest of them asks for that of these (not asked yet) that is least HARD for him, the lowest;")
    static void whatIsWished() {
        HardestVows x = with(10, 10);
        x.put(0, 4, 5);
        x.put(0, 5, 5);
        due("each asks once", x.wished(0), 2);
        due("the least hard, the lowest", x.wished(1), 4);
        due("the lowest of all", x.wished(2), 0);
        HardestVows same = with(10, 10, 10);
        due("the lowest monk first", same.wished(1) * 100 + same.wished(2) * 10 + same.wished(3), 12);
        due("not asked yet", same.wished(0), 6);
    }

    @Says(where = "Terms III", text = "a VOW keeps him who SHOWS more for it of both, the one it has, if as much.")
    static void whomAVowKeeps() {
        HardestVows less = with(20, 10);
        due("the first shows more", less.wished(1) * 10 + less.wished(2), 1);
        HardestVows more = with(10, 11);
        due("the second shows more", more.wished(1) * 10 + more.wished(2), 10);
        HardestVows same = with(10, 10);
        due("as much", same.wished(1) * 10 + same.wished(2), 1);
        HardestVows shown = under("shows 5-monk", 10, 20);
        due("as shown, not as hard", shown.wished(1) * 10 + shown.wished(2), 1);
    }

    @Says(where = "Terms III", text = "EXCHANGES: twos of MONKS who can SWAP so that HARD is more together than ahead;")
    static void exchangesThatMakeItHarder() {
        HardestVows x = under("bars if monk=0 and vow=2", 10, 10, 10, 10);
        x.give(0, 0);
        x.give(1, 1);
        x.give(2, 2);
        due("as much is not more", x.swaps(-1), 0);
        x.put(0, 1, 11);
        due("one more", x.swaps(-1), 1);
        x.put(1, 0, 9);
        due("as much again", x.swaps(-1), 0);
        x.put(0, 2, 99);
        due("barred", x.swaps(-1), 0);
        x.put(3, 0, 99);
        due("he has none", x.swaps(-1), 0);
    }

    @Says(where = "Terms III", text = "by ten times the lower and the higher one.")
    static void numbersOfExchanges() {
        HardestVows x = with(10, 10, 10, 10, 10, 10, 10);
        for (int m = 0; m < 7; m++) {
            x.give(m, m);
        }
        x.put(6, 5, 90);
        x.put(6, 0, 90);
        x.put(1, 2, 90);
        due("three", x.swaps(-1), 3);
        due("0 and 6", x.swaps(0), 6);
        due("1 and 2", x.swaps(1), 12);
        due("5 and 6", x.swaps(2), 56);
    }

    @Says(where = "Terms III", text = "To HIDE: one VOW shown as 0, or as 99, by a MONK, all else shown as ever, by which"
        + " HARD of what he has by BEST then (0: none) is least, as long as it is less than without;")
    static void whatCanBeHidden() {
        HardestVows zero = with(10, 20);
        for (int vow = 1; vow < 7; vow++) {
            zero.put(0, vow, 40);
        }
        zero.put(0, 6, 90);
        HardestVows hidden = under("bars if vow>1", 30, 20);
        hidden.put(0, 0, 80);
        hidden.put(0, 1, 60);
        hidden.put(1, 0, 20);
        hidden.put(1, 1, 10);
        due("without", hidden.best(1), 0);
        due("shown as 0", hidden.hide(0, 0) * 100 + hidden.hide(0, 1), 0);
        due("hard then", hidden.hide(0, 2), 60);
        due("to 99", zero.hide(0, 0) * 100 + zero.hide(0, 1), 99);
        due("the least", zero.hide(0, 2), 10);
        HardestVows none = under("bars if vow>0;shows 5", 30, 20);
        due("none then", none.hide(0, 0) * 100 + none.hide(0, 1), 0);
        due("none is 0", none.hide(0, 2), 0);
        due("none without", none.hide(1, 0), -1);
        HardestVows same = with(10, 10);
        due("as hard as without", same.hide(0, 0), -1);
        HardestVows barred = under("bars if vow=0", 30);
        barred.put(0, 0, 1);
        due("barred from what would be less", barred.hide(0, 0), -1);
        HardestVows nothing = with(30);
        nothing.put(0, 4, 0);
        due("what he shows as 0 shown as 99", nothing.hide(0, 0) * 100 + nothing.hide(0, 1), 499);
        due("hard 0", nothing.hide(0, 2), 0);
        HardestVows others = under("bars if monk=0 and vow>0", 20, 0);
        others.put(1, 0, 10);
        others.put(1, 1, 50);
        due("what another one shows is shown as ever", others.hide(0, 0), -1);
    }

    @Says(where = "Terms III", text = "the lowest VOW, then 0.")
    static void theLowestToHide() {
        HardestVows x = with(10);
        x.put(0, 3, 90);
        due("vow 0 as 99, not vow 3 as 0", x.hide(0, 0) * 100 + x.hide(0, 1), 99);
        due("as hard by all", x.hide(0, 2), 10);
        HardestVows y = with(30);
        y.put(0, 4, 5);
        y.put(0, 2, 5);
        due("vow 2, not vow 4", y.hide(0, 0) * 100 + y.hide(0, 1), 299);
    }

    @Says(where = "Terms III", text = "SOFT: each YEAR (YEAR goes on behind 999 there) all are as BEST tells")
    static void softBehindTheLastYear() {
        HardestVows x = under("bars if year-1000=3", 50);
        x.terms(0, 999);
        due("year 1003", x.soft(1), 4);
        HardestVows y = under("bars if year-1000=99", 50);
        y.terms(0, 999);
        due("year 1099", y.soft(1), 100);
        HardestVows seven = under("bars if year-1000=3", 1, 2, 3, 4, 5, 6, 7);
        seven.terms(0, 999);
        due("year 1003 of seven", seven.soft(1), 4);
        HardestVows z = under("falls 10;rises 0;shows 5 if not vow=6", 50);
        due("as best tells", z.soft(11), 4);
        z.give(0, 0);
        due("not as he has", z.soft(11), 4);
    }

    @Says(where = "Terms III", text = "(HELD goes on of one who HAS the same as ahead, else 0), then it passes:")
    static void heldWhileSoft() {
        String law = "falls held*10;rises 0;bars if vow>0";
        HardestVows x = under(law, 99);
        due("from 0 on", x.soft(99), 2);
        due("it goes on", x.soft(70), 3);
        HardestVows same = under(law, 99);
        same.give(0, 0);
        passYears(same, 3);
        same.put(0, 0, 99);
        due("the same as ahead", same.soft(99), 1);
        due("held 3", same.soft(70), 1);
        due("held 4", same.soft(69), 2);
        HardestVows other = with(99);
        other.give(1, 0);
        passYears(other, 3);
        law(other, law);
        other.force(0);
        due("another one ahead", other.soft(99), 2);
        due("on paper alone", other.of(0, 1, 1), 3);
    }

    @Says(where = "Terms III", text = "the first YEAR in which HARD of all that is had by BEST then is below a number.")
    static void theFirstSoftYear() {
        HardestVows x = with(50, 50);
        due("below", x.soft(101), 0);
        due("as much is not below", x.soft(100), -1);
        HardestVows y = under("falls 0;rises 0;bars if year=2 or year=4", 50);
        due("the first of two", y.soft(1), 2);
        due("hard, not shown", under("shows 0", 50).soft(50), 1);
        due("none is had", under("bars", 50).soft(1), 0);
    }

    @Says(where = "Terms III", text = "KEPT: the chance, of 1,000,000,000,000 parts, that a MONK does not break the VOW he HAS"
        + " in n YEARS, as he BREAKS it each YEAR,")
    static void theChanceKept() {
        HardestVows x = under("breaks 10 if vow=0;breaks 0 if vow=1;breaks 10-year if vow=2", 50);
        x.give(0, 0);
        due("in no year", x.kept(0, 0), 1000000000000L);
        due("ten of ten", x.kept(0, 1), 0);
        due("nothing is left", x.kept(0, 60), 0);
        x.give(1, 0);
        due("none of ten", x.kept(0, 60), 1000000000000L);
        x.give(3, 0);
        due("one of ten", x.kept(0, 2), 810000000000L);
        x.terms(0, 8);
        x.give(2, 0);
        due("each year by itself", x.kept(0, 2), 720000000000L);
    }

    @Says(where = "Terms III", text = "HARD falling, HELD growing, YEAR going on as they do:")
    static void keptYearByYear() {
        HardestVows hard = under("falls 3;breaks hard", 4);
        hard.give(0, 0);
        due("hard 4", hard.kept(0, 1), 600000000000L);
        due("hard 1", hard.kept(0, 2), 540000000000L);
        due("hard 0", hard.kept(0, 4), 540000000000L);
        HardestVows low = under("falls 3;breaks 0-hard", 4);
        low.give(0, 0);
        due("hard 0 at least", low.kept(0, 4), 1000000000000L);
        HardestVows held = under("breaks 0;breaks 5 if held=99", 50);
        held.give(0, 0);
        passYears(held, 98);
        due("held 98", held.kept(0, 1), 1000000000000L);
        due("held 99", held.kept(0, 2), 500000000000L);
        due("held 99 at most", held.kept(0, 3), 250000000000L);
        HardestVows year = under("breaks 0;breaks 5 if year=999", 50);
        year.terms(0, 998);
        year.give(0, 0);
        due("year 998", year.kept(0, 1), 1000000000000L);
        due("year 999", year.kept(0, 2), 500000000000L);
        due("behind 999", year.kept(0, 3), 500000000000L);
    }

    @Says(where = "Terms III", text = "each part is cut.")
    static void eachPartIsCut() {
        HardestVows x = with(50);
        x.give(0, 0);
        due("nothing to cut", x.kept(0, 12), 282429536481L);
        due("0.9 is cut", x.kept(0, 13), 254186582832L);
        due("0.8 is cut", x.kept(0, 14), 228767924548L);
        HardestVows nine = under("breaks 9", 50);
        nine.give(0, 0);
        due("one part", nine.kept(0, 12), 1);
        due("no whole part", nine.kept(0, 13), 0);
    }

    @Says(where = "Terms III", text = "WHO it can be: MONKS who SHOW what was SEEN of each VOW.")
    static void whoShowsWhatWasSeen() {
        HardestVows x = under("shows hard/10", 10, 19, 20);
        due("nothing was seen", x.who(), 7);
        x.seen(0, 1);
        due("as shown", x.who(), 3);
        x.seen(0, 1);
        due("twice the same", x.who(), 3);
        x.put(1, 6, 99);
        x.seen(6, 9);
        due("of each", x.who(), 2);
        x.seen(6, 1);
        due("nobody shows two things", x.who(), 0);
    }

    @Says(where = "Terms III", text = "To SEE next: the VOW of which the most of these SHOW alike much are as few as can be;"
        + " the lowest.")
    static void whatToSeeNext() {
        HardestVows x = with(10, 10, 10, 10, 10, 10, 10);
        due("all alike: the lowest", x.look(0), 0);
        due("all alike", x.look(1), 7);
        x.put(0, 6, 1);
        due("six alike", x.look(0) * 10 + x.look(1), 66);
        x.put(3, 2, 1);
        due("six alike: the lowest", x.look(0) * 10 + x.look(1), 26);
        for (int m = 0; m < 7; m++) {
            x.put(m, 5, m);
        }
        due("each by himself", x.look(0) * 10 + x.look(1), 51);
        x.seen(2, 1);
        due("one is left", x.look(0) * 10 + x.look(1), 1);
    }

    @Says(where = "Terms III",
        text = "COMPARED: what is SHOWN together by BEST by a LAW in place of that in FORCE (NONE: none).")
    static void lawsCompared() {
        HardestVows x = with(10, 20);
        law(x, "shows hard+1");
        law(x, "bars");
        x.force(0);
        due("as in force", x.compare(0), 32);
        due("another one", x.compare(1), 0);
        due("none", x.compare(-1), 30);
        due("the law in force stays", x.count(12), 0);
        due("best is by it", x.best(0), 32);
    }

    // ---- IV

    @Says(where = "Terms IV", text = "YEARS with a SEED, n 1 .. 100, on paper:")
    static void yearsOneToAHundred() {
        HardestVows x = under("rises 1;bars", 0);
        due("n 0", x.years(0, 0), -1);
        due("n 101", x.years(0, 101), -1);
        due("n 1", x.years(0, 1), 0);
        due("one year", x.drawn(0, 0), 1);
        due("n 99", x.years(0, 99), 0);
        due("99 years", x.drawn(0, 0), 99);
        HardestVows y = under("rises 0;rises 7 if year=99;bars", 0);
        due("n 100", y.years(0, 100), 0);
        due("100 years", y.drawn(0, 0), 7);
        HardestVows z = with(10, 20);
        z.years(0, 100);
        due("on paper", z.count(13) + z.count(1) + z.count(5) + z.of(0, 0, 0), 10);
    }

    @Says(where = "Terms IV", text = "s is the SEED (0 .. 1,000,000);")
    static void seeds() {
        HardestVows x = with(10);
        due("seed -1", x.years(-1, 1), -1);
        due("seed 1,000,001", x.years(1000001, 1), -1);
        due("seed 0", x.years(0, 1), 1);
        due("12345, then 628841", x.drawn(0, 7), 3);
        due("seed 1,000,000", x.years(1000000, 1), 1);
        due("9036, then 979026", x.drawn(0, 7), 6);
    }

    @Says(where = "Terms IV",
        text = "a DRAW of m: s becomes (s times 1103 and 12345) modulo 1,000,003, it is s modulo m.")
    static void draws() {
        int[] seeds = {0, 1, 895, 500000, 906606, 999999, 1000000};
        for (int seed : seeds) {
            for (int monks = 1; monks <= 7; monks++) {
                HardestVows x = new HardestVows();
                for (int m = 0; m < monks; m++) {
                    x.monk(50);
                }
                long s = seed;
                int given = 0;
                int[] has = new int[7];
                java.util.Arrays.fill(has, -1);
                for (int year = 0; year < 100; year++) {
                    s = (s * 1103 + 12345) % 1000003;
                    int monk = (int) (s % monks);
                    s = (s * 1103 + 12345) % 1000003;
                    int vow = (int) (s % 7);
                    if (java.util.Arrays.stream(has).noneMatch(h -> h == vow)) {
                        has[monk] = vow;
                        given++;
                    }
                }
                due("given by seed " + seed, x.years(seed, 100), given);
                for (int m = 0; m < monks; m++) {
                    due("had by monk " + m + ", seed " + seed, x.drawn(m, 7), has[m]);
                }
            }
        }
    }

    @Says(where = "Terms IV", text = "Each YEAR (at 999 it ends) DRAWS of MONKS, of 7:")
    static void drawsEndAtTheLastYear() {
        HardestVows x = with(10);
        x.terms(0, 997);
        due("998 and 999 come", x.years(0, 100) >= 1 ? 1 : 0, 1);
        due("two years", x.drawn(0, 0), 12);
        x.terms(0, 998);
        due("999 comes", x.years(0, 100), 1);
        due("one year", x.drawn(0, 0), 11);
        due("the vow of the one year", x.drawn(0, 7), 3);
        x.terms(0, 999);
        due("no year", x.years(0, 100), 0);
        due("nothing is drawn", x.drawn(0, 0), 10);
        due("he has none", x.drawn(0, 7), -1);
    }

    @Says(where = "Terms IV", text = "that VOW is given to that MONK, if it can be; then the YEAR passes.")
    static void whatIsDrawnIsGiven() {
        HardestVows x = with(10);
        due("given", x.years(0, 1), 1);
        due("it falls in the same year", x.drawn(0, 3), 5);
        x.give(3, 0);
        due("he has it", x.years(0, 1), 0);
        due("he keeps it", x.drawn(0, 7), 3);
        due("the year passes", x.drawn(0, 0), 11);
        HardestVows barred = under("bars if vow=3", 10);
        due("barred", barred.years(0, 1), 0);
        due("none", barred.drawn(0, 7), -1);
        due("the year passes", barred.drawn(0, 3), 11);
    }

    @Says(where = "Terms IV", text = "A ROW: the TAPE's bytes by sevens: HARD of VOWS 0 .. 6: a MONK;")
    static void rowsBySevens() {
        HardestVows x = new HardestVows();
        due("seven bytes", row(x, "\0\1\2\3\4\5\6"), 1);
        due("fourteen bytes", row(x, "\7\7\7\7\7\7\10" + "ccccccc"), 2);
        for (int vow = 0; vow < 7; vow++) {
            due("hard of vow " + vow, x.of(0, vow, 0), vow);
        }
        due("the second row", x.of(1, 6, 0), 8);
        due("99", x.of(2, 0, 0), 99);
        due("no crumbs", x.crumbs(), 0);
        x.give(4, 0);
        due("four more", row(x, repeated("a", "", 28)), 4);
        due("what was had is had", x.has(0), 4);
        due("hard of the last", x.of(6, 6, 0), 97);
    }

    @Says(where = "Terms IV", text = "one that can't be,")
    static void rowsThatCantBe() {
        HardestVows x = new HardestVows();
        due("100 at the end", row(x, "ccccccd"), 0);
        due("a crumb", x.crumbs(), 1);
        due("100 at the beginning", row(x, "dcccccc"), 0);
        due("a crumb", x.crumbs(), 1);
        due("255 in the middle", row(x, "ccc\u00ffccc"), 0);
        due("128 in the middle", row(x, "ccc\u0080ccc"), 0);
        due("the others come", row(x, "aaaaaaa" + "aaaaaad" + "bbbbbbb"), 2);
        due("one crumb", x.crumbs(), 1);
        due("as they stood", x.of(1, 0, 0), 98);
        due("two monks", x.count(0), 2);
    }

    @Says(where = "Terms IV", text = "one within which the TAPE ends,")
    static void rowsWithinWhichTheTapeEnds() {
        HardestVows x = new HardestVows();
        due("one byte", row(x, "a"), 0);
        due("a crumb", x.crumbs(), 1);
        due("six bytes", row(x, "aaaaaa"), 0);
        due("a crumb", x.crumbs(), 1);
        due("eight bytes", row(x, "aaaaaaaa"), 1);
        due("a crumb", x.crumbs(), 1);
        due("thirteen bytes", row(x, "aaaaaaaaaaaaa"), 1);
        due("a crumb", x.crumbs(), 1);
        due("two monks", x.count(0), 2);
    }

    @Says(where = "Terms IV", text = "one for which there is no room is a CRUMB: none.")
    static void rowsWithoutRoom() {
        HardestVows x = with(1, 2, 3, 4, 5, 6);
        due("one more", row(x, "aaaaaaa" + "bbbbbbb" + "ccccccc"), 1);
        due("two crumbs", x.crumbs(), 2);
        due("the first came", x.of(6, 0, 0), 97);
        due("seven monks", x.count(0), 7);
        due("none more", row(x, "aaaaaaa"), 0);
        due("a crumb", x.crumbs(), 1);
        due("each crumb once", row(x, "aaaaaad" + "aaa"), 0);
        due("two crumbs", x.crumbs(), 2);
        due("it is not refused", x.status(), 0);
        due("400 bytes", row(with(1, 2, 3, 4, 5, 6), repeated("a", "", 400)), 1);
    }

    @Says(where = "Terms IV", text = "IMAGES 0, 1 keep all but the TAPE, FAULT, CRUMBS, where ORDERS stopped,")
    static void whatImagesDoNotKeep() {
        HardestVows x = with(10);
        due("image -1", x.image(-1), -1);
        due("image 0", x.image(0), 0);
        due("image 1", x.image(1), 0);
        due("image 2", x.image(2), -1);
        row(x, "abc");
        law(x, "bars x");
        due("fault", x.fault(), 5);
        due("orders that can't be", orders(x, "pass;lay 0"), -3);
        tape(x, "abcd");
        x.back(0);
        due("the tape", x.count(6), 4);
        due("fault", x.fault(), -1);
        due("crumbs", x.crumbs(), 1);
        due("stopped", x.stopped(), 1);
        due("its bytes", x.law(), -6);
        due("fault", x.fault(), 0);
        x.back(1);
        due("fault still", x.fault(), 0);
    }

    @Says(where = "Terms IV", text = "what can be undone (nothing, behind back()),")
    static void nothingIsUndoneBehindBack() {
        HardestVows x = with(10);
        x.give(0, 0);
        x.image(0);
        due("an image changes nothing of it", x.count(5), 1);
        x.pass();
        x.back(0);
        due("nothing", x.count(5), 0);
        due("nothing can be undone", x.undo(), -3);
        x.pass();
        due("what came since", x.undo(), 3);
        due("no more", x.undo(), -3);
    }

    @Says(where = "Terms IV", text = "the latest YEARS by draws;")
    static void imagesDoNotKeepDraws() {
        HardestVows x = with(10);
        x.image(0);
        x.years(0, 1);
        x.back(0);
        due("the latest stays", x.drawn(0, 7), 3);
        x.image(1);
        x.years(1000000, 1);
        x.back(1);
        due("the latest of all", x.drawn(0, 7), 6);
    }

    @Says(where = "Terms IV", text = "BACK to one all that it keeps is as it was then (IMAGES stay).")
    static void allIsAsItWasThen() {
        HardestVows x = under("shows 7", 10, 20);
        x.terms(0, 5);
        x.terms(1, 6);
        x.seen(1, 7);
        x.give(2, 1);
        x.pass();
        x.image(0);
        x.image(1);
        for (int i = 0; i < 2; i++) {
            law(x, "shows 9");
            x.force(1);
            x.monk(30);
            x.put(0, 0, 77);
            x.terms(0, 900);
            x.terms(1, 0);
            x.seen(1, 8);
            x.lay(1);
            due("back", x.back(0), 0);
            due("monks", x.count(0), 2);
            due("hard", x.of(0, 0, 0), 11);
            due("has", x.has(1), 2);
            due("held", x.of(1, 2, 1), 1);
            due("seen", x.count(3), 1);
            due("who", x.who(), 3);
            due("laws", x.count(4), 1);
            due("force", x.count(12), 0);
            due("the law", x.of(0, 0, 2), 7);
            due("year", x.count(13), 6);
            due("mood", x.count(14), 6);
        }
        x.monk(30);
        x.image(0);
        due("the other one stays", x.back(1), 0);
        due("two monks", x.count(0), 2);
        due("kept anew", x.back(0), 0);
        due("three monks", x.count(0), 3);
        eachImageHasItsOwn();
    }

    /** Laws and what was seen by the same numbers, but not the same. */
    private static void eachImageHasItsOwn() {
        HardestVows x = with(10, 20);
        x.image(0);
        law(x, "shows monk+3");
        x.force(0);
        x.seen(1, 3);
        x.image(1);
        x.back(0);
        law(x, "shows 10-monk");
        x.force(0);
        x.seen(2, 9);
        due("the new law", x.of(0, 0, 2), 10);
        due("seen by it", x.who(), 2);
        x.back(1);
        due("the law of then", x.of(0, 0, 2), 3);
        due("seen of then", x.who(), 1);
        x.force(-1);
        x.put(1, 1, 3);
        x.put(0, 2, 3);
        due("the vow that was seen then", x.who(), 2);
    }

    @Says(where = "Terms IV", text = "`NONE = -1`: There is none.")
    static void theConstant() throws ReflectiveOperationException {
        due("NONE", HardestVows.class.getField("NONE").getInt(null), -1);
        due("public constants", HardestVows.class.getFields().length, 1);
    }

    public static void main(String[] args) {
        run(TermsSentencesTest.class);
    }
}
