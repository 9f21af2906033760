/** The edges that promises 1 to 38 name, sentence by sentence: each test is that of the words it quotes. */
public final class PromiseSentencesTest extends Sentences {
    private static final int LEAST = Integer.MIN_VALUE;
    private static final int GREATEST = Integer.MAX_VALUE;

    /** Seven monks, each of whom has a vow. */
    private static HardestVows full() {
        HardestVows x = with(10, 20, 30, 40, 50, 60, 70);
        for (int m = 0; m < 7; m++) {
            x.give(m, m);
        }
        return x;
    }

    @Says(where = "What it is", text = "An object is used for at most 512 calls after it has been made;")
    static void fiveHundredAndTwelveCalls() {
        HardestVows x = new HardestVows();
        for (int i = 1; i <= 511; i++) {
            x.monk(-1);
        }
        due("the 512th call", x.count(7), 511);
        HardestVows y = new HardestVows();
        for (int i = 1; i <= 511; i++) {
            due("the year by call " + i, y.pass(), i);
        }
        due("the 512th call", y.undo(), 3);
    }

    // ---- 1 to 6

    @Says(where = "Promise 1", text = "An order without monks.")
    static void anOrderWithoutMonks() {
        HardestVows x = new HardestVows();
        for (int what = 0; what <= 14; what++) {
            due("count(" + what + ")", x.count(what), what == 12 ? -1 : 0);
        }
        due("has", x.has(0), -1);
        due("of", x.of(0, 0, 0), -1);
        due("best", x.best(0), 0);
        due("best of nobody", x.best(1), -1);
        due("wished", x.wished(0), 0);
        due("wished of nobody", x.wished(1), -1);
        due("fair", x.fair(0), -1);
        due("exchanges", x.swaps(-1), 0);
        due("hide", x.hide(0, 0), -1);
        due("soft", x.soft(1), 0);
        due("kept", x.kept(0, 0), -1);
        due("who", x.who(), 0);
        due("look", x.look(0), -1);
        due("compare", x.compare(-1), 0);
        due("drawn", x.drawn(0, 7), -1);
        due("forget", x.forget(), 0);
        due("a year", x.pass(), 1);
    }

    @Says(where = "Promise 2", text = "A MONK for whom all VOWS are as HARD: the number.")
    static void aMonkIsMade() {
        HardestVows x = new HardestVows();
        due("hard 0", x.monk(0), 0);
        due("hard 99", x.monk(99), 1);
        for (int m = 2; m <= 6; m++) {
            due("the number", x.monk(50), m);
        }
        for (int vow = 0; vow <= 6; vow++) {
            due("hard 0 of vow " + vow, x.of(0, vow, 0), 0);
            due("hard 99 of vow " + vow, x.of(1, vow, 0), 99);
        }
        due("he has none", x.has(6), -1);
    }

    @Says(where = "Promise 2", text = "-1;")
    static void aMonkTooHard() {
        HardestVows x = new HardestVows();
        refused(x, "monk(-1)", () -> x.monk(-1), -1);
        refused(x, "monk(100)", () -> x.monk(100), -1);
        refused(x, "the least", () -> x.monk(LEAST), -1);
        refused(x, "the greatest", () -> x.monk(GREATEST), -1);
        due("nobody came", x.count(0), 0);
    }

    @Says(where = "Promise 2", text = "-5.")
    static void noRoomForAMonk() {
        HardestVows x = full();
        refused(x, "the eighth", () -> x.monk(5), -5);
        due("seven monks", x.count(0), 7);
        due("as they were", x.of(6, 0, 0), 70);
        due("what can be undone stays", x.count(5), 7);
    }

    @Says(where = "Promise 3", text = "HARD of a MONK and a VOW: what it was.")
    static void hardIsPut() {
        HardestVows x = with(10, 20);
        due("vow 0", x.put(0, 0, 99), 10);
        due("vow 6", x.put(1, 6, 0), 20);
        due("what it was", x.put(0, 0, 0), 99);
        due("what it was", x.put(1, 6, 99), 0);
        due("the one", x.of(1, 6, 0), 99);
        due("no other", x.of(1, 5, 0) + x.of(0, 6, 0), 30);
    }

    @Says(where = "Promise 3", text = "-1;")
    static void putOfANumberThatCantBe() {
        HardestVows x = with(10);
        refused(x, "vow -1", () -> x.put(0, -1, 5), -1);
        refused(x, "vow 7", () -> x.put(0, 7, 5), -1);
        refused(x, "hard -1", () -> x.put(0, 0, -1), -1);
        refused(x, "hard 100", () -> x.put(0, 0, 100), -1);
        refused(x, "the greatest", () -> x.put(0, GREATEST, 5), -1);
        refused(x, "nobody's vow 7", () -> x.put(1, 7, 5), -1);
        due("as it was", x.of(0, 0, 0), 10);
    }

    @Says(where = "Promise 3", text = "-2.")
    static void putOfNoMonk() {
        HardestVows x = with(10);
        refused(x, "monk 1", () -> x.put(1, 0, 5), -2);
        refused(x, "monk -1", () -> x.put(-1, 0, 5), -2);
        refused(x, "monk 7", () -> x.put(7, 0, 5), -2);
        refused(x, "the least", () -> x.put(LEAST, 0, 5), -2);
        x.monk(20);
        due("not put for who comes then", x.of(1, 0, 0), 20);
    }

    @Says(where = "Promise 4", text = "Of a MONK and a VOW HARD (what 0), HELD (1), what he SHOWS (2), in how many of ten he"
        + " BREAKS it (3), whether BARRED (4: 1, 0), by how much it FALLS (5), RISES (6) in a YEAR.")
    static void ofAMonkAndAVow() {
        HardestVows x = under("shows 12;breaks 3;bars if vow=6;falls 14;rises 15", 50, 50);
        x.give(0, 1);
        x.pass();
        int[] of0 = {36, 1, 12, 3, 0, 14, 15};
        int[] of6 = {65, 0, 12, 3, 1, 14, 15};
        for (int what = 0; what <= 6; what++) {
            due("what " + what + " of vow 0", x.of(1, 0, what), of0[what]);
            due("what " + what + " of vow 6", x.of(1, 6, what), of6[what]);
        }
    }

    @Says(where = "Promise 4", text = "NONE.")
    static void ofNone() {
        HardestVows x = with(10);
        due("monk -1", x.of(-1, 0, 0), -1);
        due("monk 1", x.of(1, 0, 0), -1);
        due("monk 7", x.of(7, 0, 0), -1);
        due("vow -1", x.of(0, -1, 0), -1);
        due("vow 7", x.of(0, 7, 0), -1);
        due("what -1", x.of(0, 0, -1), -1);
        due("what 7", x.of(0, 0, 7), -1);
        due("the least", x.of(LEAST, LEAST, LEAST), -1);
        due("the greatest", x.of(GREATEST, GREATEST, GREATEST), -1);
        due("it is not refused", x.status() + x.count(7), 0);
    }

    @Says(where = "Promise 5", text = "The VOW that a MONK HAS.")
    static void theVowHeHas() {
        HardestVows x = full();
        for (int m = 0; m <= 6; m++) {
            due("monk " + m, x.has(m), m);
        }
    }

    @Says(where = "Promise 5", text = "NONE (none;")
    static void heHasNone() {
        HardestVows x = with(10);
        due("at first", x.has(0), -1);
        x.give(0, 0);
        x.lay(0);
        due("laid down", x.has(0), -1);
        x.give(0, 0);
        x.undo();
        due("undone", x.has(0), -1);
    }

    @Says(where = "Promise 5", text = "no such MONK).")
    static void noSuchMonkHasOne() {
        HardestVows x = with(10);
        x.give(0, 0);
        due("monk 1", x.has(1), -1);
        due("monk 6", x.has(6), -1);
        due("monk 7", x.has(7), -1);
        due("monk -1", x.has(-1), -1);
        due("the least", x.has(LEAST), -1);
        due("the greatest", x.has(GREATEST), -1);
    }

    @Says(where = "Promise 6", text = "A TERM: what it was.")
    static void aTerm() {
        HardestVows x = new HardestVows();
        due("year", x.terms(0, 999), 0);
        due("mood", x.terms(1, 9), 0);
        due("year", x.terms(0, 0), 999);
        due("mood", x.terms(1, 0), 9);
        due("as they are", x.count(13) + x.count(14), 0);
    }

    @Says(where = "Promise 6", text = "-1.")
    static void aTermThatCantBe() {
        HardestVows x = new HardestVows();
        x.terms(0, 3);
        x.terms(1, 4);
        refused(x, "year -1", () -> x.terms(0, -1), -1);
        refused(x, "year 1000", () -> x.terms(0, 1000), -1);
        refused(x, "mood -1", () -> x.terms(1, -1), -1);
        refused(x, "mood 10", () -> x.terms(1, 10), -1);
        refused(x, "what -1", () -> x.terms(-1, 0), -1);
        refused(x, "what 2", () -> x.terms(2, 0), -1);
        due("as they were", x.count(13) * 10 + x.count(14), 34);
    }

    // ---- 7 to 14: the tape

    @Says(where = "Promise 7",
        text = "Twenty bytes come behind the TAPE, four of each number, the highest first: how many it has.")
    static void twentyBytes() {
        HardestVows x = new HardestVows();
        due("twenty", x.feed(0x00010203, 0x04050607, 0x08090a0b, 0x0c0d0e0f, 0x10111213), 20);
        due("behind them", x.feed(0x14555555, 0x55555555, 0x55555555, 0x55555555, 0x55555555), 40);
        due("rows", x.end(21) / 21 + x.row(), 4);
        for (int i = 0; i < 21; i++) {
            due("byte " + i, x.of(i / 7, i % 7, 0), i);
        }
        x.feed(LEAST, 0, 0, 0, 0);
        x.end(7);
        due("a byte 128", x.row() * 10 + x.crumbs(), 1);
        x.feed(0, -1, 0, 0, 0);
        x.end(7);
        due("bytes 255", x.row() * 10 + x.crumbs(), 1);
    }

    @Says(where = "Promise 7", text = "NONE, if there would be more than 400.")
    static void moreThanFourHundred() {
        HardestVows x = new HardestVows();
        for (int i = 1; i <= 20; i++) {
            due("fed", x.feed(0, 0, 0, 0, 0), 20 * i);
        }
        due("420", x.feed(0, 0, 0, 0, 0), -1);
        due("as many as ahead", x.count(6), 400);
        x.end(381);
        due("401", x.feed(0, 0, 0, 0, 0), -1);
        due("as many as ahead", x.count(6), 381);
        x.end(380);
        due("400", x.feed(0, 0, 0, 0, 0), 400);
        due("it is not refused", x.count(7) + x.status(), 0);
    }

    @Says(where = "Promise 8", text = "The TAPE has its first n bytes alone: n.")
    static void theFirstBytesAlone() {
        HardestVows x = with(10);
        tape(x, "bars if vow=1 or vow=2");
        due("thirteen", x.end(13), 13);
        due("as many as it has", x.end(13), 13);
        due("a law", x.law(), 0);
        x.force(0);
        due("of the first alone", x.of(0, 1, 4) * 10 + x.of(0, 2, 4), 10);
        x.feed(0, 0, 0, 0, 0);
        due("none", x.end(0), 0);
        due("it is empty", x.row(), -6);
        due("none of none", x.end(0), 0);
    }

    @Says(where = "Promise 8", text = "NONE, if it has not so many,")
    static void notSoManyBytes() {
        HardestVows x = new HardestVows();
        due("one of none", x.end(1), -1);
        x.feed(0, 0, 0, 0, 0);
        due("21 of 20", x.end(21), -1);
        due("the greatest", x.end(GREATEST), -1);
        due("as many as ahead", x.count(6), 20);
        x.end(7);
        due("what was cut off", x.end(8), -1);
        due("seven", x.count(6), 7);
    }

    @Says(where = "Promise 8", text = "or n is below 0.")
    static void bytesBelowZero() {
        HardestVows x = new HardestVows();
        due("-1 of none", x.end(-1), -1);
        x.feed(0, 0, 0, 0, 0);
        due("-1", x.end(-1), -1);
        due("the least", x.end(LEAST), -1);
        due("as many as ahead", x.count(6), 20);
        due("it is not refused", x.count(7) + x.status(), 0);
    }

    @Says(where = "Promise 9", text = "A ROW, the TAPE is empty then: how many MONKS came.")
    static void aRow() {
        HardestVows x = new HardestVows();
        due("two of three", row(x, "aaaaaaa" + "ddddddd" + "bbbbbbb"), 2);
        due("the tape", x.count(6), 0);
        tape(x, "a");
        accepted(x, "nobody", x::row, 0);
        due("the tape", x.count(6), 0);
        due("five of more", row(x, repeated("c", "", 399)), 5);
        due("the tape", x.count(6), 0);
    }

    @Says(where = "Promise 9", text = "-6 the TAPE is empty.")
    static void anEmptyRow() {
        HardestVows x = with(10);
        x.give(0, 0);
        refused(x, "at first", x::row, -6);
        tape(x, "a");
        x.end(0);
        refused(x, "cut to none", x::row, -6);
        due("what can be undone stays", x.count(5), 1);
        row(x, "abcabca");
        refused(x, "behind a row", x::row, -6);
        law(x, "bars");
        refused(x, "behind a law", x::row, -6);
    }

    @Says(where = "Promise 10", text = "How many CRUMBS the latest row() had that was not REFUSED (0 ahead of any).")
    static void crumbsOfTheLatestRow() {
        HardestVows x = new HardestVows();
        due("ahead of any", x.crumbs(), 0);
        x.row();
        due("a refused one", x.crumbs(), 0);
        row(x, "ddddddd" + "aa");
        due("two", x.crumbs(), 2);
        x.row();
        due("a refused one changes nothing", x.crumbs(), 2);
        row(x, repeated("d", "", 400));
        due("58", x.crumbs(), 58);
        row(x, "aaaaaaa");
        due("none in the latest", x.crumbs(), 0);
    }

    @Says(where = "Promise 11", text = "The TAPE, which is empty then, becomes a LAW: its number.")
    static void aLaw() {
        HardestVows x = with(10);
        for (int i = 0; i < 6; i++) {
            due("its number", law(x, "falls " + i), i);
            due("the tape", x.count(6), 0);
        }
        due("it is not in force", x.count(12), -1);
        x.force(5);
        due("the last one", x.of(0, 0, 5), 5);
    }

    @Says(where = "Promise 11", text = "-5 (ahead of reading it; the TAPE is empty then, too);")
    static void noRoomForALaw() {
        HardestVows x = new HardestVows();
        for (int i = 0; i < 5; i++) {
            law(x, "bars");
        }
        law(x, "x");
        law(x, "bars");
        law(x, "bars x");
        due("ahead of reading it", x.fault(), -1);
        tape(x, "bars");
        refused(x, "a law", x::law, -5);
        due("the tape", x.count(6), 0);
        due("fault", x.fault(), -1);
        tape(x, "bars x");
        refused(x, "no law", x::law, -5);
        due("the tape", x.count(6), 0);
        due("fault", x.fault(), -1);
        refused(x, "nothing", x::law, -5);
        due("fault", x.fault(), -1);
        due("six", x.count(4), 6);
    }

    @Says(where = "Promise 11", text = "-6 (blanks alone: FAULT at the end).")
    static void noLaw() {
        HardestVows x = new HardestVows();
        refused(x, "nothing", x::law, -6);
        due("the end of nothing", x.fault(), 0);
        tape(x, "   ");
        refused(x, "blanks", x::law, -6);
        due("the end of blanks", x.fault(), 3);
        due("the tape", x.count(6), 0);
        tape(x, "bars bars");
        refused(x, "no law", x::law, -6);
        due("its fault", x.fault(), 5);
        due("the tape", x.count(6), 0);
        due("no laws", x.count(4), 0);
    }

    @Says(where = "Promise 12", text = "ORDERS, the TAPE is empty then: how many were run.")
    static void ordersAreRun() {
        HardestVows x = with(10);
        tape(x, "pass if 1=2");
        accepted(x, "none", x::orders, 0);
        due("the tape", x.count(6), 0);
        due("one", orders(x, "pass"), 1);
        due("the tape", x.count(6), 0);
        due("as many as can be", orders(x, repeated("pass times 20", ";", 12)), 240);
        due("so many years", x.count(13), 241);
        due("laws are not counted", x.count(4), 0);
    }

    @Says(where = "Promise 12", text = "-3 one can't be;")
    static void ordersThatCantBe() {
        HardestVows x = with(10);
        tape(x, "lay 0");
        refused(x, "the only one", x::orders, -3);
        due("the tape", x.count(6), 0);
        tape(x, "pass;pass;give 7 to 0");
        refused(x, "the last one", x::orders, -3);
        due("no year passed", x.count(13), 0);
        tape(x, "lay 9");
        refused(x, "no such monk", x::orders, -3);
        tape(x, "swap 0 with 0");
        refused(x, "with himself", x::orders, -3);
    }

    @Says(where = "Promise 12", text = "-6 (as for law()).")
    static void noOrders() {
        HardestVows x = with(10);
        refused(x, "nothing", x::orders, -6);
        due("the end of nothing", x.fault(), 0);
        tape(x, "    ");
        refused(x, "blanks", x::orders, -6);
        due("the end of blanks", x.fault(), 4);
        tape(x, "pass;pass;pas");
        refused(x, "the third is none", x::orders, -6);
        due("its fault", x.fault(), 10);
        due("the tape", x.count(6), 0);
        due("nothing was run", x.count(13), 0);
        for (int i = 0; i < 6; i++) {
            law(x, "bars");
        }
        refused(x, "they need no room", x::orders, -6);
    }

    @Says(where = "Promise 13", text = "FAULT of the latest law(), orders() that read a TEXT: its place;")
    static void theLatestFault() {
        HardestVows x = with(10);
        law(x, "x");
        due("at the beginning", x.fault(), 0);
        orders(x, "pass pass");
        due("of orders", x.fault(), 5);
        law(x, repeated(" ", "", 399) + "x");
        due("the last byte", x.fault(), 399);
        law(x, repeated(" ", "", 400));
        due("the end", x.fault(), 400);
        x.row();
        x.monk(-1);
        due("others change nothing", x.fault(), 400);
        HardestVows full = new HardestVows();
        for (int i = 0; i < 6; i++) {
            law(full, "bars");
        }
        orders(full, "pass 1");
        law(full, "x");
        due("a law() that read no text", full.fault(), 5);
    }

    @Says(where = "Promise 13", text = "NONE without.")
    static void noFault() {
        HardestVows x = with(10);
        due("ahead of any", x.fault(), -1);
        law(x, "x");
        law(x, "bars");
        due("a law", x.fault(), -1);
        law(x, "x");
        orders(x, "pass");
        due("orders", x.fault(), -1);
        law(x, "x");
        orders(x, "lay 0");
        due("orders that can't be have none", x.fault(), -1);
    }

    @Says(where = "Promise 14", text = "Which CLAUSE of the latest orders() could not be.")
    static void whereItStopped() {
        HardestVows x = with(10);
        orders(x, "lay 0");
        due("the first", x.stopped(), 0);
        orders(x, "pass;pass if 1=2;pass times 3;lay 0");
        due("the fourth", x.stopped(), 3);
        orders(x, repeated("pass", ";", 11) + ";lay 1/0");
        due("the twelfth", x.stopped(), 11);
        law(x, "x");
        x.lay(0);
        x.pass();
        due("others change nothing", x.stopped(), 11);
    }

    @Says(where = "Promise 14", text = "NONE.")
    static void itDidNotStop() {
        HardestVows x = with(10);
        due("ahead of any", x.stopped(), -1);
        orders(x, "lay 0");
        orders(x, "pass");
        due("they were run", x.stopped(), -1);
        orders(x, "lay 0");
        orders(x, "lay 0 if 1=2");
        due("none was run", x.stopped(), -1);
        orders(x, "lay 0");
        orders(x, "lay");
        due("they were not read", x.stopped(), -1);
    }

    // ---- 15 to 20

    @Says(where = "Promise 15", text = "A LAW is in FORCE (NONE: none): which was.")
    static void aLawInForce() {
        HardestVows x = with(10);
        accepted(x, "none for none", () -> x.force(-1), -1);
        for (int i = 0; i < 6; i++) {
            law(x, "falls " + i);
        }
        due("was none", x.force(0), -1);
        due("was 0", x.force(5), 0);
        due("5 is", x.of(0, 0, 5), 5);
        due("was 5", x.force(5), 5);
        due("was 5", x.force(-1), 5);
        due("none is", x.of(0, 0, 5) * 10 - x.count(12), 51);
    }

    @Says(where = "Promise 15", text = "-2.")
    static void noSuchLaw() {
        HardestVows x = with(10);
        refused(x, "law 0", () -> x.force(0), -2);
        law(x, "falls 7");
        x.force(0);
        refused(x, "law 1", () -> x.force(1), -2);
        refused(x, "law 6", () -> x.force(6), -2);
        refused(x, "law -2", () -> x.force(-2), -2);
        refused(x, "the least", () -> x.force(LEAST), -2);
        refused(x, "the greatest", () -> x.force(GREATEST), -2);
        due("it stays", x.count(12), 0);
        due("it stays", x.of(0, 0, 5), 7);
    }

    @Says(where = "Promise 16", text = "To GIVE: HARD.")
    static void whatGiveTells() {
        HardestVows x = under("shows 5", 0, 99);
        accepted(x, "hard 0", () -> x.give(0, 0), 0);
        accepted(x, "hard 99", () -> x.give(6, 1), 99);
    }

    @Says(where = "Promise 16", text = "-1 (no VOW);")
    static void giveNoVow() {
        HardestVows x = with(10);
        refused(x, "vow -1", () -> x.give(-1, 0), -1);
        refused(x, "vow 7", () -> x.give(7, 0), -1);
        refused(x, "the least", () -> x.give(LEAST, 0), -1);
        refused(x, "the greatest", () -> x.give(GREATEST, 0), -1);
        refused(x, "to nobody", () -> x.give(7, 1), -1);
        due("he has none", x.has(0) - x.count(5), -1);
    }

    @Says(where = "Promise 16", text = "-2;")
    static void giveToNobody() {
        HardestVows x = with(10);
        refused(x, "monk 1", () -> x.give(0, 1), -2);
        refused(x, "monk -1", () -> x.give(0, -1), -2);
        refused(x, "monk 7", () -> x.give(0, 7), -2);
        refused(x, "the greatest", () -> x.give(0, GREATEST), -2);
        x.give(0, 0);
        refused(x, "what is had", () -> x.give(0, 1), -2);
    }

    @Says(where = "Promise 16", text = "-3.")
    static void giveWhatCantBe() {
        HardestVows x = under("bars if vow=6", 10, 20);
        x.give(0, 0);
        refused(x, "had by him", () -> x.give(0, 0), -3);
        refused(x, "had by another", () -> x.give(0, 1), -3);
        refused(x, "barred", () -> x.give(6, 0), -3);
        due("he has what he had", x.has(0), 0);
        due("one can be undone", x.count(5), 1);
    }

    @Says(where = "Promise 17", text = "To LAY down: the VOW.")
    static void whatLayTells() {
        HardestVows x = with(10, 20);
        x.give(0, 0);
        x.give(6, 1);
        accepted(x, "vow 0", () -> x.lay(0), 0);
        accepted(x, "vow 6", () -> x.lay(1), 6);
        due("none is had", x.count(1), 0);
    }

    @Says(where = "Promise 17", text = "-2;")
    static void layOfNobody() {
        HardestVows x = with(10);
        refused(x, "monk 1", () -> x.lay(1), -2);
        refused(x, "monk -1", () -> x.lay(-1), -2);
        refused(x, "monk 7", () -> x.lay(7), -2);
        refused(x, "the least", () -> x.lay(LEAST), -2);
    }

    @Says(where = "Promise 17", text = "-3.")
    static void layOfNothing() {
        HardestVows x = with(10);
        refused(x, "none at first", () -> x.lay(0), -3);
        x.give(0, 0);
        x.lay(0);
        refused(x, "none again", () -> x.lay(0), -3);
        due("two can be undone", x.count(5), 2);
    }

    @Says(where = "Promise 18", text = "To SWAP: HARD of both then, together.")
    static void whatSwapTells() {
        HardestVows x = with(0, 0);
        x.put(0, 1, 99);
        x.put(1, 0, 99);
        x.give(0, 0);
        x.give(1, 1);
        accepted(x, "hard 198", () -> x.swap(0, 1), 198);
        accepted(x, "hard 0", () -> x.swap(1, 0), 0);
    }

    @Says(where = "Promise 18", text = "-1 (with himself);")
    static void swapWithHimself() {
        HardestVows x = with(10, 20);
        x.give(0, 0);
        refused(x, "who has one", () -> x.swap(0, 0), -1);
        refused(x, "who has none", () -> x.swap(1, 1), -1);
        refused(x, "nobody", () -> x.swap(2, 2), -1);
        refused(x, "monk -1", () -> x.swap(-1, -1), -1);
    }

    @Says(where = "Promise 18", text = "-2;")
    static void swapWithNobody() {
        HardestVows x = with(10, 20);
        x.give(0, 0);
        refused(x, "with monk 2", () -> x.swap(0, 2), -2);
        refused(x, "of monk 2", () -> x.swap(2, 0), -2);
        refused(x, "with monk -1", () -> x.swap(0, -1), -2);
        refused(x, "with monk 7", () -> x.swap(1, 7), -2);
        refused(x, "of the least with the greatest", () -> x.swap(LEAST, GREATEST), -2);
    }

    @Says(where = "Promise 18", text = "-3.")
    static void swapThatCantBe() {
        HardestVows x = under("bars if monk=0 and vow=1", 10, 20, 30);
        refused(x, "both have none", () -> x.swap(0, 1), -3);
        x.give(0, 0);
        refused(x, "one has none", () -> x.swap(0, 1), -3);
        refused(x, "the other has none", () -> x.swap(1, 0), -3);
        x.give(1, 1);
        refused(x, "one is barred", () -> x.swap(0, 1), -3);
        refused(x, "the other is barred", () -> x.swap(1, 0), -3);
        due("as they had", x.has(0) * 10 + x.has(1), 1);
        due("two can be undone", x.count(5), 2);
    }

    @Says(where = "Promise 19", text = "A YEAR: its number.")
    static void whatPassTells() {
        HardestVows x = new HardestVows();
        accepted(x, "the first", x::pass, 1);
        x.terms(0, 998);
        accepted(x, "the last", x::pass, 999);
        due("it is", x.count(13), 999);
    }

    @Says(where = "Promise 19", text = "-3.")
    static void noYearBehindTheLast() {
        HardestVows x = with(10);
        x.give(0, 0);
        x.terms(0, 999);
        refused(x, "behind 999", x::pass, -3);
        refused(x, "again", x::pass, -3);
        due("hard", x.of(0, 0, 0), 10);
        due("held", x.of(0, 0, 1), 0);
        due("nothing can be undone", x.count(5), 0);
    }

    @Says(where = "Promise 20",
        text = "The latest give(), lay(), swap(), pass() (by ORDERS, too; 16 are kept) is undone: 0 .. 3.")
    static void theLatestIsUndone() {
        HardestVows x = with(10, 20);
        orders(x, "give 0 to 0;give 1 to 1;swap 0 with 1;pass;lay 0");
        due("lay", x.undo(), 1);
        due("has, held", x.has(0) * 10 + x.of(0, 1, 1), 11);
        due("pass", x.undo(), 3);
        due("year, hard", x.count(13) * 100 + x.of(0, 1, 0), 10);
        due("swap", x.undo(), 2);
        due("has", x.has(0) * 10 + x.has(1), 1);
        accepted(x, "give", x::undo, 0);
        due("has none", x.has(1), -1);
        due("one is left", x.count(5), 1);
        for (int i = 0; i < 15; i++) {
            x.pass();
        }
        due("16", x.count(5), 16);
        x.pass();
        due("16 at most", x.count(5), 16);
        for (int i = 0; i < 16; i++) {
            due("pass", x.undo(), 3);
        }
        due("the 17th is not kept", x.undo(), -3);
        due("what it gave stands", x.has(0), 0);
        due("20 by orders", orders(x, "pass times 20"), 20);
        due("16 of 20", x.count(5), 16);
        sixteenOfDifferentKinds();
    }

    /** Each of the sixteen is undone as what it was, though older ones were kept ahead of it. */
    private static void sixteenOfDifferentKinds() {
        HardestVows x = with(50, 60);
        int[] kinds = new int[40];
        int[] years = new int[40];
        int[] had = new int[40];
        for (int i = 0; i < 40; i++) {
            years[i] = x.count(13);
            had[i] = x.has(0);
            kinds[i] = i % 5 == 0 ? 0 : i % 5 == 3 ? 1 : 3;
            due("deed " + i, kinds[i] == 0 ? Math.min(0, x.give(i % 7, 0)) : kinds[i] == 1 ? Math.min(0, x.lay(0)) : x.pass() * 0, 0);
        }
        for (int i = 39; i >= 24; i--) {
            due("undone " + i, x.undo(), kinds[i]);
            due("the year of " + i, x.count(13), years[i]);
            due("had ahead of " + i, x.has(0), had[i]);
        }
        due("no more", x.undo(), -3);
    }

    @Says(where = "Promise 20", text = "-3 there is none")
    static void nothingToUndo() {
        HardestVows x = with(10);
        refused(x, "nothing was done", x::undo, -3);
        x.give(7, 0);
        x.lay(0);
        refused(x, "what was refused", x::undo, -3);
        orders(x, "pass;lay 0");
        refused(x, "orders that could not be", x::undo, -3);
        x.pass();
        x.undo();
        refused(x, "what is undone already", x::undo, -3);
    }

    @Says(where = "Promise 20",
        text = "(nothing that was ahead of a monk(), put(), row(), terms() that was not REFUSED can be undone).")
    static void whatEndsUndoing() {
        HardestVows x = with(10);
        x.pass();
        x.monk(100);
        x.put(0, 0, 100);
        x.put(1, 0, 0);
        x.row();
        x.terms(0, 1000);
        due("refused ones change nothing", x.count(5), 1);
        x.monk(20);
        due("behind monk()", x.undo(), -3);
        x.pass();
        x.put(0, 0, x.of(0, 0, 0));
        due("behind put()", x.undo(), -3);
        x.pass();
        row(x, "a");
        due("behind row()", x.undo(), -3);
        x.pass();
        x.terms(1, 0);
        due("behind terms()", x.undo(), -3);
        x.pass();
        due("what comes then can be", x.undo(), 3);
        x.pass();
        law(x, "bars");
        x.force(0);
        x.seen(0, 0);
        x.forget();
        x.years(0, 1);
        x.image(0);
        due("others change nothing", x.count(5), 1);
    }

    // ---- 21 to 27: on paper

    @Says(where = "Promise 21", text = "BEST: what is SHOWN together (what 0), the VOW of MONK m (1 + m; 100: none).")
    static void whatBestTells() {
        HardestVows x = with(99, 99, 99, 99, 99, 99, 99);
        due("693", x.best(0), 693);
        for (int m = 0; m <= 6; m++) {
            due("monk " + m, x.best(1 + m), m);
        }
        HardestVows one = under("bars if vow<6", 10, 20);
        due("20", one.best(0), 20);
        due("none", one.best(1), 100);
        due("6", one.best(2), 6);
    }

    @Says(where = "Promise 21", text = "NONE.")
    static void bestOfNone() {
        HardestVows x = with(10);
        due("what -1", x.best(-1), -1);
        due("monk 1", x.best(2), -1);
        due("monk 7", x.best(8), -1);
        due("the least", x.best(LEAST), -1);
        due("the greatest", x.best(GREATEST), -1);
        due("monk 7 of seven", full().best(8), -1);
        due("without monks", new HardestVows().best(1), -1);
    }

    @Says(where = "Promise 22", text = "FAIR: the least HARD (what 0), HARD together (1), the VOW of MONK m (2 + m).")
    static void whatFairTells() {
        HardestVows x = with(99, 99, 99, 99, 99, 99, 99);
        due("99", x.fair(0), 99);
        due("693", x.fair(1), 693);
        for (int m = 0; m <= 6; m++) {
            due("monk " + m, x.fair(2 + m), m);
        }
        due("what 9", x.fair(9), -1);
        due("what -1", x.fair(-1), -1);
        due("what 3 of one", with(10).fair(3), -1);
        due("the least", x.fair(LEAST), -1);
        due("the greatest", x.fair(GREATEST), -1);
        HardestVows zero = with(0);
        due("0", zero.fair(0) + zero.fair(1), 0);
    }

    @Says(where = "Promise 22", text = "NONE (not all can have one;")
    static void notAllCanHaveOne() {
        HardestVows x = under("bars if vow>0", 10, 20);
        for (int what = 0; what <= 3; what++) {
            due("what " + what, x.fair(what), -1);
        }
        HardestVows y = under("bars if monk=1", 10, 20);
        due("one is barred from all", y.fair(0), -1);
        due("hard together", y.fair(1), -1);
    }

    @Says(where = "Promise 22", text = "no MONKS).")
    static void fairWithoutMonks() {
        HardestVows x = new HardestVows();
        due("the least", x.fair(0), -1);
        due("together", x.fair(1), -1);
        due("monk 0", x.fair(2), -1);
    }

    @Says(where = "Promise 23", text = "WISHED: how often was asked (what 0), the VOW of MONK m (1 + m; 100: none).")
    static void whatWishedTells() {
        HardestVows x = with(10, 10, 10, 10, 10, 10, 10);
        due("1 to 7 times", x.wished(0), 28);
        for (int m = 0; m <= 6; m++) {
            due("monk " + m, x.wished(1 + m), m);
        }
        HardestVows y = with(1, 2, 3, 4, 5, 6, 7);
        due("each drives those ahead of him on", y.wished(0), 28);
        due("the lowest shows least", y.wished(1), 6);
        HardestVows one = under("bars if vow<6", 10, 20);
        due("two", one.wished(0), 2);
        due("none", one.wished(1), 100);
        due("6", one.wished(2), 6);
    }

    @Says(where = "Promise 23", text = "NONE.")
    static void wishedOfNone() {
        HardestVows x = with(10);
        due("what -1", x.wished(-1), -1);
        due("monk 1", x.wished(2), -1);
        due("monk 7 of seven", full().wished(8), -1);
        due("the least", x.wished(LEAST), -1);
        due("the greatest", x.wished(GREATEST), -1);
        due("without monks", new HardestVows().wished(1), -1);
    }

    /** Each of seven monks, by a swap with whom it becomes harder. */
    private static HardestVows allWouldSwap() {
        HardestVows x = full();
        for (int m = 0; m < 7; m++) {
            for (int vow = 0; vow < 7; vow++) {
                x.put(m, vow, m == vow ? 1 : 2);
            }
        }
        return x;
    }

    @Says(where = "Promise 24", text = "EXCHANGES: how many (i NONE), the i-th.")
    static void whatSwapsTells() {
        HardestVows x = allWouldSwap();
        due("all twos", x.swaps(-1), 21);
        due("the first", x.swaps(0), 1);
        due("the last", x.swaps(20), 56);
        due("none", full().swaps(-1), 0);
    }

    @Says(where = "Promise 24", text = "NONE.")
    static void swapsOfNone() {
        HardestVows x = allWouldSwap();
        due("behind the last", x.swaps(21), -1);
        due("-2", x.swaps(-2), -1);
        due("the least", x.swaps(LEAST), -1);
        due("the greatest", x.swaps(GREATEST), -1);
        due("of none", full().swaps(0), -1);
        due("without monks", new HardestVows().swaps(0), -1);
    }

    @Says(where = "Promise 25", text = "To HIDE: the VOW (what 0), what is shown of it (1), HARD then (2).")
    static void whatHideTells() {
        HardestVows x = with(30);
        x.put(0, 6, 5);
        due("vow 6", x.hide(0, 0), 6);
        due("as 99", x.hide(0, 1), 99);
        due("hard 5", x.hide(0, 2), 5);
        due("what -1", x.hide(0, -1), -1);
        due("what 3", x.hide(0, 3), -1);
        HardestVows zero = under("bars if vow>0", 30, 20);
        due("vow 0", zero.hide(0, 0), 0);
        due("as 0", zero.hide(0, 1), 0);
        due("hard of none", zero.hide(0, 2), 0);
    }

    @Says(where = "Promise 25", text = "NONE (nothing gained;")
    static void nothingGained() {
        HardestVows x = with(30, 0);
        for (int what = 0; what <= 2; what++) {
            due("all as hard, what " + what, x.hide(0, what), -1);
            due("0 can't be less, what " + what, x.hide(1, what), -1);
        }
        due("0 is shown of the only one: he has it all the same", under("bars if vow>0", 30).hide(0, 2), -1);
        due("barred from all", under("bars", 30).hide(0, 0), -1);
    }

    @Says(where = "Promise 25", text = "no such MONK).")
    static void nobodyHides() {
        HardestVows x = with(30);
        x.put(0, 6, 5);
        due("monk 1", x.hide(1, 0), -1);
        due("monk 7", x.hide(7, 0), -1);
        due("monk -1", x.hide(-1, 0), -1);
        due("the least", x.hide(LEAST, 0), -1);
        due("the greatest", x.hide(GREATEST, 0), -1);
    }

    @Says(where = "Promise 26", text = "SOFT, a number 0 .. 700: the first YEAR, 0 being now.")
    static void whatSoftTells() {
        HardestVows x = with(99, 99, 99, 99, 99, 99, 99);
        due("700", x.soft(700), 0);
        due("694", x.soft(694), 0);
        due("693", x.soft(693), -1);
        due("701", x.soft(701), -1);
        due("-1", x.soft(-1), -1);
        due("the least", x.soft(LEAST), -1);
        due("the greatest", x.soft(GREATEST), -1);
        due("nothing is below 0", new HardestVows().soft(0), -1);
        due("nothing had is below 1", new HardestVows().soft(1), 0);
        HardestVows y = under("falls 1;rises 0;bars if vow>0", 50);
        due("now", y.soft(51), 0);
        due("next year", y.soft(50), 1);
    }

    @Says(where = "Promise 26", text = "NONE (not in 100).")
    static void notSoftInAHundred() {
        for (int year = 98; year <= 102; year++) {
            due("soft in year " + year, under("bars if year=" + year, 1).soft(1), year <= 100 ? year : -1);
        }
        due("never", with(50).soft(10), -1);
    }

    @Says(where = "Promise 27", text = "KEPT in n YEARS 0 .. 60.")
    static void whatKeptTells() {
        HardestVows x = under("breaks 0;breaks 5 if year=58;breaks 6 if year=59;breaks 7 if year=60", 50);
        x.give(0, 0);
        due("0", x.kept(0, 0), 1000000000000L);
        due("59", x.kept(0, 59), 500000000000L);
        due("60", x.kept(0, 60), 200000000000L);
        due("61", x.kept(0, 61), -1);
        due("-1", x.kept(0, -1), -1);
        due("the least", x.kept(0, LEAST), -1);
        due("the greatest", x.kept(0, GREATEST), -1);
    }

    @Says(where = "Promise 27", text = "NONE (he HAS none).")
    static void nothingIsKept() {
        HardestVows x = with(50, 60);
        due("none at first", x.kept(0, 0), -1);
        x.give(0, 0);
        due("another one", x.kept(1, 1), -1);
        due("monk 2", x.kept(2, 1), -1);
        due("monk -1", x.kept(-1, 1), -1);
        due("monk 7", x.kept(7, 1), -1);
        due("the least", x.kept(LEAST, 1), -1);
        due("the greatest", x.kept(GREATEST, 1), -1);
        x.lay(0);
        due("laid down", x.kept(0, 1), -1);
    }

    // ---- 28 to 34

    @Says(where = "Promise 28", text = "SEEN of a VOW 0 .. 99: how often there was.")
    static void whatSeenTells() {
        HardestVows x = with(0, 99);
        due("vow 0, shown 0", x.seen(0, 0), 1);
        due("who", x.who(), 1);
        due("vow 6, shown 99", x.seen(6, 99), 2);
        due("who", x.who(), 0);
        for (int i = 3; i <= 8; i++) {
            due("how often", x.seen(0, 0), i);
        }
    }

    @Says(where = "Promise 28", text = "-1;")
    static void seenThatCantBe() {
        HardestVows x = with(10);
        refused(x, "vow -1", () -> x.seen(-1, 0), -1);
        refused(x, "vow 7", () -> x.seen(7, 0), -1);
        refused(x, "shown -1", () -> x.seen(0, -1), -1);
        refused(x, "shown 100", () -> x.seen(0, 100), -1);
        refused(x, "the least", () -> x.seen(LEAST, LEAST), -1);
        due("nothing was seen", x.count(3), 0);
        due("who", x.who(), 1);
    }

    @Says(where = "Promise 28", text = "-5.")
    static void noRoomForSeen() {
        HardestVows x = with(10);
        for (int i = 0; i < 8; i++) {
            x.seen(0, 10);
        }
        refused(x, "the ninth", () -> x.seen(0, 11), -5);
        due("eight", x.count(3), 8);
        due("who", x.who(), 1);
        x.forget();
        due("room again", x.seen(0, 11), 1);
    }

    @Says(where = "Promise 29", text = "SEEN is nothing then: how often there was.")
    static void whatForgetTells() {
        HardestVows x = with(10);
        due("never", x.forget(), 0);
        for (int i = 0; i < 8; i++) {
            x.seen(0, 11);
        }
        due("nobody", x.who(), 0);
        due("eight times", x.forget(), 8);
        due("nothing is seen", x.count(3), 0);
        due("all", x.who(), 1);
        due("never", x.forget(), 0);
    }

    @Says(where = "Promise 30", text = "WHO it can be: MONKS, as bits.")
    static void whatWhoTells() {
        due("without monks", new HardestVows().who(), 0);
        HardestVows x = full();
        due("all seven", x.who(), 127);
        x.seen(0, 70);
        due("monk 6", x.who(), 64);
        x.forget();
        x.seen(6, 10);
        due("monk 0", x.who(), 1);
        x.seen(6, 11);
        due("nobody", x.who(), 0);
    }

    @Says(where = "Promise 31", text = "To SEE next: the VOW (what 0), how many are left at most (1).")
    static void whatLookTells() {
        HardestVows x = with(10, 10, 10, 10, 10, 10, 10);
        due("vow 0", x.look(0), 0);
        due("all seven", x.look(1), 7);
        for (int m = 0; m < 7; m++) {
            x.put(m, 6, m);
        }
        due("vow 6", x.look(0), 6);
        due("one", x.look(1), 1);
        due("what -1", x.look(-1), -1);
        due("what 2", x.look(2), -1);
        due("the least", x.look(LEAST), -1);
        due("the greatest", x.look(GREATEST), -1);
    }

    @Says(where = "Promise 31", text = "NONE (nobody).")
    static void lookAtNobody() {
        HardestVows none = new HardestVows();
        due("without monks", none.look(0), -1);
        due("without monks", none.look(1), -1);
        HardestVows x = with(10);
        x.seen(0, 11);
        due("nobody shows it", x.look(0), -1);
        due("nobody shows it", x.look(1), -1);
    }

    @Says(where = "Promise 32", text = "COMPARED.")
    static void whatCompareTells() {
        HardestVows x = with(10, 20);
        for (int i = 0; i < 6; i++) {
            law(x, "shows " + i);
        }
        x.force(3);
        due("law 0", x.compare(0), 0);
        due("law 5", x.compare(5), 10);
        due("that in force", x.compare(3), 6);
        due("none", x.compare(-1), 30);
        due("it stays in force", x.best(0), 6);
        due("without monks", new HardestVows().compare(-1), 0);
    }

    @Says(where = "Promise 32", text = "NONE (no such LAW).")
    static void compareNoLaw() {
        HardestVows x = with(10);
        due("law 0", x.compare(0), -1);
        law(x, "bars");
        due("law 1", x.compare(1), -1);
        due("law 6", x.compare(6), -1);
        due("law -2", x.compare(-2), -1);
        due("the least", x.compare(LEAST), -1);
        due("the greatest", x.compare(GREATEST), -1);
        due("it is not refused", x.count(8) + x.status(), 0);
    }

    @Says(where = "Promise 33", text = "YEARS by draws, kept as the latest: how many VOWS were given in them.")
    static void whatYearsTells() {
        HardestVows x = with(10);
        due("one", x.years(0, 1), 1);
        due("the first", x.drawn(0, 7), 3);
        due("one", x.years(1000000, 1), 1);
        due("the latest", x.drawn(0, 7), 6);
        x.terms(0, 999);
        accepted(x, "none at 999", () -> x.years(0, 100), 0);
        due("that is the latest then", x.drawn(0, 7), -1);
        due("nothing can be undone", x.undo(), -3);
    }

    @Says(where = "Promise 33", text = "-1;")
    static void yearsThatCantBe() {
        HardestVows x = with(10);
        x.years(0, 1);
        refused(x, "seed -1", () -> x.years(-1, 1), -1);
        refused(x, "seed 1,000,001", () -> x.years(1000001, 1), -1);
        refused(x, "n 0", () -> x.years(1, 0), -1);
        refused(x, "n 101", () -> x.years(1, 101), -1);
        refused(x, "the least", () -> x.years(LEAST, LEAST), -1);
        refused(x, "the greatest", () -> x.years(GREATEST, GREATEST), -1);
        due("the latest stays", x.drawn(0, 7), 3);
    }

    @Says(where = "Promise 33", text = "-3 there are no MONKS.")
    static void yearsWithoutMonks() {
        HardestVows x = new HardestVows();
        refused(x, "without monks", () -> x.years(0, 1), -3);
        refused(x, "without monks", () -> x.years(1000000, 100), -3);
        x.image(0);
        x.monk(10);
        x.years(0, 1);
        x.back(0);
        refused(x, "without monks again", () -> x.years(1000000, 1), -3);
        due("the latest stays", x.drawn(0, 7), 3);
    }

    @Says(where = "Promise 34",
        text = "Behind the latest YEARS by draws HARD of a MONK and a VOW; the VOW he HAS (vow 7).")
    static void whatDrawnTells() {
        HardestVows x = with(10, 98, 99);
        x.give(6, 2);
        x.years(0, 1);
        due("monk 0 has 3", x.drawn(0, 7), 3);
        due("monk 1 has none", x.drawn(1, 7), -1);
        due("monk 2 has 6", x.drawn(2, 7), 6);
        due("hard of vow 0", x.drawn(0, 0), 11);
        due("hard of vow 3", x.drawn(0, 3), 5);
        due("hard of vow 6", x.drawn(2, 6), 94);
        due("99 at most", x.drawn(1, 6) + x.drawn(2, 0), 198);
        x.put(0, 0, 50);
        x.monk(5);
        due("behind them, not now", x.drawn(0, 0), 11);
        due("who came since", x.drawn(3, 0), -1);
    }

    @Says(where = "Promise 34", text = "NONE.")
    static void nothingDrawn() {
        HardestVows x = with(10);
        due("ahead of any", x.drawn(0, 0), -1);
        due("ahead of any", x.drawn(0, 7), -1);
        x.years(-1, 1);
        due("a refused one", x.drawn(0, 0), -1);
        x.years(0, 1);
        due("monk 1", x.drawn(1, 0), -1);
        due("monk -1", x.drawn(-1, 0), -1);
        due("monk 7", x.drawn(7, 7), -1);
        due("vow -1", x.drawn(0, -1), -1);
        due("vow 8", x.drawn(0, 8), -1);
        due("the least", x.drawn(LEAST, LEAST), -1);
        due("the greatest", x.drawn(GREATEST, GREATEST), -1);
    }

    // ---- 35 to 38

    @Says(where = "Promise 35", text = "IMAGE k is kept: 0;")
    static void anImageIsKept() {
        HardestVows x = new HardestVows();
        accepted(x, "of nobody", () -> x.image(0), 0);
        x.monk(10);
        due("of one", x.image(1), 0);
        x.monk(20);
        x.back(0);
        due("nobody", x.count(0), 0);
        x.back(1);
        due("one", x.count(0), 1);
        due("kept anew", x.image(0), 0);
        x.monk(20);
        x.back(0);
        due("one", x.count(0), 1);
    }

    @Says(where = "Promise 35", text = "-1.")
    static void noSuchImage() {
        HardestVows x = with(10);
        refused(x, "image -1", () -> x.image(-1), -1);
        refused(x, "image 2", () -> x.image(2), -1);
        refused(x, "the least", () -> x.image(LEAST), -1);
        refused(x, "the greatest", () -> x.image(GREATEST), -1);
        due("none was kept", x.back(0) + x.back(1), -4);
    }

    @Says(where = "Promise 36", text = "BACK to IMAGE k: 0.")
    static void backToAnImage() {
        HardestVows x = with(10);
        x.image(1);
        x.monk(20);
        accepted(x, "back", () -> x.back(1), 0);
        due("one", x.count(0), 1);
        due("back again", x.back(1), 0);
        due("one", x.count(0), 1);
    }

    @Says(where = "Promise 36", text = "-1;")
    static void backToNoNumber() {
        HardestVows x = with(10);
        x.image(0);
        x.image(1);
        x.pass();
        refused(x, "image -1", () -> x.back(-1), -1);
        refused(x, "image 2", () -> x.back(2), -1);
        refused(x, "the least", () -> x.back(LEAST), -1);
        refused(x, "the greatest", () -> x.back(GREATEST), -1);
        due("as it was", x.count(13) * 10 + x.count(5), 11);
    }

    @Says(where = "Promise 36", text = "-2 it was not kept.")
    static void backToWhatWasNotKept() {
        HardestVows x = with(10);
        x.pass();
        refused(x, "image 0", () -> x.back(0), -2);
        refused(x, "image 1", () -> x.back(1), -2);
        due("as it was", x.count(13) * 10 + x.count(5), 11);
        x.image(0);
        refused(x, "image 1 still", () -> x.back(1), -2);
        due("image 0", x.back(0), 0);
    }

    @Says(where = "Promise 37", text = "0 MONKS, 1 how many HAVE a VOW, 2 HARD of all that is had, 3 SEEN, 4 LAWS, 5 how many"
        + " can be undone, 6 bytes of the TAPE,")
    static void countsOfWhatThereIs() {
        HardestVows none = new HardestVows();
        HardestVows x = with(99, 99, 99, 99, 99, 99, 99);
        for (int m = 0; m < 7; m++) {
            x.give(m, m);
        }
        for (int i = 0; i < 8; i++) {
            x.seen(0, 0);
        }
        for (int i = 0; i < 6; i++) {
            law(x, "bars");
        }
        for (int i = 0; i < 5; i++) {
            x.swap(0, 1);
            x.swap(0, 1);
        }
        tape(x, repeated("a", "", 400));
        int[] most = {7, 7, 693, 8, 6, 16, 400};
        for (int what = 0; what <= 6; what++) {
            due("at least, what " + what, none.count(what), 0);
            due("at most, what " + what, x.count(what), most[what]);
        }
    }

    @Says(where = "Promise 37",
        text = "7 .. 11 how many calls were REFUSED by -1, -2, -3, -5, -6 (IMAGES do not keep that),")
    static void countsOfRefusals() {
        HardestVows x = full();
        x.image(0);
        for (int i = 0; i < 8; i++) {
            x.seen(0, 0);
        }
        int[] often = {1, 2, 3, 4, 5};
        for (int i = 0; i < 5; i++) {
            for (int j = 0; j < often[i]; j++) {
                due("refused", i == 0 ? x.monk(100) : i == 1 ? x.lay(7) : i == 2 ? x.give(0, 0) : i == 3 ? x.seen(0, 0) : x.row(),
                    new int[] {-1, -2, -3, -5, -6}[i]);
            }
        }
        x.feed(0, 0, 0, 0, 0);
        x.end(-1);
        x.end(0);
        x.of(9, 9, 9);
        x.compare(9);
        x.count(99);
        for (int i = 0; i < 5; i++) {
            due("what " + (7 + i), x.count(7 + i), often[i]);
        }
        x.back(0);
        for (int i = 0; i < 5; i++) {
            due("behind back(), what " + (7 + i), x.count(7 + i), often[i]);
        }
    }

    @Says(where = "Promise 37", text = "12 the LAW in FORCE, 13, 14 TERMS 0, 1.")
    static void countsOfTerms() {
        HardestVows x = new HardestVows();
        due("none", x.count(12), -1);
        for (int i = 0; i < 6; i++) {
            law(x, "bars");
        }
        x.force(5);
        due("law 5", x.count(12), 5);
        x.force(0);
        due("law 0", x.count(12), 0);
        due("year 0", x.count(13), 0);
        due("mood 0", x.count(14), 0);
        x.terms(0, 999);
        x.terms(1, 9);
        due("year 999", x.count(13), 999);
        due("mood 9", x.count(14), 9);
    }

    @Says(where = "Promise 37", text = "NONE for others.")
    static void countsOfNothing() {
        HardestVows x = full();
        due("what -1", x.count(-1), -1);
        due("what 15", x.count(15), -1);
        due("the least", x.count(LEAST), -1);
        due("the greatest", x.count(GREATEST), -1);
    }

    @Says(where = "Promise 38", text = "What the latest call of monk, put, terms, row, law, orders, force, give, lay, swap, pass,"
        + " undo, seen, years, image, back was REFUSED by;")
    static void theLatestRefusal() {
        HardestVows x = new HardestVows();
        refused(x, "years", () -> x.years(0, 1), -3);
        refused(x, "monk", () -> x.monk(100), -1);
        refused(x, "put", () -> x.put(0, 0, 0), -2);
        refused(x, "terms", () -> x.terms(2, 0), -1);
        refused(x, "row", x::row, -6);
        refused(x, "force", () -> x.force(0), -2);
        refused(x, "law", x::law, -6);
        refused(x, "give", () -> x.give(7, 0), -1);
        refused(x, "orders", x::orders, -6);
        refused(x, "lay", () -> x.lay(0), -2);
        refused(x, "swap", () -> x.swap(0, 0), -1);
        refused(x, "undo", x::undo, -3);
        refused(x, "seen", () -> x.seen(7, 0), -1);
        refused(x, "back", () -> x.back(0), -2);
        refused(x, "image", () -> x.image(2), -1);
        x.terms(0, 999);
        refused(x, "pass", x::pass, -3);
        x.of(0, 0, 0);
        x.has(0);
        x.feed(0, 0, 0, 0, 0);
        x.end(0);
        x.crumbs();
        x.fault();
        x.stopped();
        x.best(0);
        x.fair(0);
        x.wished(0);
        x.swaps(-1);
        x.hide(0, 0);
        x.soft(1);
        x.kept(0, 0);
        x.forget();
        x.who();
        x.look(0);
        x.compare(-1);
        x.drawn(0, 0);
        x.count(0);
        due("other calls change nothing", x.status(), -3);
    }

    private static void acceptedBehindARefusal(HardestVows x, String what, java.util.function.IntSupplier call) {
        x.image(2);
        due("refused ahead of " + what, x.status(), -1);
        call.getAsInt();
        due("status() behind " + what, x.status(), 0);
    }

    @Says(where = "Promise 38", text = "0 if it was not, or ahead of any.")
    static void theLatestWasNotRefused() {
        HardestVows x = new HardestVows();
        due("ahead of any", x.status(), 0);
        x.of(9, 9, 9);
        x.end(9);
        due("others are none", x.status(), 0);
        acceptedBehindARefusal(x, "monk", () -> x.monk(10));
        acceptedBehindARefusal(x, "put", () -> x.put(0, 0, 5));
        acceptedBehindARefusal(x, "terms", () -> x.terms(0, 1));
        tape(x, "aaaaaaa");
        acceptedBehindARefusal(x, "row", x::row);
        tape(x, "falls 1");
        acceptedBehindARefusal(x, "law", x::law);
        tape(x, "pass if 1=2");
        acceptedBehindARefusal(x, "orders", x::orders);
        acceptedBehindARefusal(x, "force", () -> x.force(-1));
        acceptedBehindARefusal(x, "give", () -> x.give(0, 0));
        x.give(1, 1);
        acceptedBehindARefusal(x, "swap", () -> x.swap(0, 1));
        acceptedBehindARefusal(x, "lay", () -> x.lay(0));
        acceptedBehindARefusal(x, "pass", x::pass);
        acceptedBehindARefusal(x, "undo", x::undo);
        acceptedBehindARefusal(x, "seen", () -> x.seen(0, 0));
        acceptedBehindARefusal(x, "years", () -> x.years(0, 1));
        acceptedBehindARefusal(x, "image", () -> x.image(0));
        acceptedBehindARefusal(x, "back", () -> x.back(0));
    }

    public static void main(String[] args) {
        run(PromiseSentencesTest.class);
    }
}
