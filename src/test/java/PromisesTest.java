import java.lang.reflect.Method;
import java.lang.reflect.Modifier;
import java.util.TreeSet;

/** Each promise of the document by itself: what is ordinary, the edges that it names, what is wrong. */
public final class PromisesTest extends Orders {
    private static int wrong = 0;
    private static int asked = 0;
    private static int promise = 0;

    private static void due(String what, long got, long want) {
        asked++;
        if (got != want) {
            wrong++;
            System.out.println("promise " + promise + ": " + what + " answered " + got + ", due is " + want);
        }
    }

    private static void text(HardestVows x, String text) {
        due("the tape of '" + text + "'", tape(x, text), text.length());
    }

    private static void lawFault(String text, int place) {
        HardestVows x = new HardestVows();
        due("law '" + text + "'", law(x, text), place == -1 ? 0 : -6);
        due("fault of law '" + text + "'", x.fault(), place);
        due("tape behind a law", x.count(6), 0);
        due("laws behind '" + text + "'", x.count(4), place == -1 ? 1 : 0);
    }

    private static void orderFault(String text, int place) {
        HardestVows x = with(10, 20);
        int told = orders(x, text);
        due("whether orders '" + text + "' are read", told == -6 ? 1 : 0, place == -1 ? 0 : 1);
        due("fault of orders '" + text + "'", x.fault(), place);
        due("tape behind orders", x.count(6), 0);
    }

    private static void theFace() {
        String[] want = {"monk1", "put3", "of3", "has1", "terms2", "feed5", "end1", "row0", "crumbs0", "law0", "orders0",
            "fault0", "stopped0", "force1", "give2", "lay1", "swap2", "pass0", "undo0", "best1", "fair1", "wished1",
            "swaps1", "hide2", "soft1", "kept2", "seen2", "forget0", "who0", "look1", "compare1", "years2", "drawn2",
            "image1", "back1", "count1", "status0"};
        TreeSet<String> wanted = new TreeSet<>(java.util.Arrays.asList(want));
        TreeSet<String> found = new TreeSet<>();
        for (Method m : HardestVows.class.getDeclaredMethods()) {
            if (!Modifier.isPrivate(m.getModifiers()) && !m.isSynthetic()) {
                found.add(m.getName() + m.getParameterCount());
            }
        }
        due("the face", found.equals(wanted) ? 1 : 0, 1);
        due("public constructors", HardestVows.class.getConstructors().length, 1);
        due("public fields", HardestVows.class.getFields().length, 1);
        due("NONE", HardestVows.NONE, -1);
    }

    private static void newObject() {
        promise = 1;
        HardestVows x = new HardestVows();
        for (int what = 0; what <= 14; what++) {
            due("count(" + what + ")", x.count(what), what == 12 ? -1 : 0);
        }
        due("has", x.has(0), -1);
        due("crumbs", x.crumbs(), 0);
        due("fault", x.fault(), -1);
        due("stopped", x.stopped(), -1);
        due("status", x.status(), 0);
        due("best", x.best(0), 0);
        due("best of monk 0", x.best(1), -1);
        due("wished of monk 0", x.wished(1), -1);
        due("fair", x.fair(0), -1);
        due("fair 1", x.fair(1), -1);
        due("drawn", x.drawn(0, 0), -1);
        due("compare", x.compare(-1), 0);
        due("look 1", x.look(1), -1);
        due("orders of nobody", orders(x, "give 0 to 0"), -3);
        due("pass", x.pass(), 1);
    }

    private static void monks() {
        promise = 2;
        HardestVows x = new HardestVows();
        due("too hard", x.monk(100), -1);
        due("below 0", x.monk(-1), -1);
        for (int m = 0; m < 7; m++) {
            due("monk", x.monk(m == 0 ? 99 : m - 1), m);
        }
        due("all as hard", x.of(0, 6, 0), 99);
        due("all as hard", x.of(1, 3, 0), 0);
        due("has none", x.has(6), -1);
        due("no room", x.monk(5), -5);
        due("status", x.status(), -5);
        due("first of the two", x.monk(100), -1);
        due("count", x.count(0), 7);
        due("refused -1", x.count(7), 3);
        due("refused -5", x.count(10), 1);
    }

    private static void put() {
        promise = 3;
        HardestVows x = with(10);
        due("was", x.put(0, 6, 99), 10);
        due("was", x.put(0, 6, 0), 99);
        due("is", x.of(0, 6, 0), 0);
        due("others", x.of(0, 5, 0), 10);
        due("vow 7", x.put(0, 7, 1), -1);
        due("vow -1", x.put(0, -1, 1), -1);
        due("hard 100", x.put(0, 0, 100), -1);
        due("hard -1", x.put(0, 0, -1), -1);
        due("monk 1", x.put(1, 0, 1), -2);
        due("monk -1", x.put(-1, 0, 1), -2);
        due("status", x.status(), -2);
        due("first of the two", x.put(9, 9, 9), -1);
        due("hard stays", x.of(0, 0, 0), 10);
    }

    private static void of() {
        promise = 4;
        HardestVows x = under("falls 7;falls 500 if vow = 2;falls 0 - 3 if vow = 3;rises 200 if vow = 1;rises 3;"
            + "shows hard * 2;shows held + 90 if has = vow;breaks 11 if vow = 4;breaks mood;bars if monk = vow", 40, 60);
        due("hard", x.of(0, 1, 0), 40);
        due("held of one he has not", x.of(0, 1, 1), 0);
        due("shows", x.of(0, 1, 2), 80);
        due("shows the nearest", x.of(1, 0, 2), 99);
        due("breaks by mood", x.of(0, 1, 3), 0);
        due("the last that holds", x.of(0, 4, 3), 0);
        due("barred", x.of(0, 0, 4), 1);
        due("not barred", x.of(0, 1, 4), 0);
        due("falls", x.of(0, 1, 5), 7);
        due("falls at most", x.of(0, 2, 5), 99);
        due("falls at least", x.of(0, 3, 5), 0);
        due("rises", x.of(0, 1, 6), 3);
        due("what 7", x.of(0, 0, 7), -1);
        due("what -1", x.of(0, 0, -1), -1);
        due("vow 7", x.of(0, 7, 0), -1);
        due("vow -1", x.of(0, -1, 0), -1);
        due("monk 2", x.of(2, 0, 0), -1);
        due("monk -1", x.of(-1, 0, 0), -1);
        x.give(5, 0);
        x.pass();
        due("held", x.of(0, 5, 1), 1);
        due("held of another vow", x.of(0, 4, 1), 0);
        due("shows of what he has", x.of(0, 5, 2), 91);
        x.terms(1, 9);
        due("breaks by mood 9", x.of(0, 1, 3), 9);
        HardestVows none = with(33);
        int[] without = {33, 0, 33, 1, 0, 5, 1};
        for (int what = 0; what < 7; what++) {
            due("without a law " + what, none.of(0, 2, what), without[what]);
        }
        HardestVows breaks = under("breaks 10;breaks 500 if vow = 1;breaks 0 - 1 if vow = 2", 1);
        due("breaks 10", breaks.of(0, 0, 3), 10);
        due("breaks at most 10", breaks.of(0, 1, 3), 10);
        due("breaks at least 0", breaks.of(0, 2, 3), 0);
    }

    private static void broken() {
        promise = 4;
        HardestVows x = under("falls 8;falls 1 / vow;rises 4;rises 9 % vow;shows 1;shows 2 if 1 / vow < 5;"
            + "breaks 2;breaks 1000 * 1000 * 1000 + vow;bars if vow = 3 or 1 / vow > 2", 50);
        due("a broken sum does not hold", x.of(0, 0, 5), 8);
        due("a whole one holds", x.of(0, 1, 5), 1);
        due("% by 0", x.of(0, 0, 6), 4);
        due("% by 2", x.of(0, 2, 6), 1);
        due("a broken if", x.of(0, 0, 2), 1);
        due("a whole if", x.of(0, 4, 2), 2);
        due("1,000,000,000 is not beyond", x.of(0, 0, 3), 10);
        due("beyond", x.of(0, 1, 3), 2);
        due("barred by a broken test", x.of(0, 0, 4), 0);
        due("what can't matter is not asked", x.of(0, 3, 4), 1);
        HardestVows y = under("bars if not 1 / vow = 5 or vow = 0;shows 5 if vow = 0 or 1 / vow = 9;"
            + "falls 6 if vow > 0 and 4 / vow = 2;rises 0 - 1000 * 1000 * 1000 + 1000 * 1000 * 1000 - vow;"
            + "breaks [0 - 7] / 2 + 8;falls [0 - 7] % 4 + 8 if monk = 0 and vow = 5", 50);
        due("broken ahead of or", y.of(0, 0, 4), 0);
        due("not of a whole one", y.of(0, 2, 4), 1);
        due("so ahead of or", y.of(0, 0, 2), 5);
        due("not so ahead of and", y.of(0, 0, 5), 5);
        due("so ahead of and", y.of(0, 2, 5), 6);
        due("-1,000,000,000 is not beyond", y.of(0, 0, 6), 0);
        due("/ cut towards 0", y.of(0, 0, 3), 5);
        due("% what is left then", y.of(0, 5, 5), 5);
        HardestVows z = under("shows 1000 * 1000 * 1000 * 0;falls 1 - 1000 * 1000 * 1000 - 2;"
            + "rises 1000 * 1000 * 1000 * 1 / 1000 / 1000 / 100;bars if 1 / 0 = 1 and vow = 9", 50);
        due("to the bound and no further", z.of(0, 0, 2), 0);
        due("beyond below", z.of(0, 0, 5), 5);
        due("at the bound", z.of(0, 0, 6), 10);
        due("broken ahead of and", z.of(0, 0, 4), 0);
    }

    private static void wordsOfLaws() {
        promise = 4;
        HardestVows x = under("shows 10 * monk + vow if hard > 5;falls held * 10 + has + 2;rises year % 90;breaks mood;"
            + "bars if (vow = 1 or vow = 2) and not (vow = 2)", 9, 9, 1);
        due("monk, vow", x.of(1, 4, 2), 14);
        due("hard", x.of(2, 4, 2), 1);
        due("has none", x.of(0, 0, 5), 1);
        x.give(3, 0);
        due("has", x.of(0, 0, 5), 5);
        x.pass();
        due("held of what he has", x.of(0, 3, 5), 15);
        due("held of another vow", x.of(0, 0, 5), 5);
        due("year", x.of(0, 0, 6), 1);
        x.terms(0, 95);
        x.terms(1, 7);
        due("year set", x.of(0, 0, 6), 5);
        due("mood set", x.of(0, 0, 3), 7);
        due("brackets", x.of(0, 1, 4), 1);
        due("brackets and not", x.of(0, 2, 4), 0);
        HardestVows y = under("shows 2 + 3 * 4;falls [2 + 3] * 4;rises 20 - 3 - 4;breaks 100 / 5 / 4;"
            + "bars if vow = 1 or vow = 2 and vow = 3", 9);
        due("* ahead of +", y.of(0, 0, 2), 14);
        due("[ ]", y.of(0, 0, 5), 20);
        due("- from the left", y.of(0, 0, 6), 13);
        due("/ from the left", y.of(0, 0, 3), 5);
        due("and ahead of or", y.of(0, 1, 4), 1);
        due("and ahead of or", y.of(0, 2, 4), 0);
        HardestVows z = under("bars if not not vow = 1;shows 7 if not vow = 1 and vow < 3", 9);
        due("not not", z.of(0, 1, 4), 1);
        due("not of one plain alone", z.of(0, 2, 2), 7);
        due("not of one plain alone", z.of(0, 3, 2), 9);
    }

    private static void has() {
        promise = 5;
        HardestVows x = with(10);
        due("none", x.has(0), -1);
        x.give(6, 0);
        due("has", x.has(0), 6);
        due("no such", x.has(1), -1);
        due("no such", x.has(-1), -1);
        due("no such", x.has(Integer.MAX_VALUE), -1);
    }

    private static void terms() {
        promise = 6;
        HardestVows x = new HardestVows();
        due("year", x.terms(0, 999), 0);
        due("year was", x.terms(0, 0), 999);
        due("mood", x.terms(1, 9), 0);
        due("mood was", x.terms(1, 0), 9);
        due("year 1000", x.terms(0, 1000), -1);
        due("year -1", x.terms(0, -1), -1);
        due("mood 10", x.terms(1, 10), -1);
        due("mood -1", x.terms(1, -1), -1);
        due("what 2", x.terms(2, 0), -1);
        due("what -1", x.terms(-1, 0), -1);
        x.terms(0, 12);
        x.terms(1, 3);
        due("year kept", x.count(13), 12);
        due("mood kept", x.count(14), 3);
        due("status", x.status(), 0);
    }

    private static void feedAndEnd() {
        promise = 7;
        HardestVows x = with(1);
        due("feed", x.feed(0x01020304, 0x05060700, 0, 0, 0), 20);
        due("end", x.end(7), 7);
        due("row", x.row(), 1);
        due("the highest first", x.of(1, 0, 0) * 10 + x.of(1, 6, 0), 17);
        for (int i = 1; i <= 20; i++) {
            due("feed", x.feed(-1, -1, -1, -1, -1), i * 20);
        }
        due("full", x.feed(0, 0, 0, 0, 0), -1);
        due("still", x.count(6), 400);
        promise = 8;
        due("no more than it has", x.end(401), -1);
        due("below 0", x.end(-1), -1);
        due("all", x.end(400), 400);
        due("less", x.end(381), 381);
        due("not so many", x.end(382), -1);
        due("no room for twenty", x.feed(0, 0, 0, 0, 0), -1);
        due("room for twenty", x.end(380) + x.feed(0, 0, 0, 0, 0), 780);
        due("none", x.end(0), 0);
        due("none", x.count(6), 0);
        due("bytes above 127", law(x, "falls 5\u00e9"), -6);
        due("fault of these", x.fault(), 7);
        due("not a call that is refused", x.count(7), 0);
    }

    private static void rows() {
        promise = 9;
        HardestVows x = new HardestVows();
        due("empty", x.row(), -6);
        due("status", x.status(), -6);
        due("crumbs ahead of any", x.crumbs(), 0);
        text(x, "\1\2\3\4\5\6\7" + "cccccc\144" + "ccccccc" + "\0\0\0\0\0\0\0" + "ab");
        due("rows", x.row(), 3);
        due("tape", x.count(6), 0);
        promise = 10;
        due("crumbs", x.crumbs(), 2);
        promise = 9;
        due("hard", x.of(0, 0, 0), 1);
        due("hard 99", x.of(1, 6, 0), 99);
        due("hard 0", x.of(2, 0, 0), 0);
        due("empty again", x.row(), -6);
        promise = 10;
        due("crumbs stay", x.crumbs(), 2);
        text(x, "abc");
        promise = 9;
        due("nobody came", x.row(), 0);
        promise = 10;
        due("one crumb", x.crumbs(), 1);
        HardestVows z = new HardestVows();
        text(z, "abcabca" + "\377bcabca" + "abcabc\377" + "abcabca");
        promise = 9;
        due("each row by itself", z.row() * 10 + z.crumbs(), 22);
        text(x, "ccccccccccccccccccccccccccccccccccccccccccccccccc");
        due("no room for all", x.row(), 4);
        due("monks", x.count(0), 7);
        promise = 10;
        due("no room is a crumb", x.crumbs(), 3);
        text(x, "ccccccc");
        due("full", x.row(), 0);
        due("status", x.status(), 0);
        due("crumb", x.crumbs(), 1);
    }

    private static void laws() {
        promise = 11;
        lawFault("", 0);
        lawFault("   ", 3);
        lawFault("falls 1", -1);
        lawFault("  falls   1  ", -1);
        lawFault("falls1", -1);
        lawFault("bars", -1);
        lawFault("bars if vow=1", -1);
        lawFault("bars;bars", -1);
        lawFault("bars;", 5);
        lawFault("bars ; ", 7);
        lawFault(";bars", 0);
        lawFault("bars bars", 5);
        lawFault("falls", 5);
        lawFault("falls ", 6);
        lawFault("falls 1 2", 8);
        lawFault("falls hard2", 10);
        lawFault("falls 1000", -1);
        lawFault("falls 1001", 6);
        lawFault("falls 0001000", -1);
        lawFault("falls 99999999999999999999", 6);
        lawFault("Falls 1", 0);
        lawFault("falls -1", 6);
        lawFault("falls 1 +", 9);
        lawFault("falls 1 + ;", 10);
        lawFault("falls 1 ** 2", 9);
        lawFault("falls (1)", 6);
        lawFault("falls [1]", -1);
        lawFault("falls [1)", 8);
        lawFault("falls [1", 8);
        lawFault("falls []", 7);
        lawFault("falls 1 if", 10);
        lawFault("falls 1 if vow", 14);
        lawFault("falls 1 if vow = ", 17);
        lawFault("falls 1 if vow = 1 = 1", 19);
        lawFault("falls 1 if (vow = 1", 19);
        lawFault("falls 1 if (vow = 1)", -1);
        lawFault("falls 1 if (vow) = 1", 15);
        lawFault("falls 1 if [vow] = 1", -1);
        lawFault("falls 1 if [vow = 1]", 16);
        lawFault("falls 1 if not", 14);
        lawFault("falls 1 if not not vow = 1", -1);
        lawFault("falls 1 if vow = 1 or", 21);
        lawFault("falls 1 if or", 11);
        lawFault("falls 1 if vow = 1 and not (vow < 2 or vow > 3)", -1);
        lawFault("falls 1 if vow = 1 if vow = 2", 19);
        lawFault("falls 1 times 2", 8);
        lawFault("bars 1", 5);
        lawFault("falls done", 6);
        lawFault("falls if", 6);
        lawFault("falls fall", 6);
        lawFault("falls falls", 6);
        lawFault("falls has 1", 10);
        lawFault("falls\t1", 5);
        lawFault("falls 1\0", 7);
        lawFault("give 1 to 1", 0);
        lawFault("falls monk+vow+hard+held+has+year+mood", -1);
        lawFault("falls vows", 6);
        lawFault("falls vo", 6);
        limits();
        HardestVows x = new HardestVows();
        for (int i = 0; i < 6; i++) {
            due("law", law(x, "falls " + i), i);
        }
        due("a fault", law(x, "falls"), -5);
        due("tape", x.count(6), 0);
        due("it was not read", x.fault(), -1);
        due("laws", x.count(4), 6);
        due("status", x.status(), -5);
    }

    private static void limits() {
        lawFault(repeated("bars", ";", 12), -1);
        lawFault(repeated("bars", ";", 13), 60);
        lawFault(repeated("bars", ";", 12) + ";", 60);
        lawFault(repeated("bars", ";", 12) + "; 7", 61);
        lawFault("falls " + repeated("1", "+", 50), -1);
        lawFault("falls " + repeated("1", "+", 51), 106);
        lawFault("falls " + repeated("1", "+", 50) + "+ vow", 107);
        lawFault("falls " + repeated("1", "+", 25) + ";rises " + repeated("vow", "-", 25), -1);
        lawFault("falls " + repeated("1", "+", 25) + ";rises " + repeated("1", "-", 26), 112);
        lawFault("falls " + repeated("[", "", 8) + "1" + repeated("]", "", 8), -1);
        lawFault("falls " + repeated("[", "", 9) + "1" + repeated("]", "", 9), 14);
        lawFault("bars if " + repeated("(", "", 8) + "1=1" + repeated(")", "", 8), -1);
        lawFault("bars if " + repeated("(", "", 9) + "1=1" + repeated(")", "", 9), 16);
        lawFault("bars if ((((([[[1]]]=1)))))", -1);
        lawFault("bars if ((((([[[[1]]]]=1)))))", 16);
        lawFault("bars if ((((((((1=1)))))))) and ((((((((1=1))))))))", -1);
        lawFault("bars if " + repeated("not", " ", 95) + " 1=1", -1);
        HardestVows x = under("bars if " + repeated("not", " ", 95) + " 1=1", 5);
        due("95 times not", x.of(0, 0, 4), 0);
        HardestVows y = under("bars if " + repeated("not", " ", 94) + " 1=1", 5);
        due("94 times not", y.of(0, 0, 4), 1);
        HardestVows z = under("shows " + repeated("1", "+", 49) + "+vow", 5);
        due("fifty parts", z.of(0, 6, 2), 55);
        HardestVows deep = under("shows 1+[1+[1+[1+[1+[1+[1+[1+2*[3]]]]]]]]".replace("*[3]", "*3"), 5);
        due("deep", deep.of(0, 0, 2), 14);
    }

    private static void orders() {
        promise = 12;
        HardestVows x = with(10, 20, 30);
        due("run", orders(x, "give 3 to 1;give 4 to 2"), 2);
        due("has", x.has(1) * 10 + x.has(2), 34);
        due("tape", x.count(6), 0);
        due("none is run", orders(x, "pass if 1 = 2"), 0);
        due("a broken if", orders(x, "pass if 1 / 0 = 0"), 0);
        due("times", orders(x, "pass times 20"), 20);
        due("year", x.count(13), 20);
        due("each time asked", orders(x, "pass times 20 if year < 23"), 3);
        due("done", orders(x, "pass times 5 if done < 2;lay 1 if done = 2;lay 2 if done = 2"), 3);
        due("has", x.has(1), -1);
        due("has still", x.has(2), 4);
        due("latest is none", orders(x, "pass if latest = 0 - 1"), 1);
        int hard = x.of(0, 0, 0);
        due("latest", orders(x, "give 0 to 0;pass if latest = " + hard + ";lay 0;pass if latest = " + hard), 4);
        due("given", orders(x, "give given to 0;pass if given = 2"), 2);
        due("given is the vow", x.has(0), 1);
        due("sum", orders(x, "pass if sum = " + x.count(2)), 1);
        due("has, held", orders(x, "pass if has 0 = 1 and held 0 = 2 and has 6 = 0 - 1 and held 1 = 0 - 1"), 1);
        due("swap", orders(x, "swap 0 with 2 if held 0 = 3"), 1);
        due("swapped", x.has(0) * 10 + x.has(2), 41);
        due("done begins anew", orders(x, "pass if done = 0"), 1);
        due("a broken sum", orders(x, "pass;give 1 / 0 to 1"), -3);
        due("status", x.status(), -3);
        due("a broken second sum", orders(x, "pass;pass;give 5 to 1000 * 1000 * 1000 + 1"), -3);
        promise = 14;
        due("stopped", x.stopped(), 2);
        due("read", x.fault(), -1);
        promise = 12;
        int year = x.count(13);
        due("all is as it was", orders(x, "pass times 3;lay 0;lay 0"), -3);
        due("year", x.count(13), year);
        due("has", x.has(0), 4);
        promise = 14;
        due("stopped", x.stopped(), 2);
        due("whole", orders(x, "pass"), 1);
        due("stopped no more", x.stopped(), -1);
        orders(x, "lay 5");
        due("stopped first", x.stopped(), 0);
        orders(x, "lay");
        due("not read, not stopped", x.stopped(), -1);
        promise = 12;
        due("-1 in orders", orders(x, "give 7 to 0"), -3);
        due("-1 in orders", orders(x, "swap 0 with 0"), -3);
        due("-2 in orders", orders(x, "give 6 to 3"), -3);
        due("nothing but orders() is refused", x.count(7) + x.count(8), 0);
        due("refused -3", x.count(9), 7);
        x.terms(0, 998);
        due("to the last year", orders(x, "pass times 2"), -3);
        due("year", x.count(13), 998);
        due("to the last year", orders(x, "pass"), 1);
        due("a law in orders", orders(under("bars if vow = 2", 5), "give 1 to 0;give 2 to 0"), -3);
        orderFaults();
    }

    private static void orderFaults() {
        orderFault("", 0);
        orderFault("  ", 2);
        orderFault("pass", -1);
        orderFault("pass times 1", -1);
        orderFault("pass times 20 if 1 = 2", -1);
        orderFault("pass times 21", 11);
        orderFault("pass times 0", 11);
        orderFault("pass times", 10);
        orderFault("pass times year", 11);
        orderFault("pass times 2 times 2", 13);
        orderFault("pass if 1 = 2 times 2", 14);
        orderFault("pass 1", 5);
        orderFault("lay 0 if 1 = 2", -1);
        orderFault("lay", 3);
        orderFault("lay 0 to 1", 6);
        orderFault("give 0 with 1", 7);
        orderFault("give 0 to", 9);
        orderFault("give to 1", 5);
        orderFault("give 0 to 1 to 2", 12);
        orderFault("swap 0 with 1 times 3 if 1 = 2", -1);
        orderFault("lay has 6 if 1 = 2", -1);
        orderFault("lay has6 if 1 = 2", -1);
        orderFault("lay has 006 if 1 = 2", -1);
        orderFault("lay has 7", 8);
        orderFault("lay has", 7);
        orderFault("lay has year", 8);
        orderFault("lay held [1]", 9);
        orderFault("lay vow", 4);
        orderFault("lay monk", 4);
        orderFault("falls 1", 0);
        orderFault("passif 1 = 1", 0);
        orderFault("lay year+done+latest+given+sum+has 0+held 1 if 1 = 2", -1);
        orderFault("pass if " + repeated("has 1", "+", 49) + " > 0", -1);
        orderFault("pass if " + repeated("has 1", "+", 50) + " > 0", 310);
        orderFault("pass if " + repeated("has 1", "+", 51) + " > 0", 308);
        orderFault("pass times 2 if " + repeated("1", "+", 49) + " = 0", -1);
        orderFault(repeated("pass if 1=2", ";", 12), -1);
        orderFault(repeated("pass if 1=2", ";", 13), 144);
    }

    private static void fault() {
        promise = 13;
        HardestVows x = new HardestVows();
        due("none", x.fault(), -1);
        law(x, "falls x");
        due("fault", x.fault(), 6);
        x.row();
        x.monk(5);
        due("stays", x.fault(), 6);
        law(x, "falls 1");
        due("whole", x.fault(), -1);
        orders(x, "pass 3");
        due("of orders", x.fault(), 5);
        due("an empty text", x.law(), -6);
        due("its end", x.fault(), 0);
    }

    private static void force() {
        promise = 15;
        HardestVows x = with(50);
        due("none can be in force", x.force(-1), -1);
        due("not refused", x.status(), 0);
        due("no law", x.force(0), -2);
        law(x, "shows 1");
        law(x, "shows 2");
        due("not by itself", x.of(0, 0, 2), 50);
        due("was none", x.force(1), -1);
        due("in force", x.of(0, 0, 2), 2);
        due("was", x.force(0), 1);
        due("in force", x.of(0, 0, 2), 1);
        due("count", x.count(12), 0);
        due("no such", x.force(2), -2);
        due("no such", x.force(-2), -2);
        due("stays", x.count(12), 0);
        due("none", x.force(-1), 0);
        due("none", x.of(0, 0, 2), 50);
        due("refused -2", x.count(8), 3);
    }

    private static void give() {
        promise = 16;
        HardestVows x = under("bars if vow = 6;bars if has = 0 and vow = 1;shows 3", 10, 20);
        due("hard", x.give(0, 1), 20);
        due("vow 7", x.give(7, 0), -1);
        due("vow -1", x.give(-1, 0), -1);
        due("no monk", x.give(1, 2), -2);
        due("no monk", x.give(1, -1), -2);
        due("first of these", x.give(9, 9), -1);
        due("had by another", x.give(0, 0), -3);
        due("had by him", x.give(0, 1), -3);
        due("barred", x.give(6, 0), -3);
        due("barred by what he has", x.give(1, 1), -3);
        due("not barred", x.give(1, 0), 10);
        x.pass();
        due("another one", x.give(2, 0), 11);
        due("held", x.of(0, 2, 1), 0);
        due("nobody has it then", x.give(1, 0), 10 - 5);
        due("count", x.count(1), 2);
    }

    private static void lay() {
        promise = 17;
        HardestVows x = with(10);
        due("none", x.lay(0), -3);
        x.give(4, 0);
        x.pass();
        due("the vow", x.lay(0), 4);
        due("has none", x.has(0), -1);
        due("held", x.of(0, 4, 1), 0);
        due("no monk", x.lay(1), -2);
        due("no monk", x.lay(-1), -2);
        due("free again", x.give(4, 0), 5);
    }

    private static void swap() {
        promise = 18;
        HardestVows x = under("bars if monk = 0 and vow = 2;bars if has = 4 and vow = 3", 10, 20, 30);
        x.give(0, 0);
        x.give(1, 1);
        x.put(0, 1, 70);
        x.put(1, 0, 8);
        x.pass();
        due("hard of both then", x.swap(0, 1), 71 + 9);
        due("has", x.has(0) * 10 + x.has(1), 10);
        due("held", x.of(0, 1, 1) + x.of(1, 0, 1), 0);
        due("with himself", x.swap(2, 2), -1);
        due("with himself, nobody", x.swap(9, 9), -1);
        due("nobody", x.swap(0, 3), -2);
        due("nobody", x.swap(-1, 0), -2);
        due("he has none", x.swap(0, 2), -3);
        due("he has none", x.swap(2, 0), -3);
        x.give(2, 2);
        due("one is barred", x.swap(0, 2), -3);
        due("one is barred", x.swap(2, 0), -3);
        due("neither is", x.swap(1, 2), 21 + 31);
        x.give(3, 0);
        x.give(4, 1);
        due("barred by what he has", x.swap(0, 1), -3);
    }

    private static void pass() {
        promise = 19;
        HardestVows x = under("falls hard / 2 + held + year;rises 60 if vow = 6;rises vow", 50, 60);
        x.give(6, 0);
        due("year", x.pass(), 1);
        due("had falls", x.of(0, 6, 0), 25);
        due("of others it rises", x.of(1, 6, 0), 66);
        due("rises by vow", x.of(0, 5, 0), 55);
        due("held", x.of(0, 6, 1), 1);
        due("year", x.pass(), 2);
        due("all asked as it was", x.of(0, 6, 0), 25 - 12 - 1 - 1);
        x.put(1, 6, 97);
        x.put(0, 6, 1);
        x.pass();
        due("99 at most", x.of(1, 6, 0), 99);
        due("0 at least", x.of(0, 6, 0), 0);
        x.terms(0, 999);
        due("no year behind 999", x.pass(), -3);
        due("nothing passes", x.of(0, 6, 1), 3);
        HardestVows y = with(50);
        y.give(0, 0);
        for (int i = 1; i <= 101; i++) {
            due("year", y.pass(), i);
        }
        due("held 99 at most", y.of(0, 0, 1), 99);
        due("hard 0 at least", y.of(0, 0, 0), 0);
        due("hard 99 at most", y.of(0, 1, 0), 99);
    }

    private static void undo() {
        promise = 20;
        HardestVows x = with(50, 60);
        due("nothing", x.undo(), -3);
        x.give(0, 0);
        x.give(1, 1);
        x.swap(0, 1);
        x.pass();
        x.lay(0);
        due("five", x.count(5), 5);
        due("lay", x.undo(), 1);
        due("has", x.has(0), 1);
        due("held", x.of(0, 1, 1), 1);
        due("pass", x.undo(), 3);
        due("year", x.count(13), 0);
        due("hard", x.of(0, 1, 0), 50);
        due("swap", x.undo(), 2);
        due("has", x.has(0) * 10 + x.has(1), 1);
        due("give", x.undo(), 0);
        due("has none", x.has(1), -1);
        due("give", x.undo(), 0);
        due("nothing more", x.undo(), -3);
        due("refused", x.count(9), 2);
        for (int i = 0; i < 17; i++) {
            x.pass();
        }
        due("16 are kept", x.count(5), 16);
        for (int i = 0; i < 16; i++) {
            due("undo", x.undo(), 3);
        }
        due("no more", x.undo(), -3);
        due("the first stays", x.count(13), 1);
        due("the hard of then", x.of(0, 0, 0), 51);
        x.give(2, 0);
        x.give(9, 0);
        x.monk(100);
        x.put(0, 0, 100);
        x.terms(0, 1000);
        x.row();
        x.seen(0, 0);
        x.forget();
        law(x, "bars");
        x.force(0);
        x.image(0);
        x.years(1, 1);
        due("nothing of these matters", x.count(5), 1);
        due("undone under another law", x.undo(), 0);
        due("the law stays", x.count(12), 0);
        x.force(-1);
        x.pass();
        x.monk(5);
        due("behind monk()", x.undo(), -3);
        x.pass();
        x.put(0, 0, 1);
        due("behind put()", x.undo(), -3);
        x.pass();
        x.terms(1, 0);
        due("behind terms()", x.undo(), -3);
        x.pass();
        text(x, "a");
        x.row();
        due("behind row()", x.undo(), -3);
        x.pass();
        x.back(0);
        due("behind back()", x.undo(), -3);
        undoOfOrders();
    }

    private static void undoOfOrders() {
        HardestVows x = with(50, 60);
        x.give(0, 0);
        x.give(1, 1);
        due("orders", orders(x, "pass;lay 0;swap 0 with 1"), -3);
        due("as ahead", x.count(5), 2);
        due("orders", orders(x, "pass;lay 0"), 2);
        due("each for itself", x.undo() * 10 + x.undo(), 13);
        due("as ahead", x.count(5), 2);
        due("more than are kept", orders(x, "pass times 20;lay 0;lay 0"), -3);
        due("all that was kept stands", x.count(5), 2);
        due("undo", x.undo(), 0);
        due("has", x.has(1), -1);
        due("undo", x.undo(), 0);
        due("has", x.has(0), -1);
        due("16 of 20", orders(x, "pass times 20"), 20);
        due("16 of 20", x.count(5), 16);
        due("undo", x.undo(), 3);
        due("year", x.count(13), 19);
        due("full and refused", orders(x, "pass times 20;lay 0"), -3);
        for (int i = 0; i < 15; i++) {
            due("undo", x.undo(), 3);
        }
        due("year", x.count(13), 4);
        due("none", x.undo(), -3);
    }

    private static void best() {
        promise = 21;
        HardestVows x = with(10, 10, 10);
        due("total", x.best(0), 30);
        due("the first row", x.best(1) * 100 + x.best(2) * 10 + x.best(3), 12);
        due("what 4", x.best(4), -1);
        due("what -1", x.best(-1), -1);
        due("what least", x.best(Integer.MIN_VALUE), -1);
        x.put(0, 0, 99);
        x.put(1, 0, 99);
        x.put(1, 1, 98);
        due("most together", x.best(0), 99 + 98 + 10);
        HardestVows y = under("bars if vow < 6;shows 99 - hard", 10, 10, 20);
        due("one vow for all", y.best(0), 89);
        due("the first of as much", y.best(1), 6);
        due("none", y.best(2), 100);
        due("none", y.best(3), 100);
        HardestVows z = under("bars", 10, 10);
        due("all barred", z.best(0), 0);
        due("none", z.best(1), 100);
        HardestVows zero = under("shows 0;bars if vow = 0", 10, 10);
        due("nothing shown", zero.best(0), 0);
        due("a vow is ahead of none", zero.best(1) * 10 + zero.best(2), 12);
        HardestVows seven = with(1, 2, 3, 4, 5, 6, 7);
        due("seven", seven.best(0), 28);
        due("the last", seven.best(7), 6);
        x.give(4, 0);
        due("on paper alone", x.best(0) * 10 + x.has(0), (99 + 98 + 10) * 10 + 4);
    }

    private static void fair() {
        promise = 22;
        HardestVows x = with(10, 10);
        x.put(0, 0, 90);
        x.put(1, 0, 50);
        x.put(0, 1, 40);
        due("least", x.fair(0), 40);
        due("together", x.fair(1), 90);
        due("vow", x.fair(2) * 10 + x.fair(3), 10);
        due("what 4", x.fair(4), -1);
        due("what -1", x.fair(-1), -1);
        due("best is another one", x.best(0), 100);
        x.put(1, 3, 45);
        due("then together", x.fair(0) * 1000 + x.fair(1), 45 * 1000 + 135);
        HardestVows y = under("bars if vow > 0", 10, 20);
        due("not all can", y.fair(0), -1);
        due("not all can", y.fair(2), -1);
        HardestVows z = under("bars if vow = 0;shows 0", 10, 20);
        due("barred", z.fair(2) * 10 + z.fair(3), 12);
        due("hard, not shown", z.fair(1), 30);
        HardestVows zero = with(0, 0);
        due("0 is a least one", zero.fair(0), 0);
        due("0 together", zero.fair(1), 0);
        due("the first", zero.fair(2) * 10 + zero.fair(3), 1);
    }

    private static void wished() {
        promise = 23;
        HardestVows x = with(10, 10, 20);
        due("asked", x.wished(0), 1 + 2 + 1 + 1 + 1);
        due("who shows more", x.wished(3), 0);
        due("row", x.wished(1) * 10 + x.wished(2), 21);
        due("what 4", x.wished(4), -1);
        due("what -1", x.wished(-1), -1);
        HardestVows y = under("bars if vow < 5;bars if monk = 1 and vow = 5;shows monk", 10, 10, 10);
        due("asked", y.wished(0), 4);
        due("none", y.wished(1), 100);
        due("others", y.wished(2) * 10 + y.wished(3), 6 * 10 + 5);
        HardestVows z = under("bars", 10);
        due("nobody asks", z.wished(0), 0);
        due("none", z.wished(1), 100);
        HardestVows t = with(10, 10);
        due("the one it has, if as much", t.wished(1) * 10 + t.wished(2), 1);
        due("asked", t.wished(0), 3);
    }

    private static void swaps() {
        promise = 24;
        HardestVows x = under("bars if monk = 0 and vow = 2", 10, 10, 10, 10);
        x.put(0, 1, 20);
        x.put(3, 1, 20);
        x.put(0, 2, 90);
        x.put(1, 3, 11);
        for (int m = 0; m < 4; m++) {
            x.give(m, m);
        }
        due("how many", x.swaps(-1), 2);
        due("first", x.swaps(0), 1);
        due("second", x.swaps(1), 13);
        due("third", x.swaps(2), -1);
        due("i -2", x.swaps(-2), -1);
        x.lay(3);
        due("fewer", x.swaps(-1), 1);
        x.put(0, 1, 10);
        due("as much is not more", x.swaps(-1), 0);
        due("none", x.swaps(0), -1);
    }

    private static void hide() {
        promise = 25;
        HardestVows x = with(10, 20);
        x.put(0, 0, 90);
        due("the vow", x.hide(0, 0), 0);
        due("shown as 0", x.hide(0, 1), 0);
        due("hard then", x.hide(0, 2), 10);
        due("what 3", x.hide(0, 3), -1);
        due("what -1", x.hide(0, -1), -1);
        due("nobody", x.hide(2, 0), -1);
        due("nobody", x.hide(-1, 0), -1);
        due("nothing gained", x.hide(1, 0), -1);
        HardestVows y = with(30);
        y.put(0, 4, 5);
        due("shown as 99", y.hide(0, 0) * 100 + y.hide(0, 1), 499);
        due("hard then", y.hide(0, 2), 5);
        HardestVows z = under("bars if vow = 4;shows 50 if vow = 3;shows 0 if vow > 4", 30);
        z.put(0, 3, 40);
        z.put(0, 4, 5);
        due("not what he may not have", z.hide(0, 0) * 100 + z.hide(0, 1), 99);
        HardestVows none = under("bars if vow > 0;shows 5", 30, 20);
        due("none is 0", none.hide(0, 0) * 100 + none.hide(0, 1), 0);
        due("hard of none", none.hide(0, 2), 0);
        due("who has none gains nothing", none.hide(1, 0), -1);
    }

    private static void soft() {
        promise = 26;
        HardestVows x = with(50, 50);
        due("now", x.soft(101), 0);
        due("not now", x.soft(100), -1);
        due("700", x.soft(700), 0);
        due("701", x.soft(701), -1);
        due("-1", x.soft(-1), -1);
        due("0", x.soft(0), -1);
        due("on paper alone", x.count(13) + x.count(1), 0);
        HardestVows y = under("falls 1;rises 0", 20);
        due("by and by", y.soft(20), 7);
        due("by and by", y.soft(19), 14);
        due("by and by", y.soft(7), 14 * 7);
        due("not in 100", y.soft(6), -1);
        HardestVows z = under("falls 1;rises 0;bars if not vow = 0", 99);
        due("year 99", z.soft(1), 99);
        due("year 0", z.soft(100), 0);
        HardestVows late = under("falls 1;falls 0 if year = 0;rises 0;bars if not vow = 0", 99);
        due("year 99", late.soft(2), 99);
        due("year 100, the last", late.soft(1), 100);
        HardestVows later = under("falls 1;falls 0 if year < 2;rises 0;bars if not vow = 0", 99);
        due("year 100, the last", later.soft(2), 100);
        due("behind year 100", later.soft(1), -1);
        softYears();
        HardestVows held = under("falls held * 10;rises 0;bars if vow > 0", 99);
        due("held grows", held.soft(90), 2);
        due("held grows", held.soft(70), 3);
        held.give(0, 0);
        held.terms(0, 999);
        due("behind 999", held.soft(70), 3);
        HardestVows ever = under("falls held * 10;rises 0;bars if vow > 0", 99);
        ever.give(0, 0);
        ever.pass();
        ever.pass();
        ever.pass();
        ever.put(0, 0, 99);
        due("held goes on of the same", ever.soft(99), 1);
        due("held goes on of the same", ever.soft(70), 1);
        due("held goes on of the same", ever.soft(69), 2);
        due("nothing had is soft", under("bars", 50).soft(1), 0);
        HardestVows beyond = under("falls 0;falls 40 if year > 1000 + 1;rises 0;bars if vow > 0", 50);
        beyond.terms(0, 999);
        due("year goes on behind 999", beyond.soft(50), 4);
        HardestVows change = under("falls 30;rises 0;shows 10;shows 20 if vow = 1 and held > 0;shows 15 if vow = has", 50);
        due("as best tells each year", change.soft(21), 1);
    }

    /** Soft in one year alone, wherever it lies, and from whatever year it is counted. */
    private static void softYears() {
        for (int year = 0; year <= 103; year++) {
            int due = year <= 100 ? year : -1;
            HardestVows x = under("bars if year = " + year, 1);
            due("soft in year " + year, x.soft(1), due);
            HardestVows late = under("bars if year - 950 = " + year, 1, 99);
            late.terms(0, 950);
            due("soft in year 950 + " + year, late.soft(1), due);
            due("the year stays", late.count(13), 950);
        }
    }

    private static void kept() {
        promise = 27;
        HardestVows x = with(50, 50);
        due("he has none", x.kept(0, 0), -1);
        x.give(2, 0);
        due("0 years", x.kept(0, 0), 1000000000000L);
        due("1 year", x.kept(0, 1), 900000000000L);
        due("12 years", x.kept(0, 12), 282429536481L);
        due("each part is cut", x.kept(0, 13), 254186582832L);
        due("60 years", x.kept(0, 60), cut(60));
        due("61 years", x.kept(0, 61), -1);
        due("-1 years", x.kept(0, -1), -1);
        due("nobody", x.kept(2, 1), -1);
        due("nobody", x.kept(-1, 1), -1);
        due("the other one has none", x.kept(1, 1), -1);
        HardestVows y = under("falls 30;breaks hard / 10;breaks 10 if held = 2;breaks 9 if year = 1000", 50);
        y.give(0, 0);
        due("hard falls", y.kept(0, 2), 400000000000L);
        due("held grows", y.kept(0, 3), 0);
        due("on paper alone", y.of(0, 0, 0), 50);
        y.terms(0, 999);
        due("year goes on", y.kept(0, 2), 50000000000L);
        HardestVows low = under("falls 40;breaks 1 + hard", 50);
        low.put(0, 0, 5);
        low.give(0, 0);
        due("0 at least", low.kept(0, 2), 360000000000L);
    }

    private static long cut(int n) {
        long p = 1000000000000L;
        for (int i = 0; i < n; i++) {
            p = p * 9 / 10;
        }
        return p;
    }

    private static void seenAndWho() {
        promise = 28;
        HardestVows x = under("shows hard / 10", 10, 15, 20);
        due("vow 7", x.seen(7, 1), -1);
        due("vow -1", x.seen(-1, 1), -1);
        due("shown 100", x.seen(0, 100), -1);
        due("shown -1", x.seen(0, -1), -1);
        promise = 30;
        due("all", x.who(), 7);
        promise = 28;
        due("one", x.seen(3, 1), 1);
        promise = 30;
        due("two of them", x.who(), 3);
        x.put(1, 6, 99);
        promise = 28;
        due("two", x.seen(6, 9), 2);
        promise = 30;
        due("one of them", x.who(), 2);
        x.seen(6, 8);
        due("nobody", x.who(), 0);
        promise = 31;
        due("nobody", x.look(0), -1);
        due("nobody", x.look(1), -1);
        promise = 28;
        for (int i = 4; i <= 8; i++) {
            due("more", x.seen(0, 0), i);
        }
        due("no room", x.seen(0, 0), -5);
        due("first of these", x.seen(0, 100), -1);
        due("count", x.count(3), 8);
        promise = 29;
        due("forget", x.forget(), 8);
        due("forget", x.forget(), 0);
        due("status of seen()", x.status(), -1);
        promise = 28;
        due("anew", x.seen(0, 2), 1);
        promise = 30;
        due("anew", x.who(), 4);
    }

    private static void look() {
        promise = 31;
        HardestVows x = with(10, 10, 10, 10);
        due("the lowest", x.look(0), 0);
        due("all alike", x.look(1), 4);
        x.put(0, 5, 1);
        due("vow", x.look(0), 5);
        due("left", x.look(1), 3);
        x.put(2, 3, 1);
        x.put(3, 3, 1);
        due("vow", x.look(0), 3);
        due("left", x.look(1), 2);
        x.put(1, 6, 2);
        x.put(2, 6, 3);
        x.put(3, 6, 4);
        due("vow", x.look(0), 6);
        due("left", x.look(1), 1);
        x.seen(3, 10);
        due("of these", x.look(0), 5);
        due("of these", x.look(1), 1);
        due("what 2", x.look(2), -1);
        due("what -1", x.look(-1), -1);
        law(x, "shows 7");
        x.force(0);
        x.forget();
        due("as shown", x.look(1), 4);
    }

    private static void compare() {
        promise = 32;
        HardestVows x = with(10, 20);
        law(x, "shows hard + 1");
        law(x, "bars if monk = 1;shows hard * 3");
        due("none", x.compare(-1), 30);
        due("law 0", x.compare(0), 32);
        due("law 1", x.compare(1), 30);
        due("no such", x.compare(2), -1);
        due("no such", x.compare(-2), -1);
        x.force(1);
        due("none in place of it", x.compare(-1), 30);
        due("law 0 in place of it", x.compare(0), 32);
        due("in force still", x.count(12), 1);
        due("best", x.best(0), 30);
    }

    private static void years() {
        promise = 33;
        HardestVows x = new HardestVows();
        due("first of these", x.years(-1, 1), -1);
        due("nobody", x.years(0, 1), -3);
        x.monk(50);
        x.monk(60);
        due("seed", x.years(1000001, 1), -1);
        due("seed", x.years(-1, 1), -1);
        due("n 0", x.years(0, 0), -1);
        due("n 101", x.years(0, 101), -1);
        promise = 34;
        due("none yet", x.drawn(0, 0), -1);
        due("none yet", x.drawn(0, 7), -1);
        promise = 33;
        due("one", x.years(1000000, 1), 1);
        promise = 34;
        // s: 1,000,000 becomes 9,036: monk 0; then 979,026: vow 6
        due("has", x.drawn(0, 7), 6);
        due("the other one", x.drawn(1, 7), -1);
        due("rises", x.drawn(1, 0), 61);
        due("nobody", x.drawn(2, 0), -1);
        due("nobody", x.drawn(-1, 7), -1);
        due("vow 8", x.drawn(0, 8), -1);
        due("vow -1", x.drawn(0, -1), -1);
        x.monk(70);
        due("who came later", x.drawn(2, 0), -1);
        due("on paper alone", x.has(0) + x.count(13), -1);
        due("a refused one changes nothing", x.years(0, 0) + x.drawn(1, 0), 60);
        promise = 33;
        x.terms(0, 998);
        due("it ends at 999", x.years(7, 50) <= 1 ? 1 : 0, 1);
        due("one year only", x.drawn(0, 0) - 50 <= 1 ? 1 : 0, 1);
        x.terms(0, 999);
        due("no year at all", x.years(7, 50), 0);
        promise = 34;
        due("nothing passed", x.drawn(0, 0), 50);
        HardestVows y = under("bars", 5);
        promise = 33;
        due("nothing can be given", y.years(3, 100), 0);
        promise = 34;
        due("has none", y.drawn(0, 7), -1);
        due("rises to 99", y.drawn(0, 3), 99);
    }

    private static void images() {
        promise = 35;
        HardestVows x = with(50, 60);
        due("k 2", x.image(2), -1);
        due("k -1", x.image(-1), -1);
        promise = 36;
        due("not kept", x.back(0), -2);
        due("k 2", x.back(2), -1);
        due("k -1", x.back(-1), -1);
        law(x, "shows 1");
        x.force(0);
        x.give(0, 0);
        x.seen(1, 1);
        x.terms(1, 4);
        x.pass();
        promise = 35;
        due("kept", x.image(1), 0);
        promise = 36;
        due("another one not", x.back(0), -2);
        law(x, "shows 2");
        x.force(1);
        x.monk(7);
        x.put(0, 0, 3);
        x.lay(0);
        x.forget();
        x.seen(2, 2);
        x.seen(3, 3);
        x.terms(0, 77);
        x.terms(1, 8);
        x.years(5, 3);
        int drawn = x.drawn(2, 0);
        text(x, "abc");
        x.row();
        law(x, "what");
        orders(x, "pass;lay 2");
        text(x, "abcd");
        x.pass();
        x.monk(100);
        int refused = x.count(7) + x.count(8) + x.count(9) + x.count(11);
        due("back", x.back(1), 0);
        due("status", x.status(), 0);
        due("monks", x.count(0), 2);
        due("laws", x.count(4), 1);
        due("force", x.count(12), 0);
        due("hard", x.of(0, 0, 0), 45);
        due("has", x.has(0), 0);
        due("held", x.of(0, 0, 1), 1);
        due("seen", x.count(3) * 100 + x.who(), 103);
        due("year", x.count(13), 1);
        due("mood", x.count(14), 4);
        due("undo", x.count(5), 0);
        due("the tape stays", x.count(6), 4);
        due("crumbs stay", x.crumbs(), 1);
        due("stopped stays", x.stopped(), 1);
        due("the years by draws stay", x.drawn(2, 0), drawn);
        due("refusals stay", x.count(7) + x.count(8) + x.count(9) + x.count(11), refused);
        law(x, "bars");
        x.force(1);
        due("a new law in the place of a lost one", x.of(1, 1, 4), 1);
        due("images stay", x.back(1) + x.count(4), 1);
        due("not in force", x.of(1, 1, 2), 1);
        HardestVows two = with(5);
        two.put(0, 1, 6);
        two.image(0);
        law(two, "shows 1");
        two.force(0);
        two.seen(1, 1);
        two.image(1);
        two.back(0);
        law(two, "shows 2");
        two.force(0);
        two.seen(2, 2);
        due("another law by the same number", two.of(0, 0, 2) * 10 + two.who(), 21);
        two.back(1);
        due("each image has its own law", two.of(0, 0, 2) * 10 + two.who(), 11);
        two.force(-1);
        two.put(0, 1, 1);
        due("each image has its own seen", two.who(), 1);
        HardestVows y = with(1);
        y.image(0);
        y.monk(2);
        y.image(1);
        y.monk(3);
        y.image(0);
        y.back(1);
        due("the second image", y.count(0), 2);
        y.back(0);
        due("kept anew", y.count(0), 3);
        law(y, "x");
        y.back(1);
        due("fault stays", y.fault(), 0);
    }

    private static void counts() {
        promise = 37;
        HardestVows x = with(10, 20);
        x.give(0, 1);
        x.give(1, 0);
        due("monks", x.count(0), 2);
        due("have a vow", x.count(1), 2);
        due("hard", x.count(2), 30);
        due("undo", x.count(5), 2);
        due("15", x.count(15), -1);
        due("-1", x.count(-1), -1);
        x.give(9, 0);
        x.give(1, 9);
        x.give(0, 1);
        x.row();
        for (int i = 0; i < 6; i++) {
            law(x, "bars");
        }
        x.law();
        for (int what = 7; what <= 11; what++) {
            due("refused " + what, x.count(what), 1);
        }
        promise = 38;
        due("status", x.status(), -5);
        x.of(9, 9, 9);
        x.has(9);
        x.feed(1, 2, 3, 4, 5);
        x.end(500);
        x.best(99);
        x.forget();
        x.compare(9);
        due("status of none of these", x.status(), -5);
        due("pass", x.pass() - 1 + x.status(), 0);
        due("lay", x.lay(7) - x.status(), 0);
        due("force", x.force(-1) + 1 + x.status(), 0);
        due("undo", x.undo() - 3 + x.status(), 0);
        due("image", x.image(5) - x.status(), 0);
        due("seen", x.seen(0, 0) - 1 + x.status(), 0);
        due("back", x.back(0) - x.status(), 0);
        due("years", x.years(0, 1) * 0 + x.status(), 0);
        due("terms", x.terms(5, 5) - x.status(), 0);
        due("put", x.put(0, 0, 5) * 0 + x.status(), 0);
        due("swap", x.swap(0, 0) - x.status(), 0);
        x.end(0);
        due("orders", x.orders() - x.status(), 0);
        due("monk", x.monk(1) * 0 + x.status(), 0);
        due("row", x.row() - x.status(), 0);
    }

    public static void main(String[] args) {
        theFace();
        newObject();
        monks();
        put();
        of();
        broken();
        wordsOfLaws();
        has();
        terms();
        feedAndEnd();
        rows();
        laws();
        orders();
        fault();
        force();
        give();
        lay();
        swap();
        pass();
        undo();
        best();
        fair();
        wished();
        swaps();
        hide();
        soft();
        kept();
        seenAndWho();
        look();
        compare();
        years();
        images();
        counts();
        System.out.println(asked + " answers asked, " + wrong + " not as due");
        if (wrong != 0) {
            System.exit(1);
        }
    }
}
