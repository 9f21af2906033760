import java.math.BigInteger;
import java.util.ArrayDeque;
import java.util.ArrayList;
import java.util.Arrays;
import java.util.Deque;
import java.util.List;
import java.util.Random;
import java.util.TreeMap;
import java.util.regex.Matcher;
import java.util.regex.Pattern;

/** Long runs of calls by chance, each answer compared with that of a slow and plain model of the document. */
public final class PlainModelTest {
    private static int wrong = 0;
    private static long compared = 0;

    // ---- texts

    static final class Fault extends RuntimeException {
        final int place;

        Fault(int place) {
            super(null, null, false, false);
            this.place = place;
        }
    }

    static final class Broken extends RuntimeException {
        Broken() {
            super(null, null, false, false);
        }
    }

    /** What a word of a text is worth. */
    interface Meaning {
        long of(String word, int m);
    }

    interface Sum {
        BigInteger in(Meaning words);
    }

    interface Test {
        boolean in(Meaning words);
    }

    static final class Clause {
        String kind;
        int times = 1;
        Sum first;
        Sum second;
        Test test;
    }

    static final class Text {
        static final Pattern TOKEN = Pattern.compile("[a-z]+|[0-9]+|[^ ]", Pattern.DOTALL);
        static final BigInteger MOST = BigInteger.valueOf(1_000_000_000);
        final List<String> tokens = new ArrayList<>();
        final List<Integer> places = new ArrayList<>();
        final List<Clause> clauses = new ArrayList<>();
        final boolean law;
        int at = 0;
        int parts = 0;
        int depth = 0;

        Text(String text, boolean law) {
            this.law = law;
            Matcher m = TOKEN.matcher(text);
            while (m.find()) {
                tokens.add(m.group());
                places.add(m.start());
            }
            tokens.add("");
            places.add(text.length());
            read();
        }

        String token() {
            return tokens.get(at);
        }

        Fault fault() {
            return new Fault(places.get(at));
        }

        boolean is(String... any) {
            return !token().isEmpty() && Arrays.asList(any).contains(token());
        }

        String take(String... any) {
            if (!is(any)) {
                throw fault();
            }
            return tokens.get(at++);
        }

        boolean may(String one) {
            if (is(one)) {
                at++;
                return true;
            }
            return false;
        }

        void read() {
            do {
                if (clauses.size() == 12) {
                    throw fault();
                }
                clauses.add(law ? rule() : order());
            } while (may(";"));
            if (!token().isEmpty()) {
                throw fault();
            }
        }

        Clause rule() {
            Clause c = new Clause();
            c.kind = take("falls", "rises", "shows", "breaks", "bars");
            if (!c.kind.equals("bars")) {
                c.first = sum();
            }
            if (may("if")) {
                c.test = test();
            }
            return c;
        }

        Clause order() {
            Clause c = new Clause();
            c.kind = take("give", "lay", "swap", "pass");
            if (!c.kind.equals("pass")) {
                c.first = sum();
            }
            if (c.kind.equals("give")) {
                take("to");
                c.second = sum();
            }
            if (c.kind.equals("swap")) {
                take("with");
                c.second = sum();
            }
            if (may("times")) {
                c.times = number(1, 20);
            }
            if (may("if")) {
                c.test = test();
            }
            return c;
        }

        int number(int least, int most) {
            if (!token().matches("[0-9]+")) {
                throw fault();
            }
            BigInteger n = new BigInteger(token());
            if (n.compareTo(BigInteger.valueOf(least)) < 0 || n.compareTo(BigInteger.valueOf(most)) > 0) {
                throw fault();
            }
            at++;
            return n.intValue();
        }

        Test test() {
            List<Test> any = new ArrayList<>();
            any.add(both());
            while (may("or")) {
                any.add(both());
            }
            return words -> {
                for (Test t : any) {
                    if (t.in(words)) {
                        return true;
                    }
                }
                return false;
            };
        }

        Test both() {
            List<Test> all = new ArrayList<>();
            all.add(plain());
            while (may("and")) {
                all.add(plain());
            }
            return words -> {
                for (Test t : all) {
                    if (!t.in(words)) {
                        return false;
                    }
                }
                return true;
            };
        }

        Test plain() {
            if (may("not")) {
                Test t = plain();
                return words -> !t.in(words);
            }
            if (is("(")) {
                open();
                Test t = test();
                take(")");
                depth--;
                return t;
            }
            Sum left = sum();
            String sign = take("<", ">", "=");
            Sum right = sum();
            return words -> {
                int c = left.in(words).compareTo(right.in(words));
                return sign.equals("<") ? c < 0 : sign.equals(">") ? c > 0 : c == 0;
            };
        }

        void open() {
            if (depth == 8) {
                throw fault();
            }
            depth++;
            at++;
        }

        Sum sum() {
            Sum all = term();
            while (is("+", "-")) {
                all = joined(take("+", "-"), all, term());
            }
            return all;
        }

        Sum term() {
            Sum all = part();
            while (is("*", "/", "%")) {
                all = joined(take("*", "/", "%"), all, part());
            }
            return all;
        }

        static Sum joined(String sign, Sum left, Sum right) {
            return words -> {
                BigInteger a = left.in(words);
                BigInteger b = right.in(words);
                BigInteger c;
                if ("/%".contains(sign) && b.signum() == 0) {
                    throw new Broken();
                }
                switch (sign) {
                    case "+": c = a.add(b); break;
                    case "-": c = a.subtract(b); break;
                    case "*": c = a.multiply(b); break;
                    case "/": c = a.divide(b); break;
                    default: c = a.remainder(b); break;
                }
                if (c.abs().compareTo(MOST) > 0) {
                    throw new Broken();
                }
                return c;
            };
        }

        Sum part() {
            if (is("[")) {
                open();
                Sum s = sum();
                take("]");
                depth--;
                return s;
            }
            if (++parts > 50) {
                throw fault();
            }
            if (token().matches("[0-9]+")) {
                BigInteger n = BigInteger.valueOf(number(0, 1000));
                return words -> n;
            }
            String word = law ? take("monk", "vow", "hard", "held", "has", "year", "mood")
                : take("year", "done", "latest", "given", "sum", "has", "held");
            int m = !law && (word.equals("has") || word.equals("held")) ? number(0, 6) : 0;
            return words -> BigInteger.valueOf(words.of(word, m));
        }
    }

    // ---- the model

    static final class Monk {
        int[] hard = new int[7];
        int has = -1;
        int held = 0;

        Monk copy() {
            Monk m = new Monk();
            m.hard = hard.clone();
            m.has = has;
            m.held = held;
            return m;
        }
    }

    static final class World {
        List<Monk> monks = new ArrayList<>();
        int year = 0;
        int mood = 0;
        List<Text> laws = new ArrayList<>();
        int force = -1;
        List<int[]> seen = new ArrayList<>();

        World copy() {
            World w = new World();
            for (Monk m : monks) {
                w.monks.add(m.copy());
            }
            w.year = year;
            w.mood = mood;
            w.laws.addAll(laws);
            w.force = force;
            w.seen.addAll(seen);
            return w;
        }

        boolean monk(int m) {
            return m >= 0 && m < monks.size();
        }

        Integer told(int force, String kind, int m, int v) {
            if (force < 0) {
                return null;
            }
            Meaning words = (word, n) -> {
                Monk k = monks.get(m);
                switch (word) {
                    case "monk": return m;
                    case "vow": return v;
                    case "hard": return k.hard[v];
                    case "held": return k.has == v ? k.held : 0;
                    case "has": return k.has;
                    case "year": return year;
                    default: return mood;
                }
            };
            Integer told = null;
            for (Clause c : laws.get(force).clauses) {
                if (!c.kind.equals(kind)) {
                    continue;
                }
                try {
                    if (c.test == null || c.test.in(words)) {
                        told = c.first == null ? Integer.valueOf(1) : Integer.valueOf(c.first.in(words).intValueExact());
                    }
                } catch (Broken b) {
                    continue;
                }
            }
            return told;
        }

        int within(Integer told, int without, int most) {
            return told == null ? without : told < 0 ? 0 : told > most ? most : told;
        }

        int shows(int m, int v) {
            return shows(force, m, v);
        }

        int shows(int force, int m, int v) {
            return within(told(force, "shows", m, v), monks.get(m).hard[v], 99);
        }

        int breaks(int m, int v) {
            return within(told(force, "breaks", m, v), 1, 10);
        }

        int falls(int m, int v) {
            return within(told(force, "falls", m, v), 5, 99);
        }

        int rises(int m, int v) {
            return within(told(force, "rises", m, v), 1, 99);
        }

        boolean barred(int m, int v) {
            return barred(force, m, v);
        }

        boolean barred(int force, int m, int v) {
            return told(force, "bars", m, v) != null;
        }

        boolean had(int v) {
            return monks.stream().anyMatch(k -> k.has == v);
        }

        int give(int v, int m) {
            if (v < 0 || v > 6) {
                return -1;
            }
            if (!monk(m)) {
                return -2;
            }
            if (had(v) || barred(m, v)) {
                return -3;
            }
            monks.get(m).has = v;
            monks.get(m).held = 0;
            return monks.get(m).hard[v];
        }

        int lay(int m) {
            if (!monk(m)) {
                return -2;
            }
            int v = monks.get(m).has;
            if (v < 0) {
                return -3;
            }
            monks.get(m).has = -1;
            monks.get(m).held = 0;
            return v;
        }

        int swap(int a, int b) {
            if (a == b) {
                return -1;
            }
            if (!monk(a) || !monk(b)) {
                return -2;
            }
            Monk one = monks.get(a);
            Monk other = monks.get(b);
            if (one.has < 0 || other.has < 0 || barred(a, other.has) || barred(b, one.has)) {
                return -3;
            }
            int v = one.has;
            one.has = other.has;
            other.has = v;
            one.held = 0;
            other.held = 0;
            return one.hard[one.has] + other.hard[other.has];
        }

        int pass() {
            if (year == 999) {
                return -3;
            }
            age();
            return year;
        }

        void age() {
            World ahead = copy();
            for (int m = 0; m < monks.size(); m++) {
                Monk k = monks.get(m);
                for (int v = 0; v < 7; v++) {
                    if (k.has == v) {
                        k.hard[v] = Math.max(0, k.hard[v] - ahead.falls(m, v));
                    } else {
                        k.hard[v] = Math.min(99, k.hard[v] + ahead.rises(m, v));
                    }
                }
                if (k.has >= 0) {
                    k.held = Math.min(99, k.held + 1);
                }
            }
            year++;
        }

        int given() {
            return (int) monks.stream().filter(k -> k.has >= 0).count();
        }

        int sum() {
            return monks.stream().filter(k -> k.has >= 0).mapToInt(k -> k.hard[k.has]).sum();
        }
    }

    /** All rows of vows by monks in their order, the best of them kept. */
    static final class Rows {
        final int[][] worth;
        final boolean fair;
        final int[] row;
        int[] best = null;
        int bestLeast = -1;
        int bestSum = -1;

        /** Worth -1: barred. */
        Rows(int[][] worth, boolean fair) {
            this.worth = worth;
            this.fair = fair;
            this.row = new int[worth.length];
            go(0, 0, 99, 0);
        }

        void go(int m, int taken, int least, int sum) {
            if (m == worth.length) {
                boolean better = best == null || (fair && least != bestLeast ? least > bestLeast : sum > bestSum);
                if (better) {
                    best = row.clone();
                    bestLeast = least;
                    bestSum = sum;
                }
                return;
            }
            for (int v = 0; v < 7; v++) {
                if (worth[m][v] >= 0 && (taken & 1 << v) == 0) {
                    row[m] = v;
                    go(m + 1, taken | 1 << v, Math.min(least, worth[m][v]), sum + worth[m][v]);
                }
            }
            if (!fair) {
                row[m] = 100;
                go(m + 1, taken, least, sum);
            }
        }
    }

    static final class Model {
        World w = new World();
        Deque<Object[]> undo = new ArrayDeque<>();
        World[] images = new World[2];
        World drawn = null;
        String tape = "";
        int crumbs = 0;
        int fault = -1;
        int stopped = -1;
        int status = 0;
        TreeMap<Integer, Integer> refused = new TreeMap<>();

        int no(int why) {
            status = why;
            refused.merge(why, 1, Integer::sum);
            return why;
        }

        int yes(int told) {
            status = 0;
            return told;
        }

        int either(int told) {
            return told < 0 ? no(told) : yes(told);
        }

        void keep(int kind, World ahead) {
            undo.addLast(new Object[] {kind, ahead});
            if (undo.size() > 16) {
                undo.removeFirst();
            }
        }

        int deed(int kind, int a, int b) {
            World ahead = w.copy();
            int told = kind == 0 ? w.give(a, b) : kind == 1 ? w.lay(a) : kind == 2 ? w.swap(a, b) : w.pass();
            if (told >= 0) {
                keep(kind, ahead);
            }
            return told;
        }

        int[][] shown(World w, int force) {
            int[][] worth = new int[w.monks.size()][7];
            for (int m = 0; m < worth.length; m++) {
                for (int v = 0; v < 7; v++) {
                    worth[m][v] = w.barred(force, m, v) ? -1 : w.shows(force, m, v);
                }
            }
            return worth;
        }

        long call(String name, int[] a) {
            switch (name) {
                case "monk":
                    if (a[0] < 0 || a[0] > 99) {
                        return no(-1);
                    }
                    if (w.monks.size() == 7) {
                        return no(-5);
                    }
                    Monk k = new Monk();
                    Arrays.fill(k.hard, a[0]);
                    w.monks.add(k);
                    undo.clear();
                    return yes(w.monks.size() - 1);
                case "put":
                    if (a[1] < 0 || a[1] > 6 || a[2] < 0 || a[2] > 99) {
                        return no(-1);
                    }
                    if (!w.monk(a[0])) {
                        return no(-2);
                    }
                    int was = w.monks.get(a[0]).hard[a[1]];
                    w.monks.get(a[0]).hard[a[1]] = a[2];
                    undo.clear();
                    return yes(was);
                case "of": return of(a[0], a[1], a[2]);
                case "has": return w.monk(a[0]) ? w.monks.get(a[0]).has : -1;
                case "terms":
                    if (a[0] < 0 || a[0] > 1 || a[1] < 0 || a[1] > (a[0] == 0 ? 999 : 9)) {
                        return no(-1);
                    }
                    int old = a[0] == 0 ? w.year : w.mood;
                    if (a[0] == 0) {
                        w.year = a[1];
                    } else {
                        w.mood = a[1];
                    }
                    undo.clear();
                    return yes(old);
                case "feed":
                    if (tape.length() > 380) {
                        return -1;
                    }
                    for (int n : a) {
                        tape += "" + (char) (n >>> 24) + (char) (n >> 16 & 255) + (char) (n >> 8 & 255) + (char) (n & 255);
                    }
                    return tape.length();
                case "end":
                    if (a[0] < 0 || a[0] > tape.length()) {
                        return -1;
                    }
                    tape = tape.substring(0, a[0]);
                    return a[0];
                case "row": return row();
                case "crumbs": return crumbs;
                case "law": return law();
                case "orders": return orders();
                case "fault": return fault;
                case "stopped": return stopped;
                case "force":
                    if (a[0] < -1 || a[0] >= w.laws.size()) {
                        return no(-2);
                    }
                    int before = w.force;
                    w.force = a[0];
                    return yes(before);
                case "give": return either(deed(0, a[0], a[1]));
                case "lay": return either(deed(1, a[0], 0));
                case "swap": return either(deed(2, a[0], a[1]));
                case "pass": return either(deed(3, 0, 0));
                case "undo": return undo();
                default: return paper(name, a);
            }
        }

        int undo() {
            if (undo.isEmpty()) {
                return no(-3);
            }
            Object[] latest = undo.removeLast();
            World then = ((World) latest[1]).copy();
            w.monks = then.monks;
            w.year = then.year;
            return yes((Integer) latest[0]);
        }

        long paper(String name, int[] a) {
            switch (name) {
                case "best": return best(w, w.force, a[0]);
                case "fair": return fair(a[0]);
                case "wished": return wished(a[0]);
                case "swaps": return swaps(a[0]);
                case "hide": return hide(a[0], a[1]);
                case "soft": return soft(a[0]);
                case "kept": return kept(a[0], a[1]);
                case "seen":
                    if (a[0] < 0 || a[0] > 6 || a[1] < 0 || a[1] > 99) {
                        return no(-1);
                    }
                    if (w.seen.size() == 8) {
                        return no(-5);
                    }
                    w.seen.add(new int[] {a[0], a[1]});
                    return yes(w.seen.size());
                case "forget":
                    int was = w.seen.size();
                    w.seen.clear();
                    return was;
                case "who": return who();
                case "look": return look(a[0]);
                case "compare": return a[0] < -1 || a[0] >= w.laws.size() ? -1 : best(w, a[0], 0);
                case "years": return years(a[0], a[1]);
                case "drawn":
                    if (drawn == null || !drawn.monk(a[0]) || a[1] < 0 || a[1] > 7) {
                        return -1;
                    }
                    return a[1] == 7 ? drawn.monks.get(a[0]).has : drawn.monks.get(a[0]).hard[a[1]];
                case "image":
                    if (a[0] != 0 && a[0] != 1) {
                        return no(-1);
                    }
                    images[a[0]] = w.copy();
                    return yes(0);
                case "back":
                    if (a[0] != 0 && a[0] != 1) {
                        return no(-1);
                    }
                    if (images[a[0]] == null) {
                        return no(-2);
                    }
                    w = images[a[0]].copy();
                    undo.clear();
                    return yes(0);
                case "count": return count(a[0]);
                case "status": return status;
                default: throw new IllegalStateException(name);
            }
        }

        int of(int m, int v, int what) {
            if (!w.monk(m) || v < 0 || v > 6) {
                return -1;
            }
            Monk k = w.monks.get(m);
            switch (what) {
                case 0: return k.hard[v];
                case 1: return k.has == v ? k.held : 0;
                case 2: return w.shows(m, v);
                case 3: return w.breaks(m, v);
                case 4: return w.barred(m, v) ? 1 : 0;
                case 5: return w.falls(m, v);
                case 6: return w.rises(m, v);
                default: return -1;
            }
        }

        int row() {
            if (tape.isEmpty()) {
                return no(-6);
            }
            crumbs = 0;
            int came = 0;
            while (!tape.isEmpty()) {
                String r = tape.substring(0, Math.min(7, tape.length()));
                tape = tape.substring(r.length());
                if (r.length() < 7 || r.chars().anyMatch(c -> c > 99) || w.monks.size() == 7) {
                    crumbs++;
                } else {
                    Monk k = new Monk();
                    k.hard = r.chars().toArray();
                    w.monks.add(k);
                    came++;
                }
            }
            undo.clear();
            return yes(came);
        }

        int law() {
            String text = tape;
            tape = "";
            if (w.laws.size() == 6) {
                return no(-5);
            }
            try {
                w.laws.add(new Text(text, true));
            } catch (Fault f) {
                fault = f.place;
                return no(-6);
            }
            fault = -1;
            return yes(w.laws.size() - 1);
        }

        int orders() {
            String tapeText = tape;
            tape = "";
            stopped = -1;
            Text text;
            try {
                text = new Text(tapeText, false);
            } catch (Fault f) {
                fault = f.place;
                return no(-6);
            }
            fault = -1;
            World ahead = w.copy();
            Deque<Object[]> undoAhead = new ArrayDeque<>(undo);
            int done = 0;
            int latest = -1;
            for (int c = 0; c < text.clauses.size(); c++) {
                Clause clause = text.clauses.get(c);
                for (int t = 0; t < clause.times; t++) {
                    int doneNow = done;
                    int latestNow = latest;
                    Meaning words = (word, m) -> meaning(word, m, doneNow, latestNow);
                    try {
                        if (clause.test != null && !clause.test.in(words)) {
                            continue;
                        }
                    } catch (Broken b) {
                        continue;
                    }
                    int told;
                    try {
                        int a = clause.first == null ? 0 : clause.first.in(words).intValueExact();
                        int b = clause.second == null ? 0 : clause.second.in(words).intValueExact();
                        told = deed(Arrays.asList("give", "lay", "swap", "pass").indexOf(clause.kind), a, b);
                    } catch (Broken b) {
                        told = -3;
                    }
                    if (told < 0) {
                        w = ahead;
                        undo = undoAhead;
                        stopped = c;
                        return no(-3);
                    }
                    if (clause.kind.equals("give")) {
                        latest = told;
                    }
                    done++;
                }
            }
            return yes(done);
        }

        long meaning(String word, int m, int done, int latest) {
            switch (word) {
                case "year": return w.year;
                case "done": return done;
                case "latest": return latest;
                case "given": return w.given();
                case "sum": return w.sum();
                case "has": return w.monk(m) ? w.monks.get(m).has : -1;
                default: return w.monk(m) && w.monks.get(m).has >= 0 ? w.monks.get(m).held : -1;
            }
        }

        int best(World w, int force, int what) {
            Rows r = new Rows(shown(w, force), false);
            return what == 0 ? r.bestSum : w.monk(what - 1) ? r.best[what - 1] : -1;
        }

        int fair(int what) {
            int[][] worth = new int[w.monks.size()][7];
            for (int m = 0; m < worth.length; m++) {
                for (int v = 0; v < 7; v++) {
                    worth[m][v] = w.barred(m, v) ? -1 : w.monks.get(m).hard[v];
                }
            }
            Rows r = new Rows(worth, true);
            if (worth.length == 0 || r.best == null) {
                return -1;
            }
            return what == 0 ? r.bestLeast : what == 1 ? r.bestSum : w.monk(what - 2) ? r.best[what - 2] : -1;
        }

        int wished(int what) {
            int n = w.monks.size();
            int[] keptBy = new int[n];
            Arrays.fill(keptBy, 100);
            boolean[][] asked = new boolean[n][7];
            int asks = 0;
            boolean more = true;
            while (more) {
                more = false;
                for (int m = 0; m < n && !more; m++) {
                    if (keptBy[m] != 100) {
                        continue;
                    }
                    int wish = -1;
                    for (int v = 6; v >= 0; v--) {
                        if (!asked[m][v] && !w.barred(m, v)
                            && (wish < 0 || w.monks.get(m).hard[v] <= w.monks.get(m).hard[wish])) {
                            wish = v;
                        }
                    }
                    if (wish < 0) {
                        continue;
                    }
                    more = true;
                    asks++;
                    asked[m][wish] = true;
                    int holder = -1;
                    for (int o = 0; o < n; o++) {
                        if (keptBy[o] == wish) {
                            holder = o;
                        }
                    }
                    if (holder < 0) {
                        keptBy[m] = wish;
                    } else if (w.shows(m, wish) > w.shows(holder, wish)) {
                        keptBy[holder] = 100;
                        keptBy[m] = wish;
                    }
                }
            }
            return what == 0 ? asks : w.monk(what - 1) ? keptBy[what - 1] : -1;
        }

        int swaps(int i) {
            List<Integer> all = new ArrayList<>();
            for (int code = 0; code < 70; code++) {
                int a = code / 10;
                int b = code % 10;
                if (a >= b) {
                    continue;
                }
                World then = w.copy();
                if (then.swap(a, b) >= 0 && then.sum() > w.sum()) {
                    all.add(code);
                }
            }
            return i == -1 ? all.size() : i >= 0 && i < all.size() ? all.get(i) : -1;
        }

        int hide(int m, int what) {
            if (!w.monk(m) || what < 0 || what > 2) {
                return -1;
            }
            int least = hardBy(shown(w, w.force), m);
            int[] found = null;
            for (int v = 0; v < 7; v++) {
                for (int lie = 0; lie < 100; lie += 99) {
                    int[][] worth = shown(w, w.force);
                    if (worth[m][v] >= 0) {
                        worth[m][v] = lie;
                    }
                    int hard = hardBy(worth, m);
                    if (hard < least) {
                        least = hard;
                        found = new int[] {v, lie, hard};
                    }
                }
            }
            return found == null ? -1 : found[what];
        }

        int hardBy(int[][] worth, int m) {
            int v = new Rows(worth, false).best[m];
            return v == 100 ? 0 : w.monks.get(m).hard[v];
        }

        int soft(int below) {
            if (below < 0 || below > 700) {
                return -1;
            }
            World p = w.copy();
            for (int t = 0; t <= 100; t++) {
                int[] row = new Rows(shown(p, p.force), false).best;
                int sum = 0;
                for (int m = 0; m < row.length; m++) {
                    Monk k = p.monks.get(m);
                    int v = row[m] == 100 ? -1 : row[m];
                    k.held = v >= 0 && k.has == v ? k.held : 0;
                    k.has = v;
                    sum += v < 0 ? 0 : k.hard[v];
                }
                if (sum < below) {
                    return t;
                }
                p.age();
            }
            return -1;
        }

        long kept(int m, int n) {
            if (n < 0 || n > 60 || !w.monk(m) || w.monks.get(m).has < 0) {
                return -1;
            }
            World p = w.copy();
            BigInteger chance = BigInteger.TEN.pow(12);
            for (int i = 0; i < n; i++) {
                chance = chance.multiply(BigInteger.valueOf(10 - p.breaks(m, p.monks.get(m).has))).divide(BigInteger.TEN);
                p.age();
            }
            return chance.longValueExact();
        }

        int who() {
            int bits = 0;
            for (int m = 0; m < w.monks.size(); m++) {
                int monk = m;
                if (w.seen.stream().allMatch(s -> w.shows(monk, s[0]) == s[1])) {
                    bits += 1 << m;
                }
            }
            return bits;
        }

        int look(int what) {
            int bits = who();
            if (bits == 0 || what < 0 || what > 1) {
                return -1;
            }
            int fewest = 99;
            int vow = -1;
            for (int v = 0; v < 7; v++) {
                TreeMap<Integer, Integer> groups = new TreeMap<>();
                for (int m = 0; m < w.monks.size(); m++) {
                    if ((bits >> m & 1) == 1) {
                        groups.merge(w.shows(m, v), 1, Integer::sum);
                    }
                }
                int most = groups.values().stream().mapToInt(Integer::intValue).max().getAsInt();
                if (most < fewest) {
                    fewest = most;
                    vow = v;
                }
            }
            return what == 0 ? vow : fewest;
        }

        int years(int seed, int n) {
            if (seed < 0 || seed > 1000000 || n < 1 || n > 100) {
                return no(-1);
            }
            if (w.monks.isEmpty()) {
                return no(-3);
            }
            drawn = w.copy();
            long s = seed;
            int given = 0;
            for (int i = 0; i < n && drawn.year < 999; i++) {
                s = (s * 1103 + 12345) % 1000003;
                int m = (int) (s % drawn.monks.size());
                s = (s * 1103 + 12345) % 1000003;
                if (drawn.give((int) (s % 7), m) >= 0) {
                    given++;
                }
                drawn.pass();
            }
            return yes(given);
        }

        int count(int what) {
            switch (what) {
                case 0: return w.monks.size();
                case 1: return w.given();
                case 2: return w.sum();
                case 3: return w.seen.size();
                case 4: return w.laws.size();
                case 5: return undo.size();
                case 6: return tape.length();
                case 7: return refused.getOrDefault(-1, 0);
                case 8: return refused.getOrDefault(-2, 0);
                case 9: return refused.getOrDefault(-3, 0);
                case 10: return refused.getOrDefault(-5, 0);
                case 11: return refused.getOrDefault(-6, 0);
                case 12: return w.force;
                case 13: return w.year;
                case 14: return w.mood;
                default: return -1;
            }
        }
    }

    // ---- the class itself

    private static long call(HardestVows x, String name, int[] a) {
        switch (name) {
            case "monk": return x.monk(a[0]);
            case "put": return x.put(a[0], a[1], a[2]);
            case "of": return x.of(a[0], a[1], a[2]);
            case "has": return x.has(a[0]);
            case "terms": return x.terms(a[0], a[1]);
            case "feed": return x.feed(a[0], a[1], a[2], a[3], a[4]);
            case "end": return x.end(a[0]);
            case "row": return x.row();
            case "crumbs": return x.crumbs();
            case "law": return x.law();
            case "orders": return x.orders();
            case "fault": return x.fault();
            case "stopped": return x.stopped();
            case "force": return x.force(a[0]);
            case "give": return x.give(a[0], a[1]);
            case "lay": return x.lay(a[0]);
            case "swap": return x.swap(a[0], a[1]);
            case "pass": return x.pass();
            case "undo": return x.undo();
            case "best": return x.best(a[0]);
            case "fair": return x.fair(a[0]);
            case "wished": return x.wished(a[0]);
            case "swaps": return x.swaps(a[0]);
            case "hide": return x.hide(a[0], a[1]);
            case "soft": return x.soft(a[0]);
            case "kept": return x.kept(a[0], a[1]);
            case "seen": return x.seen(a[0], a[1]);
            case "forget": return x.forget();
            case "who": return x.who();
            case "look": return x.look(a[0]);
            case "compare": return x.compare(a[0]);
            case "years": return x.years(a[0], a[1]);
            case "drawn": return x.drawn(a[0], a[1]);
            case "image": return x.image(a[0]);
            case "back": return x.back(a[0]);
            case "count": return x.count(a[0]);
            case "status": return x.status();
            default: throw new IllegalStateException(name);
        }
    }

    // ---- runs by chance

    private final Random chance;
    private final HardestVows x = new HardestVows();
    private final Model model = new Model();
    private final List<String> log = new ArrayList<>();
    private final int monkLimit;
    private boolean stop = false;

    private PlainModelTest(long seed) {
        chance = new Random(seed * 0x9E3779B97F4A7C15L); // seeds that lie near draw alike at first
        monkLimit = chance.nextInt(8) == 0 ? 7 : 1 + chance.nextInt(5);
    }

    private int up(int bound) {
        return chance.nextInt(bound);
    }

    /** Mostly 0 .. bound - 1, at times beyond. */
    private int about(int bound) {
        int edge = up(40);
        if (edge == 0) {
            return -1;
        }
        if (edge == 1) {
            return bound;
        }
        if (edge == 2) {
            return chance.nextInt();
        }
        return up(bound);
    }

    private int monk() {
        return up(12) == 0 ? about(7) : about(Math.max(1, model.w.monks.size()));
    }

    private long ask(String name, int... a) {
        if (stop) {
            return 0;
        }
        long want = model.call(name, a);
        long got = call(x, name, a);
        compared++;
        log.add(name + Arrays.toString(a) + " -> " + got);
        if (got != want) {
            wrong++;
            stop = true;
            System.out.println("due is " + want + " at the end of:");
            log.forEach(System.out::println);
        }
        return got;
    }

    private String number() {
        int kind = up(30);
        return kind == 0 ? "1000" : kind == 1 ? "1001" : kind == 2 ? "00" + up(12) : kind < 8 ? "" + up(1000) : "" + up(10);
    }

    private String part(boolean law, int depth) {
        int kind = up(10);
        if (kind == 0 && depth > 0) {
            return "[" + sum(law, depth - 1) + "]";
        }
        if (kind < 5) {
            return number();
        }
        if (law) {
            return new String[] {"monk", "vow", "hard", "held", "has", "year", "mood"}[up(7)];
        }
        return new String[] {"year", "done", "latest", "given", "sum", "has " + up(5), "held " + up(7)}[up(7)];
    }

    private String sum(boolean law, int depth) {
        StringBuilder s = new StringBuilder(part(law, depth));
        while (up(3) == 0) {
            s.append(" + | - |*|/|%|+| * ".split("\\|")[up(7)]).append(part(law, depth));
        }
        return s.toString();
    }

    private String test(boolean law, int depth) {
        int kind = up(9);
        if (depth > 0 && kind == 0) {
            return test(law, depth - 1) + " or " + test(law, depth - 1);
        }
        if (depth > 0 && kind == 1) {
            return test(law, depth - 1) + " and " + test(law, depth - 1);
        }
        if (depth > 0 && kind == 2) {
            return "(" + test(law, depth - 1) + ")";
        }
        if (kind == 3) {
            return "not " + test(law, depth);
        }
        return sum(law, depth) + "<>="
            .substring(up(3)).substring(0, 1) + sum(law, depth);
    }

    private String clause(boolean law) {
        StringBuilder s = new StringBuilder();
        if (law) {
            String kind = new String[] {"falls", "rises", "shows", "breaks", "bars", "shows"}[up(6)];
            s.append(kind);
            if (!kind.equals("bars")) {
                s.append(' ').append(sum(true, 3));
            } else if (up(4) != 0) {
                s.append(" if ").append(up(2) == 0 ? "vow" : "monk").append(" = ").append(up(7));
                return s.toString();
            }
        } else {
            int kind = up(5);
            String a = up(3) == 0 ? sum(false, 2) : "" + up(Math.max(1, model.w.monks.size()));
            String b = up(3) == 0 ? sum(false, 2) : "" + up(Math.max(1, model.w.monks.size()));
            String v = up(3) == 0 ? sum(false, 2) : "" + up(7);
            s.append(kind == 0 ? "give " + v + " to " + a : kind == 1 ? "lay " + a
                : kind == 2 ? "swap " + a + " with " + b : "pass");
            if (up(4) == 0) {
                s.append(" times ").append(up(20) == 0 ? up(30) : 1 + up(4));
            }
        }
        if (up(2) == 0) {
            s.append(" if ").append(test(law, 3));
        }
        return s.toString();
    }

    private String text(boolean law) {
        StringBuilder s = new StringBuilder();
        int n = up(12) == 0 ? 10 + up(5) : 1 + up(5);
        for (int i = 0; i < n; i++) {
            s.append(i == 0 ? "" : up(2) == 0 ? ";" : " ; ").append(clause(law));
        }
        if (up(4) == 0) {
            spoil(s);
        }
        return s.length() > 400 ? s.substring(0, 400) : s.toString();
    }

    private void spoil(StringBuilder s) {
        int at = up(s.length());
        String bits = "  ;;()[]+-*/%<>=0179azA\0\t\u00ff";
        switch (up(6)) {
            case 0: s.deleteCharAt(at); break;
            case 1: s.insert(at, bits.charAt(up(bits.length()))); break;
            case 2: s.setCharAt(at, bits.charAt(up(bits.length()))); break;
            case 3: s.setLength(at); break;
            case 4: s.insert(at, " " + "if or and not to with times has held falls pass bars".split(" ")[up(12)] + " "); break;
            default: s.insert(at, up(2) == 0 ? "[[[[[[[[[" : "((((((((((".substring(up(4))); break;
        }
    }

    private void feedText(String text) {
        ask("end", 0);
        for (int from = 0; from < text.length(); from += 20) {
            int[] n = new int[5];
            for (int i = 0; i < 20; i++) {
                int c = from + i < text.length() ? text.charAt(from + i) : 32;
                n[i / 4] = n[i / 4] << 8 | c;
            }
            ask("feed", n);
        }
        ask("end", text.length());
    }

    private void readLaw() {
        feedText(text(true));
        long law = ask("law");
        ask("fault");
        if (law >= 0 && up(3) != 0) {
            ask("force", (int) law);
        }
    }

    private void readOrders() {
        feedText(text(false));
        ask("orders");
        ask("fault");
        ask("stopped");
        ask("count", 5);
    }

    private void readRows() {
        ask("end", 0);
        for (int i = 0; i <= up(3); i++) {
            int[] n = new int[5];
            for (int j = 0; j < 20; j++) {
                n[j / 4] = n[j / 4] << 8 | (up(30) == 0 ? up(256) : up(100));
            }
            ask("feed", n);
        }
        ask("end", up(Math.min(24, model.tape.length() + 1)));
        if (model.w.monks.size() + model.tape.length() / 7 <= monkLimit) {
            ask("row");
            ask("crumbs");
        }
    }

    private void change() {
        switch (up(16)) {
            case 0:
                if (model.w.monks.size() < monkLimit || monkLimit == 7) {
                    ask("monk", about(100));
                }
                break;
            case 1: case 2: ask("put", monk(), about(7), up(3) == 0 ? about(100) : about(20)); break;
            case 3: ask("terms", about(2), up(6) == 0 ? 990 + up(12) : about(20)); break;
            case 4: case 5: case 6: ask("give", about(7), monk()); break;
            case 7: ask("lay", monk()); break;
            case 8: ask("swap", monk(), monk()); break;
            case 9: case 10: ask("pass"); break;
            case 11: ask("undo"); break;
            case 12: ask("force", about(Math.max(1, model.w.laws.size()))); break;
            case 13: ask("image", about(2)); break;
            case 14: if (up(3) == 0) { ask("back", about(2)); } break;
            default: readRows(); break;
        }
    }

    private void paper() {
        switch (up(14)) {
            case 0: ask("best", about(model.w.monks.size() + 1)); break;
            case 1: ask("fair", about(model.w.monks.size() + 2)); break;
            case 2: ask("wished", about(model.w.monks.size() + 1)); break;
            case 3: ask("swaps", up(3) == 0 ? -1 : about(4)); break;
            case 4: ask("hide", monk(), about(3)); break;
            case 5: if (monkLimit < 7 || up(5) == 0) { ask("soft", up(2) == 0 ? about(701) : about(80)); } break;
            case 6: case 7: ask("kept", monk(), about(61)); break;
            case 8:
                if (up(3) == 0 || model.w.monks.isEmpty()) {
                    ask("seen", about(7), about(100));
                } else {
                    int m = up(model.w.monks.size());
                    int v = up(7);
                    ask("seen", v, model.w.shows(m, v));
                }
                ask("who");
                break;
            case 9: ask("look", about(2)); break;
            case 10: if (up(4) == 0) { ask("forget"); } ask("who"); break;
            case 11: ask("compare", about(Math.max(1, model.w.laws.size()))); break;
            case 12: ask("years", about(1000001), about(101)); ask("drawn", monk(), about(8)); break;
            default: ask("drawn", monk(), about(8)); break;
        }
    }

    private void lookAll() {
        for (int what = 0; what < 15; what++) {
            ask("count", what);
        }
        ask("status");
        for (int m = 0; m < model.w.monks.size(); m++) {
            ask("has", m);
            ask("of", m, up(7), up(7));
        }
    }

    private void run() {
        for (int i = 0; i < monkLimit - up(2); i++) {
            ask("monk", up(100));
            for (int j = up(6); j > 0; j--) {
                ask("put", i, up(7), up(4) == 0 ? up(100) : up(10));
            }
        }
        while (log.size() < 470 && !stop) {
            switch (up(9)) {
                case 0: if (up(2) == 0) { readLaw(); } break;
                case 1: if (up(2) == 0) { readOrders(); } break;
                case 2: case 3: case 4: change(); break;
                case 5: ask("of", monk(), about(7), about(7)); ask("has", monk()); ask("status"); break;
                case 6: if (up(6) == 0) { lookAll(); } else { ask("count", about(15)); } break;
                default: paper(); break;
            }
        }
    }

    public static void main(String[] args) {
        long from = args.length > 0 ? Long.parseLong(args[0]) : 0;
        long runs = args.length > 1 ? Long.parseLong(args[1]) : 400;
        for (long seed = from; seed < from + runs && wrong == 0; seed++) {
            new PlainModelTest(seed).run();
        }
        System.out.println(compared + " answers compared, " + wrong + " not as due");
        if (wrong != 0) {
            System.exit(1);
        }
    }
}
