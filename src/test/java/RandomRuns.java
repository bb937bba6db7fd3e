import java.util.ArrayDeque;
import java.util.ArrayList;
import java.util.Arrays;
import java.util.Deque;
import java.util.List;
import java.util.Random;

/** Long random runs against a second, plain telling of the document: storks really go and are turned off there. */
public final class RandomRuns {
    private static final int BAD = -1000000001, NO = -1000000002, FULL = -1000000003, NONE = -1000000005;
    private static final int NOTHING = -1000000011, KIND = -1000000012, INDEX = -1000000013, SIZE = -1000000014;
    private static final int RUNS = 400, CALLS = 512;

    public static void main(String[] args) {
        int wrong = 0;
        for (int run = 0; run < RUNS && wrong < 5; run++) {
            if (!runOne(run)) {
                wrong++;
            }
        }
        System.out.println(wrong == 0 ? "RandomRuns: all answers are as due" : "RandomRuns: " + wrong + " runs are wrong");
        if (wrong != 0) {
            System.exit(1);
        }
    }

    private static boolean runOne(int run) {
        Random r = new Random(run);
        StorkVote v = new StorkVote();
        Plain p = new Plain();
        List<String> done = new ArrayList<>();
        Deque<int[]> planned = new ArrayDeque<>();
        for (int i = 0; i < CALLS; i++) {
            if (planned.isEmpty() && i > 20 && r.nextInt(10) == 0) {
                plan(r, p, planned);
            }
            int[] a = new int[6];
            if (planned.isEmpty()) {
                a[5] = randomCall(r, i, p, a);
            } else {
                a = planned.remove();
            }
            int op = a[5];
            int got = call(v, op, a);
            int want = p.call(op, a);
            done.add(NAMES[op] + Arrays.toString(a) + " -> " + got);
            if (got != want) {
                System.out.println("run " + run + ", call " + i + ", due is " + want + ":");
                for (String d : done.subList(Math.max(0, done.size() - 30), done.size())) {
                    System.out.println("  " + d);
                }
                return false;
            }
        }
        return true;
    }

    /** Calls that mean something only one behind the other; the last of each is the number of the call. */
    private static void plan(Random r, Plain p, Deque<int[]> planned) {
        int way = r.nextInt(5);
        if (way == 0) {
            planNests(r, p, planned);
        } else if (way == 2) {
            planElections(r, p, planned);
        } else if (way == 1 && p.image != null) {
            planYears(r, p, planned);
        } else {
            planLaw(randomLaw(r), planned);
        }
    }

    private static void planLaw(String law, Deque<int[]> planned) {
        planned.add(new int[] {0, 0, 0, 0, 0, 23});
        for (int from = 0; from < law.length(); from += 12) {
            int[] a = {0, 0, 0, 0, 0, 22};
            for (int i = 0; i < 12; i++) {
                a[i / 4] = a[i / 4] << 8 | (from + i < law.length() ? law.charAt(from + i) : ' ');
            }
            planned.add(a);
        }
        planned.add(new int[] {law.length(), 0, 0, 0, 0, 23});
        planned.add(new int[] {0, 0, 0, 0, 0, 24});
    }

    /** Many storks that are there and want a nest: then a few frogs, or one stork, may turn an election. */
    private static void planElections(Random r, Plain p, Deque<int[]> planned) {
        planned.add(new int[] {0, r.nextInt(40), 0, 0, 0, 9});
        for (int stork = 0; stork < 10; stork++) {
            planned.add(new int[] {stork, r.nextInt(6) / 5, 0, 0, 0, 7});
        }
        int chimney = r.nextInt(1 + p.now.chimneys.size());
        for (int ward = 0; ward < 4; ward++) {
            planned.add(new int[] {ward, 0, 0, 0, 0, 16});
            planned.add(new int[] {chimney, ward, 0, 0, 0, 15});
            planned.add(new int[] {ward, 1, 0, 0, 0, 12});
        }
        planned.add(new int[] {chimney, 0, 0, 0, 0, 17});
    }

    private static void planNests(Random r, Plain p, Deque<int[]> planned) {
        int sheet = r.nextInt(4);
        int places = r.nextInt(3) == 0 ? r.nextInt(12) : p.now.storks.size();
        int[] nests = p.now.spring(-1);
        planned.add(new int[] {sheet, r.nextInt(2), places, 0, 0, 27});
        for (int i = 0; i < places && i < nests.length; i++) {
            int nest = nests[i] == NONE ? -1 : nests[i];
            planned.add(new int[] {sheet, i, r.nextInt(15) == 0 ? r.nextInt(9) - 1 : nest, 0, 0, 28});
        }
        planned.add(new int[] {sheet, 0, 0, 0, 0, 30});
        planned.add(new int[] {sheet, 0, 0, 0, 0, 19});
    }

    private static void planYears(Random r, Plain p, Deque<int[]> planned) {
        int n = 1 + r.nextInt(r.nextInt(4) == 0 ? 30 : 5);
        int many = 2 * n + (r.nextInt(4) == 0 ? r.nextInt(3) - 1 : 0);
        List<Integer> row = p.yearsTold(n);
        int wrongAt = r.nextInt(3) == 0 ? r.nextInt(many) : -1;
        planned.add(new int[] {1, 0, 0, 0, 0, 21});
        for (int i = 0; i < many; i++) {
            int v = i < row.size() ? row.get(i) : 0;
            planned.add(new int[] {i == wrongAt ? v + 1 : v, 0, 0, 0, 0, 36});
        }
        planned.add(new int[] {n, 0, 0, 0, 0, 21});
    }

    private static final String[] NAMES = {"chimney", "told", "as", "turns", "set", "stork", "storkTold", "away", "likes",
        "rule", "deal", "seed", "ward", "elected", "years", "frogs", "driven", "brings", "behind", "rather", "fine", "check",
        "feed", "trim", "text", "textTold", "why", "sheet", "mark", "pour", "reads", "copy", "lay", "ask", "item", "rest",
        "tell", "keep", "back", "count"};

    private static int call(StorkVote v, int op, int[] a) {
        switch (NAMES[op]) {
            case "chimney": return v.chimney(a[0], a[1], a[2], a[3]);
            case "told": return v.told(a[0], a[1]);
            case "as": return v.as(a[0], a[1]);
            case "turns": return v.turns(a[0], a[1]);
            case "set": return v.set(a[0], a[1], a[2]);
            case "stork": return v.stork(a[0], a[1]);
            case "storkTold": return v.storkTold(a[0], a[1]);
            case "away": return v.away(a[0], a[1]);
            case "likes": return v.likes(a[0], a[1]);
            case "rule": return v.rule(a[0], a[1]);
            case "deal": return v.deal(a[0]);
            case "seed": return v.seed(a[0]);
            case "ward": return v.ward(a[0], a[1]);
            case "elected": return v.elected();
            case "years": return v.years(a[0]);
            case "frogs": return v.frogs(a[0], a[1]);
            case "driven": return v.driven(a[0]);
            case "brings": return v.brings(a[0]);
            case "behind": return v.behind(a[0], a[1]);
            case "rather": return v.rather(a[0]);
            case "fine": return v.fine();
            case "feed": return v.feed(a[0], a[1], a[2]);
            case "trim": return v.trim(a[0]);
            case "text": return v.text();
            case "textTold": return v.textTold(a[0], a[1]);
            case "why": return v.why(a[0]);
            case "sheet": return v.sheet(a[0], a[1], a[2]);
            case "mark": return v.mark(a[0], a[1], a[2]);
            case "pour": return v.pour(a[0]);
            case "reads": return v.reads(a[0]);
            case "copy": return v.copy(a[0], a[1], a[2], a[3], a[4]);
            case "lay": return v.lay(a[0], a[1], a[2]);
            case "ask": return v.ask(a[0], a[1]);
            case "item": return v.item(a[0], a[1]);
            case "rest": return v.rest(a[0], a[1]);
            case "tell": return v.tell(a[0]);
            case "check": return v.check(a[0]);
            case "keep": return v.keep();
            case "back": return v.back();
            default: return v.count(a[0]);
        }
    }

    /** What is likely to matter, and now and then anything. */
    private static int upTo(Random r, int most) {
        int way = r.nextInt(60);
        if (way == 0) {
            return new int[] {-1, most + 1, NONE, BAD, Integer.MIN_VALUE, Integer.MAX_VALUE}[r.nextInt(6)];
        }
        return most <= 0 ? 0 : r.nextInt(most + 1);
    }

    /** Calls that seldom come to an answer that tells much. */
    private static final int[] OFTEN = {4, 4, 15, 15, 15, 16, 16, 16, 32, 32, 32, 32, 33, 33, 34, 34, 35, 31, 17};

    private static int randomCall(Random r, int i, Plain p, int[] a) {
        int op = r.nextInt(NAMES.length);
        if (i < 20) {
            op = new int[] {0, 0, 5, 5, 5, 9, 37}[r.nextInt(7)];
        } else if (r.nextInt(4) == 0) {
            op = OFTEN[r.nextInt(OFTEN.length)];
        }
        if (op == 14 && r.nextInt(3) > 0 || op == 7 && r.nextInt(2) > 0) {
            op = 39;
        }
        int chimneys = p.now.chimneys.size();
        int storks = p.now.storks.size();
        int[][] most = {{5, 3, 99, 99}, {chimneys, 5}, {chimneys, 5}, {chimneys, 5}, {chimneys, 4, 99}, {99, chimneys},
            {storks, 3}, {storks, 1}, {storks, chimneys}, {2, 100}, {8}, {1000000}, {3, 1}, {}, {r.nextInt(4) == 0 ? 60 : 3},
            {chimneys, 3}, {3}, {chimneys}, {60, 2}, {3}, {}, {30}, {1 << 30, 1 << 30, 1 << 30}, {96}, {}, {13, 1}, {2},
            {3, 2, 24}, {3, 23, 12}, {3}, {3}, {3, 12, 3, 12, 12}, {4, 3, 8}, {4, 5}, {4, 23}, {4, 20}, {10}, {}, {}, {11}};
        for (int k = 0; k < most[op].length; k++) {
            a[k] = upTo(r, most[op][k]);
        }
        shape(r, op, a);
        return op;
    }

    private static void shape(Random r, int op, int[] a) {
        if (op == 5 && r.nextInt(2) == 0) {
            a[1] = NONE;
        } else if (op == 4 && a[1] == 1) {
            a[2] = upTo(r, 3);
        } else if (op == 7 && r.nextInt(3) > 0) {
            a[1] = 0;
        } else if (op == 9 && a[0] == 0 && r.nextInt(4) > 0) {
            a[1] = upTo(r, 60);
        } else if (op == 9 && a[0] == 2 && r.nextInt(2) > 0) {
            a[1] = upTo(r, 10);
        } else if (op == 11) {
            a[0] = r.nextInt();
        } else if (op == 27) {
            a[1] -= 1;
        } else if (op == 28) {
            a[2] = new int[] {a[2], a[2], a[2] - 1, NONE, r.nextInt(), r.nextInt(300000) - 150000}[r.nextInt(6)];
        } else if (op == 35) {
            a[1] -= 10;
        } else if (op == 32 && a[1] == 3) {
            a[2] = r.nextInt();
        }
    }

    private static String randomLaw(Random r) {
        StringBuilder s = new StringBuilder();
        int key = r.nextInt(3);
        String[] keys = {"like", "seat", "fine"};
        s.append(keys[key]).append(' ');
        expression(r, s, new String[] {"wfh", "nw", "ys"}[key], 3);
        if (r.nextInt(3) == 0) {
            String signs = " ()!&|<=>+-*/wfhnys0123456789.Zlike\u0000\u00ff";
            for (int i = r.nextInt(3); i >= 0; i--) {
                int at = r.nextInt(s.length() + 1);
                char c = signs.charAt(r.nextInt(signs.length()));
                if (r.nextInt(2) == 0 && at < s.length()) {
                    s.deleteCharAt(at);
                } else {
                    s.insert(at, c);
                }
            }
        }
        return s.length() > 96 ? s.substring(0, 96) : s.toString();
    }

    private static void expression(Random r, StringBuilder s, String names, int deep) {
        int many = r.nextInt(4);
        boolean tested = false;
        for (int i = 0; i <= many; i++) {
            if (i > 0) {
                char sign = "|&<=>+-*/+-*".charAt(r.nextInt(12));
                boolean tests = sign >= '<' && sign <= '>';
                s.append(tests && tested && r.nextInt(8) > 0 ? '+' : sign);
                tested = (tested || tests) && sign != '|' && sign != '&';
            }
            blanks(r, s);
            while (r.nextInt(6) == 0) {
                s.append('!');
            }
            if (r.nextInt(60) == 0) {
                s.append("((((((((", 0, r.nextInt(8)).append("!!!!!!!!", 0, r.nextInt(8));
            }
            if (deep > 0 && r.nextInt(4) == 0) {
                s.append('(');
                expression(r, s, names, deep - 1);
                s.append(')');
            } else if (r.nextInt(2) == 0) {
                s.append(names.charAt(r.nextInt(names.length())));
            } else {
                s.append(r.nextInt(new int[] {10, 100, 1000, 10050}[r.nextInt(4)]));
            }
            blanks(r, s);
        }
    }

    private static void blanks(Random r, StringBuilder s) {
        if (r.nextInt(4) == 0) {
            s.append(' ');
        }
    }

    /** A law as a tree, read by the grammar from the top; a text that is none answers null. */
    private static final class Law {
        private final String s;
        private int at;
        private int deep;
        private int nots;
        private int pieces;
        private String key;
        private String names;
        private final int[] values = new int[3];

        private static final class Wrong extends Exception {
            private static final long serialVersionUID = 1;
        }

        private Law(String s) {
            this.s = s;
        }

        static Law read(String s) {
            Law law = new Law(s);
            try {
                law.whole();
                return law;
            } catch (Wrong e) {
                return null;
            }
        }

        int value(int... given) {
            System.arraycopy(given, 0, values, 0, given.length);
            at = 0;
            deep = 0;
            nots = 0;
            try {
                return whole();
            } catch (Wrong e) {
                throw new IllegalStateException(e);
            }
        }

        private int whole() throws Wrong {
            pieces = 0;
            key = word();
            int k = List.of("like", "seat", "fine").indexOf(key);
            if (k < 0) {
                throw new Wrong();
            }
            names = new String[] {"wfh", "nw", "ys"}[k];
            int v = or();
            if (next() != 0) {
                throw new Wrong();
            }
            return v;
        }

        private char next() {
            while (at < s.length() && s.charAt(at) == ' ') {
                at++;
            }
            return at == s.length() ? 0 : s.charAt(at) == 0 ? 1 : s.charAt(at);
        }

        private String word() throws Wrong {
            char c = next();
            boolean right = at > 0 && (Character.isLetterOrDigit(s.charAt(at - 1)) && s.charAt(at - 1) < 128);
            String set = c >= 'a' && c <= 'z' ? "abcdefghijklmnopqrstuvwxyz" : "0123456789";
            int from = at;
            while (at < s.length() && set.indexOf(s.charAt(at)) >= 0) {
                at++;
            }
            if (right || at == from) {
                throw new Wrong();
            }
            return s.substring(from, at);
        }

        private boolean takes(char c) {
            if (next() != c) {
                return false;
            }
            at++;
            return true;
        }

        private int or() throws Wrong {
            int v = and();
            while (takes('|')) {
                int w = and();
                v = v != 0 || w != 0 ? 1 : 0;
            }
            return v;
        }

        private int and() throws Wrong {
            int v = test();
            while (takes('&')) {
                int w = test();
                v = v != 0 && w != 0 ? 1 : 0;
            }
            return v;
        }

        private int test() throws Wrong {
            int v = sum();
            if (takes('<')) {
                return v < sum() ? 1 : 0;
            }
            if (takes('=')) {
                return v == sum() ? 1 : 0;
            }
            if (takes('>')) {
                return v > sum() ? 1 : 0;
            }
            return v;
        }

        private int sum() throws Wrong {
            int v = term();
            while (true) {
                if (takes('+')) {
                    v += term();
                } else if (takes('-')) {
                    v -= term();
                } else {
                    return v;
                }
            }
        }

        private int term() throws Wrong {
            int v = piece();
            while (true) {
                if (takes('*')) {
                    v *= piece();
                } else if (takes('/')) {
                    int w = piece();
                    v = w == 0 ? 0 : v / w;
                } else {
                    return v;
                }
            }
        }

        private int piece() throws Wrong {
            if (takes('!')) {
                if (++nots > 8) {
                    throw new Wrong();
                }
                int v = piece();
                nots--;
                return v == 0 ? 1 : 0;
            }
            if (takes('(')) {
                if (++deep > 8) {
                    throw new Wrong();
                }
                int v = or();
                deep--;
                if (!takes(')')) {
                    throw new Wrong();
                }
                return v;
            }
            String word = word();
            pieces++;
            if (Character.isDigit(word.charAt(0))) {
                if (word.length() > 4) {
                    throw new Wrong();
                }
                return Integer.parseInt(word);
            }
            if (word.length() != 1 || names.indexOf(word) < 0) {
                throw new Wrong();
            }
            return values[names.indexOf(word)];
        }

        /** By the document's own words: the first word or sign with which no text goes on, sought by trying. */
        static int fault(String s) {
            if (read(s) != null) {
                return -1;
            }
            int at = 0;
            while (at < s.length()) {
                char c = s.charAt(at);
                int end = at + 1;
                String set = c >= 'a' && c <= 'z' ? "abcdefghijklmnopqrstuvwxyz" : c >= '0' && c <= '9' ? "0123456789" : "";
                while (end < s.length() && set.indexOf(s.charAt(end)) >= 0) {
                    end++;
                }
                if (c != ' ' && !goesOn(s.substring(0, end))) {
                    return at;
                }
                at = end;
            }
            return s.length();
        }

        private static boolean goesOn(String s) {
            for (String more : new String[] {"", " 1"}) {
                StringBuilder whole = new StringBuilder(s).append(more);
                for (int i = 0; i <= 8; i++) {
                    if (read(whole.toString()) != null) {
                        return true;
                    }
                    whole.append(')');
                }
            }
            return false;
        }
    }

    /** Chimneys are {kind, ward, warm, frogs}, storks {strong, home, away}. */
    private static final class Village {
        private List<int[]> chimneys = new ArrayList<>();
        private List<int[]> storks = new ArrayList<>();
        private List<Law> laws = new ArrayList<>();
        private int[] rules = {10, 30, 20};
        private int year;
        private int z = 1;

        Village twin() {
            Village t = new Village();
            chimneys.forEach(c -> t.chimneys.add(c.clone()));
            storks.forEach(s -> t.storks.add(s.clone()));
            t.laws.addAll(laws);
            t.rules = rules.clone();
            t.year = year;
            t.z = z;
            return t;
        }

        int draw(int n) {
            z = z * 1103515245 + 12345;
            return (z >>> 8) % n;
        }

        Law law(String key) {
            Law found = null;
            for (Law l : laws) {
                found = l.key.equals(key) ? l : found;
            }
            return found;
        }

        int here() {
            return (int) storks.stream().filter(s -> s[2] == 0).count();
        }

        int likes(int stork, int chimney) {
            int[] c = chimneys.get(chimney);
            return likesAs(c[0], c, storks.get(stork)[1] == chimney ? 1 : 0);
        }

        private int likesAs(int kind, int[] c, int h) {
            switch (kind) {
                case 0:
                    Law like = law("like");
                    int v = like == null ? c[2] + c[3] + 20 * h : like.value(c[2], c[3], h);
                    return v < 0 ? 0 : v > 999 ? 999 : v;
                case 1:
                    return likesAs(0, c, h) + 10;
                case 2:
                    return likesAs(0, c, h) / 2;
                case 3:
                    return 2 * likesAs(1, c, h);
                case 4:
                    return likesAs(2, c, h) + c[2];
                default:
                    return c[3] + 50 * h;
            }
        }

        static int worthAs(int kind, int[] c) {
            switch (kind) {
                case 0:
                    return c[2];
                case 1:
                    return worthAs(0, c) + c[3];
                case 2:
                    return 99 - c[2];
                case 3:
                    return 2 * worthAs(1, c);
                case 4:
                    return worthAs(2, c) - 7;
                default:
                    return 2;
            }
        }

        static boolean isOf(int kind, int above) {
            int[] up = {-1, 0, 0, 1, 2, 0};
            while (kind >= 0 && kind != above) {
                kind = up[kind];
            }
            return kind == above;
        }

        boolean keeps(int stork, int other) {
            int a = storks.get(stork)[0];
            int b = storks.get(other)[0];
            return a > b || a == b && stork < other;
        }

        /** As the document tells it: they go, are kept or turned off, and go again. */
        int[] spring(int shut) {
            int[] nest = new int[storks.size()];
            Arrays.fill(nest, NONE);
            int[][] likes = new int[storks.size()][chimneys.size()];
            for (int s = 0; s < storks.size(); s++) {
                for (int c = 0; c < chimneys.size(); c++) {
                    likes[s][c] = likes(s, c);
                }
            }
            boolean[][] off = new boolean[storks.size()][chimneys.size()];
            boolean going = true;
            while (going) {
                going = false;
                for (int s = 0; s < storks.size(); s++) {
                    if (storks.get(s)[2] == 1 || nest[s] != NONE) {
                        continue;
                    }
                    int best = -1;
                    for (int c = 0; c < chimneys.size(); c++) {
                        if (c != shut && !off[s][c] && likes[s][c] >= rules[0] && (best < 0 || likes[s][c] > likes[s][best])) {
                            best = c;
                        }
                    }
                    if (best < 0) {
                        continue;
                    }
                    going = true;
                    int there = holder(nest, best);
                    if (there == NONE) {
                        nest[s] = best;
                    } else if (keeps(s, there)) {
                        nest[there] = NONE;
                        off[there][best] = true;
                        nest[s] = best;
                    } else {
                        off[s][best] = true;
                    }
                }
            }
            return nest;
        }

        static int holder(int[] nest, int chimney) {
            for (int s = 0; s < nest.length; s++) {
                if (nest[s] == chimney) {
                    return s;
                }
            }
            return NONE;
        }

        int nestsIn(int ward, int shut) {
            int n = 0;
            for (int c : spring(shut)) {
                n += c != NONE && chimneys.get(c)[1] == ward ? 1 : 0;
            }
            return n;
        }

        int seats(int ward, int shut) {
            int n = nestsIn(ward, shut);
            Law seat = law("seat");
            return seat == null ? n : Math.max(0, Math.min(999, seat.value(n, ward)));
        }

        int elected() {
            int best = 0;
            int[] seats = {seats(0, -1), seats(1, -1), seats(2, -1), seats(3, -1)};
            for (int w = 1; w < 4; w++) {
                best = seats[w] > seats[best] ? w : best;
            }
            return best;
        }

        void live() {
            int[] nest = spring(-1);
            for (int s = 0; s < nest.length; s++) {
                if (storks.get(s)[2] == 1) {
                    continue;
                }
                int x = draw(100);
                if (nest[s] != NONE) {
                    if (x < rules[1] && storks.size() < 10) {
                        storks.add(new int[] {1 + draw(20), nest[s], 0});
                    }
                } else if (x < rules[2]) {
                    storks.get(s)[2] = 1;
                }
            }
            year++;
        }
    }

    private static final class Plain {
        private Village now = new Village();
        private Village image;
        private final List<Integer> waiting = new ArrayList<>();
        private final StringBuilder tape = new StringBuilder();
        private final Integer[][] sheets = new Integer[4][];
        private final int[] sorts = new int[4];
        private final Object[] slots = new Object[5];

        private boolean isChimney(int c) {
            return c >= 0 && c < now.chimneys.size();
        }

        private boolean isStork(int s) {
            return s >= 0 && s < now.storks.size();
        }

        private static boolean in(int v, int least, int most) {
            return least <= v && v <= most;
        }

        int call(int op, int[] a) {
            if (op <= 11) {
                return people(op, a);
            }
            if (op <= 19) {
                return votes(op, a);
            }
            if (op >= 27 && op <= 31) {
                return rows(op, a);
            }
            return op >= 32 && op <= 35 ? slots(op, a) : others(op, a);
        }

        private int people(int op, int[] a) {
            switch (NAMES[op]) {
                case "chimney":
                    if (!in(a[0], 0, 5) || !in(a[1], 0, 3) || !in(a[2], 0, 99) || !in(a[3], 0, 99)) {
                        return BAD;
                    }
                    if (now.chimneys.size() == 8) {
                        return FULL;
                    }
                    now.chimneys.add(new int[] {a[0], a[1], a[2], a[3]});
                    return now.chimneys.size() - 1;
                case "told":
                    if (!isChimney(a[0]) || !in(a[1], 0, 5)) {
                        return BAD;
                    }
                    int[] c = now.chimneys.get(a[0]);
                    return a[1] < 4 ? c[a[1]] : a[1] == 4 ? Village.worthAs(c[0], c) : Village.holder(now.spring(-1), a[0]);
                case "as":
                    if (!isChimney(a[0]) || !in(a[1], 0, 5)) {
                        return BAD;
                    }
                    return Village.isOf(now.chimneys.get(a[0])[0], a[1]) ? now.chimneys.get(a[0])[2] : KIND;
                case "turns":
                    return !isChimney(a[0]) || !in(a[1], 0, 5) ? BAD : swap(now.chimneys.get(a[0]), 0, a[1]);
                case "set":
                    if (!isChimney(a[0]) || !in(a[1], 1, 3) || !in(a[2], 0, a[1] == 1 ? 3 : 99)) {
                        return BAD;
                    }
                    return swap(now.chimneys.get(a[0]), a[1], a[2]);
                case "stork":
                    if (!in(a[0], 1, 99) || a[1] != NONE && !isChimney(a[1])) {
                        return BAD;
                    }
                    if (now.storks.size() == 10) {
                        return FULL;
                    }
                    now.storks.add(new int[] {a[0], a[1], 0});
                    return now.storks.size() - 1;
                case "storkTold":
                    if (!isStork(a[0]) || !in(a[1], 0, 3)) {
                        return BAD;
                    }
                    return a[1] < 3 ? now.storks.get(a[0])[a[1]] : now.spring(-1)[a[0]];
                case "away":
                    return !isStork(a[0]) || !in(a[1], 0, 1) ? BAD : swap(now.storks.get(a[0]), 2, a[1]);
                case "likes":
                    return !isStork(a[0]) || !isChimney(a[1]) ? BAD : now.likes(a[0], a[1]);
                case "rule":
                    return !in(a[0], 0, 2) || !in(a[1], 0, a[0] == 0 ? 999 : 100) ? BAD : swap(now.rules, a[0], a[1]);
                case "deal":
                    if (!in(a[0], 1, 8)) {
                        return BAD;
                    }
                    int came = 0;
                    while (came < a[0] && now.chimneys.size() < 8) {
                        now.chimneys.add(new int[] {now.draw(6), now.draw(4), now.draw(60), now.draw(60)});
                        came++;
                    }
                    return came;
                default:
                    int z = now.z;
                    now.z = a[0];
                    return z;
            }
        }

        private static int swap(int[] row, int at, int v) {
            int was = row[at];
            row[at] = v;
            return was;
        }

        private int votes(int op, int[] a) {
            switch (NAMES[op]) {
                case "ward":
                    if (!in(a[0], 0, 3) || !in(a[1], 0, 1)) {
                        return BAD;
                    }
                    return a[1] == 0 ? now.nestsIn(a[0], -1) : now.seats(a[0], -1);
                case "elected":
                    return now.elected();
                case "years":
                    if (!in(a[0], 1, 60)) {
                        return BAD;
                    }
                    int ahead = now.storks.size();
                    for (int i = 0; i < a[0] && now.year < 999; i++) {
                        now.live();
                    }
                    return now.storks.size() - ahead;
                case "frogs":
                    if (!isChimney(a[0]) || !in(a[1], 0, 3)) {
                        return BAD;
                    }
                    Village fed = now.twin();
                    for (int f = 0; f <= 99 && now.chimneys.get(a[0])[3] + f <= 99; f++) {
                        fed.chimneys.get(a[0])[3] = now.chimneys.get(a[0])[3] + f;
                        if (fed.elected() == a[1]) {
                            return f;
                        }
                    }
                    return NONE;
                case "driven":
                    if (!in(a[0], 0, 3)) {
                        return BAD;
                    }
                    for (int s = 0; s < now.storks.size(); s++) {
                        Village without = now.twin();
                        without.storks.get(s)[2] = 1;
                        if (without.elected() == a[0]) {
                            return s;
                        }
                    }
                    return NONE;
                case "brings":
                    if (!isChimney(a[0])) {
                        return BAD;
                    }
                    int ward = now.chimneys.get(a[0])[1];
                    return now.seats(ward, -1) - now.seats(ward, a[0]);
                case "behind":
                    if (!in(a[0], 0, 60) || !in(a[1], 0, 2)) {
                        return BAD;
                    }
                    Village later = now.twin();
                    for (int i = 0; i < a[0]; i++) {
                        later.live();
                    }
                    int all = later.seats(0, -1) + later.seats(1, -1) + later.seats(2, -1) + later.seats(3, -1);
                    return a[1] == 0 ? later.elected() : a[1] == 1 ? later.here() : all;
                default:
                    return rather(a[0]);
            }
        }

        private int rather(int sheet) {
            if (!in(sheet, 0, 3)) {
                return BAD;
            }
            if (sheets[sheet] == null) {
                return NOTHING;
            }
            int[] nest = new int[now.storks.size()];
            Arrays.fill(nest, NONE);
            for (int s = 0; s < nest.length && s < sheets[sheet].length; s++) {
                Integer v = sheets[sheet][s];
                if (v != null && isChimney(v) && now.storks.get(s)[2] == 0 && Village.holder(nest, v) == NONE) {
                    nest[s] = v;
                }
            }
            for (int s = 0; s < nest.length; s++) {
                for (int c = 0; c < now.chimneys.size(); c++) {
                    int there = Village.holder(nest, c);
                    if (now.storks.get(s)[2] == 0 && c != nest[s] && now.likes(s, c) >= now.rules[0]
                        && (nest[s] == NONE || now.likes(s, c) > now.likes(s, nest[s]))
                        && (there == NONE || now.keeps(s, there))) {
                        return 10 * s + c;
                    }
                }
            }
            return NONE;
        }

        private int rows(int op, int[] a) {
            if (!in(a[0], 0, 3) || NAMES[op].equals("copy") && !in(a[2], 0, 3)) {
                return BAD;
            }
            if (NAMES[op].equals("sheet")) {
                if (!in(a[1], -1, 1) || a[1] >= 0 && a[2] > 24) {
                    return BAD;
                }
                if (a[1] >= 0 && a[2] < 0) {
                    return SIZE;
                }
                sheets[a[0]] = a[1] < 0 ? null : new Integer[a[2]];
                sorts[a[0]] = a[1];
                if (a[1] >= 0) {
                    Arrays.fill(sheets[a[0]], 0);
                }
                return a[1] < 0 ? 0 : a[2];
            }
            Integer[] row = sheets[a[0]];
            if (row == null || NAMES[op].equals("copy") && sheets[a[2]] == null) {
                return NOTHING;
            }
            switch (NAMES[op]) {
                case "mark":
                    if (!in(a[1], 0, row.length - 1)) {
                        return INDEX;
                    }
                    if (sorts[a[0]] == 0 && a[2] == NONE) {
                        return KIND;
                    }
                    if (sorts[a[0]] == 1 && a[2] != NONE && !in(a[2], -99999, 99999)) {
                        return BAD;
                    }
                    row[a[1]] = a[2] == NONE ? null : Integer.valueOf(sorts[a[0]] == 0 ? (short) a[2] : a[2]);
                    return 1;
                case "pour":
                    int changed = 0;
                    for (int c = 0; c < now.chimneys.size() && c < row.length; c++) {
                        if (row[c] != null) {
                            int v = Math.max(0, Math.min(99, row[c]));
                            changed += swap(now.chimneys.get(c), 3, v) == v ? 0 : 1;
                        }
                    }
                    return changed;
                case "reads":
                    int[] nest = now.spring(-1);
                    for (int k = 0; k < row.length; k++) {
                        if (row[k] != null && (k >= nest.length || row[k] != (nest[k] == NONE ? -1 : nest[k]))) {
                            return k;
                        }
                    }
                    return NONE;
                default:
                    return copied(row, a);
            }
        }

        private int copied(Integer[] from, int[] a) {
            if (sorts[a[0]] != sorts[a[2]]) {
                return KIND;
            }
            Integer[] to = sheets[a[2]];
            long many = a[4];
            if (many < 0 || a[1] < 0 || a[3] < 0 || a[1] + many > from.length || a[3] + many > to.length) {
                return INDEX;
            }
            Integer[] old = from.clone();
            for (int i = 0; i < many; i++) {
                to[a[3] + i] = old[a[1] + i];
            }
            return a[4];
        }

        private int slots(int op, int[] a) {
            if (!in(a[0], 0, 4) || NAMES[op].equals("ask") && !in(a[1], 0, 5)) {
                return BAD;
            }
            Object held = slots[a[0]];
            if (NAMES[op].equals("lay")) {
                boolean bad = !in(a[1], 0, 3) || a[1] == 1 && !isChimney(a[2]) || a[1] == 2 && !in(a[2], 0, 3);
                if (bad) {
                    return BAD;
                }
                if (a[1] == 2 && sheets[a[2]] == null) {
                    return NOTHING;
                }
                slots[a[0]] = a[1] == 0 ? null : a[1] == 1 ? now.chimneys.get(a[2]).clone()
                    : a[1] == 2 ? sheets[a[2]].clone() : (Object) Integer.valueOf(a[2]);
                return held == null ? 0 : held instanceof int[] ? 1 : held instanceof Integer[] ? 2 : 3;
            }
            if (held == null) {
                return NOTHING;
            }
            switch (NAMES[op]) {
                case "ask":
                    if (!(held instanceof int[])) {
                        return KIND;
                    }
                    int[] c = (int[]) held;
                    return Village.isOf(c[0], a[1]) ? Village.worthAs(c[0], c) : KIND;
                case "item":
                    if (!(held instanceof Integer[])) {
                        return KIND;
                    }
                    Integer[] row = (Integer[]) held;
                    return !in(a[1], 0, row.length - 1) ? INDEX : row[a[1]] == null ? KIND : row[a[1]];
                default:
                    return !(held instanceof Integer) ? KIND : a[1] == 0 ? NO : (Integer) held % a[1];
            }
        }

        private int others(int op, int[] a) {
            switch (NAMES[op]) {
                case "fine":
                    Law fine = now.law("fine");
                    return fine == null ? 0 : fine.value(now.year, now.here());
                case "feed":
                    if (tape.length() > 84) {
                        return FULL;
                    }
                    for (int i = 0; i < 12; i++) {
                        tape.append((char) (a[i / 4] >> 24 - 8 * (i % 4) & 255));
                    }
                    return tape.length();
                case "trim":
                    if (!in(a[0], 0, tape.length())) {
                        return BAD;
                    }
                    tape.setLength(a[0]);
                    return a[0];
                case "text":
                    String law = tape.toString();
                    tape.setLength(0);
                    int fault = Law.fault(law);
                    if (fault >= 0) {
                        return -100 - fault;
                    }
                    if (now.laws.size() == 14) {
                        return FULL;
                    }
                    now.laws.add(Law.read(law));
                    return now.laws.size() - 1;
                case "textTold":
                    if (!in(a[0], 0, now.laws.size() - 1) || !in(a[1], 0, 1)) {
                        return BAD;
                    }
                    Law told = now.laws.get(a[0]);
                    return a[1] == 1 ? told.pieces : List.of("like", "seat", "fine").indexOf(told.key);
                case "why":
                    if (!in(a[0], 0, 2)) {
                        return BAD;
                    }
                    int at = now.laws.indexOf(now.law(List.of("like", "seat", "fine").get(a[0])));
                    return at < 0 ? NONE : at;
                case "tell":
                    if (waiting.size() == 60) {
                        return FULL;
                    }
                    waiting.add(a[0]);
                    return waiting.size();
                case "check":
                    return checked(a[0]);
                case "keep":
                    image = now.twin();
                    return now.chimneys.size();
                case "back":
                    now = image == null ? now : image.twin();
                    return image == null ? NO : now.chimneys.size();
                default:
                    return counted(a[0]);
            }
        }

        private int checked(int n) {
            List<Integer> told = new ArrayList<>(waiting);
            waiting.clear();
            if (!in(n, 1, 30)) {
                return BAD;
            }
            if (image == null) {
                return NO;
            }
            List<Integer> due = yearsTold(n);
            for (int i = 0; i < Math.max(told.size(), due.size()); i++) {
                if (i >= told.size() || i >= due.size() || !told.get(i).equals(due.get(i))) {
                    return 1 + i;
                }
            }
            return 0;
        }

        private List<Integer> yearsTold(int n) {
            List<Integer> due = new ArrayList<>();
            Village later = image.twin();
            for (int i = 0; i < n && later.year < 999; i++) {
                later.live();
                due.add(later.elected());
                due.add(later.here());
            }
            return due;
        }

        private int counted(int what) {
            int nests = 0;
            for (int c : now.spring(-1)) {
                nests += c == NONE ? 0 : 1;
            }
            int[] counts = {now.chimneys.size(), now.storks.size(), now.here(), now.year, now.rules[0], now.rules[1],
                now.rules[2], nests, now.laws.size(), waiting.size(), tape.length(), now.z};
            return in(what, 0, 11) ? counts[what] : BAD;
        }
    }
}
