import java.lang.reflect.Method;
import java.util.ArrayList;
import java.util.Arrays;
import java.util.List;

/**
 * Every argument of every call at its least and its most, just beyond both, and far beyond; calls that would be refused
 * for two reasons; and behind each refused call a look at all that can be told: nothing may have changed, but
 * the tape and the numbers that wait, where the document says so.
 */
public final class Refusals extends Due {
    // No call answers this.
    private static final int THREW = 123456789;
    private static final List<String> NAMES = new ArrayList<>();

    private interface Made {
        StorkVote anew();
    }

    public static void main(String[] args) {
        chimneyArguments();
        storkArguments();
        electionArguments();
        textArguments();
        sheetArguments();
        slotArguments();
        rowArguments();
        full();
        bare();
        firstOfTwo();
        promise = 38;
        due("the years are told as they are there", hamlet().check(2), 0);
        due("every call with arguments was tried", NAMES.size(), 35);
        end("Refusals");
    }

    private static void chimneyArguments() {
        promise = 2;
        limits("chimney", ints(5, 3, 99, 99), range(0, 5), range(0, 3), range(0, 99), range(0, 99));
        promise = 3;
        limits("told", ints(0, 0), range(0, 6), range(0, 5));
        promise = 4;
        limits("as", ints(0, 0), range(0, 6));
        beyond("as", ints(0, 0), 1, 0, 5);
        refused("as", ints(0, 5), KIND);
        promise = 5;
        limits("turns", ints(0, 0), range(0, 6), range(0, 5));
        promise = 6;
        limits("set", ints(0, 1, 0), range(0, 6), range(1, 3), range(0, 3));
        limits("set", ints(0, 2, 0), range(0, 6), range(1, 3), range(0, 99));
        limits("set", ints(0, 3, 0), range(0, 6), range(1, 3), range(0, 99));
        promise = 12;
        limits("deal", ints(1), range(1, 8));
        promise = 13;
        limits("seed", ints(1), range(MIN, MAX));
    }

    private static void storkArguments() {
        promise = 7;
        limits("stork", ints(1, 0), range(1, 99), range(0, 6));
        limits("stork", ints(1, NONE), range(1, 99), range(NONE, NONE));
        promise = 8;
        limits("storkTold", ints(0, 0), range(0, 5), range(0, 3));
        promise = 9;
        limits("away", ints(0, 0), range(0, 5), range(0, 1));
        promise = 10;
        limits("likes", ints(0, 0), range(0, 5), range(0, 6));
        promise = 11;
        limits("rule", ints(0, 100), range(0, 2), range(0, 999));
        limits("rule", ints(1, 0), range(0, 2), range(0, 100));
        limits("rule", ints(2, 0), range(0, 2), range(0, 100));
    }

    private static void electionArguments() {
        promise = 14;
        limits("ward", ints(0, 0), range(0, 3), range(0, 1));
        promise = 16;
        limits("years", ints(1), range(1, 60));
        promise = 17;
        limits("frogs", ints(0, 0), range(0, 6), range(0, 3));
        promise = 18;
        limits("driven", ints(0), range(0, 3));
        promise = 19;
        limits("brings", ints(0), range(0, 6));
        promise = 20;
        limits("behind", ints(0, 0), range(0, 60), range(0, 2));
        promise = 21;
        sheets("rather", ints(0), 0);
    }

    private static void textArguments() {
        promise = 23;
        limits("feed", ints(1, 2, 3), range(MIN, MAX), range(MIN, MAX), range(MIN, MAX));
        promise = 24;
        limits("trim", ints(0), range(0, 9));
        promise = 26;
        limits("textTold", ints(0, 0), range(0, 2), range(0, 1));
        promise = 27;
        limits("why", ints(0), range(0, 2));
    }

    private static void sheetArguments() {
        promise = 28;
        for (int sort = 0; sort <= 1; sort++) {
            limits("sheet", ints(0, sort, 0), range(0, 3), range(-1, 1));
            accepted("sheet", ints(0, sort, 24));
            refused("sheet", ints(0, sort, 25), BAD);
            refused("sheet", ints(0, sort, MAX), BAD);
            refused("sheet", ints(0, sort, -1), SIZE);
            refused("sheet", ints(0, sort, MIN), SIZE);
        }
        limits("sheet", ints(0, -1, 0), range(0, 3), range(-1, 1), range(MIN, MAX));
        promise = 29;
        beyond("mark", ints(0, 0, 0), 0, 0, 3);
        refused("mark", ints(3, 0, 0), NOTHING);
        taken("mark", ints(0, 0, 0), 2, MIN, -32769, -32768, 32767, 32768, NONE - 1, NONE + 1, MAX);
        refused("mark", ints(0, 0, NONE), KIND);
        taken("mark", ints(1, 0, 0), 2, -99999, 99999, NONE);
        beyond("mark", ints(1, 0, 0), 2, -99999, 99999);
        beyond("mark", ints(1, 0, 0), 2, NONE, NONE);
        places("mark", ints(0, 0, 0), 1, 5);
        places("mark", ints(1, 0, 0), 1, 5);
        promise = 30;
        sheets("pour", ints(0), 0);
        promise = 31;
        sheets("reads", ints(0), 0);
        promise = 32;
        beyond("copy", ints(0, 0, 0, 0, 0), 0, 0, 3);
        beyond("copy", ints(0, 0, 0, 0, 0), 2, 0, 3);
        refused("copy", ints(3, 0, 0, 0, 0), NOTHING);
        refused("copy", ints(0, 0, 3, 0, 0), NOTHING);
        refused("copy", ints(0, 0, 1, 0, 0), KIND);
        places("copy", ints(0, 0, 0, 0, 1), 1, 5);
        places("copy", ints(0, 0, 0, 0, 1), 3, 5);
        places("copy", ints(1, 0, 1, 0, 0), 1, 6);
        places("copy", ints(1, 0, 1, 0, 0), 3, 6);
        places("copy", ints(1, 0, 1, 0, 0), 4, 6);
        places("copy", ints(1, 6, 1, 0, 0), 4, 0);
        places("copy", ints(1, 0, 1, 5, 0), 4, 1);
        places("copy", ints(2, 0, 2, 0, 0), 1, 0);
        places("copy", ints(2, 0, 0, 6, 0), 4, 0);
    }

    private static void slotArguments() {
        promise = 33;
        limits("lay", ints(0, 0, 0), range(0, 4), range(0, 3), range(MIN, MAX));
        limits("lay", ints(0, 1, 0), range(0, 4), range(0, 3), range(0, 6));
        limits("lay", ints(0, 3, 0), range(0, 4), range(0, 3), range(MIN, MAX));
        sheets("lay", ints(0, 2, 0), 2);
        promise = 34;
        beyond("ask", ints(1, 0), 0, 0, 4);
        beyond("ask", ints(1, 0), 1, 0, 5);
        taken("ask", ints(1, 0), 1, 0, 1);
        refused("ask", ints(1, 5), KIND);
        refused("ask", ints(0, 0), NOTHING);
        refused("ask", ints(2, 0), KIND);
        refused("ask", ints(3, 0), KIND);
        promise = 35;
        beyond("item", ints(4, 0), 0, 0, 4);
        places("item", ints(4, 0), 1, 5);
        places("item", ints(2, 1), 1, 5);
        refused("item", ints(0, 0), NOTHING);
        refused("item", ints(1, 0), KIND);
        refused("item", ints(3, 0), KIND);
        refused("item", ints(2, 0), KIND);
        promise = 36;
        beyond("rest", ints(3, 1), 0, 0, 4);
        taken("rest", ints(3, 0), 1, 1, -1, MIN, MAX);
        refused("rest", ints(3, 0), NO);
        refused("rest", ints(0, 1), NOTHING);
        refused("rest", ints(1, 1), KIND);
        refused("rest", ints(2, 1), KIND);
    }

    private static void rowArguments() {
        promise = 37;
        limits("tell", ints(1), range(MIN, MAX));
        promise = 38;
        limits("check", ints(1), range(1, 30));
        promise = 41;
        limits("count", ints(0), range(0, 11));
    }

    /** Where there is no room any more. */
    private static void full() {
        Made full = Refusals::crowded;
        promise = 2;
        refused(full, "chimney", ints(0, 0, 0, 0), FULL);
        promise = 7;
        refused(full, "stork", ints(1, 0), FULL);
        refused(full, "stork", ints(99, NONE), FULL);
        promise = 23;
        refused(full, "feed", ints(0, 0, 0), FULL);
        promise = 25;
        refused(full, "text", ints(), FULL);
        promise = 37;
        refused(full, "tell", ints(0), FULL);
        promise = 12;
        refused(full, "deal", ints(1), 0);
        refused(full, "deal", ints(8), 0);
    }

    /** Where there is nothing yet. */
    private static void bare() {
        Made bare = StorkVote::new;
        promise = 38;
        refused(bare, "check", ints(1), NO);
        refused(bare, "check", ints(30), NO);
        promise = 40;
        refused(bare, "back", ints(), NO);
        promise = 18;
        for (int ward = 0; ward < 4; ward++) {
            refused(bare, "driven", ints(ward), NONE);
        }
        promise = 27;
        for (int key = 0; key < 3; key++) {
            refused(bare, "why", ints(key), NONE);
        }
        for (String call : new String[] {"told", "as", "turns", "storkTold", "away", "likes", "frogs", "textTold"}) {
            refused(bare, call, ints(0, 0), BAD);
        }
        refused(bare, "set", ints(0, 1, 0), BAD);
        refused(bare, "stork", ints(1, 0), BAD);
        refused(bare, "brings", ints(0), BAD);
        refused(bare, "trim", ints(1), BAD);
        refused(bare, "lay", ints(0, 1, 0), BAD);
        for (int k = 0; k < 5; k++) {
            refused(bare, "ask", ints(k, 0), NOTHING);
            refused(bare, "item", ints(k, 0), NOTHING);
            refused(bare, "rest", ints(k, 0), NOTHING);
        }
        for (int k = 0; k < 4; k++) {
            refused(bare, "rather", ints(k), NOTHING);
            refused(bare, "mark", ints(k, 0, 0), NOTHING);
            refused(bare, "pour", ints(k), NOTHING);
            refused(bare, "reads", ints(k), NOTHING);
            refused(bare, "copy", ints(k, 0, k, 0, 0), NOTHING);
            refused(bare, "lay", ints(0, 2, k), NOTHING);
        }
        promise = 25;
        refused(bare, "text", ints(), -100);
    }

    /** Of several reasons the one that stands first with the call. */
    private static void firstOfTwo() {
        Made full = Refusals::crowded;
        promise = 2;
        refused(full, "chimney", ints(0, 0, 0, 100), BAD);
        promise = 4;
        refused("as", ints(7, 5), BAD);
        promise = 7;
        refused(full, "stork", ints(100, 0), BAD);
        refused(full, "stork", ints(1, 8), BAD);
        promise = 12;
        refused(full, "deal", ints(9), BAD);
        promise = 28;
        refused("sheet", ints(4, 0, -1), BAD);
        refused("sheet", ints(0, 2, -1), BAD);
        promise = 29;
        refused("mark", ints(4, 9, NONE), BAD);
        refused("mark", ints(3, 9, NONE), NOTHING);
        refused("mark", ints(0, 6, NONE), INDEX);
        refused("mark", ints(1, 6, 100000), INDEX);
        refused("mark", ints(2, 0, NONE), INDEX);
        promise = 32;
        refused("copy", ints(4, 0, 3, 0, 0), BAD);
        refused("copy", ints(3, 0, 4, 0, 0), BAD);
        refused("copy", ints(3, 9, 1, 9, -1), NOTHING);
        refused("copy", ints(1, 9, 3, 9, -1), NOTHING);
        refused("copy", ints(0, 9, 1, 9, -1), KIND);
        promise = 33;
        refused("lay", ints(5, 2, 3), BAD);
        promise = 34;
        refused("ask", ints(0, 6), BAD);
        refused("ask", ints(2, 6), BAD);
        promise = 35;
        refused("item", ints(0, -1), NOTHING);
        refused("item", ints(1, -1), KIND);
        promise = 36;
        refused("rest", ints(0, 0), NOTHING);
        refused("rest", ints(1, 0), KIND);
        promise = 38;
        refused(StorkVote::new, "check", ints(0), BAD);
        refused(StorkVote::new, "check", ints(31), BAD);
    }

    /** The least and the most of each argument are taken, what is beyond is BAD. */
    private static void limits(String name, int[] good, int[]... ranges) {
        for (int i = 0; i < ranges.length; i++) {
            taken(name, good, i, ranges[i]);
            beyond(name, good, i, ranges[i][0], ranges[i][1]);
        }
    }

    private static void taken(String name, int[] good, int argument, int... all) {
        for (int v : all) {
            accepted(name, with(good, argument, v));
        }
    }

    /** Right beyond and far beyond is BAD; NONE, where it is taken, and the limits of an int have no number beyond. */
    private static void beyond(String name, int[] good, int argument, int least, int most) {
        if (least > MIN) {
            refused(name, with(good, argument, least - 1), BAD);
            refused(name, with(good, argument, MIN), BAD);
        }
        if (most < MAX) {
            refused(name, with(good, argument, most + 1), BAD);
            refused(name, with(good, argument, MAX), BAD);
        }
    }

    /** Sheets 0 to 2 are there, 3 is missing, others are BAD. */
    private static void sheets(String name, int[] good, int argument) {
        taken(name, good, argument, 0, 1, 2);
        refused(name, with(good, argument, 3), NOTHING);
        beyond(name, good, argument, 0, 3);
    }

    /** A place is there from 0 to the last one; what is beyond is INDEX. */
    private static void places(String name, int[] good, int argument, int last) {
        accepted(name, with(good, argument, last));
        for (int wrong : ints(-1, last + 1, MIN, MAX)) {
            refused(name, with(good, argument, wrong), INDEX);
        }
    }

    private static void accepted(String name, int[] args) {
        int got = answer(hamlet(), name, args);
        boolean refusal = List.of(THREW, BAD, NO, FULL, NOTHING, KIND, INDEX, SIZE).contains(got);
        due(name + Arrays.toString(args) + " answered " + got + "; whether it is refused", refusal ? 1 : 0, 0);
    }

    private static void refused(String name, int[] args, int want) {
        refused(Refusals::hamlet, name, args, want);
    }

    private static void refused(Made made, String name, int[] args, int want) {
        StorkVote v = made.anew();
        String call = name + Arrays.toString(args);
        due(call, answer(v, name, args), want);
        if (name.equals("check")) {
            due("numbers that wait behind " + call, v.count(9), 0);
        }
        if (name.equals("text")) {
            due("the tape behind " + call, v.count(10), 0);
        }
        List<Integer> then = look(v, name);
        List<Integer> before = look(made.anew(), name);
        due("things told behind " + call, then.size(), before.size());
        for (int i = 0; i < then.size(); i++) {
            due("thing " + i + " told behind " + call, then.get(i), before.get(i));
        }
    }

    private static int answer(StorkVote v, String name, int[] args) {
        if (!NAMES.contains(name) && args.length > 0) {
            NAMES.add(name);
        }
        Class<?>[] types = new Class<?>[args.length];
        Arrays.fill(types, int.class);
        Object[] given = new Object[args.length];
        for (int i = 0; i < args.length; i++) {
            given[i] = args[i];
        }
        try {
            Method m = StorkVote.class.getMethod(name, types);
            return (int) m.invoke(v, given);
        } catch (ReflectiveOperationException e) {
            System.out.println(name + Arrays.toString(args) + ": " + e + " of " + e.getCause());
            return THREW;
        }
    }

    /** All that can be told, in fewer calls than an object may be used for; what is used up by the call is left out. */
    private static List<Integer> look(StorkVote v, String call) {
        List<Integer> all = new ArrayList<>();
        lookAtTheRest(v, all, call);
        lookAtPeople(v, all);
        for (int slot = 0; slot < 5; slot++) {
            all.add(v.ask(slot, 0));
            all.add(v.rest(slot, 1000003));
            for (int place = 0; place < 7; place++) {
                all.add(v.item(slot, place));
            }
        }
        for (int sheet = 0; sheet < 4; sheet++) {
            all.add(v.lay(0, 2, sheet));
            for (int place = 0; place < 7; place++) {
                all.add(v.item(0, place));
            }
        }
        if (!call.equals("check")) {
            all.add(v.check(2));
        }
        all.add(v.back());
        for (int what = 0; what < 9; what++) {
            all.add(v.count(what));
        }
        all.add(v.count(11));
        all.add(v.told(0, 0));
        all.add(v.told(0, 3));
        all.add(v.storkTold(3, 2));
        // Behind back(), since there is room for one more text then.
        if (!call.equals("text")) {
            all.add(v.text());
            all.add(v.fine());
        }
        return all;
    }

    private static void lookAtTheRest(StorkVote v, List<Integer> all, String call) {
        for (int what = 0; what < 12; what++) {
            if (!(call.equals("check") && what == 9) && !(call.equals("text") && what == 10)) {
                all.add(v.count(what));
            }
        }
        for (int key = 0; key < 3; key++) {
            all.add(v.why(key));
        }
        all.add(v.fine());
        for (int ward = 0; ward < 4; ward++) {
            all.add(v.ward(ward, 1));
        }
        for (int text = 0; text < 14; text++) {
            all.add(v.textTold(text, 0));
        }
    }

    private static void lookAtPeople(StorkVote v, List<Integer> all) {
        for (int chimney = 0; chimney < 8; chimney++) {
            for (int what = 0; what < 6; what++) {
                all.add(v.told(chimney, what));
            }
            all.add(v.likes(0, chimney));
        }
        for (int stork = 0; stork < 10; stork++) {
            for (int what = 0; what < 4; what++) {
                all.add(v.storkTold(stork, what));
            }
        }
    }

    /** Something of everything, seven chimneys and six storks, and room for more. */
    private static StorkVote hamlet() {
        StorkVote v = village();
        v.chimney(0, 3, 1, 1);
        v.stork(1, 6);
        v.away(3, 1);
        v.rule(0, 11);
        v.rule(1, 10);
        v.rule(2, 10);
        v.seed(77);
        law(v, "like w + f + h * 19");
        law(v, "seat 2 * n + w");
        law(v, "fine 100 * y + s");
        v.keep();
        v.tell(v.behind(1, 0));
        v.tell(v.behind(1, 1));
        v.tell(v.behind(2, 0));
        v.tell(v.behind(2, 1));
        v.turns(0, 1);
        v.set(0, 3, 31);
        v.seed(88);
        v.sheet(0, 0, 6);
        v.sheet(1, 1, 6);
        v.sheet(2, 0, 0);
        for (int i = 0; i < 6; i++) {
            v.mark(0, i, 5 - i);
            v.mark(1, i, i == 0 ? NONE : -i);
        }
        v.lay(1, 1, 0);
        v.lay(2, 2, 1);
        v.lay(3, 3, 1234567);
        v.lay(4, 2, 0);
        fed(v, "fine 7*11");
        return v;
    }

    /** As that one, but with no room for anything more. */
    private static StorkVote crowded() {
        StorkVote v = hamlet();
        v.deal(8);
        for (int i = 6; i < 10; i++) {
            v.stork(i, i % 8);
        }
        v.text();
        for (int i = 4; i < 14; i++) {
            law(v, "fine 20");
        }
        for (int i = 4; i < 60; i++) {
            v.tell(i);
        }
        StringBuilder tape = new StringBuilder("fine 1");
        while (tape.length() < 96) {
            tape.append("+2");
        }
        fed(v, tape.toString());
        return v;
    }

    private static int[] ints(int... row) {
        return row;
    }

    private static int[] range(int least, int most) {
        return new int[] {least, most};
    }

    private static int[] with(int[] good, int argument, int v) {
        int[] args = good.clone();
        args[argument] = v;
        return args;
    }
}
