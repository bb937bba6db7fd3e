/** The edges that the document names, promise by promise, each with its two sides: what just holds and what just does not. */
public final class Edges extends Due {
    // 8192 * 8192 * 32 is 2 to the 31st, which wraps to the least int.
    private static final String LEAST = "8192*8192*32";

    public static void main(String[] args) {
        nothingYet();
        worth();
        prideReached();
        whoIsKept();
        awayOnes();
        likesHeld();
        drawn();
        seatsHeld();
        electedOfSeveral();
        noRoomInTheYear();
        strongAsDrawn();
        lastYears();
        frogsThatTurn();
        drivenOnes();
        bringsSeats();
        behindTheLastYear();
        ratherAtTheEnds();
        ratherAsTold();
        lawsThatWrap();
        lawsOverPeople();
        tapeEnds();
        openAtOnce();
        textsThatAreFull();
        textsBehindBack();
        pourHeld();
        readsBeyond();
        wholeRows();
        things();
        rests();
        waiting();
        emptyImage();
        fullImage();
        manyCalls();
        end("Edges");
    }

    private static void nothingYet() {
        promise = 1;
        StorkVote v = new StorkVote();
        due("elected", v.elected(), 0);
        for (int ward = 0; ward < 4; ward++) {
            due("nests in " + ward, v.ward(ward, 0), 0);
            due("seats of " + ward, v.ward(ward, 1), 0);
        }
        for (int what = 0; what < 3; what++) {
            due("behind 60 years " + what, v.behind(60, what), 0);
        }
        due("fine", v.fine(), 0);
        due("nobody comes", v.years(60), 0);
        due("the years went by", v.count(3), 60);
        due("nobody drew", v.count(11), 1);
        v.sheet(0, 0, 24);
        due("nobody would rather", v.rather(0), NONE);
        due("no nests to read, but numbers", v.reads(0), 0);
    }

    private static void worth() {
        promise = 3;
        StorkVote v = new StorkVote();
        int[][] want = {{0, 0, 99, 99}, {0, 99, 99, 198}, {99, 99, 0, 0}, {0, 198, 198, 396}, {92, 92, -7, -7}, {2, 2, 2, 2}};
        int[][] warmFrogs = {{0, 0}, {0, 99}, {99, 0}, {99, 99}};
        v.chimney(0, 0, 0, 0);
        for (int kind = 0; kind < 6; kind++) {
            v.turns(0, kind);
            for (int i = 0; i < 4; i++) {
                v.set(0, 2, warmFrogs[i][0]);
                v.set(0, 3, warmFrogs[i][1]);
                due("worth of kind " + kind + ", " + i, v.told(0, 4), want[kind][i]);
                due("warm of kind " + kind, v.as(0, kind), warmFrogs[i][0]);
            }
        }
    }

    private static void prideReached() {
        promise = 8;
        StorkVote v = new StorkVote();
        v.chimney(0, 1, 0, 0);
        v.stork(1, NONE);
        v.rule(0, 0);
        due("0 is 0 or more", v.storkTold(0, 3), 0);
        v.rule(0, 1);
        due("0 is below 1", v.storkTold(0, 3), NONE);
        v.rule(0, 999);
        String[] laws = {"like 998", "like 999", "like 1000"};
        int[] nests = {NONE, 0, 0};
        for (int i = 0; i < 3; i++) {
            law(v, laws[i]);
            due("pride 999, " + laws[i], v.storkTold(0, 3), nests[i]);
        }
        v.turns(0, 1);
        law(v, "like 988");
        due("a tall one liked 998", v.storkTold(0, 3), NONE);
        law(v, "like 989");
        due("a tall one liked 999", v.storkTold(0, 3), 0);
    }

    private static void whoIsKept() {
        promise = 8;
        StorkVote rising = new StorkVote();
        StorkVote alike = new StorkVote();
        for (int i = 0; i < 8; i++) {
            rising.chimney(0, i % 4, 30, 30);
            alike.chimney(0, i % 4, 30, 30);
        }
        for (int i = 0; i < 10; i++) {
            rising.stork(90 + i, NONE);
            alike.stork(50, NONE);
        }
        for (int i = 0; i < 10; i++) {
            due("the strongest first " + i, rising.storkTold(i, 3), i < 2 ? NONE : 9 - i);
            due("the first of like ones " + i, alike.storkTold(i, 3), i < 8 ? i : NONE);
        }
        promise = 3;
        for (int i = 0; i < 8; i++) {
            due("who is in " + i, rising.told(i, 5), 9 - i);
        }
        promise = 41;
        due("all eight", rising.count(7), 8);

        promise = 8;
        StorkVote home = new StorkVote();
        home.chimney(0, 0, 20, 20);
        home.chimney(0, 1, 20, 40);
        home.stork(1, 0);
        home.stork(99, NONE);
        due("as much as home, and the least: home", home.storkTold(0, 3), 0);
        due("the strong one has the other", home.storkTold(1, 3), 1);
        home.set(0, 3, 60);
        due("the strong one goes there", home.storkTold(1, 3), 0);
        due("home does not help the weak", home.storkTold(0, 3), 1);
    }

    private static void awayOnes() {
        promise = 9;
        StorkVote v = village();
        int[] nests = {2, 1, 4, 5, 0};
        for (int i = 0; i < 5; i++) {
            v.away(i, 1);
            due("nest of one away " + i, v.storkTold(i, 3), NONE);
        }
        due("all are away", v.count(7), 0);
        due("nobody draws", v.years(1), 0);
        due("z", v.count(11), 1);
        for (int i = 0; i < 5; i++) {
            v.away(i, 0);
        }
        for (int i = 0; i < 5; i++) {
            due("back in its nest " + i, v.storkTold(i, 3), nests[i]);
        }
    }

    private static void likesHeld() {
        promise = 10;
        StorkVote v = new StorkVote();
        for (int kind = 0; kind < 6; kind++) {
            v.chimney(kind, 0, 7, 9);
            v.stork(1, kind);
        }
        String[] laws = {"like 998", "like 999", "like 1000", "like 1", "like 0", "like 0-1", "like " + LEAST, "like " + LEAST + "-1",
            "like 9999*9999*22", "like 9999*9999*43"};
        int[] held = {998, 999, 999, 1, 0, 0, 0, 999, 0, 999};
        for (int i = 0; i < laws.length; i++) {
            law(v, laws[i]);
            int[] want = {held[i], held[i] + 10, held[i] / 2, 2 * held[i] + 20, held[i] / 2 + 7, 9};
            for (int kind = 0; kind < 6; kind++) {
                due(laws[i] + " for kind " + kind, v.likes((kind + 1) % 6, kind), want[kind]);
                due(laws[i] + " at home in kind " + kind, v.likes(kind, kind), want[kind] + (kind == 5 ? 50 : 0));
            }
        }
        StorkVote most = new StorkVote();
        most.chimney(0, 0, 99, 99);
        most.chimney(5, 0, 0, 99);
        most.chimney(5, 0, 0, 0);
        most.stork(1, 0);
        most.stork(1, 1);
        due("all of it at home", most.likes(0, 0), 218);
        due("all of it elsewhere", most.likes(1, 0), 198);
        due("a ruin at home", most.likes(1, 1), 149);
        due("a ruin elsewhere", most.likes(0, 1), 99);
        due("a ruin without frogs", most.likes(0, 2), 0);
        law(most, "like h");
        due("h is 1", most.likes(0, 0), 1);
        due("h is 0", most.likes(1, 0), 0);
    }

    private static void drawn() {
        promise = 12;
        int[] least = {MAX, MAX, MAX, MAX};
        int[] most = {MIN, MIN, MIN, MIN};
        int[] rests = {6, 4, 60, 60};
        for (int seed : new int[] {0, 1, -1, MIN, MAX, 1 << 30, 77, -77}) {
            for (int more = 0; more < 25; more++) {
                StorkVote v = new StorkVote();
                v.seed(seed + more);
                int z = seed + more;
                due("all eight", v.deal(8), 8);
                for (int c = 0; c < 8; c++) {
                    for (int what = 0; what < 4; what++) {
                        z = z * 1103515245 + 12345;
                        int told = v.told(c, what);
                        due("drawn from " + (seed + more) + ": " + c + ", " + what, told, (z >>> 8) % rests[what]);
                        least[what] = Math.min(least[what], told);
                        most[what] = Math.max(most[what], told);
                    }
                }
                due("z", v.count(11), z);
            }
        }
        for (int what = 0; what < 4; what++) {
            due("the least " + what, least[what], 0);
            due("the most " + what, most[what], rests[what] - 1);
        }
    }

    private static void seatsHeld() {
        promise = 14;
        StorkVote v = village();
        String[] laws = {"seat 998", "seat 999", "seat 1000", "seat 1", "seat 0", "seat 0-1", "seat " + LEAST, "seat " + LEAST + "-1"};
        int[] want = {998, 999, 999, 1, 0, 0, 0, 999};
        for (int i = 0; i < laws.length; i++) {
            law(v, laws[i]);
            for (int ward = 0; ward < 4; ward++) {
                due(laws[i] + " of " + ward, v.ward(ward, 1), want[i]);
            }
            promise = 20;
            due(laws[i] + " of all wards", v.behind(0, 2), 4 * want[i]);
            promise = 14;
        }
        law(v, "seat 10*w+n");
        int[] both = {2, 11, 21, 31};
        for (int ward = 0; ward < 4; ward++) {
            due("n and w of " + ward, v.ward(ward, 1), both[ward]);
        }
    }

    private static void electedOfSeveral() {
        promise = 15;
        StorkVote v = new StorkVote();
        for (int ward = 3; ward >= 0; ward--) {
            v.chimney(0, ward, 50, 50);
        }
        int[] want = {3, 2, 1, 0};
        for (int i = 0; i < 4; i++) {
            v.stork(1, NONE);
            due("of " + (i + 1) + " with one nest", v.elected(), want[i]);
        }
        String[] laws = {"seat 999+w", "seat 998+w", "seat 997+w", "seat 996+w", "seat 0-w", "seat w-2", "seat w"};
        int[] by = {0, 1, 2, 3, 0, 3, 3};
        for (int i = 0; i < laws.length; i++) {
            law(v, laws[i]);
            due(laws[i], v.elected(), by[i]);
        }
    }

    private static void noRoomInTheYear() {
        promise = 16;
        StorkVote v = new StorkVote();
        for (int i = 0; i < 3; i++) {
            v.chimney(0, i, 50, 50 - i);
        }
        for (int i = 0; i < 9; i++) {
            v.stork(i < 3 ? 20 + i : 1, NONE);
        }
        v.rule(1, 100);
        v.rule(2, 0);
        due("room for one alone", v.years(1), 1);
        due("of the first by number, not the strongest", v.storkTold(9, 1), 2);
        due("nine draws and one more", v.count(11), behindDraws(1, 10));
        due("no draw for it this year", v.storkTold(9, 0), 1 + (behindDraws(1, 2) >>> 8) % 20);

        StorkVote away = new StorkVote();
        away.chimney(0, 0, 50, 50);
        for (int i = 0; i < 10; i++) {
            away.stork(1, NONE);
            away.away(i, i == 0 ? 0 : 1);
        }
        away.rule(1, 100);
        due("those that are away take room", away.years(1), 0);
        due("one draw", away.count(11), behindDraws(1, 1));
    }

    private static int behindDraws(int z, int draws) {
        for (int i = 0; i < draws; i++) {
            z = z * 1103515245 + 12345;
        }
        return z;
    }

    private static void strongAsDrawn() {
        promise = 16;
        int least = MAX;
        int most = MIN;
        for (int seed = -100; seed < 100; seed++) {
            StorkVote v = new StorkVote();
            v.chimney(0, 0, 50, 50);
            v.stork(99, NONE);
            v.rule(1, 100);
            v.seed(seed);
            due("one comes", v.years(1), 1);
            int strong = v.storkTold(1, 0);
            due("strong from " + seed, strong, 1 + (behindDraws(seed, 2) >>> 8) % 20);
            least = Math.min(least, strong);
            most = Math.max(most, strong);
        }
        due("the least", least, 1);
        due("the most", most, 20);
    }

    private static void lastYears() {
        promise = 16;
        StorkVote v = new StorkVote();
        v.chimney(0, 3, 50, 50);
        v.stork(1, NONE);
        v.rule(1, 0);
        for (int i = 0; i < 16; i++) {
            v.years(60);
        }
        int z = v.count(11);
        v.years(38);
        due("998", v.count(3), 998);
        due("one draw each year", v.count(11), behindDraws(z, 38));
        v.years(2);
        due("no more than 999", v.count(3), 999);
        due("one year alone", v.count(11), behindDraws(z, 39));
        promise = 22;
        law(v, "fine y");
        due("the last year", v.fine(), 999);
        promise = 40;
        v.keep();
        due("years at the end", v.years(1), 0);
        v.back();
        due("the year of the image", v.count(3), 999);
    }

    private static void frogsThatTurn() {
        promise = 17;
        StorkVote v = new StorkVote();
        v.chimney(0, 1, 0, 0);
        v.chimney(0, 2, 99, 0);
        v.stork(1, NONE);
        due("all that there can be", v.frogs(0, 1), 99);
        v.set(1, 3, 1);
        due("one too few", v.frogs(0, 1), NONE);
        v.set(0, 3, 98);
        v.set(1, 3, 0);
        due("the last one", v.frogs(0, 1), 1);
        v.set(0, 3, 99);
        due("none can come, none must", v.frogs(0, 1), 0);
        due("none can come", v.frogs(0, 2), NONE);
        v.set(0, 3, 0);
        v.set(1, 1, 0);
        v.set(1, 2, 0);
        v.rule(0, 99);
        due("up to pride", v.frogs(0, 1), 99);
        due("nobody is 0 already", v.frogs(0, 0), 0);
        v.rule(0, 100);
        due("not up to pride", v.frogs(0, 1), NONE);
        due("frogs stay", v.told(0, 3), 0);
        StorkVote none = new StorkVote();
        none.chimney(0, 3, 0, 0);
        due("nobody there: 0", none.frogs(0, 0), 0);
        due("nobody there: 3", none.frogs(0, 3), NONE);
    }

    private static void drivenOnes() {
        promise = 18;
        StorkVote v = new StorkVote();
        v.chimney(0, 1, 25, 25);
        v.rule(0, 60);
        for (int i = 0; i < 10; i++) {
            v.stork(1, i == 9 ? 0 : NONE);
        }
        due("the last one", v.driven(0), 9);
        due("any of them", v.driven(1), 0);
        due("without any of them", v.driven(2), NONE);
        v.away(9, 1);
        due("away already", v.driven(1), NONE);
        due("away already", v.driven(0), 0);
    }

    private static void bringsSeats() {
        promise = 19;
        StorkVote v = new StorkVote();
        v.chimney(0, 2, 50, 50);
        v.chimney(0, 2, 40, 40);
        v.chimney(0, 3, 30, 30);
        v.stork(1, NONE);
        due("it goes next door in the ward", v.brings(0), 0);
        v.set(1, 1, 3);
        due("it leaves the ward", v.brings(0), 1);
        due("nobody there", v.brings(1), 0);
        v.stork(2, NONE);
        v.stork(3, NONE);
        due("all are there", v.brings(2), 1);
        due("all are there", v.brings(0), 1);
        law(v, "seat 999*n");
        due("many", v.brings(0), 999);
        law(v, "seat 999*(1-n)");
        due("few", v.brings(0), -999);
        due("none of two", v.brings(1), 0);
    }

    private static void behindTheLastYear() {
        promise = 20;
        StorkVote v = new StorkVote();
        for (int i = 0; i < 17; i++) {
            v.years(60);
        }
        v.chimney(0, 3, 50, 50);
        v.stork(1, NONE);
        v.rule(1, 100);
        v.rule(2, 0);
        due("none come at 999", v.years(1), 0);
        int[] want = {1, 2, 3, 4, 5, 6, 7, 8, 9, 10, 10};
        for (int n = 0; n < want.length; n++) {
            due("storks behind " + n, v.behind(n, 1), want[n]);
        }
        due("storks behind 60", v.behind(60, 1), 10);
        due("elected behind 60", v.behind(60, 0), 3);
        due("seats behind 60", v.behind(60, 2), 1);
        due("the year stays", v.count(3), 999);
        due("z stays", v.count(11), 1);
        due("storks stay", v.count(1), 1);
    }

    private static void ratherAtTheEnds() {
        promise = 21;
        StorkVote v = new StorkVote();
        for (int i = 0; i < 8; i++) {
            v.chimney(0, 0, 5, 5);
        }
        v.sheet(0, 0, 24);
        for (int i = 0; i < 10; i++) {
            v.stork(1, NONE);
            v.mark(0, i, i < 7 ? i : -1);
        }
        due("the first without a nest", v.rather(0), 77);
        v.away(7, 1);
        v.away(8, 1);
        due("the last stork, the last chimney", v.rather(0), 97);
        v.mark(0, 9, 7);
        due("as much liked", v.rather(0), NONE);
        v.mark(0, 9, 8);
        due("no such chimney", v.rather(0), 97);
        v.rule(0, 11);
        due("not wanted", v.rather(0), NONE);
        v.rule(0, 10);
        due("just wanted", v.rather(0), 97);
        v.set(7, 3, 0);
        v.set(7, 2, 0);
        due("liked 0", v.rather(0), NONE);
        v.rule(0, 0);
        due("0 is 0 or more", v.rather(0), 97);
    }

    private static void ratherAsTold() {
        promise = 21;
        StorkVote v = new StorkVote();
        v.chimney(0, 0, 10, 10);
        v.chimney(0, 0, 10, 11);
        v.stork(5, NONE);
        v.sheet(1, 1, 3);
        v.mark(1, 0, 1);
        v.mark(1, 1, 0);
        v.mark(1, 2, 0);
        due("has the best", v.rather(1), NONE);
        v.mark(1, 0, -1);
        v.mark(1, 1, 1);
        due("places of no storks have no nests", v.rather(1), 0);
        v.mark(1, 0, 0);
        due("one more frog", v.rather(1), 1);
        v.stork(5, NONE);
        v.mark(1, 1, 1);
        due("of like ones the lesser number would be kept", v.rather(1), 1);
        v.mark(1, 0, 1);
        v.mark(1, 1, 0);
        due("and would not be turned off", v.rather(1), NONE);
        v.mark(1, 1, 1);
        due("an earlier place told it: the second has none", v.rather(1), 10);
        v.away(0, 1);
        due("the place of one away did not tell it", v.rather(1), NONE);
        v.mark(1, 1, 0);
        due("nobody is where one away was told", v.rather(1), 11);
        v.rule(0, 22);
        due("greater, but not wanted", v.rather(1), NONE);
        v.mark(1, 1, NONE);
        due("none, and not wanted", v.rather(1), NONE);
        v.rule(0, 21);
        due("none, and just wanted", v.rather(1), 11);
        v.sheet(1, 0, 0);
        due("without places", v.rather(1), 11);
    }

    private static void lawsThatWrap() {
        promise = 22;
        String[] laws = {LEAST, LEAST + "-1", LEAST + "-1+1", "0-" + LEAST, LEAST + "*2", "(" + LEAST + ")*(" + LEAST + "-1)",
            "(" + LEAST + ")/(0-1)", "(" + LEAST + "-1)/(0-1)", LEAST + "<0", LEAST + "-1>0", "(" + LEAST + ")<(" + LEAST + "-1)", "7/(0-2)", "(0-7)/(0-2)", "(0-7)/2",
            "(0-1)/2", "0/7", "(0-7)/0", "0-7/0", "0-1&1", "0-1|0", "!(0-1)", "!!(0-1)", "!(0-1)+1", "(0|7)+1", "(7|0)*5", "(5&7)+1",
            "(1<2)+1", "(0|0)+1", "(1|0&0)+1", "0|1&0", "((0|7)&8)+1", "1=1=1", "0000", "0001", "9999", "10/4*4", "4*10/4", "10-4+4", "2*3+4*5-6/2",
            "1+2<4&4>1+2", "3=1+2|0", "!1=0", "!0*5", "!(0*5)", "0<1&1<0|1"};
        int[] want = {MIN, MAX, MIN, MIN, 0, MIN, MIN, -MAX, 1, 1, 1, -3, 3, -3,
            0, 0, 0, 0, 1, 1, 0, 1, 1, 2, 5, 2,
            2, 1, 2, 0, 2, NONE, 0, 1, 9999, 8, 10, 10, 23,
            1, 1, 1, 5, 1, 1};
        due("as many answers as laws", want.length, laws.length);
        for (int i = 0; i < laws.length; i++) {
            StorkVote v = new StorkVote();
            int text = law(v, "fine " + laws[i]);
            due(laws[i] + " is a law", text, want[i] == NONE ? -108 : 0);
            due(laws[i], v.fine(), want[i] == NONE ? 0 : want[i]);
        }
    }

    private static void lawsOverPeople() {
        promise = 22;
        StorkVote v = new StorkVote();
        law(v, "fine s");
        due("no storks", v.fine(), 0);
        for (int i = 0; i < 10; i++) {
            v.stork(1, NONE);
        }
        due("ten", v.fine(), 10);
        v.away(9, 1);
        due("nine are not away", v.fine(), 9);
        law(v, "fine y");
        due("the first year", v.fine(), 0);
        v.years(1);
        due("the next", v.fine(), 1);
        law(v, "like 77");
        law(v, "seat 88");
        due("of its own key alone", v.fine(), 1);
    }

    private static void tapeEnds() {
        promise = 25;
        StorkVote v = new StorkVote();
        StringBuilder tape = new StringBuilder("fine  1");
        while (tape.length() < 95) {
            tape.append("+1");
        }
        due("ends in a name", law(v, tape.toString()), 0);
        due("ends with a sign at 96", law(v, tape + "+"), -196);
        due("ends with a digit at 96", law(v, tape + "1"), 1);
        due("eleven and others", v.fine(), 44 + 11);
        due("ends with a letter at 96", law(v, tape + "s"), -195);
        due("a letter at 96", law(v, tape.substring(0, 93) + "+ s"), 2);
        due("44 and nobody", v.fine(), 44);
        due("blanks at the end", law(v, "fine 5" + " ".repeat(90)), 3);
        due("blanks ahead", law(v, " ".repeat(90) + "fine 5"), 4);
        due("blanks ahead of what is not there", law(v, " ".repeat(91) + "fine "), -196);
        due("blanks alone", law(v, " ".repeat(96)), -196);
        due("a key alone", law(v, " ".repeat(92) + "seat"), -196);
        promise = 26;
        due("45 numbers", v.textTold(0, 1), 45);
        due("one number", v.textTold(3, 1), 1);

        promise = 24;
        v.feed(0x66696e65, 0x20737373, 0x73737373);
        v.trim(6);
        due("letters behind those kept do not count", v.text(), 5);
        v.feed(0x66696e65, 0x20353535, 0x35353535);
        v.trim(6);
        due("digits behind those kept do not count", v.text(), 6);
        due("5", v.fine(), 5);
        v.feed(0x66696e65, 0x20202020, 0x20202020);
        v.trim(4);
        due("up to the key", v.text(), -104);
        v.feed(0x66696e65, 0x20202020, 0x20202020);
        v.trim(3);
        due("into the key", v.text(), -100);
        v.feed(0x66696e65, 0x20202020, 0x20202020);
        v.trim(0);
        due("to nothing", v.text(), -100);
    }

    /** Eight may be open, the ninth may not; ( and ! are counted each by itself. */
    private static void openAtOnce() {
        promise = 25;
        String open = "((((((((";
        String close = "))))))))";
        String not = "!!!!!!!!";
        String[] laws = {open + "1" + close, "(" + open + "1" + close + ")", not + "1", "!" + not + "1", not + open + "1" + close,
            open + not + "1" + close, open + not + "(", open + not + "!", not + "(!1)", not + "(1)+!1", "(" + not + "1)+!1",
            open + "1" + close + "+" + open + "1" + close, not + "1+" + not + "1", open + "1)+(1)+(1)+((1))", open + "1)+(1)", "!(!(!(!(!(!(!(!(1))))))))",
            "!(!(!(!(!(!(!(!(!", "!(!(!(!(!(!(!(!((", "! ! ! ! ! ! ! ! 0", "( ( ( ( ( ( ( ( 0"};
        int[] want = {0, -113, 0, -113, 0,
            0, -121, -121, -114, 0, 0,
            0, 0, -125, -119, 0,
            -121, -121, 0, -122};
        due("as many answers as laws", want.length, laws.length);
        for (int i = 0; i < laws.length; i++) {
            due(laws[i], law(new StorkVote(), "fine " + laws[i]), want[i]);
        }
        StorkVote v = new StorkVote();
        String[] broken = {"fine !!!!!!!!", "fine ((((((((", "fine 1<2", "fine (1<2", "fine 1|", "fine !(", "fine !!!!!!!!!"};
        for (String b : broken) {
            law(v, b);
            law(v, "fine 5");
            due("nothing is left of " + b, v.fine(), 5);
        }
    }

    private static void textsThatAreFull() {
        promise = 25;
        StorkVote v = new StorkVote();
        law(v, "fine 0");
        v.keep();
        for (int i = 1; i < 14; i++) {
            due("text " + i, law(v, "fine " + i), i);
        }
        due("the fifteenth", law(v, "fine 14"), FULL);
        due("a fault stands first", law(v, "fine"), -104);
        promise = 26;
        due("the last", v.textTold(13, 1), 1);
        due("behind the last", v.textTold(14, 1), BAD);
        promise = 27;
        due("the last counts", v.why(2), 13);
        v.keep();
        promise = 22;
        due("it counts", v.fine(), 13);
        promise = 40;
        v.back();
        due("fourteen in the image", v.count(8), 14);
        due("none of them is lost", v.fine(), 13);
    }

    private static void textsBehindBack() {
        promise = 26;
        StorkVote v = new StorkVote();
        law(v, "fine 1");
        v.keep();
        law(v, "like 2");
        law(v, "fine 3");
        v.back();
        due("the one of the image", v.textTold(0, 0), 2);
        due("gone", v.textTold(1, 0), BAD);
        due("gone", v.textTold(2, 1), BAD);
        promise = 27;
        due("no like any more", v.why(0), NONE);
        due("the first fine again", v.why(2), 0);
        promise = 25;
        due("room again", law(v, "seat 4"), 1);
        promise = 26;
        due("the new one", v.textTold(1, 0), 1);
    }

    private static void pourHeld() {
        promise = 30;
        StorkVote v = new StorkVote();
        for (int i = 0; i < 8; i++) {
            v.chimney(0, 0, 0, 50);
        }
        int[] marks = {-32768, -1, 0, 1, 98, 99, 100, 32767};
        int[] want = {0, 0, 0, 1, 98, 99, 99, 99};
        v.sheet(0, 0, 8);
        v.sheet(1, 1, 8);
        for (int i = 0; i < 8; i++) {
            v.mark(0, i, marks[i]);
            v.mark(1, i, marks[i] * 3);
        }
        due("all are otherwise", v.pour(0), 8);
        for (int i = 0; i < 8; i++) {
            due("from " + marks[i], v.told(i, 3), want[i]);
        }
        due("two are otherwise", v.pour(1), 2);
        int[] three = {0, 0, 0, 3, 99, 99, 99, 99};
        for (int i = 0; i < 8; i++) {
            due("from three times " + marks[i], v.told(i, 3), three[i]);
        }
        v.sheet(2, 1, 1);
        v.mark(2, 0, 0);
        due("as they were", v.pour(2), 0);
        v.mark(2, 0, 1);
        due("the first alone", v.pour(2), 1);
        due("the second stays", v.told(1, 3), 0);
        v.sheet(2, 1, 0);
        due("no places", v.pour(2), 0);
        due("the first stays", v.told(0, 3), 1);
    }

    private static void readsBeyond() {
        promise = 31;
        StorkVote v = new StorkVote();
        v.chimney(0, 0, 30, 30);
        for (int i = 0; i < 10; i++) {
            v.stork(1, NONE);
        }
        for (int sort = 0; sort <= 1; sort++) {
            v.sheet(0, sort, 10);
            for (int i = 1; i < 10; i++) {
                v.mark(0, i, -1);
            }
            due("ten nests", v.reads(0), NONE);
            v.mark(0, 9, -2);
            due("-2 is not none", v.reads(0), 9);
            v.mark(0, 0, -1);
            due("one with a nest is not without", v.reads(0), 0);
        }
        v.sheet(0, 0, 11);
        for (int i = 1; i < 11; i++) {
            v.mark(0, i, -1);
        }
        due("no such stork: -1 is not, too", v.reads(0), 10);
        v.sheet(1, 1, 24);
        for (int i = 0; i < 23; i++) {
            v.mark(1, i, NONE);
        }
        due("the last place alone", v.reads(1), 23);
        v.mark(1, 23, NONE);
        due("no numbers at all", v.reads(1), NONE);
        v.away(0, 1);
        v.mark(1, 0, 0);
        v.mark(1, 1, 0);
        due("one away has none", v.reads(1), 0);
        v.mark(1, 0, -1);
        due("-1: none; the next has the nest", v.reads(1), NONE);
    }

    private static void wholeRows() {
        promise = 32;
        StorkVote v = new StorkVote();
        for (int sort = 0; sort <= 1; sort++) {
            v.sheet(0, sort, 24);
            v.sheet(1, sort, 24);
            for (int i = 0; i < 24; i++) {
                v.mark(0, i, i - 12);
            }
            due("a whole row", v.copy(0, 0, 1, 0, 24), 24);
            due("onto itself", v.copy(0, 0, 0, 0, 24), 24);
            due("the last place", v.copy(0, 23, 1, 0, 1), 1);
            due("none behind it", v.copy(0, 24, 1, 24, 0), 0);
            due("one behind it", v.copy(0, 24, 1, 0, 1), INDEX);
            due("one behind it", v.copy(0, 0, 1, 24, 1), INDEX);
            due("one more than all", v.copy(0, 0, 1, 0, 25), INDEX);
            due("further", v.copy(0, 25, 1, 0, 0), INDEX);
            due("further", v.copy(0, 0, 1, 25, 0), INDEX);
            v.lay(0, 2, 1);
            for (int i = 0; i < 24; i++) {
                due("place " + i, v.item(0, i), i == 0 ? 11 : i - 12);
            }
        }
        promise = 28;
        due("of another length, all 0", v.sheet(0, 1, 3), 3);
        v.lay(0, 2, 0);
        due("0", v.item(0, 0), 0);
        due("0", v.item(0, 2), 0);
        promise = 35;
        due("behind it", v.item(0, 3), INDEX);
        v.sheet(0, 1, 0);
        v.lay(0, 2, 0);
        due("no places", v.item(0, 0), INDEX);
    }

    private static void things() {
        promise = 33;
        StorkVote v = village();
        v.sheet(0, 0, 1);
        int[][] lays = {{0, 0}, {1, 0}, {2, 0}, {3, 0}};
        for (int slot = 0; slot < 5; slot++) {
            int held = 0;
            for (int from = 0; from < 4; from++) {
                for (int to = 0; to < 4; to++) {
                    due("it held", v.lay(slot, from, lays[from][1]), held);
                    due("it holds", v.lay(slot, to, lays[to][1]), from);
                    held = to;
                }
            }
        }
        v.lay(0, 1, 3);
        v.turns(3, 0);
        v.set(3, 2, 99);
        promise = 34;
        due("by its own kind, as it was", v.ask(0, 0), 20);
        due("a spire as it was", v.ask(0, 3), 20);
        StorkVote gone = new StorkVote();
        gone.keep();
        gone.chimney(0, 0, 42, 0);
        gone.sheet(0, 0, 1);
        gone.mark(0, 0, 5);
        gone.lay(0, 1, 0);
        gone.lay(1, 2, 0);
        gone.back();
        due("for good, though no such chimney is there", gone.ask(0, 0), 42);
        promise = 35;
        due("a row of its own", gone.item(1, 0), 5);
    }

    private static void rests() {
        promise = 36;
        StorkVote v = new StorkVote();
        int[] numbers = {0, 1, -1, 7, -7, MIN, MAX, NONE, BAD};
        int[] by = {1, -1, 2, -2, MIN, MAX, NONE};
        for (int number : numbers) {
            v.lay(2, 3, number);
            for (int n : by) {
                due("the rest of " + number + " by " + n, v.rest(2, n), (int) ((long) number - (long) n * ((long) number / n)));
            }
            due("by 0", v.rest(2, 0), NO);
        }
    }

    private static void waiting() {
        promise = 37;
        StorkVote v = new StorkVote();
        v.keep();
        for (int round = 0; round < 3; round++) {
            for (int i = 1; i <= 60; i++) {
                due("number " + i, v.tell(0), i);
            }
            due("the sixty-first", v.tell(0), FULL);
            promise = 38;
            due("thirty years of nobody", v.check(30), 0);
            due("none wait", v.count(9), 0);
            promise = 37;
        }
        promise = 38;
        for (int i = 1; i <= 60; i++) {
            v.tell(0);
        }
        due("sixty for 29 years", v.check(29), 59);
        for (int i = 1; i <= 59; i++) {
            v.tell(0);
        }
        due("59 for 30 years", v.check(30), 60);
        due("none for 30 years", v.check(30), 1);
        v.tell(0);
        due("one for one year", v.check(1), 2);
        v.tell(0);
        v.tell(0);
        v.tell(0);
        due("three for one year", v.check(1), 3);
    }

    private static void emptyImage() {
        promise = 40;
        StorkVote v = new StorkVote();
        due("of nothing", v.keep(), 0);
        for (int round = 0; round < 3; round++) {
            due("dealt", v.deal(8), 8);
            due("one stork", v.stork(99, 7), 0);
            v.rule(0, 0);
            v.years(60);
            law(v, "seat 5");
            due("back to nothing", v.back(), 0);
            due("no such chimney", v.told(0, 0), BAD);
            due("no such stork", v.storkTold(0, 0), BAD);
            due("no nests", v.count(7), 0);
            due("no year", v.count(3), 0);
            due("pride", v.count(4), 10);
            due("z", v.count(11), 1);
            due("no seats", v.ward(3, 1), 0);
            due("elected", v.elected(), 0);
            due("behind", v.behind(60, 2), 0);
        }
    }

    private static void fullImage() {
        promise = 40;
        StorkVote v = new StorkVote();
        for (int i = 0; i < 8; i++) {
            v.chimney(i % 6, i % 4, 90 + i, i);
        }
        for (int i = 0; i < 10; i++) {
            v.stork(i + 1, i % 8);
        }
        for (int i = 0; i < 14; i++) {
            law(v, i == 7 ? "like w" : "fine " + i);
        }
        v.away(9, 1);
        due("eight", v.keep(), 8);
        for (int i = 0; i < 8; i++) {
            v.set(i, 2, 0);
            v.turns(i, 5);
        }
        for (int i = 0; i < 10; i++) {
            v.away(i, 1);
        }
        due("eight again", v.back(), 8);
        for (int i = 0; i < 8; i++) {
            due("kind " + i, v.told(i, 0), i % 6);
            due("warm " + i, v.told(i, 2), 90 + i);
        }
        for (int i = 0; i < 10; i++) {
            due("away " + i, v.storkTold(i, 2), i == 9 ? 1 : 0);
            due("strong " + i, v.storkTold(i, 0), i + 1);
        }
        promise = 41;
        // Seven nests: nobody is left who WANTS the ruin, which is liked for its five frogs alone.
        int[] want = {8, 10, 9, 0, 10, 30, 20, 7, 14, 0, 0, 1};
        for (int what = 0; what < 12; what++) {
            due("count " + what, v.count(what), want[what]);
        }
        promise = 27;
        due("like", v.why(0), 7);
        due("fine", v.why(2), 13);
    }

    /** An object may be used for 512 calls, the dearest, too; each answers as the first one. */
    private static void manyCalls() {
        promise = 20;
        StorkVote v = new StorkVote();
        v.deal(8);
        for (int i = 0; i < 10; i++) {
            v.stork(99 - i, i % 8);
        }
        law(v, "like (w+f*2-3)*(h+1)/2+(w<f)*(w|f&h)+((((((((w))))))))-!!!!!!!!f+w*f/9-w-f-w");
        v.keep();
        int[] first = dearest(v);
        for (int i = 0; i < 75; i++) {
            int[] again = dearest(v);
            for (int k = 0; k < first.length; k++) {
                due("dear call " + k + " again", again[k], first[k]);
            }
        }
    }

    private static int[] dearest(StorkVote v) {
        return new int[] {v.behind(60, 2), v.frogs(7, 3), v.driven(3), v.brings(7), v.check(30), v.count(7)};
    }
}
