/** Each promise by hand: ordinary inputs, the edges that the document names, wrong inputs. */
public final class Promises extends Due {
    public static void main(String[] args) {
        newObject();
        chimney();
        told();
        as();
        turns();
        set();
        stork();
        storkTold();
        away();
        likes();
        rule();
        deal();
        seed();
        ward();
        elected();
        years();
        frogs();
        driven();
        brings();
        behind();
        rather();
        fine();
        feed();
        trim();
        text();
        faults();
        textTold();
        why();
        sheet();
        mark();
        pour();
        reads();
        copy();
        lay();
        ask();
        item();
        rest();
        tell();
        check();
        keep();
        back();
        count();
        end("Promises");
    }

    private static void newObject() {
        promise = 1;
        StorkVote v = new StorkVote();
        int[] want = {0, 0, 0, 0, 10, 30, 20, 0, 0, 0, 0, 1};
        for (int i = 0; i < want.length; i++) {
            due("count " + i, v.count(i), want[i]);
        }
        due("no image", v.back(), NO);
        due("no sheet", v.reads(3), NOTHING);
        due("no slot", v.rest(4, 1), NOTHING);
        due("no law", v.why(0), NONE);
    }

    private static void chimney() {
        promise = 2;
        StorkVote v = new StorkVote();
        int[][] bad = {{-1, 0, 0, 0}, {6, 0, 0, 0}, {0, -1, 0, 0}, {0, 4, 0, 0}, {0, 0, -1, 0}, {0, 0, 100, 0},
            {0, 0, 0, -1}, {0, 0, 0, 100}, {MIN, 0, 0, 0}, {0, MAX, 0, 0}, {0, 0, MIN, 0}, {0, 0, 0, MAX}};
        for (int[] b : bad) {
            due("bad chimney", v.chimney(b[0], b[1], b[2], b[3]), BAD);
        }
        due("none came", v.count(0), 0);
        for (int i = 0; i < 8; i++) {
            due("chimney " + i, v.chimney(i % 6, i % 4, 99 * (i % 2), 99 * (i / 4)), i);
        }
        due("ninth", v.chimney(0, 0, 0, 0), FULL);
        due("bad stands first", v.chimney(6, 0, 0, 0), BAD);
        due("eight", v.count(0), 8);
        due("last one", v.told(7, 3), 99);
    }

    private static void told() {
        promise = 3;
        StorkVote v = village();
        int[][] want = {{0, 0, 20, 30, 20, 4}, {1, 1, 10, 30, 40, 1}, {2, 2, 60, 20, 39, 0},
            {3, 1, 5, 5, 20, NONE}, {4, 3, 30, 40, 62, 2}, {5, 0, 9, 25, 2, 3}};
        for (int i = 0; i < want.length; i++) {
            for (int what = 0; what < 6; what++) {
                due("told(" + i + ", " + what + ")", v.told(i, what), want[i][what]);
            }
        }
        due("what 6", v.told(0, 6), BAD);
        due("what -1", v.told(0, -1), BAD);
        due("chimney 6", v.told(6, 0), BAD);
        due("chimney -1", v.told(-1, 0), BAD);
        due("chimney MIN", v.told(MIN, 5), BAD);
        v.turns(2, 4);
        due("a forge is worth 7 less", v.told(2, 4), 32);
        v.set(2, 2, 99);
        due("below 0", v.told(2, 4), -7);
    }

    private static void as() {
        promise = 4;
        StorkVote v = village();
        int[][] fits = {{1, 0, 0, 0, 0, 0}, {1, 1, 0, 0, 0, 0}, {1, 0, 1, 0, 0, 0},
            {1, 1, 0, 1, 0, 0}, {1, 0, 1, 0, 1, 0}, {1, 0, 0, 0, 0, 1}};
        int[] warm = {20, 10, 60, 5, 30, 9};
        for (int i = 0; i < 6; i++) {
            for (int kind = 0; kind < 6; kind++) {
                due("as(" + i + ", " + kind + ")", v.as(i, kind), fits[i][kind] == 1 ? warm[i] : KIND);
            }
        }
        due("kind 6", v.as(0, 6), BAD);
        due("kind -1", v.as(0, -1), BAD);
        due("chimney 6", v.as(6, 0), BAD);
        due("chimney -1", v.as(-1, 0), BAD);
    }

    private static void turns() {
        promise = 5;
        StorkVote v = village();
        due("to the same", v.turns(4, 4), 4);
        due("to a ruin", v.turns(4, 5), 4);
        due("is a ruin", v.told(4, 0), 5);
        due("no smoky one", v.as(4, 2), KIND);
        due("worth of a ruin", v.told(4, 4), 2);
        due("likes of a ruin", v.likes(0, 4), 40);
        due("kind 6", v.turns(4, 6), BAD);
        due("kind -1", v.turns(4, -1), BAD);
        due("chimney 6", v.turns(6, 0), BAD);
        due("chimney -1", v.turns(-1, 0), BAD);
        due("still a ruin", v.turns(4, 0), 5);
    }

    private static void set() {
        promise = 6;
        StorkVote v = village();
        due("ward", v.set(0, 1, 3), 0);
        due("warm", v.set(0, 2, 99), 20);
        due("frogs", v.set(0, 3, 0), 30);
        due("ward is", v.told(0, 1), 3);
        due("warm is", v.told(0, 2), 99);
        due("frogs are", v.told(0, 3), 0);
        due("kind is not set", v.set(0, 0, 1), BAD);
        due("what 4", v.set(0, 4, 1), BAD);
        due("ward 4", v.set(0, 1, 4), BAD);
        due("ward -1", v.set(0, 1, -1), BAD);
        due("warm 100", v.set(0, 2, 100), BAD);
        due("warm -1", v.set(0, 2, -1), BAD);
        due("frogs 100", v.set(0, 3, 100), BAD);
        due("frogs -1", v.set(0, 3, -1), BAD);
        due("chimney 6", v.set(6, 1, 0), BAD);
        due("chimney -1", v.set(-1, 1, 0), BAD);
        due("as it was", v.set(0, 2, 0), 99);
    }

    private static void stork() {
        promise = 7;
        StorkVote v = new StorkVote();
        due("home without chimneys", v.stork(1, 0), BAD);
        v.chimney(0, 0, 0, 0);
        due("strong 0", v.stork(0, 0), BAD);
        due("strong 100", v.stork(100, 0), BAD);
        due("home 1", v.stork(1, 1), BAD);
        due("home -1", v.stork(1, -1), BAD);
        due("home BAD", v.stork(1, BAD), BAD);
        for (int i = 0; i < 10; i++) {
            due("stork " + i, v.stork(i == 0 ? 1 : 99, i % 2 == 0 ? 0 : NONE), i);
        }
        due("eleventh", v.stork(1, 0), FULL);
        due("bad stands first", v.stork(0, 0), BAD);
        due("ten", v.count(1), 10);
    }

    private static void storkTold() {
        promise = 8;
        StorkVote v = village();
        int[][] want = {{5, NONE, 0, 2}, {9, 1, 0, 1}, {9, NONE, 0, 4}, {2, 5, 0, 5}, {7, NONE, 0, 0}};
        for (int i = 0; i < want.length; i++) {
            for (int what = 0; what < 4; what++) {
                due("storkTold(" + i + ", " + what + ")", v.storkTold(i, what), want[i][what]);
            }
        }
        v.away(2, 1);
        due("away", v.storkTold(2, 2), 1);
        due("no nest", v.storkTold(2, 3), NONE);
        due("the next one there", v.storkTold(4, 3), 4);
        due("what 4", v.storkTold(0, 4), BAD);
        due("what -1", v.storkTold(0, -1), BAD);
        due("stork 5", v.storkTold(5, 0), BAD);
        due("stork -1", v.storkTold(-1, 0), BAD);

        StorkVote like = new StorkVote();
        like.chimney(0, 0, 10, 10);
        like.stork(50, NONE);
        like.stork(50, 0);
        due("of like ones the lesser number", like.storkTold(0, 3), 0);
        due("the other has none", like.storkTold(1, 3), NONE);
        like.chimney(0, 1, 20, 0);
        like.stork(60, NONE);
        due("of like chimneys the least", like.storkTold(2, 3), 0);
        due("turned off, to the next", like.storkTold(0, 3), 1);
        like.rule(0, 20);
        due("pride reached", like.storkTold(0, 3), 1);
        like.rule(0, 21);
        due("pride not reached", like.storkTold(0, 3), NONE);
        due("home is liked more", like.storkTold(1, 3), 0);

        StorkVote home = new StorkVote();
        home.chimney(0, 0, 20, 20);
        home.chimney(0, 1, 10, 10);
        home.stork(1, 1);
        due("home as much as told, no more", home.storkTold(0, 3), 0);
        home.set(0, 2, 19);
        due("home just before the other", home.storkTold(0, 3), 1);
    }

    private static void away() {
        promise = 9;
        StorkVote v = village();
        due("goes", v.away(1, 1), 0);
        due("is away", v.away(1, 1), 1);
        due("four are left", v.count(2), 4);
        due("comes", v.away(1, 0), 1);
        due("v 2", v.away(1, 2), BAD);
        due("v -1", v.away(1, -1), BAD);
        due("stork 5", v.away(5, 1), BAD);
        due("stork -1", v.away(-1, 1), BAD);
        due("not away", v.storkTold(1, 2), 0);
    }

    private static void likes() {
        promise = 10;
        StorkVote v = village();
        int[][] want = {{50, 50, 40, 40, 65, 25}, {50, 70, 40, 40, 65, 25}, {50, 50, 40, 40, 65, 75}};
        for (int c = 0; c < 6; c++) {
            due("stork 0, chimney " + c, v.likes(0, c), want[0][c]);
            due("stork 1, chimney " + c, v.likes(1, c), want[1][c]);
            due("stork 3, chimney " + c, v.likes(3, c), want[2][c]);
        }
        v.stork(1, 3);
        v.stork(1, 2);
        v.stork(1, 4);
        v.stork(1, 0);
        due("home in a spire", v.likes(5, 3), 80);
        due("home in a smoky one", v.likes(6, 2), 50);
        due("home in a forge", v.likes(7, 4), 75);
        due("home in a plain one", v.likes(8, 0), 70);
        v.set(2, 3, 21);
        due("half is cut", v.likes(0, 2), 40);
        v.away(0, 1);
        due("of one that is away", v.likes(0, 0), 50);
        due("chimney 6", v.likes(0, 6), BAD);
        due("chimney -1", v.likes(0, -1), BAD);
        due("stork 9", v.likes(9, 0), BAD);
        due("stork -1", v.likes(-1, 0), BAD);

        due("law", law(v, "like w*100"), 0);
        due("held at 999", v.likes(0, 0), 999);
        due("tall above it", v.likes(0, 1), 1009);
        due("spire", v.likes(0, 3), 1020);
        due("smoky", v.likes(0, 2), 499);
        due("forge", v.likes(0, 4), 529);
        due("ruin is its own", v.likes(3, 5), 75);
        due("law", law(v, "like 0-w"), 1);
        due("held at 0", v.likes(0, 0), 0);
        due("tall from 0", v.likes(0, 1), 10);
        due("law", law(v, "like h*100+f"), 2);
        due("h at home", v.likes(8, 0), 130);
        due("h elsewhere", v.likes(0, 0), 30);
    }

    private static void rule() {
        promise = 11;
        StorkVote v = village();
        due("pride", v.rule(0, 999), 10);
        due("brood", v.rule(1, 100), 30);
        due("loss", v.rule(2, 100), 20);
        due("pride again", v.rule(0, 0), 999);
        due("brood again", v.rule(1, 0), 100);
        due("loss again", v.rule(2, 0), 100);
        due("pride 1000", v.rule(0, 1000), BAD);
        due("pride -1", v.rule(0, -1), BAD);
        due("brood 101", v.rule(1, 101), BAD);
        due("brood -1", v.rule(1, -1), BAD);
        due("loss 101", v.rule(2, 101), BAD);
        due("loss -1", v.rule(2, -1), BAD);
        due("what 3", v.rule(3, 0), BAD);
        due("what -1", v.rule(-1, 0), BAD);
        v.rule(0, 51);
        due("only tall home, forge and ruin home", v.count(7), 3);
    }

    private static void deal() {
        promise = 12;
        StorkVote v = new StorkVote();
        due("0", v.deal(0), BAD);
        due("9", v.deal(9), BAD);
        due("MIN", v.deal(MIN), BAD);
        v.seed(5);
        due("4", v.deal(4), 4);
        due("kind", v.told(0, 0), 2);
        due("ward", v.told(1, 1), 0);
        due("warm", v.told(2, 2), 55);
        due("frogs", v.told(3, 3), 24);
        due("sixteen draws", v.count(11), 1113191541);
        due("room for four", v.deal(8), 4);
        int z = v.count(11);
        due("no room", v.deal(8), 0);
        due("no draws", v.count(11), z);
        due("9 in a full one", v.deal(9), BAD);

        StorkVote w = new StorkVote();
        w.seed(5);
        for (int i = 0; i < 6; i++) {
            w.deal(1);
        }
        w.chimney(0, 0, 0, 0);
        z = w.count(11);
        due("room for one", w.deal(8), 1);
        for (int i = 0; i < 4; i++) {
            z = z * 1103515245 + 12345;
        }
        due("four draws alone", w.count(11), z);
    }

    private static void seed() {
        promise = 13;
        StorkVote v = new StorkVote();
        due("first", v.seed(MIN), 1);
        due("then", v.seed(MAX), MIN);
        due("then", v.seed(-1), MAX);
        due("is", v.count(11), -1);
        v.deal(1);
        int z = -1 * 1103515245 + 12345;
        due("a draw is without a sign", v.told(0, 0), (z >>> 8) % 6);
    }

    private static void ward() {
        promise = 14;
        StorkVote v = village();
        int[] nests = {2, 1, 1, 1};
        for (int i = 0; i < 4; i++) {
            due("nests in " + i, v.ward(i, 0), nests[i]);
            due("seats of " + i, v.ward(i, 1), nests[i]);
        }
        due("law", law(v, "seat n*10+w"), 0);
        due("by law", v.ward(3, 1), 13);
        due("nests stay", v.ward(3, 0), 1);
        law(v, "seat n*1000");
        due("held at 999", v.ward(0, 1), 999);
        law(v, "seat w-2");
        due("held at 0", v.ward(0, 1), 0);
        due("ward 4", v.ward(4, 0), BAD);
        due("ward -1", v.ward(-1, 0), BAD);
        due("what 2", v.ward(0, 2), BAD);
        due("what -1", v.ward(0, -1), BAD);
    }

    private static void elected() {
        promise = 15;
        StorkVote v = new StorkVote();
        due("nobody", v.elected(), 0);
        v.chimney(0, 3, 10, 10);
        v.chimney(0, 2, 20, 20);
        v.stork(1, NONE);
        due("one nest", v.elected(), 2);
        v.stork(1, NONE);
        due("of like ones the least", v.elected(), 2);
        v.set(1, 1, 3);
        due("two there", v.elected(), 3);
        law(v, "seat 5 - n");
        due("the empty ones", v.elected(), 0);
        law(v, "seat w");
        due("the last", v.elected(), 3);
        law(v, "seat n");
        v.set(0, 3, 0);
        v.set(0, 2, 0);
        v.set(1, 1, 1);
        due("as it is by now", v.elected(), 1);
        v.away(0, 1);
        v.away(1, 1);
        due("nobody is there any more", v.elected(), 0);
    }

    private static void years() {
        promise = 16;
        StorkVote v = village();
        due("0", v.years(0), BAD);
        due("61", v.years(61), BAD);
        due("-1", v.years(-1), BAD);
        due("nothing came of it", v.count(3), 0);
        v.rule(1, 100);
        v.rule(2, 0);
        due("each nest has one", v.years(1), 5);
        due("a year more", v.count(3), 1);
        due("ten", v.count(1), 10);
        int z = 1;
        for (int i = 0; i < 5; i++) {
            z = z * 1103515245 + 12345;
            z = z * 1103515245 + 12345;
            due("strong", v.storkTold(5 + i, 0), 1 + (z >>> 8) % 20);
        }
        due("z", v.count(11), z);
        int[] homes = {2, 1, 4, 5, 0};
        for (int i = 0; i < 5; i++) {
            due("hatched at", v.storkTold(5 + i, 1), homes[i]);
        }
        due("no room", v.years(1), 0);
        for (int i = 0; i < 10; i++) {
            z = z * 1103515245 + 12345;
        }
        due("one draw each", v.count(11), z);
        v.rule(1, 0);
        v.rule(2, 100);
        due("none come", v.years(1), 0);
        due("who has no nest is away", v.count(2), 6);
        for (int i = 0; i < 10; i++) {
            z = z * 1103515245 + 12345;
        }
        due("one draw each", v.count(11), z);
        v.years(1);
        for (int i = 0; i < 6; i++) {
            z = z * 1103515245 + 12345;
        }
        due("no draws for those away", v.count(11), z);
        for (int i = 0; i < 16; i++) {
            v.years(60);
        }
        due("nearly the last", v.count(3), 964);
        v.years(60);
        due("the last", v.count(3), 999);
        z = v.count(11);
        due("no more", v.years(60), 0);
        due("no draws", v.count(11), z);
        due("the last still", v.count(3), 999);
        chances();
    }

    /** A draw that is just not below BROOD or LOSS, and one that just is. */
    private static void chances() {
        for (int z = 0; z < 400; z++) {
            int x = (z * 1103515245 + 12345 >>> 8) % 100;
            for (int more = 0; more <= 1; more++) {
                StorkVote v = new StorkVote();
                v.seed(z);
                v.rule(1, x + more);
                v.rule(2, x + more);
                v.stork(1, NONE);
                due("none come", v.years(1), 0);
                due("away at " + (x + more), v.storkTold(0, 2), more);
                v.chimney(0, 0, 50, 50);
                v.away(0, 0);
                v.seed(z);
                due("come at " + (x + more), v.years(1), more);
                due("stays", v.storkTold(0, 2), 0);
            }
        }
    }

    private static void frogs() {
        promise = 17;
        StorkVote v = new StorkVote();
        v.chimney(0, 1, 10, 30);
        v.chimney(0, 2, 10, 20);
        v.stork(5, NONE);
        due("already", v.frogs(0, 1), 0);
        due("of like ones the least", v.frogs(1, 2), 11);
        due("nothing turned", v.told(1, 3), 20);
        due("never", v.frogs(1, 3), NONE);
        v.set(0, 3, 99);
        due("up to 99 alone", v.frogs(1, 2), NONE);
        v.set(0, 3, 98);
        due("up to 99 just so", v.frogs(1, 2), 79);
        v.set(1, 3, 99);
        due("none more, and there", v.frogs(1, 2), 0);
        due("none more, not there", v.frogs(1, 1), NONE);
        due("chimney 2", v.frogs(2, 0), BAD);
        due("chimney -1", v.frogs(-1, 0), BAD);
        due("ward 4", v.frogs(0, 4), BAD);
        due("ward -1", v.frogs(0, -1), BAD);
        law(v, "like 500 - f");
        due("as the law is", v.frogs(1, 1), 0);
        due("alike at 99", v.frogs(0, 2), NONE);
        v.set(1, 3, 90);
        due("more frogs, less liked", v.frogs(1, 1), 8);
    }

    private static void driven() {
        promise = 18;
        StorkVote v = new StorkVote();
        due("nobody", v.driven(0), NONE);
        v.chimney(0, 1, 10, 30);
        v.chimney(0, 2, 10, 40);
        v.chimney(5, 2, 10, 20);
        v.stork(1, NONE);
        v.stork(9, NONE);
        v.stork(5, NONE);
        due("as it is", v.elected(), 2);
        due("without any of them", v.driven(2), NONE);
        due("the one", v.driven(1), 0);
        due("never", v.driven(3), NONE);
        due("all are there", v.count(2), 3);
        v.away(0, 1);
        due("one that is away, too", v.driven(1), 0);
        due("of two the least", v.driven(2), 1);
        v.away(0, 0);
        v.stork(1, NONE);
        due("another one takes its nest", v.driven(2), 0);
        v.set(1, 1, 3);
        v.set(1, 3, 0);
        v.set(1, 2, 1);
        due("as it is by now", v.driven(3), NONE);
        v.set(1, 2, 99);
        due("as it is by now", v.driven(3), NONE);
        v.set(0, 1, 0);
        v.set(2, 1, 3);
        v.set(1, 1, 1);
        v.turns(0, 5);
        due("as it is by now", v.driven(1), NONE);
        v.set(0, 1, 1);
        due("as it is by now", v.driven(1), 0);

        StorkVote two = new StorkVote();
        two.chimney(0, 1, 10, 40);
        two.chimney(0, 2, 10, 50);
        two.stork(1, NONE);
        two.stork(9, NONE);
        due("one each", two.elected(), 1);
        two.set(0, 2, 99);
        due("by what they like now", two.driven(1), 0);
        due("by what they like now", two.driven(2), NONE);
        due("back as they were", v.count(2), 4);
        due("ward 4", v.driven(4), BAD);
        due("ward -1", v.driven(-1), BAD);
    }

    private static void brings() {
        promise = 19;
        StorkVote v = village();
        int[] want = {1, 0, 1, 0, 1, 1};
        for (int i = 0; i < 6; i++) {
            due("chimney " + i, v.brings(i), want[i]);
        }
        due("chimney 6", v.brings(6), BAD);
        due("chimney -1", v.brings(-1), BAD);
        law(v, "seat 9-n");
        due("it can take", v.brings(0), -1);
        due("all as ahead", v.count(7), 5);
    }

    private static void behind() {
        promise = 20;
        StorkVote v = village();
        due("-1", v.behind(-1, 0), BAD);
        due("61", v.behind(61, 0), BAD);
        due("what 3", v.behind(0, 3), BAD);
        due("what -1", v.behind(0, -1), BAD);
        due("now: elected", v.behind(0, 0), 0);
        due("now: storks", v.behind(0, 1), 5);
        due("now: seats", v.behind(0, 2), 5);
        v.rule(1, 60);
        v.rule(2, 60);
        int[] elected = new int[61];
        int[] here = new int[61];
        int[] seats = new int[61];
        for (int n = 0; n <= 60; n++) {
            elected[n] = v.behind(n, 0);
            here[n] = v.behind(n, 1);
            seats[n] = v.behind(n, 2);
        }
        due("no year went by", v.count(3), 0);
        due("no draws", v.count(11), 1);
        for (int n = 0; n <= 60; n++) {
            due("elected behind " + n, v.elected(), elected[n]);
            due("storks behind " + n, v.count(2), here[n]);
            due("seats behind " + n, v.count(7), seats[n]);
            v.years(1);
        }
        StorkVote old = village();
        for (int i = 0; i < 17; i++) {
            old.years(60);
        }
        old.chimney(0, 3, 99, 99);
        old.chimney(0, 3, 99, 99);
        old.away(0, 0);
        old.away(1, 0);
        old.rule(0, 999);
        old.rule(2, 100);
        due("at the last year", old.count(3), 999);
        due("beyond the last year", old.behind(1, 1), 0);
    }

    private static void rather() {
        promise = 21;
        StorkVote v = new StorkVote();
        v.chimney(0, 0, 20, 30);
        v.chimney(0, 1, 20, 40);
        v.stork(5, NONE);
        v.stork(9, NONE);
        due("missing", v.rather(0), NOTHING);
        due("sheet 4", v.rather(4), BAD);
        due("sheet -1", v.rather(-1), BAD);
        v.sheet(0, 0, 4);
        v.mark(0, 0, 1);
        due("the stronger would have it", v.rather(0), 11);
        v.mark(0, 0, 0);
        v.mark(0, 1, 1);
        due("nobody", v.rather(0), NONE);
        v.mark(0, 1, 0);
        due("told by an earlier place; an empty one", v.rather(0), 1);
        v.mark(0, 0, 1);
        v.mark(0, 1, 1);
        due("the second has none", v.rather(0), 10);
        v.mark(0, 0, 2);
        due("no such chimney", v.rather(0), 0);
        v.rule(0, 60);
        due("not wanted", v.rather(0), NONE);
        v.mark(0, 1, 0);
        due("wanted, and empty", v.rather(0), 1);
        v.rule(0, 61);
        due("neither wanted", v.rather(0), NONE);
        v.rule(0, 0);
        v.away(0, 1);
        v.mark(0, 0, 1);
        v.mark(0, 1, 1);
        due("those away tell none", v.rather(0), NONE);
        v.away(0, 0);
        v.sheet(1, 1, 2);
        v.mark(1, 0, NONE);
        v.mark(1, 1, 1);
        due("no number", v.rather(1), 0);
        v.sheet(2, 0, 1);
        v.mark(2, 0, 1);
        due("beyond the sheet", v.rather(2), 10);
        v.sheet(3, 0, 0);
        due("an empty sheet", v.rather(3), 0);

        StorkVote like = new StorkVote();
        like.chimney(0, 0, 30, 30);
        like.chimney(0, 1, 10, 10);
        like.stork(5, NONE);
        like.stork(5, NONE);
        like.sheet(0, 0, 2);
        like.mark(0, 1, 1);
        due("of like ones the lesser keeps", like.rather(0), NONE);
        like.mark(0, 0, 1);
        like.mark(0, 1, 0);
        due("and would be kept", like.rather(0), 0);
        like.set(1, 2, 50);
        due("like well, no more", like.rather(0), NONE);
    }

    private static void fine() {
        promise = 22;
        StorkVote v = village();
        due("no law", v.fine(), 0);
        law(v, "fine y * 100 + s");
        due("storks", v.fine(), 5);
        v.rule(1, 0);
        v.rule(2, 0);
        v.years(3);
        v.away(0, 1);
        due("years, storks", v.fine(), 304);
        law(v, "fine 0 - 9999 * 9999");
        due("not held", v.fine(), -99980001);
        law(v, "fine 9999*9999*99");
        due("wraps", v.fine(), 9999 * 9999 * 99);
        String[] laws = {"7/2", "(0-7)/2", "7/0", "0/0", "7-2-1", "100/5/2", "2+3*4", "(2+3)*4", "!0", "!5", "!!5",
            "!0+1", "!0*7", "!(1=2)", "1<2", "2<1", "2>1", "1>2", "1=1", "1=2", "5&7", "5&0", "0|7", "0|0", "1|0&0",
            "0&0|1", "1<2&2<1", "1<2|2<1", "1+1=2", "2=1+1", "(1<2)<3", "0007", "9999", "3 * ( 1 < 2 ) + !s",
            "1|1/0", "0&1/0|3", "1<1", "1>1", "1&1", "1&5", "5&1", "0&1", "1&0", "5|0", "0|1", "1|1", "0-1<0", "0-1>0", "!!!!!!!!1", "((((((((7))))))))"};
        int[] want = {3, -3, 0, 0, 4, 10, 14, 20, 1, 0, 1, 2, 7, 1, 1, 0, 1, 0, 1, 0, 1, 0, 1, 0, 1, 1, 0, 1, 1, 1, 1,
            7, 9999, 3, 1, 1, 0, 0, 1, 1, 1, 0, 0, 1, 1, 1, 1, 0, 1, 7};
        for (int i = 0; i < laws.length; i++) {
            if (i % 11 == 0) {
                v = village();
            }
            law(v, "fine " + laws[i]);
            due(laws[i], v.fine(), want[i]);
        }
        v = new StorkVote();
        law(v, "fine (0-9999*9999*21-4748*9999-7685)/(0-1)");
        int least = 0 - 9999 * 9999 * 21 - 4748 * 9999 - 7685;
        due("by -1", v.fine(), -least);
        law(v, "fine (8192*8192*32)/(0-1)");
        due("the least int by -1", v.fine(), MIN);
    }

    private static void feed() {
        promise = 23;
        StorkVote v = new StorkVote();
        for (int i = 1; i <= 8; i++) {
            due("feed " + i, v.feed(i, -i, MIN), 12 * i);
        }
        due("97th", v.feed(0, 0, 0), FULL);
        due("96 stay", v.count(10), 96);
        v.trim(85);
        due("97", v.feed(0, 0, 0), FULL);
        v.trim(84);
        due("96", v.feed(0, 0, 0), 96);
        v.trim(0);
        v.feed(0x66696e65, 0x20373320, 0x2b203420);
        v.text();
        due("the highest byte first", v.fine(), 77);
        v.feed(0x66696e65, 0x2037fe20, 0);
        due("bytes above 127 are signs", v.text(), -106);
        v.feed(0x66696e65, 0x203700ff, 0);
        due("byte 0 is a sign", v.text(), -106);
        v.feed(-1, 0, 0);
        due("byte 255", v.text(), -100);
    }

    private static void trim() {
        promise = 24;
        StorkVote v = new StorkVote();
        due("0 of 0", v.trim(0), 0);
        due("1 of 0", v.trim(1), BAD);
        v.feed(0x66696e65, 0x20373320, 0x2b203420);
        due("13 of 12", v.trim(13), BAD);
        due("-1", v.trim(-1), BAD);
        due("12 stay", v.count(10), 12);
        due("12 of 12", v.trim(12), 12);
        due("7", v.trim(7), 7);
        due("8 of 7", v.trim(8), BAD);
        due("7 stay", v.count(10), 7);
        v.text();
        due("cut", v.fine(), 73);
        v.feed(0x66696e65, 0x20373320, 0x2b203420);
        v.trim(6);
        v.feed(0x20202020, 0x20202020, 0x20202031);
        due("bytes come behind those kept", v.text(), -117);
    }

    private static void text() {
        promise = 25;
        StorkVote v = new StorkVote();
        for (int i = 0; i < 13; i++) {
            due("law " + i, law(v, "fine " + i), i);
        }
        due("a fault takes no number", law(v, "fine +"), -105);
        due("the tape is used up", v.count(10), 0);
        due("the fourteenth", law(v, "fine 13"), 13);
        due("the fifteenth", law(v, "fine 14"), FULL);
        due("the tape is used up", v.count(10), 0);
        due("a fault stands first", law(v, "fine 15 )"), -108);
        due("it counts still", v.fine(), 13);
        due("nothing on the tape", v.text(), -100);
        v = new StorkVote();
        due("blanks", law(v, "   seat   n*( w  +1 )   "), 0);
        due("no blank behind the key", law(v, "like(w)"), 1);
        due("no blank behind the key", law(v, "like!w"), 2);
        StringBuilder whole = new StringBuilder("fine 1");
        while (whole.length() < 96) {
            whole.append("+1");
        }
        due("96 bytes", law(v, whole.toString()), 3);
        due("all of them", v.fine(), 46);
        due("nothing waits", law(v, "fine !0+!0+!0+!0+!0+!0+!0+!0+!0+!0"), 4);
        due("! is closed by its piece", v.fine(), 10);
        due("many ( one behind another", law(v, "fine (1)+(1)+(1)+(1)+(1)+(1)+(1)+(1)+(1)+(1)"), 5);
        due("( is closed by )", v.fine(), 10);
        due("each by itself", law(v, "fine !(!(!(!(!(!(!(!(1))))))))"), 6);
        due("eight and eight", v.fine(), 1);
        due("in both sides", law(v, "fine 1<2&2<3|3<4&4<5"), 7);
        due("a test in brackets", law(v, "fine (1<2)=(3<4)"), 8);
        due("it holds", v.fine(), 1);
        String[] broken = {"fine 1 + ((((((((", "fine !!!!!!!!", "fine 1 < (2 < ", "fine 1 < 2 <", "fine", "seat n |", "fine 5)"};
        v = new StorkVote();
        for (int i = 0; i < broken.length; i++) {
            due("broken", law(v, broken[i]) <= -100 ? 1 : 0, 1);
            due("nothing is left of it", law(v, "fine !(1<2)+((((((((4)))))))) * !!!!!!!0 = 4"), i);
            due("it gives", v.fine(), 1);
        }
    }

    private static void faults() {
        promise = 25;
        String[] laws = {"", " ", "bike w", "feat n", "mine y", "lik", "likes w", "Like w", "5", "like", "like ", "like5", "like12345", "likew", "likez", "likea", "like`", "like{", "like0", "like9", "like/",
            "like n", "like y", "like s", "seat f", "seat h", "seat y", "fine w", "fine n", "fine h", "fine f",
            "like ww", "like w w", "like w5", "like 5w", "like 5 5", "like 12345", "like 1234 ", "like w+", "like w+ ",
            "like +w", "like -1", "like (", "like ()", "like (w", "like (w ", "like w)", "like (w))", "like w(",
            "like w!", "like !", "like !)", "like 1<2<3", "like 1<2=3", "like 1<(2<3)<4", "like (1<2<3)", "like 1<2&3<4<5",
            "like 1<(2)<3", "like w%2", "like w==w", "like w<=w", "like w&&w", "like w||w", "like like", "like w like",
            "like ((((((((( w", "like !!!!!!!!! w", "like !(!(!(!(!(!(!(!(!w", "like ((((((((w+(", "like\tw", "like w\n",
            "like w*/w", "like w W", "like w 12345", "(like w)", "like 1<2+(3<4<5)", "seat n.", "fine s , y"};
        int[] places = {0, 1, 0, 0, 0, 0, 0, 0, 0, 4, 5, 4, 4, 0, 0, 0, 4, 4, 4, 4, 4,
            5, 5, 5, 5, 5, 5, 5, 5, 5, 5,
            5, 7, 6, 6, 7, 5, NONE, 7, 8,
            5, 5, 6, 6, 7, 8, 6, 8, 6,
            6, 6, 6, 8, 8, 12, 9, 12,
            10, 6, 7, 7, 7, 7, 5, 7,
            13, 13, 21, 15, 4, 6,
            7, 7, 7, 0, 13, 6, 7};
        due("as many places as laws", places.length, laws.length);
        for (int i = 0; i < laws.length; i++) {
            StorkVote v = new StorkVote();
            due("\"" + laws[i] + "\"", law(v, laws[i]), places[i] == NONE ? 0 : -100 - places[i]);
            due("kept of it", v.count(8), places[i] == NONE ? 1 : 0);
        }
    }

    private static void textTold() {
        promise = 26;
        StorkVote v = new StorkVote();
        due("none there", v.textTold(0, 0), BAD);
        law(v, "like w + f*h - 12");
        law(v, "seat 7");
        law(v, "fine !(y & s) | 3 < 4 * y");
        due("like", v.textTold(0, 0), 0);
        due("seat", v.textTold(1, 0), 1);
        due("fine", v.textTold(2, 0), 2);
        due("four", v.textTold(0, 1), 4);
        due("one", v.textTold(1, 1), 1);
        due("five", v.textTold(2, 1), 5);
        due("text 3", v.textTold(3, 0), BAD);
        due("text -1", v.textTold(-1, 0), BAD);
        due("what 2", v.textTold(0, 2), BAD);
        due("what -1", v.textTold(0, -1), BAD);
    }

    private static void why() {
        promise = 27;
        StorkVote v = new StorkVote();
        due("like", v.why(0), NONE);
        due("seat", v.why(1), NONE);
        due("fine", v.why(2), NONE);
        due("key 3", v.why(3), BAD);
        due("key -1", v.why(-1), BAD);
        law(v, "fine 1");
        law(v, "seat 2");
        law(v, "fine 3");
        law(v, "fine 4 +");
        due("like", v.why(0), NONE);
        due("seat", v.why(1), 1);
        due("the last told", v.why(2), 2);
        due("it counts", v.fine(), 3);
    }

    private static void sheet() {
        promise = 28;
        StorkVote v = new StorkVote();
        due("24 shorts", v.sheet(0, 0, 24), 24);
        due("24 floats", v.sheet(3, 1, 24), 24);
        due("the last place", v.mark(3, 23, 7), 1);
        due("anew", v.sheet(3, 1, 24), 24);
        v.lay(0, 2, 3);
        due("all 0", v.item(0, 23), 0);
        due("none", v.sheet(0, 0, 0), 0);
        due("no place", v.mark(0, 0, 0), INDEX);
        due("25", v.sheet(0, 0, 25), BAD);
        due("-1", v.sheet(0, 0, -1), SIZE);
        due("MIN", v.sheet(0, 1, MIN), SIZE);
        due("MAX", v.sheet(0, 1, MAX), BAD);
        due("sort 2", v.sheet(0, 2, 1), BAD);
        due("sort -2", v.sheet(0, -2, 1), BAD);
        due("bad stands first", v.sheet(4, 0, -1), BAD);
        due("sheet 4", v.sheet(4, -1, 1), BAD);
        due("sheet -1", v.sheet(-1, 0, 1), BAD);
        due("still there", v.mark(3, 0, 7), 1);
        due("missing, n any", v.sheet(3, -1, 25), 0);
        due("is missing", v.mark(3, 0, 7), NOTHING);
        due("missing, n any", v.sheet(3, -1, -5), 0);
    }

    private static void mark() {
        promise = 29;
        StorkVote v = new StorkVote();
        v.sheet(0, 0, 3);
        v.sheet(1, 1, 3);
        int[] marks = {0, 32767, 32768, -32768, -32769, 65535, 65536, MIN, MAX, 99999, -1000000004};
        for (int m : marks) {
            due("short " + m, v.mark(0, 1, m), 1);
            v.lay(0, 2, 0);
            due("its lowest bits " + m, v.item(0, 1), (short) m);
        }
        due("none of shorts", v.mark(0, 1, NONE), KIND);
        due("float", v.mark(1, 2, 99999), 1);
        due("float", v.mark(1, 1, -99999), 1);
        due("no number", v.mark(1, 0, NONE), 1);
        v.lay(0, 2, 1);
        due("no number", v.item(0, 0), KIND);
        due("least", v.item(0, 1), -99999);
        due("most", v.item(0, 2), 99999);
        due("a number again", v.mark(1, 0, -3), 1);
        v.lay(0, 2, 1);
        due("is it", v.item(0, 0), -3);
        due("too great", v.mark(1, 0, 100000), BAD);
        due("too small", v.mark(1, 0, -100000), BAD);
        due("BAD is no number either", v.mark(1, 0, BAD), BAD);
        due("place 3", v.mark(1, 3, 100000), INDEX);
        due("place -1", v.mark(0, -1, NONE), INDEX);
        due("missing", v.mark(2, 9, NONE), NOTHING);
        due("sheet 4", v.mark(4, 0, 0), BAD);
        due("sheet -1", v.mark(-1, 0, 0), BAD);
    }

    private static void pour() {
        promise = 30;
        StorkVote v = village();
        v.sheet(0, 0, 24);
        v.mark(0, 0, 30);
        v.mark(0, 1, -5);
        v.mark(0, 2, 100);
        v.mark(0, 3, 99);
        v.mark(0, 4, 40);
        v.mark(0, 5, 26);
        v.mark(0, 6, 50);
        due("four change", v.pour(0), 4);
        v.sheet(3, 1, 1);
        v.mark(3, 0, 31);
        due("the first one, by the last sheet", v.pour(3), 1);
        v.mark(3, 0, 30);
        due("and again", v.pour(3), 1);
        int[] want = {30, 0, 99, 99, 40, 26};
        for (int i = 0; i < 6; i++) {
            due("frogs at " + i, v.told(i, 3), want[i]);
        }
        due("again", v.pour(0), 0);
        v.sheet(1, 1, 3);
        v.mark(1, 0, NONE);
        v.mark(1, 1, 99999);
        v.mark(1, 2, -99999);
        due("two change", v.pour(1), 2);
        due("no number", v.told(0, 3), 30);
        due("most", v.told(1, 3), 99);
        due("least", v.told(2, 3), 0);
        due("beyond", v.told(3, 3), 99);
        due("missing", v.pour(2), NOTHING);
        due("sheet 4", v.pour(4), BAD);
        due("sheet -1", v.pour(-1), BAD);
        due("no chimneys", sheeted(0, 24).pour(0), 0);
    }

    private static StorkVote sheeted(int sort, int n) {
        StorkVote v = new StorkVote();
        v.sheet(0, sort, n);
        return v;
    }

    private static void reads() {
        promise = 31;
        StorkVote v = village();
        v.stork(1, NONE);
        v.rule(0, 45);
        v.sheet(0, 0, 6);
        int[] nests = {1, 2, 4, 5, 0, -1};
        due("first", v.reads(0), 0);
        int[] truth = new int[6];
        for (int i = 0; i < 6; i++) {
            int nest = v.storkTold(i, 3);
            truth[i] = nest == NONE ? -1 : nest;
            v.mark(0, i, truth[i]);
        }
        due("one without a nest is told by -1", truth[5], -1);
        due("all so", v.reads(0), NONE);
        v.mark(0, 5, NONE + 1);
        due("the last", v.reads(0), 5);
        v.mark(0, 3, 0);
        due("the first of two", v.reads(0), 3);
        v.sheet(1, 1, 8);
        for (int i = 0; i < 8; i++) {
            v.mark(1, i, NONE);
        }
        due("no numbers", v.reads(1), NONE);
        v.mark(1, 7, -1);
        due("no such stork", v.reads(1), 7);
        v.mark(1, 6, 0);
        due("no such stork", v.reads(1), 6);
        v.mark(1, 4, truth[4]);
        v.mark(1, 5, truth[5] + 1);
        due("past those with no number", v.reads(1), 5);
        due("empty", sheeted(0, 0).reads(0), NONE);
        due("missing", v.reads(2), NOTHING);
        due("sheet 4", v.reads(4), BAD);
        due("sheet -1", v.reads(-1), BAD);
        due("told by hand", nests.length, truth.length);
    }

    private static void copy() {
        promise = 32;
        StorkVote v = new StorkVote();
        v.sheet(0, 1, 5);
        v.sheet(1, 1, 3);
        v.sheet(2, 0, 3);
        for (int i = 0; i < 5; i++) {
            v.mark(0, i, i == 4 ? NONE : i + 1);
        }
        due("to another", v.copy(0, 2, 1, 0, 3), 3);
        dueRow(v, 1, 3, 4, NONE);
        due("upwards in itself", v.copy(0, 0, 0, 1, 4), 4);
        dueRow(v, 0, 1, 1, 2, 3, 4);
        due("downwards in itself", v.copy(0, 1, 0, 0, 4), 4);
        dueRow(v, 0, 1, 2, 3, 4, 4);
        due("none, behind the last", v.copy(0, 5, 1, 3, 0), 0);
        due("none, within", v.copy(0, 0, 1, 0, 0), 0);
        due("none, beyond", v.copy(0, 6, 1, 0, 0), INDEX);
        due("none, beyond", v.copy(0, 0, 1, 4, 0), INDEX);
        due("many below 0", v.copy(0, 2, 1, 2, -1), INDEX);
        due("many MIN", v.copy(0, 2, 1, 2, MIN), INDEX);
        due("place -1", v.copy(0, -1, 1, 0, 1), INDEX);
        due("at -1", v.copy(0, 0, 1, -1, 1), INDEX);
        due("too many there", v.copy(0, 0, 1, 0, 4), INDEX);
        due("too many here", v.copy(0, 4, 1, 0, 2), INDEX);
        due("a sum that wraps", v.copy(0, 1, 1, 1, MAX), INDEX);
        due("a sum that wraps", v.copy(0, MAX, 1, MAX, MAX), INDEX);
        due("sorts", v.copy(0, 9, 2, 9, 9), KIND);
        due("missing", v.copy(3, 9, 2, 9, 9), NOTHING);
        due("missing", v.copy(2, 9, 3, 9, 9), NOTHING);
        due("sheet 4", v.copy(4, 0, 3, 0, 0), BAD);
        due("sheet -1", v.copy(-1, 0, 0, 0, 0), BAD);
        due("to sheet 4", v.copy(3, 0, 4, 0, 0), BAD);
        due("to sheet -1", v.copy(0, 0, -1, 0, 0), BAD);
        dueRow(v, 1, 3, 4, NONE);
        v.mark(2, 0, 8);
        due("shorts", v.copy(2, 0, 2, 2, 1), 1);
        dueRow(v, 2, 8, 0, 8);
    }

    private static void dueRow(StorkVote v, int sheet, int... row) {
        v.lay(4, 2, sheet);
        for (int i = 0; i < row.length; i++) {
            due("place " + i + " of sheet " + sheet, v.item(4, i), row[i] == NONE ? KIND : row[i]);
        }
        due("behind the last", v.item(4, row.length), INDEX);
    }

    private static void lay() {
        promise = 33;
        StorkVote v = village();
        v.sheet(0, 0, 2);
        due("held nothing", v.lay(0, 1, 5), 0);
        due("held a chimney", v.lay(0, 2, 0), 1);
        due("held a sheet", v.lay(0, 3, MIN), 2);
        due("held a number", v.lay(0, 0, MIN), 3);
        due("held nothing", v.lay(0, 0, 7), 0);
        due("chimney 6", v.lay(0, 1, 6), BAD);
        due("chimney -1", v.lay(0, 1, -1), BAD);
        due("sheet 4", v.lay(0, 2, 4), BAD);
        due("sheet -1", v.lay(0, 2, -1), BAD);
        due("missing", v.lay(0, 2, 3), NOTHING);
        due("thing 4", v.lay(0, 4, 0), BAD);
        due("thing -1", v.lay(0, -1, 0), BAD);
        due("slot 5", v.lay(5, 0, 0), BAD);
        due("slot -1", v.lay(-1, 2, 3), BAD);
        due("nothing laid", v.lay(0, 1, 0), 0);
        v.mark(0, 0, 9);
        v.lay(1, 2, 0);
        v.mark(0, 0, 8);
        due("a row of its own", v.item(1, 0), 9);
        v.sheet(0, -1, 0);
        due("even if it is missing then", v.item(1, 0), 9);
        due("each slot by itself", v.lay(4, 3, 1), 0);
    }

    private static void ask() {
        promise = 34;
        StorkVote v = village();
        int[][] fits = {{1, 0, 0, 0, 0, 0}, {1, 1, 0, 0, 0, 0}, {1, 0, 1, 0, 0, 0},
            {1, 1, 0, 1, 0, 0}, {1, 0, 1, 0, 1, 0}, {1, 0, 0, 0, 0, 1}};
        int[] worth = {20, 40, 39, 20, 62, 2};
        for (int i = 0; i < 6; i++) {
            v.lay(0, 1, i);
            for (int kind = 0; kind < 6; kind++) {
                due("ask " + i + " as " + kind, v.ask(0, kind), fits[i][kind] == 1 ? worth[i] : KIND);
            }
        }
        v.lay(1, 1, 1);
        v.turns(1, 5);
        v.set(1, 2, 99);
        v.keep();
        v.back();
        due("as it was", v.ask(1, 1), 40);
        v.lay(4, 1, 0);
        due("the last slot", v.ask(4, 0), 20);
        due("empty", v.ask(2, 0), NOTHING);
        due("kind 6 of an empty one", v.ask(2, 6), BAD);
        due("kind -1", v.ask(0, -1), BAD);
        due("slot 5", v.ask(5, 0), BAD);
        due("slot -1", v.ask(-1, 0), BAD);
        v.lay(2, 3, 0);
        due("a number", v.ask(2, 0), KIND);
        v.sheet(0, 0, 1);
        v.lay(2, 2, 0);
        due("a sheet", v.ask(2, 0), KIND);
    }

    private static void item() {
        promise = 35;
        StorkVote v = village();
        v.sheet(0, 1, 3);
        v.mark(0, 1, -4);
        v.mark(0, 2, NONE);
        v.lay(0, 2, 0);
        due("place 0", v.item(0, 0), 0);
        due("place 1", v.item(0, 1), -4);
        due("no number", v.item(0, 2), KIND);
        due("place 3", v.item(0, 3), INDEX);
        due("place -1", v.item(0, -1), INDEX);
        due("empty", v.item(1, -1), NOTHING);
        v.lay(1, 1, 0);
        due("a chimney", v.item(1, 0), KIND);
        v.lay(1, 3, 0);
        due("a number", v.item(1, 99), KIND);
        due("slot 5", v.item(5, 0), BAD);
        due("slot -1", v.item(-1, 0), BAD);
    }

    private static void rest() {
        promise = 36;
        StorkVote v = village();
        v.lay(0, 3, -11);
        due("by 4", v.rest(0, 4), -3);
        due("by -4", v.rest(0, -4), -3);
        due("by 0", v.rest(0, 0), NO);
        v.lay(0, 3, MIN);
        due("by -1", v.rest(0, -1), 0);
        due("by MAX", v.rest(0, MAX), -1);
        v.lay(0, 3, 0);
        due("0 is a number", v.rest(0, 5), 0);
        due("empty", v.rest(1, 0), NOTHING);
        v.lay(1, 1, 0);
        due("a chimney", v.rest(1, 0), KIND);
        v.sheet(0, 0, 1);
        v.lay(1, 2, 0);
        due("a sheet", v.rest(1, 1), KIND);
        due("slot 5", v.rest(5, 1), BAD);
        due("slot -1", v.rest(-1, 0), BAD);
    }

    private static void tell() {
        promise = 37;
        StorkVote v = new StorkVote();
        for (int i = 1; i <= 60; i++) {
            due("number " + i, v.tell(i % 2 == 0 ? MIN : NONE), i);
        }
        due("one more", v.tell(0), FULL);
        due("sixty", v.count(9), 60);
        v.check(1);
        due("anew", v.tell(0), 1);
    }

    private static void check() {
        promise = 38;
        StorkVote v = village();
        v.tell(0);
        due("bad stands first", v.check(0), BAD);
        due("none wait", v.count(9), 0);
        v.tell(0);
        due("no image", v.check(1), NO);
        due("none wait", v.count(9), 0);
        v.rule(1, 60);
        v.rule(2, 60);
        v.keep();
        v.tell(0);
        due("31", v.check(31), BAD);
        due("none wait", v.count(9), 0);
        int[] row = new int[60];
        for (int i = 0; i < 30; i++) {
            v.years(1);
            row[2 * i] = v.elected();
            row[2 * i + 1] = v.count(2);
        }
        due("by the image, not by what is", told(v, row, 60, -1).check(30), 0);
        due("none wait", v.count(9), 0);
        due("one year", told(v, row, 2, -1).check(1), 0);
        due("missing", told(v, row, 59, -1).check(30), 60);
        due("missing", told(v, row, 3, -1).check(2), 4);
        due("nothing told", v.check(1), 1);
        due("one too many", told(v, row, 3, -1).check(1), 3);
        due("more too many", told(v, row, 9, -1).check(2), 5);
        due("wrong, and too many", told(v, row, 9, 1).check(2), 2);
        due("nothing changed", v.count(3), 30);
        for (int i = 0; i < 60; i++) {
            StorkVote anew = village();
            anew.rule(1, 60);
            anew.rule(2, 60);
            anew.keep();
            due("wrong at " + i, told(anew, row, 60, i).check(30), 1 + i);
        }
        StorkVote now = new StorkVote();
        now.chimney(0, 1, 50, 50);
        now.stork(1, NONE);
        now.rule(1, 0);
        now.elected();
        now.set(0, 2, 0);
        now.set(0, 3, 0);
        now.keep();
        now.rule(2, 0);
        now.set(0, 2, 50);
        now.elected();
        due("by the image's own likes", told(now, new int[] {0, 1}, 2, -1).check(1), 0);
        StorkVote young = new StorkVote();
        young.chimney(0, 1, 30, 30);
        young.chimney(0, 0, 20, 20);
        young.stork(50, NONE);
        young.rule(1, 100);
        young.keep();
        due("elected behind the year, not in it", told(young, new int[] {0, 2}, 2, -1).check(1), 0);

        StorkVote old = village();
        for (int i = 0; i < 17; i++) {
            old.years(i == 16 ? 38 : 60);
        }
        due("998", old.count(3), 998);
        old.keep();
        old.years(1);
        int elected = old.elected();
        int here = old.count(2);
        old.tell(elected);
        old.tell(here);
        due("up to 999 alone", old.check(30), 0);
        old.keep();
        due("none are left", old.check(30), 0);
        old.tell(elected);
        due("one too many", old.check(30), 1);
    }

    private static StorkVote told(StorkVote v, int[] row, int many, int wrongAt) {
        for (int i = 0; i < many; i++) {
            v.tell(i == wrongAt ? row[i] + 1 : row[i]);
        }
        return v;
    }

    private static void keep() {
        promise = 39;
        due("of nothing", new StorkVote().keep(), 0);
        StorkVote v = village();
        due("six", v.keep(), 6);
        v.chimney(0, 0, 0, 0);
        due("seven", v.keep(), 7);
        v.chimney(0, 0, 0, 0);
        due("the last image counts", v.back(), 7);
    }

    private static void back() {
        promise = 40;
        StorkVote v = village();
        due("no image", v.back(), NO);
        law(v, "fine 5");
        v.rule(0, 11);
        v.rule(1, 31);
        v.rule(2, 21);
        v.away(3, 1);
        v.years(2);
        int[] was = new int[12];
        v.keep();
        for (int i = 0; i < 12; i++) {
            was[i] = v.count(i);
        }
        for (int round = 0; round < 2; round++) {
            v.chimney(0, 0, 9, 9);
            v.set(0, 1, 3);
            v.set(0, 2, 3);
            v.set(0, 3, 3);
            v.turns(0, 3);
            v.stork(9, 6);
            v.away(3, 0);
            v.away(1, 1);
            v.rule(0, 1);
            v.rule(1, 1);
            v.rule(2, 1);
            law(v, "fine 6");
            law(v, "like 6");
            v.years(5);
            v.seed(round);
            v.tell(round);
            v.feed(1, 2, 3);
            v.sheet(0, 0, 3);
            v.mark(0, 2, 7 + round);
            v.lay(0, 2, 0);
            due("six", v.back(), 6);
            for (int i = 0; i < 12; i++) {
                due("count " + i, v.count(i), i == 9 ? 1 + round : i == 10 ? 12 : was[i]);
            }
            due("kind", v.told(0, 0), 0);
            due("ward", v.told(0, 1), 0);
            due("warm", v.told(0, 2), 20);
            due("frogs", v.told(0, 3), 30);
            due("one away", v.storkTold(3, 2), 1);
            due("one not away", v.storkTold(1, 2), 0);
            due("the law", v.fine(), 5);
            due("no other law", v.why(0), NONE);
            due("sheets stay", v.reads(0), 0);
            due("slots stay", v.item(0, 2), 7 + round);
            v.text();
        }
        due("texts go on from there", law(v, "fine 7"), 1);
    }

    private static void count() {
        promise = 41;
        StorkVote v = village();
        v.away(1, 1);
        v.rule(0, 50);
        v.rule(1, 0);
        v.rule(2, 0);
        v.years(4);
        law(v, "fine 5");
        law(v, "seat 5");
        v.tell(1);
        v.tell(1);
        v.tell(1);
        v.feed(1, 2, 3);
        v.seed(-9);
        int[] want = {6, 5, 4, 4, 50, 0, 0, 4, 2, 3, 12, -9};
        for (int i = 0; i < want.length; i++) {
            due("count " + i, v.count(i), want[i]);
        }
        due("what 12", v.count(12), BAD);
        due("what -1", v.count(-1), BAD);
        due("what MAX", v.count(MAX), BAD);
    }
}
