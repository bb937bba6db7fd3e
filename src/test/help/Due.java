/** What the tests by hand have in common. */
abstract class Due {
    static final int BAD = StorkVote.BAD, NO = StorkVote.NO, FULL = StorkVote.FULL, NONE = StorkVote.NONE;
    static final int NOTHING = StorkVote.NOTHING, KIND = StorkVote.KIND, INDEX = StorkVote.INDEX, SIZE = StorkVote.SIZE;
    static final int MIN = Integer.MIN_VALUE, MAX = Integer.MAX_VALUE;

    static int promise;
    private static int wrong;

    static void due(String call, int got, int want) {
        if (got != want) {
            wrong++;
            System.out.println("promise " + promise + ": " + call + " answered " + got + ", due is " + want);
        }
    }

    static void end(String name) {
        System.out.println(name + ": " + (wrong == 0 ? "all answers are as due" : wrong + " wrong"));
        if (wrong != 0) {
            System.exit(1);
        }
    }

    /** Feeds a law and reads it: what text() answers. */
    static int law(StorkVote v, String law) {
        fed(v, law);
        return v.text();
    }

    /** THE TAPE, which had nothing, has these bytes. */
    static void fed(StorkVote v, String bytes) {
        StringBuilder padded = new StringBuilder(bytes);
        while (padded.length() % 12 != 0) {
            padded.append(' ');
        }
        for (int i = 0; i < padded.length(); i += 12) {
            v.feed(four(padded, i), four(padded, i + 4), four(padded, i + 8));
        }
        due("trim for " + bytes, v.trim(bytes.length()), bytes.length());
    }

    private static int four(CharSequence s, int at) {
        return s.charAt(at) << 24 | s.charAt(at + 1) << 16 | s.charAt(at + 2) << 8 | s.charAt(at + 3);
    }

    /** Six chimneys, one of each kind, and storks that go to five of them. */
    static StorkVote village() {
        StorkVote v = new StorkVote();
        v.chimney(0, 0, 20, 30);
        v.chimney(1, 1, 10, 30);
        v.chimney(2, 2, 60, 20);
        v.chimney(3, 1, 5, 5);
        v.chimney(4, 3, 30, 40);
        v.chimney(5, 0, 9, 25);
        v.stork(5, NONE);
        v.stork(9, 1);
        v.stork(9, NONE);
        v.stork(2, 5);
        v.stork(7, NONE);
        return v;
    }
}
