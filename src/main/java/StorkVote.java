import java.util.Arrays;

/** Storks that bring the vote. What each call answers is told, promise by promise, in ../shared/DOC.md. */
public final class StorkVote {
    public static final int BAD = -1000000001, NO = -1000000002, FULL = -1000000003, NONE = -1000000005, NOTHING = -1000000011, KIND = -1000000012, INDEX = -1000000013, SIZE = -1000000014;

    private static final int CHIMNEYS = 8, STORKS = 10, WARDS = 4, TEXTS = 14, SHEETS = 4, SLOTS = 5;
    private static final int TAPE_BYTES = 96, PLACES = 24, WAITING = 60;
    private static final int MOST_YEARS = 60, LAST_YEAR = 999, CHECKED_YEARS = 30;
    private static final int MOST = 99, MOST_GIVEN = 999, MOST_CHANCE = 100, MOST_MARK = 99999;
    private static final int DRAWN = 60, YOUNG = 20, CHANCES = 100;

    private static final int PRIDE = 0, BROOD = 1, LOSS = 2;

    private static final int PLAIN = 0, TALL = 1, SMOKY = 2, SPIRE = 3, FORGE = 4, RUIN = 5, KINDS = 6;
    private static final int[] KIND_ABOVE = {-1, PLAIN, PLAIN, TALL, SMOKY, PLAIN};

    private static final int LIKE = 0, SEAT = 1, FINE = 2, KEYS = 3;

    private static final int MISSING = -1, SHORTS = 0, FLOATS = 1;

    private static final int EMPTY = 0, CHIMNEY = 1, SHEET = 2, NUMBER = 3, THINGS = 4;

    // A step of a TEXT is a number below NAME, a name's place from NAME on, or a sign from SIGN on.
    private static final int NAME = 10000, SIGN = 20000;

    private final World now = new World();
    private final World image = new World();
    private final World thought = new World();
    private final Spring spring = new Spring();
    private final Tape tape = new Tape();
    private final Reader reader = new Reader();
    private final Sheet[] sheets = new Sheet[SHEETS];
    private final Slot[] slots = new Slot[SLOTS];
    private final int[] waiting = new int[WAITING];
    private int waits;
    private boolean kept;

    public StorkVote() {
        for (int i = 0; i < SHEETS; i++) {
            sheets[i] = new Sheet();
        }
        for (int i = 0; i < SLOTS; i++) {
            slots[i] = new Slot();
        }
    }

    // ---- chimneys, storks

    public int chimney(int kind, int ward, int warm, int frogs) {
        if (!within(kind, KINDS - 1) || !within(ward, WARDS - 1) || !within(warm, MOST) || !within(frogs, MOST)) {
            return BAD;
        }
        return now.build(kind, ward, warm, frogs);
    }

    public int told(int chimney, int what) {
        if (!now.hasChimney(chimney)) {
            return BAD;
        }
        Chimney asked = now.chimneys[chimney];
        switch (what) {
            case 0:
                return asked.kind;
            case 1:
                return asked.ward;
            case 2:
                return asked.warm;
            case 3:
                return asked.frogs;
            case 4:
                return asked.worth();
            case 5:
                settleNow();
                return spring.guests[chimney];
            default:
                return BAD;
        }
    }

    public int as(int chimney, int kind) {
        if (!now.hasChimney(chimney) || !within(kind, KINDS - 1)) {
            return BAD;
        }
        Chimney asked = now.chimneys[chimney];
        return asked.isOf(kind) ? asked.warm : KIND;
    }

    public int turns(int chimney, int kind) {
        if (!now.hasChimney(chimney) || !within(kind, KINDS - 1)) {
            return BAD;
        }
        Chimney turned = now.chimneys[chimney];
        int was = turned.kind;
        turned.kind = kind;
        return was;
    }

    public int set(int chimney, int what, int v) {
        if (!now.hasChimney(chimney) || what < 1 || what > 3 || !within(v, what == 1 ? WARDS - 1 : MOST)) {
            return BAD;
        }
        Chimney changed = now.chimneys[chimney];
        int was;
        if (what == 1) {
            was = changed.ward;
            changed.ward = v;
        } else if (what == 2) {
            was = changed.warm;
            changed.warm = v;
        } else {
            was = changed.frogs;
            changed.frogs = v;
        }
        return was;
    }

    public int stork(int strong, int home) {
        if (strong < 1 || strong > MOST || home != NONE && !now.hasChimney(home)) {
            return BAD;
        }
        return now.hatch(strong, home);
    }

    public int storkTold(int stork, int what) {
        if (!now.hasStork(stork)) {
            return BAD;
        }
        Stork asked = now.storks[stork];
        switch (what) {
            case 0:
                return asked.strong;
            case 1:
                return asked.home;
            case 2:
                return bit(asked.away);
            case 3:
                settleNow();
                return spring.nests[stork];
            default:
                return BAD;
        }
    }

    public int away(int stork, int v) {
        if (!now.hasStork(stork) || !within(v, 1)) {
            return BAD;
        }
        Stork sent = now.storks[stork];
        int was = bit(sent.away);
        sent.away = v == 1;
        return was;
    }

    public int likes(int stork, int chimney) {
        if (!now.hasStork(stork) || !now.hasChimney(chimney)) {
            return BAD;
        }
        return now.liking(chimney, bit(now.storks[stork].home == chimney));
    }

    public int rule(int what, int v) {
        if (!within(what, LOSS) || !within(v, what == PRIDE ? MOST_GIVEN : MOST_CHANCE)) {
            return BAD;
        }
        int was = now.rules[what];
        now.rules[what] = v;
        return was;
    }

    public int deal(int n) {
        if (n < 1 || n > CHIMNEYS) {
            return BAD;
        }
        int came = Math.min(n, CHIMNEYS - now.chimneyCount);
        for (int i = 0; i < came; i++) {
            int kind = now.draw() % KINDS;
            int ward = now.draw() % WARDS;
            int warm = now.draw() % DRAWN;
            int frogs = now.draw() % DRAWN;
            now.build(kind, ward, warm, frogs);
        }
        return came;
    }

    public int seed(int v) {
        int was = now.z;
        now.z = v;
        return was;
    }

    // ---- elections

    public int ward(int ward, int what) {
        if (!within(ward, WARDS - 1) || !within(what, 1)) {
            return BAD;
        }
        settleNow();
        return what == 0 ? spring.nestsIn(now, ward) : spring.seats(now, ward);
    }

    public int elected() {
        settleNow();
        return spring.winner(now);
    }

    public int years(int n) {
        if (n < 1 || n > MOST_YEARS) {
            return BAD;
        }
        int lived = Math.min(n, LAST_YEAR - now.year);
        int ahead = now.storkCount;
        spring.look(now);
        for (int i = 0; i < lived; i++) {
            now.live(spring);
        }
        return now.storkCount - ahead;
    }

    public int frogs(int chimney, int ward) {
        if (!now.hasChimney(chimney) || !within(ward, WARDS - 1)) {
            return BAD;
        }
        thought.take(now);
        spring.look(thought);
        Chimney fed = thought.chimneys[chimney];
        int had = fed.frogs;
        for (int more = 0; had + more <= MOST; more++) {
            fed.frogs = had + more;
            spring.lookAt(thought, chimney);
            spring.settle(thought, NONE);
            if (spring.winner(thought) == ward) {
                return more;
            }
        }
        return NONE;
    }

    public int driven(int ward) {
        if (!within(ward, WARDS - 1)) {
            return BAD;
        }
        thought.take(now);
        spring.look(thought);
        for (int i = 0; i < thought.storkCount; i++) {
            Stork gone = thought.storks[i];
            boolean was = gone.away;
            gone.away = true;
            spring.settle(thought, NONE);
            gone.away = was;
            if (spring.winner(thought) == ward) {
                return i;
            }
        }
        return NONE;
    }

    public int brings(int chimney) {
        if (!now.hasChimney(chimney)) {
            return BAD;
        }
        int ward = now.chimneys[chimney].ward;
        settleNow();
        int seats = spring.seats(now, ward);
        spring.settle(now, chimney);
        return seats - spring.seats(now, ward);
    }

    public int behind(int n, int what) {
        if (!within(n, MOST_YEARS) || !within(what, 2)) {
            return BAD;
        }
        thought.take(now);
        spring.look(thought);
        for (int i = 0; i < n; i++) {
            thought.live(spring);
        }
        spring.settle(thought, NONE);
        if (what == 0) {
            return spring.winner(thought);
        }
        return what == 1 ? thought.here() : spring.allSeats(thought);
    }

    public int rather(int sheet) {
        if (!within(sheet, SHEETS - 1)) {
            return BAD;
        }
        if (sheets[sheet].isMissing()) {
            return NOTHING;
        }
        spring.look(now);
        spring.nestsTold(now, sheets[sheet]);
        for (int i = 0; i < now.storkCount; i++) {
            int chimney = now.storks[i].away ? NONE : spring.betterFor(now, i);
            if (chimney != NONE) {
                return 10 * i + chimney;
            }
        }
        return NONE;
    }

    public int fine() {
        Text counts = now.counting(FINE);
        return counts == null ? 0 : counts.value(now.year, now.here(), 0, now.pile);
    }

    // ---- texts

    public int feed(int a, int b, int c) {
        if (tape.size + 12 > TAPE_BYTES) {
            return FULL;
        }
        tape.put(a);
        tape.put(b);
        tape.put(c);
        return tape.size;
    }

    public int trim(int n) {
        if (!within(n, tape.size)) {
            return BAD;
        }
        tape.size = n;
        return n;
    }

    public int text() {
        int fault = reader.fault(tape);
        tape.size = 0;
        if (fault >= 0) {
            return -100 - fault;
        }
        if (now.textCount >= TEXTS) {
            return FULL;
        }
        now.texts[now.textCount] = reader.read();
        now.textCount++;
        return now.textCount - 1;
    }

    public int textTold(int text, int what) {
        if (text < 0 || text >= now.textCount || !within(what, 1)) {
            return BAD;
        }
        Text asked = now.texts[text];
        if (asked == null) {
            return BAD;
        }
        return what == 0 ? asked.key : asked.pieces;
    }

    public int why(int key) {
        return within(key, KEYS - 1) ? now.counts(key) : BAD;
    }

    // ---- sheets, slots

    public int sheet(int sheet, int sort, int n) {
        if (!within(sheet, SHEETS - 1) || sort < MISSING || sort > FLOATS) {
            return BAD;
        }
        if (sort == MISSING) {
            sheets[sheet].become(MISSING, 0);
            return 0;
        }
        if (n > PLACES) {
            return BAD;
        }
        if (n < 0) {
            return SIZE;
        }
        sheets[sheet].become(sort, n);
        return n;
    }

    public int mark(int sheet, int place, int v) {
        if (!within(sheet, SHEETS - 1)) {
            return BAD;
        }
        Sheet marked = sheets[sheet];
        if (marked.isMissing()) {
            return NOTHING;
        }
        if (!marked.has(place)) {
            return INDEX;
        }
        if (marked.sort == SHORTS) {
            if (v == NONE) {
                return KIND;
            }
            marked.places[place] = (short) v;
            return 1;
        }
        if (v != NONE && (v < -MOST_MARK || v > MOST_MARK)) {
            return BAD;
        }
        marked.places[place] = v;
        return 1;
    }

    public int pour(int sheet) {
        if (!within(sheet, SHEETS - 1)) {
            return BAD;
        }
        Sheet poured = sheets[sheet];
        if (poured.isMissing()) {
            return NOTHING;
        }
        int changes = 0;
        for (int i = 0; i < now.chimneyCount && i < poured.size; i++) {
            int was = now.chimneys[i].frogs;
            int frogs = poured.places[i] == NONE ? was : held(poured.places[i], MOST);
            now.chimneys[i].frogs = frogs;
            changes += bit(frogs != was);
        }
        return changes;
    }

    public int reads(int sheet) {
        if (!within(sheet, SHEETS - 1)) {
            return BAD;
        }
        Sheet read = sheets[sheet];
        if (read.isMissing()) {
            return NOTHING;
        }
        settleNow();
        for (int i = 0; i < read.size; i++) {
            if (read.places[i] != NONE && !nestIs(i, read.places[i])) {
                return i;
            }
        }
        return NONE;
    }

    public int copy(int from, int place, int to, int at, int many) {
        if (!within(from, SHEETS - 1) || !within(to, SHEETS - 1)) {
            return BAD;
        }
        Sheet source = sheets[from];
        Sheet goal = sheets[to];
        if (source.isMissing() || goal.isMissing()) {
            return NOTHING;
        }
        if (source.sort != goal.sort) {
            return KIND;
        }
        if (!source.hasRow(place, many) || !goal.hasRow(at, many)) {
            return INDEX;
        }
        System.arraycopy(source.places, place, goal.places, at, many);
        return many;
    }

    public int lay(int slot, int thing, int k) {
        if (!within(slot, SLOTS - 1) || !within(thing, THINGS - 1)) {
            return BAD;
        }
        if (thing == CHIMNEY && !now.hasChimney(k) || thing == SHEET && !within(k, SHEETS - 1)) {
            return BAD;
        }
        if (thing == SHEET && sheets[k].isMissing()) {
            return NOTHING;
        }
        Slot laid = slots[slot];
        int was = laid.thing;
        laid.thing = thing;
        if (thing == CHIMNEY) {
            laid.chimney.take(now.chimneys[k]);
        } else if (thing == SHEET) {
            laid.sheet.take(sheets[k]);
        } else {
            laid.number = k;
        }
        return was;
    }

    public int ask(int slot, int kind) {
        if (!within(slot, SLOTS - 1) || !within(kind, KINDS - 1)) {
            return BAD;
        }
        Slot asked = slots[slot];
        if (asked.thing == EMPTY) {
            return NOTHING;
        }
        return asked.thing == CHIMNEY && asked.chimney.isOf(kind) ? asked.chimney.worth() : KIND;
    }

    public int item(int slot, int place) {
        if (!within(slot, SLOTS - 1)) {
            return BAD;
        }
        Slot asked = slots[slot];
        if (asked.thing == EMPTY) {
            return NOTHING;
        }
        if (asked.thing != SHEET) {
            return KIND;
        }
        if (!asked.sheet.has(place)) {
            return INDEX;
        }
        int v = asked.sheet.places[place];
        return v == NONE ? KIND : v;
    }

    public int rest(int slot, int n) {
        if (!within(slot, SLOTS - 1)) {
            return BAD;
        }
        Slot asked = slots[slot];
        if (asked.thing == EMPTY) {
            return NOTHING;
        }
        if (asked.thing != NUMBER) {
            return KIND;
        }
        return n == 0 ? NO : asked.number % n;
    }

    // ---- rows, images

    public int tell(int v) {
        if (waits >= WAITING) {
            return FULL;
        }
        waiting[waits] = v;
        waits++;
        return waits;
    }

    public int check(int n) {
        int told = waits;
        waits = 0;
        if (n < 1 || n > CHECKED_YEARS) {
            return BAD;
        }
        if (!kept) {
            return NO;
        }
        int lived = Math.min(n, LAST_YEAR - image.year);
        thought.take(image);
        spring.look(thought);
        for (int i = 0; i < lived; i++) {
            thought.live(spring);
            spring.settle(thought, NONE);
            if (!waitsAt(2 * i, told, spring.winner(thought))) {
                return 1 + 2 * i;
            }
            if (!waitsAt(2 * i + 1, told, thought.here())) {
                return 2 + 2 * i;
            }
        }
        return told > 2 * lived ? 1 + 2 * lived : 0;
    }

    public int keep() {
        image.take(now);
        kept = true;
        return image.chimneyCount;
    }

    public int back() {
        if (!kept) {
            return NO;
        }
        now.take(image);
        return now.chimneyCount;
    }

    public int count(int what) {
        switch (what) {
            case 0:
                return now.chimneyCount;
            case 1:
                return now.storkCount;
            case 2:
                return now.here();
            case 3:
                return now.year;
            case 4:
                return now.rules[PRIDE];
            case 5:
                return now.rules[BROOD];
            case 6:
                return now.rules[LOSS];
            case 7:
                settleNow();
                return spring.allNests(now);
            case 8:
                return now.textCount;
            case 9:
                return waits;
            case 10:
                return tape.size;
            case 11:
                return now.z;
            default:
                return BAD;
        }
    }

    private void settleNow() {
        spring.look(now);
        spring.settle(now, NONE);
    }

    private boolean nestIs(int stork, int v) {
        if (!now.hasStork(stork)) {
            return false;
        }
        int nest = spring.nests[stork];
        return v == (nest == NONE ? -1 : nest);
    }

    private boolean waitsAt(int place, int told, int due) {
        return place < told && place < WAITING && waiting[place] == due;
    }

    private static boolean within(int v, int most) {
        return v >= 0 && v <= most;
    }

    private static int held(int v, int most) {
        return Math.max(0, Math.min(v, most));
    }

    private static int bit(boolean b) {
        return b ? 1 : 0;
    }

    private static boolean isLetter(int b) {
        return b >= 'a' && b <= 'z';
    }

    private static boolean isDigit(int b) {
        return b >= '0' && b <= '9';
    }

    private static final class Chimney {
        private int kind;
        private int ward;
        private int warm;
        private int frogs;

        void become(int newKind, int newWard, int newWarm, int newFrogs) {
            kind = newKind;
            ward = newWard;
            warm = newWarm;
            frogs = newFrogs;
        }

        void take(Chimney other) {
            become(other.kind, other.ward, other.warm, other.frogs);
        }

        boolean isOf(int asked) {
            int own = kind;
            for (int up = 0; up < KINDS && own >= 0 && own < KINDS; up++) {
                if (own == asked) {
                    return true;
                }
                own = KIND_ABOVE[own];
            }
            return false;
        }

        int worth() {
            int tall = warm + frogs;
            int smoky = 99 - warm;
            switch (kind) {
                case TALL:
                    return tall;
                case SPIRE:
                    return 2 * tall;
                case SMOKY:
                    return smoky;
                case FORGE:
                    return smoky - 7;
                case RUIN:
                    return 2;
                default:
                    return warm;
            }
        }

        /** LIKES by KIND, from what they are for one that is a CHIMNEY and no more. */
        int likedFrom(int plain, int h) {
            int tall = plain + 10;
            int smoky = plain / 2;
            switch (kind) {
                case TALL:
                    return tall;
                case SPIRE:
                    return 2 * tall;
                case SMOKY:
                    return smoky;
                case FORGE:
                    return smoky + warm;
                case RUIN:
                    return frogs + 50 * h;
                default:
                    return plain;
            }
        }
    }

    private static final class Stork {
        private int strong;
        private int home;
        private boolean away;

        void become(int newStrong, int newHome, boolean isAway) {
            strong = newStrong;
            home = newHome;
            away = isAway;
        }

        void take(Stork other) {
            become(other.strong, other.home, other.away);
        }
    }

    /** All that an IMAGE keeps. */
    private static final class World {
        private final Chimney[] chimneys = new Chimney[CHIMNEYS];
        private int chimneyCount;
        private final Stork[] storks = new Stork[STORKS];
        private int storkCount;
        private final int[] rules = {10, 30, 20};
        private int year;
        private int z = 1;
        private final Text[] texts = new Text[TEXTS];
        private int textCount;
        private final int[] pile = new int[TAPE_BYTES];

        World() {
            for (int i = 0; i < CHIMNEYS; i++) {
                chimneys[i] = new Chimney();
            }
            for (int i = 0; i < STORKS; i++) {
                storks[i] = new Stork();
            }
        }

        void take(World other) {
            chimneyCount = other.chimneyCount;
            for (int i = 0; i < chimneyCount; i++) {
                chimneys[i].take(other.chimneys[i]);
            }
            storkCount = other.storkCount;
            for (int i = 0; i < storkCount; i++) {
                storks[i].take(other.storks[i]);
            }
            System.arraycopy(other.rules, 0, rules, 0, rules.length);
            year = other.year;
            z = other.z;
            textCount = other.textCount;
            for (int i = 0; i < textCount; i++) {
                texts[i] = other.texts[i];
            }
        }

        boolean hasChimney(int chimney) {
            return chimney >= 0 && chimney < chimneyCount;
        }

        boolean hasStork(int stork) {
            return stork >= 0 && stork < storkCount;
        }

        int build(int kind, int ward, int warm, int frogs) {
            if (chimneyCount >= CHIMNEYS) {
                return FULL;
            }
            chimneys[chimneyCount].become(kind, ward, warm, frogs);
            chimneyCount++;
            return chimneyCount - 1;
        }

        int hatch(int strong, int home) {
            if (storkCount >= STORKS) {
                return FULL;
            }
            storks[storkCount].become(strong, home, false);
            storkCount++;
            return storkCount - 1;
        }

        int draw() {
            z = z * 1103515245 + 12345;
            return z >>> 8;
        }

        int here() {
            int many = 0;
            for (int i = 0; i < storkCount; i++) {
                many += bit(!storks[i].away);
            }
            return many;
        }

        /** The number of the TEXT that counts for a KEY, or NONE. */
        int counts(int key) {
            for (int i = textCount - 1; i >= 0; i--) {
                if (texts[i] != null && texts[i].key == key) {
                    return i;
                }
            }
            return NONE;
        }

        Text counting(int key) {
            int text = counts(key);
            return text == NONE ? null : texts[text];
        }

        int liking(int chimney, int h) {
            Chimney liked = chimneys[chimney];
            Text like = counting(LIKE);
            int plain = liked.warm + liked.frogs + 20 * h;
            if (like != null) {
                plain = held(like.value(liked.warm, liked.frogs, h, pile), MOST_GIVEN);
            }
            return liked.likedFrom(plain, h);
        }

        int seatsFor(int nests, int ward) {
            Text seat = counting(SEAT);
            return seat == null ? nests : held(seat.value(nests, ward, 0, pile), MOST_GIVEN);
        }

        /** Whether a CHIMNEY would keep the first of two STORKS. */
        boolean keepsFirst(int first, int second) {
            if (storks[first].strong != storks[second].strong) {
                return storks[first].strong > storks[second].strong;
            }
            return first < second;
        }

        /** One YEAR; the spring has looked at this world's CHIMNEYS. */
        void live(Spring spring) {
            spring.settle(this, NONE);
            int ahead = storkCount;
            for (int i = 0; i < ahead; i++) {
                if (!storks[i].away) {
                    fare(i, spring.nests[i]);
                }
            }
            year++;
        }

        private void fare(int stork, int nest) {
            int x = draw() % CHANCES;
            if (nest == NONE) {
                storks[stork].away = x < rules[LOSS];
            } else if (x < rules[BROOD] && storkCount < STORKS) {
                hatch(1 + draw() % YOUNG, nest);
            }
        }
    }

    /** Who has a nest where, and what follows from it; thought from a world and used again and again. */
    private static final class Spring {
        private final int[] nests = new int[STORKS];
        private final int[] guests = new int[CHIMNEYS];
        // What LIKES are depends on a STORK by its HOME alone, so two numbers a CHIMNEY are enough.
        private final int[] likedAfar = new int[CHIMNEYS];
        private final int[] likedAtHome = new int[CHIMNEYS];

        void look(World world) {
            for (int i = 0; i < world.chimneyCount; i++) {
                lookAt(world, i);
            }
        }

        void lookAt(World world, int chimney) {
            likedAfar[chimney] = world.liking(chimney, 0);
            likedAtHome[chimney] = world.liking(chimney, 1);
        }

        private int liked(World world, int stork, int chimney) {
            return world.storks[stork].home == chimney ? likedAtHome[chimney] : likedAfar[chimney];
        }

        private boolean wants(World world, int stork, int chimney) {
            return liked(world, stork, chimney) >= world.rules[PRIDE];
        }

        /**
         * All CHIMNEYS keep by the same order of STORKS. So nobody is ever turned off if they go in that order,
         * each to the best that is left, and the nests are those of the SPRING. Nobody WANTS the one that is shut.
         */
        void settle(World world, int shut) {
            Arrays.fill(nests, NONE);
            Arrays.fill(guests, NONE);
            int gone = 0;
            for (int turn = 0; turn < world.storkCount; turn++) {
                int stork = strongest(world, gone);
                if (stork == NONE) {
                    return;
                }
                gone |= 1 << stork;
                int chimney = bestLeft(world, stork, shut);
                if (chimney != NONE) {
                    move(stork, chimney);
                }
            }
        }

        private void move(int stork, int chimney) {
            nests[stork] = chimney;
            guests[chimney] = stork;
        }

        private int strongest(World world, int gone) {
            int best = NONE;
            for (int i = 0; i < world.storkCount; i++) {
                boolean goes = !world.storks[i].away && (gone >>> i & 1) == 0;
                if (goes && (best == NONE || world.keepsFirst(i, best))) {
                    best = i;
                }
            }
            return best;
        }

        private int bestLeft(World world, int stork, int shut) {
            int best = NONE;
            for (int i = 0; i < world.chimneyCount; i++) {
                boolean open = i != shut && guests[i] == NONE && wants(world, stork, i);
                if (open && (best == NONE || liked(world, stork, i) > liked(world, stork, best))) {
                    best = i;
                }
            }
            return best;
        }

        int nestsIn(World world, int ward) {
            int many = 0;
            for (int i = 0; i < world.chimneyCount; i++) {
                many += bit(guests[i] != NONE && world.chimneys[i].ward == ward);
            }
            return many;
        }

        int allNests(World world) {
            int many = 0;
            for (int i = 0; i < WARDS; i++) {
                many += nestsIn(world, i);
            }
            return many;
        }

        int seats(World world, int ward) {
            return world.seatsFor(nestsIn(world, ward), ward);
        }

        int allSeats(World world) {
            int many = 0;
            for (int i = 0; i < WARDS; i++) {
                many += seats(world, i);
            }
            return many;
        }

        int winner(World world) {
            int best = 0;
            int most = seats(world, 0);
            for (int i = 1; i < WARDS; i++) {
                int seats = seats(world, i);
                if (seats > most) {
                    most = seats;
                    best = i;
                }
            }
            return best;
        }

        /** Nests as a SHEET tells them, not as STORKS would go. */
        void nestsTold(World world, Sheet sheet) {
            Arrays.fill(nests, NONE);
            Arrays.fill(guests, NONE);
            for (int i = 0; i < world.storkCount && i < sheet.size; i++) {
                int chimney = sheet.places[i];
                if (!world.storks[i].away && world.hasChimney(chimney) && guests[chimney] == NONE) {
                    move(i, chimney);
                }
            }
        }

        /** The first CHIMNEY that a STORK would rather have and would get, or NONE. */
        int betterFor(World world, int stork) {
            int nest = nests[stork];
            for (int i = 0; i < world.chimneyCount; i++) {
                boolean better = nest == NONE || liked(world, stork, i) > liked(world, stork, nest);
                boolean gets = guests[i] == NONE || world.keepsFirst(stork, guests[i]);
                if (better && gets && wants(world, stork, i)) {
                    return i;
                }
            }
            return NONE;
        }
    }

    private static final class Tape {
        private final int[] bytes = new int[TAPE_BYTES];
        private int size;

        void put(int four) {
            for (int shift = 24; shift >= 0 && size < TAPE_BYTES; shift -= 8) {
                bytes[size] = four >>> shift & 255;
                size++;
            }
        }

        /** The place behind the word or sign that begins at a place of the tape. */
        int endOf(int at) {
            int end = at + 1;
            if (isLetter(bytes[at])) {
                while (end < size && isLetter(bytes[end])) {
                    end++;
                }
            } else if (isDigit(bytes[at])) {
                while (end < size && isDigit(bytes[end])) {
                    end++;
                }
            }
            return end;
        }

        boolean isWord(int at, int end, String word) {
            if (end - at != word.length()) {
                return false;
            }
            for (int i = 0; i < word.length(); i++) {
                if (bytes[at + i] != word.charAt(i)) {
                    return false;
                }
            }
            return true;
        }

        int number(int at, int end) {
            int v = 0;
            for (int i = at; i < end; i++) {
                v = 10 * v + bytes[i] - '0';
            }
            return v;
        }
    }

    /** A law: its steps stand with each sign behind what it joins. */
    private static final class Text {
        private final int key;
        private final int pieces;
        private final int[] steps;

        Text(int ownKey, int ownPieces, int[] ownSteps) {
            key = ownKey;
            pieces = ownPieces;
            steps = ownSteps;
        }

        int value(int first, int second, int third, int[] pile) {
            int top = 0;
            for (int i = 0; i < steps.length; i++) {
                int step = steps[i];
                if (step < SIGN) {
                    if (top >= pile.length) {
                        return 0;
                    }
                    pile[top] = step < NAME ? step : named(step, first, second, third);
                    top++;
                } else if (step == SIGN + '!') {
                    if (top < 1) {
                        return 0;
                    }
                    pile[top - 1] = bit(pile[top - 1] == 0);
                } else {
                    if (top < 2) {
                        return 0;
                    }
                    top--;
                    pile[top - 1] = joined(step - SIGN, pile[top - 1], pile[top]);
                }
            }
            return top < 1 ? 0 : pile[0];
        }

        private static int named(int step, int first, int second, int third) {
            if (step == NAME) {
                return first;
            }
            return step == NAME + 1 ? second : third;
        }

        private static int joined(int sign, int a, int b) {
            switch (sign) {
                case '|':
                    return a != 0 || b != 0 ? 1 : 0;
                case '&':
                    return a != 0 && b != 0 ? 1 : 0;
                case '<':
                    return a < b ? 1 : 0;
                case '=':
                    return a == b ? 1 : 0;
                case '>':
                    return a > b ? 1 : 0;
                case '+':
                    return a + b;
                case '-':
                    return a - b;
                case '*':
                    return a * b;
                default:
                    return b == 0 ? 0 : a / b;
            }
        }
    }

    /** Reads THE TAPE word by word; signs wait till what they join has been read. */
    private static final class Reader {
        private static final int DEEPEST = 8, LONGEST = 4, COMPARES = 3;

        private final int[] steps = new int[TAPE_BYTES];
        private int stepCount;
        private final int[] signs = new int[TAPE_BYTES];
        private int signCount;
        private int key;
        private int pieces;
        private int lastWordEnd;
        private boolean pieceDue;
        private int open;
        private int nots;
        // A bit for each depth: whether the TEST that is read there has its one sign already.
        private int compared;

        /** The place of the FAULT, or -1. */
        int fault(Tape tape) {
            begin();
            int at = 0;
            while (at < tape.size) {
                if (tape.bytes[at] == ' ') {
                    at++;
                } else {
                    int end = tape.endOf(at);
                    if (!goesOn(tape, at, end)) {
                        return at;
                    }
                    at = Math.max(at + 1, end);
                }
            }
            if (pieceDue || open > 0) {
                return tape.size;
            }
            joinDownTo(1);
            return -1;
        }

        /** The TEXT that was read last, if it had no FAULT. */
        Text read() {
            return new Text(key, pieces, Arrays.copyOf(steps, stepCount));
        }

        private void begin() {
            stepCount = 0;
            signCount = 0;
            key = NONE;
            pieces = 0;
            lastWordEnd = -1;
            pieceDue = true;
            open = 0;
            nots = 0;
            compared = 0;
        }

        private boolean goesOn(Tape tape, int at, int end) {
            int b = tape.bytes[at];
            boolean word = isLetter(b) || isDigit(b);
            if (word && at == lastWordEnd) {
                return false;
            }
            if (word) {
                lastWordEnd = end;
            }
            if (key == NONE) {
                key = keyAt(tape, at, end);
                return key != NONE;
            }
            if (!pieceDue) {
                return b == ')' ? closes() : joins(b);
            }
            if (isDigit(b)) {
                return end - at <= LONGEST && isPiece(tape.number(at, end));
            }
            if (isLetter(b)) {
                int name = names().indexOf((char) b);
                return end - at == 1 && name >= 0 && isPiece(NAME + name);
            }
            return b == '(' ? opens() : b == '!' && negates();
        }

        private static int keyAt(Tape tape, int at, int end) {
            if (tape.isWord(at, end, "like")) {
                return LIKE;
            }
            if (tape.isWord(at, end, "seat")) {
                return SEAT;
            }
            return tape.isWord(at, end, "fine") ? FINE : NONE;
        }

        private String names() {
            if (key == LIKE) {
                return "wfh";
            }
            return key == SEAT ? "nw" : "ys";
        }

        private boolean isPiece(int step) {
            pieces++;
            addStep(step);
            endPiece();
            return true;
        }

        private void endPiece() {
            pieceDue = false;
            while (signCount > 0 && signs[signCount - 1] == '!') {
                signCount--;
                nots--;
                addStep(SIGN + '!');
            }
        }

        private boolean opens() {
            if (open >= DEEPEST) {
                return false;
            }
            open++;
            compared &= ~(1 << open);
            addSign('(');
            return true;
        }

        private boolean negates() {
            if (nots >= DEEPEST) {
                return false;
            }
            nots++;
            addSign('!');
            return true;
        }

        private boolean closes() {
            if (open <= 0) {
                return false;
            }
            joinDownTo(1);
            // What is left on top is the bracket itself, which joins nothing.
            signCount = Math.max(0, signCount - 1);
            open--;
            endPiece();
            return true;
        }

        private boolean joins(int sign) {
            int rank = rankOf(sign);
            if (rank == 0 || rank == COMPARES && (compared >>> open & 1) == 1) {
                return false;
            }
            if (rank == COMPARES) {
                compared |= 1 << open;
            } else if (rank < COMPARES) {
                compared &= ~(1 << open);
            }
            joinDownTo(rank);
            addSign(sign);
            pieceDue = true;
            return true;
        }

        /** Signs that bind as fast as this rank, or faster, have all that they join. */
        private void joinDownTo(int rank) {
            while (signCount > 0 && rankOf(signs[signCount - 1]) >= rank) {
                signCount--;
                addStep(SIGN + signs[signCount]);
            }
        }

        private static int rankOf(int sign) {
            switch (sign) {
                case '|':
                    return 1;
                case '&':
                    return 2;
                case '<':
                case '=':
                case '>':
                    return COMPARES;
                case '+':
                case '-':
                    return 4;
                case '*':
                case '/':
                    return 5;
                default:
                    return 0;
            }
        }

        private void addStep(int step) {
            if (stepCount < steps.length) {
                steps[stepCount] = step;
                stepCount++;
            }
        }

        private void addSign(int sign) {
            if (signCount < signs.length) {
                signs[signCount] = sign;
                signCount++;
            }
        }
    }

    /** A row of whole numbers; the number NONE stands for NO NUMBER. */
    private static final class Sheet {
        private int sort = MISSING;
        private int size;
        private final int[] places = new int[PLACES];

        boolean isMissing() {
            return sort == MISSING;
        }

        boolean has(int place) {
            return place >= 0 && place < size;
        }

        /** Whether there are so many places from one on; no sum here, it could wrap. */
        boolean hasRow(int place, int many) {
            return place >= 0 && many >= 0 && place <= size && many <= size - place;
        }

        void become(int newSort, int newSize) {
            sort = newSort;
            size = newSize;
            Arrays.fill(places, 0);
        }

        void take(Sheet other) {
            sort = other.sort;
            size = other.size;
            System.arraycopy(other.places, 0, places, 0, PLACES);
        }
    }

    private static final class Slot {
        private int thing = EMPTY;
        private final Chimney chimney = new Chimney();
        private final Sheet sheet = new Sheet();
        private int number;
    }
}
