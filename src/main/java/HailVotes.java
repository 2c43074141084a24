/** Votes that fall with the hail; ../shared/DOC.md says what each call promises. */
public final class HailVotes {
    public static final int NONE = -1, BAD = -2, NO = -3, FULL = -4;

    private static final int BLUE = 0;
    private static final int BROWN = 1;
    private static final int MOST_ROOFS = 7;
    private static final int MOST_STORMS = 6;
    private static final int MOST_BYTES = 250;
    private static final int MOST_UNDONE = 3;
    private static final int PLACES = 7;
    private static final int LAST_KIND = 5;
    private static final int OLDEST = 9;
    private static final int NO_SLOPE = -20;
    private static final int NO_NUMBER = -1000;
    private static final int FAULTS = -10;

    private final Story story = new Story();
    private final Story firstImage = new Story();
    private final Story secondImage = new Story();
    private final Reader text = new Reader();
    private final Fraction fraction = new Fraction();
    // What is only tried out is tried on this one, so that a call needs no new rows.
    private final Canton trial = new Canton();
    private int bads;
    private int noes;
    private int fulls;

    public HailVotes() {
    }

    // ---- a canton

    public int roof(int kind, int age, int b0, int n0, int b1, int n1) {
        boolean told = within(kind, 0, LAST_KIND) && within(age, 0, OLDEST)
            && areTiles(b0, n0) && areTiles(b1, n1);
        if (!told) {
            return refuse(BAD);
        }
        if (story.now.roofs >= MOST_ROOFS) {
            return refuse(FULL);
        }
        return story.now.addRoof(kind, age, b0, n0, b1, n1);
    }

    public int storm(int from, int to, int wind, int size, int chance) {
        boolean told = within(from, 0, PLACES - 1) && within(to, from, PLACES - 1)
            && within(wind, 0, 1) && within(size, 1, 9) && within(chance, 1, 9);
        if (!told) {
            return refuse(BAD);
        }
        if (story.now.storms >= MOST_STORMS) {
            return refuse(FULL);
        }
        return story.now.addStorm(from, to, wind, size, chance);
    }

    public int cannon(int place, boolean is) {
        if (!within(place, 0, PLACES - 1)) {
            return refuse(BAD);
        }
        int wanted = is ? 1 : 0;
        if (story.now.guns[place] == wanted) {
            return refuse(NO);
        }
        story.now.guns[place] = wanted;
        return 1;
    }

    public int tiles(int roof, int slope, int what) {
        if (!isRoof(roof) || !within(slope, 0, 1) || !isPaint(what)) {
            return refuse(BAD);
        }
        return story.now.cover[Canton.row(roof, slope, what)];
    }

    public int type(long v, int n) {
        if (!within(n, 1, 8)) {
            return refuse(BAD);
        }
        if (text.length + n > MOST_BYTES) {
            return refuse(FULL);
        }
        for (int left = n - 1; left >= 0; left--) {
            text.put((int) (v >>> (8 * left)) & 255);
        }
        return text.length;
    }

    public int clear() {
        int had = text.length;
        text.length = 0;
        return had;
    }

    public int read() {
        int items = text.readInto(trial);
        if (items < 0) {
            return items;
        }
        story.now.become(trial);
        story.undoable = 0;
        return items;
    }

    // ---- storms

    public int force(int storm, int roof, int slope) {
        if (!isStorm(storm) || !isRoof(roof) || !within(slope, 0, 1)) {
            return refuse(BAD);
        }
        return story.now.forceOn(storm, roof, slope);
    }

    public int breaks(int storm, int roof, int what) {
        if (!isStorm(storm) || !(roof == NONE || isRoof(roof)) || !isPaint(what)) {
            return refuse(BAD);
        }
        return roof == NONE ? story.now.brokenInAll(storm, what) : story.now.brokenOf(storm, roof, what);
    }

    public int wins(int storm) {
        if (!isStorm(storm)) {
            return refuse(BAD);
        }
        return Canton.winnerBy(story.now.lead(storm));
    }

    public int odds(int what) {
        if (!within(what, 0, 2)) {
            return refuse(BAD);
        }
        if (story.now.storms == 0) {
            return refuse(NO);
        }
        int winner = what == 2 ? NONE : what;
        fraction.become(story.now.chancesOf(winner), story.now.allChances());
        return 1;
    }

    // ---- paint

    // Of more tiles of a paint never fewer break, of fewer never more: whoever paints tiles its own
    // loses by it, or nothing comes of it. So of all ways to paint none does better than to paint
    // no tile, and that one is the first of all.

    public int paint(int who, int n) {
        if (!isPaint(who) || !within(n, 0, 4)) {
            return refuse(BAD);
        }
        if (story.now.storms == 0) {
            return refuse(NO);
        }
        fraction.become(story.now.chancesOf(who), story.now.allChances());
        return 1;
    }

    public int brush(int who, int n, int roof, int slope) {
        if (!isPaint(who) || !within(n, 0, 4) || !isRoof(roof) || !within(slope, 0, 1)) {
            return refuse(BAD);
        }
        if (story.now.storms == 0) {
            return refuse(NO);
        }
        return 0;
    }

    public int against() {
        if (story.now.storms == 0) {
            refuse(NO);
            return NO_SLOPE;
        }
        trial.become(story.now);
        int unpainted = trial.edgeOfBlue();
        fraction.become(unpainted, trial.allChances());
        // Brown's best answer is no tile, and blue can keep no more than it has unpainted: what is
        // looked for is the least slope where a tile painted blue costs it nothing.
        for (int slope = 0; slope < 2 * trial.roofs; slope++) {
            if (trial.keepsEdge(slope, unpainted)) {
                return slope;
            }
        }
        return NONE;
    }

    public int decides(int roof) {
        if (!isRoof(roof)) {
            return refuse(BAD);
        }
        int storms = 0;
        for (int s = 0; s < story.now.storms; s++) {
            if (story.now.isDecidedBy(s, roof)) {
                storms++;
            }
        }
        return storms;
    }

    public int power(int roof) {
        if (!isRoof(roof)) {
            return refuse(BAD);
        }
        if (story.now.storms == 0) {
            return refuse(NO);
        }
        int chances = 0;
        for (int s = 0; s < story.now.storms; s++) {
            if (story.now.isDecidedBy(s, roof)) {
                chances += story.now.chance[s];
            }
        }
        fraction.become(chances, story.now.allChances());
        return 1;
    }

    public int shield(int who) {
        if (!isPaint(who)) {
            return refuse(BAD);
        }
        if (story.now.storms == 0) {
            return refuse(NO);
        }
        trial.become(story.now);
        int best = NONE;
        int most = -1;
        for (int place = 0; place < PLACES; place++) {
            if (trial.guns[place] == 0) {
                int chances = trial.chancesWithGun(place, who);
                if (chances > most) {
                    most = chances;
                    best = place;
                }
            }
        }
        if (best != NONE) {
            fraction.become(most, trial.allChances());
        }
        return best;
    }

    // ---- shards

    public int shards(int roof, int blue, int brown) {
        boolean told = within(blue, 0, 18) && within(brown, 0, 18);
        boolean untold = blue == NONE && brown == NONE;
        if (!isRoof(roof) || !(told || untold)) {
            return refuse(BAD);
        }
        story.now.blueShards[roof] = blue;
        story.now.brownShards[roof] = brown;
        return 1;
    }

    public int which(int what) {
        if (!within(what, 0, 1)) {
            return refuse(BAD);
        }
        return what == 0 ? story.now.stormsThatFit() : story.now.roofsByHand();
    }

    public int recount(int storm, int m) {
        if (!isStorm(storm) || !within(m, 1, 8)) {
            return refuse(BAD);
        }
        int blue = story.now.brokenInAll(storm, BLUE);
        int brown = story.now.brokenInAll(storm, BROWN);
        if (m > blue + brown) {
            return refuse(BAD);
        }
        if (blue == brown) {
            return refuse(NO);
        }
        int more = Math.max(blue, brown);
        int fewer = Math.min(blue, brown);
        long samples = 0;
        for (int k = m / 2 + 1; k <= m; k++) {
            samples += Fraction.choose(more, k) * Fraction.choose(fewer, m - k);
        }
        fraction.become(samples, Fraction.choose(more + fewer, m));
        return 1;
    }

    // ---- years

    public int year(int storm) {
        if (storm != NONE && !isStorm(storm)) {
            return refuse(BAD);
        }
        story.remember();
        return story.now.passYear(storm);
    }

    public int undo() {
        return story.goBack() ? 1 : refuse(NO);
    }

    public int drawn(int seed, int y) {
        if (!within(seed, 0, 999999) || !within(y, 0, 20)) {
            refuse(BAD);
            return NO_NUMBER;
        }
        trial.become(story.now);
        long whole = trial.allChances() + 1L;
        long x = seed;
        int ahead = 0;
        for (int i = 0; i < y && whole > 0; i++) {
            x = (x * 1103515245L + 12345L) % 2147483648L;
            int storm = trial.stormAt(x / 65536 % whole);
            int winner = storm == NONE ? NONE : Canton.winnerBy(trial.lead(storm));
            if (winner == BLUE) {
                ahead++;
            } else if (winner == BROWN) {
                ahead--;
            }
            trial.passYear(storm);
        }
        return ahead;
    }

    // ---- what there is

    public long part(int what) {
        if (!within(what, 0, 1)) {
            refuse(BAD);
            return NO_NUMBER;
        }
        return what == 0 ? fraction.above : fraction.below;
    }

    public int image(int i) {
        if (!within(i, 0, 1)) {
            return refuse(BAD);
        }
        Story kept = i == 0 ? firstImage : secondImage;
        kept.become(story);
        kept.isKept = true;
        return 1;
    }

    public int from(int i) {
        if (!within(i, 0, 1)) {
            return refuse(BAD);
        }
        Story kept = i == 0 ? firstImage : secondImage;
        if (!kept.isKept) {
            return refuse(NO);
        }
        story.become(kept);
        return 1;
    }

    public int status(int what) {
        switch (what) {
            case 0: return bads;
            case 1: return noes;
            case 2: return fulls;
            default:
                refuse(BAD);
                return -1;
        }
    }

    public int count(int what) {
        switch (what) {
            case 0: return story.now.roofs;
            case 1: return story.now.storms;
            case 2: return story.now.allGuns();
            case 3: return story.now.years;
            case 4: return story.undoable;
            case 5: return text.length;
            default: return refuse(BAD);
        }
    }

    public long digest() {
        long h = 719;
        for (int what = 0; what <= 5; what++) {
            h = 31 * h + count(what);
        }
        h = story.now.mixRoofs(h);
        h = story.now.mixStorms(h);
        h = story.now.mixGuns(h);
        h = 31 * h + fraction.above;
        return 31 * h + fraction.below;
    }

    private int refuse(int reason) {
        if (reason == BAD) {
            bads++;
        } else if (reason == NO) {
            noes++;
        } else {
            fulls++;
        }
        return reason;
    }

    private boolean isRoof(int roof) {
        return within(roof, 0, story.now.roofs - 1);
    }

    private boolean isStorm(int storm) {
        return within(storm, 0, story.now.storms - 1);
    }

    private static boolean isPaint(int paint) {
        return paint == BLUE || paint == BROWN;
    }

    private static boolean areTiles(int blue, int brown) {
        return within(blue, 0, 9) && within(brown, 0, 9);
    }

    private static boolean within(int v, int least, int most) {
        return v >= least && v <= most;
    }

    /** What a year may change or a text replace. Rows behind the counts hold what is no more. */
    private static final class Canton {
        int roofs;
        int storms;
        int years;
        final int[] kind = new int[MOST_ROOFS];
        final int[] age = new int[MOST_ROOFS];
        final int[] cover = new int[MOST_ROOFS * 4];
        final int[] blueShards = new int[MOST_ROOFS];
        final int[] brownShards = new int[MOST_ROOFS];
        final int[] first = new int[MOST_STORMS];
        final int[] last = new int[MOST_STORMS];
        final int[] wind = new int[MOST_STORMS];
        final int[] size = new int[MOST_STORMS];
        final int[] chance = new int[MOST_STORMS];
        // 1 or 0, so that they can be added up.
        final int[] guns = new int[PLACES];

        static int row(int roof, int slope, int paint) {
            return 4 * roof + 2 * slope + paint;
        }

        void empty() {
            roofs = 0;
            storms = 0;
            years = 0;
            for (int p = 0; p < PLACES; p++) {
                guns[p] = 0;
            }
        }

        void become(Canton other) {
            roofs = other.roofs;
            storms = other.storms;
            years = other.years;
            System.arraycopy(other.kind, 0, kind, 0, MOST_ROOFS);
            System.arraycopy(other.age, 0, age, 0, MOST_ROOFS);
            System.arraycopy(other.cover, 0, cover, 0, MOST_ROOFS * 4);
            System.arraycopy(other.blueShards, 0, blueShards, 0, MOST_ROOFS);
            System.arraycopy(other.brownShards, 0, brownShards, 0, MOST_ROOFS);
            System.arraycopy(other.first, 0, first, 0, MOST_STORMS);
            System.arraycopy(other.last, 0, last, 0, MOST_STORMS);
            System.arraycopy(other.wind, 0, wind, 0, MOST_STORMS);
            System.arraycopy(other.size, 0, size, 0, MOST_STORMS);
            System.arraycopy(other.chance, 0, chance, 0, MOST_STORMS);
            System.arraycopy(other.guns, 0, guns, 0, PLACES);
        }

        int addRoof(int itsKind, int itsAge, int b0, int n0, int b1, int n1) {
            if (roofs >= MOST_ROOFS) {
                return FULL;
            }
            kind[roofs] = itsKind;
            age[roofs] = itsAge;
            cover[row(roofs, 0, BLUE)] = b0;
            cover[row(roofs, 0, BROWN)] = n0;
            cover[row(roofs, 1, BLUE)] = b1;
            cover[row(roofs, 1, BROWN)] = n1;
            blueShards[roofs] = NONE;
            brownShards[roofs] = NONE;
            return roofs++;
        }

        int addStorm(int itsFirst, int itsLast, int itsWind, int itsSize, int itsChance) {
            if (storms >= MOST_STORMS) {
                return FULL;
            }
            first[storms] = itsFirst;
            last[storms] = itsLast;
            wind[storms] = itsWind;
            size[storms] = itsSize;
            chance[storms] = itsChance;
            return storms++;
        }

        int allGuns() {
            int all = 0;
            for (int p = 0; p < PLACES; p++) {
                all += guns[p];
            }
            return all;
        }

        int forceOn(int storm, int roof, int slope) {
            if (roof < first[storm] || roof > last[storm]) {
                return 0;
            }
            int blown = slope == wind[storm] ? size[storm] : size[storm] / 2;
            int before = roof > 0 ? guns[roof - 1] : 0;
            int behind = roof < PLACES - 1 ? guns[roof + 1] : 0;
            int left = blown - 2 * guns[roof] - before - behind;
            return left > 0 ? left : 0;
        }

        /** How many tiles of each paint the force and the kind would break, were there enough. */
        private int toll(int storm, int roof, int slope) {
            int f = forceOn(storm, roof, slope);
            if (f == 0) {
                return 0;
            }
            switch (kind[roof]) {
                case 1: return f + age[roof];
                case 2: return f / 2;
                case 3: return Math.max(0, f / 2 - 1);
                case 4: return Math.max(0, f + age[roof] - 3);
                case 5: return 0;
                default: return f;
            }
        }

        int brokenOf(int storm, int roof, int paint) {
            return Math.min(toll(storm, roof, 0), cover[row(roof, 0, paint)])
                + Math.min(toll(storm, roof, 1), cover[row(roof, 1, paint)]);
        }

        int brokenInAll(int storm, int paint) {
            int all = 0;
            for (int r = 0; r < roofs; r++) {
                all += brokenOf(storm, r, paint);
            }
            return all;
        }

        /** The document's COUNT: broken blue tiles less broken brown ones. */
        int lead(int storm) {
            int lead = 0;
            for (int r = 0; r < roofs; r++) {
                lead += brokenOf(storm, r, BLUE) - brokenOf(storm, r, BROWN);
            }
            return lead;
        }

        static int winnerBy(int lead) {
            if (lead == 0) {
                return NONE;
            }
            return lead > 0 ? BROWN : BLUE;
        }

        boolean isDecidedBy(int storm, int roof) {
            int with = lead(storm);
            int without = with - brokenOf(storm, roof, BLUE) + brokenOf(storm, roof, BROWN);
            return winnerBy(with) != winnerBy(without);
        }

        int allChances() {
            int all = 0;
            for (int s = 0; s < storms; s++) {
                all += chance[s];
            }
            return all;
        }

        int chancesOf(int winner) {
            int all = 0;
            for (int s = 0; s < storms; s++) {
                if (winnerBy(lead(s)) == winner) {
                    all += chance[s];
                }
            }
            return all;
        }

        int chancesWithGun(int place, int winner) {
            guns[place] = 1;
            int chances = chancesOf(winner);
            guns[place] = 0;
            return chances;
        }

        /** The chances that blue wins less those that brown does. */
        int edgeOfBlue() {
            int edge = 0;
            for (int s = 0; s < storms; s++) {
                int lead = lead(s);
                if (lead < 0) {
                    edge += chance[s];
                } else if (lead > 0) {
                    edge -= chance[s];
                }
            }
            return edge;
        }

        /** Whether blue can paint a brown tile of a slope (2 roof and slope) and still has the edge. */
        boolean keepsEdge(int slope, int edge) {
            int blueRow = row(0, slope, BLUE);
            int brownRow = row(0, slope, BROWN);
            if (cover[brownRow] == 0) {
                return false;
            }
            cover[brownRow]--;
            cover[blueRow]++;
            boolean kept = edgeOfBlue() == edge;
            cover[blueRow]--;
            cover[brownRow]++;
            return kept;
        }

        private boolean isTold(int roof) {
            return blueShards[roof] != NONE;
        }

        private boolean breaksAsTold(int storm, int roof) {
            return brokenOf(storm, roof, BLUE) == blueShards[roof]
                && brokenOf(storm, roof, BROWN) == brownShards[roof];
        }

        int stormsThatFit() {
            int bits = 0;
            for (int s = 0; s < storms; s++) {
                boolean fits = true;
                for (int r = 0; r < roofs; r++) {
                    fits = fits && (!isTold(r) || breaksAsTold(s, r));
                }
                if (fits) {
                    bits |= 1 << s;
                }
            }
            return bits;
        }

        int roofsByHand() {
            int bits = 0;
            for (int r = 0; r < roofs; r++) {
                boolean byHand = isTold(r);
                for (int s = 0; s < storms; s++) {
                    byHand = byHand && !breaksAsTold(s, r);
                }
                if (byHand) {
                    bits |= 1 << r;
                }
            }
            return bits;
        }

        /** A year with a storm, or a mild one (NONE): how many tiles broke. */
        int passYear(int storm) {
            int broke = 0;
            for (int r = 0; r < roofs; r++) {
                if (storm != NONE) {
                    broke += breakSlope(storm, r, 0) + breakSlope(storm, r, 1);
                }
                age[r] = Math.min(age[r] + 1, OLDEST);
            }
            years++;
            return broke;
        }

        private int breakSlope(int storm, int roof, int slope) {
            int most = toll(storm, roof, slope);
            int blueRow = row(roof, slope, BLUE);
            int brownRow = row(roof, slope, BROWN);
            int blue = Math.min(most, cover[blueRow]);
            int brown = Math.min(most, cover[brownRow]);
            cover[blueRow] -= blue;
            cover[brownRow] -= brown;
            return blue + brown;
        }

        int stormAt(long r) {
            long together = 0;
            for (int s = 0; s < storms; s++) {
                together += chance[s];
                if (together > r) {
                    return s;
                }
            }
            return NONE;
        }

        long mixRoofs(long h) {
            for (int r = 0; r < roofs; r++) {
                h = 31 * h + kind[r];
                h = 31 * h + age[r];
                for (int i = 0; i < 4; i++) {
                    h = 31 * h + cover[4 * r + i];
                }
                h = 31 * h + blueShards[r];
                h = 31 * h + brownShards[r];
            }
            return h;
        }

        long mixStorms(long h) {
            for (int s = 0; s < storms; s++) {
                h = 31 * h + first[s];
                h = 31 * h + last[s];
                h = 31 * h + wind[s];
                h = 31 * h + size[s];
                h = 31 * h + chance[s];
            }
            return h;
        }

        long mixGuns(long h) {
            for (int p = 0; p < PLACES; p++) {
                h = 31 * h + guns[p];
            }
            return h;
        }
    }

    /** The canton as it is, and as it was ahead of the years that may be undone: what an image keeps. */
    private static final class Story {
        final Canton now = new Canton();
        int undoable;
        boolean isKept;
        private final Canton[] past = {new Canton(), new Canton(), new Canton()};

        void remember() {
            if (undoable >= MOST_UNDONE) {
                forgetOldest();
            }
            past[undoable].become(now);
            undoable++;
        }

        private void forgetOldest() {
            Canton oldest = past[0];
            past[0] = past[1];
            past[1] = past[2];
            past[2] = oldest;
            undoable = MOST_UNDONE - 1;
        }

        boolean goBack() {
            if (undoable <= 0) {
                return false;
            }
            undoable--;
            now.become(past[undoable]);
            return true;
        }

        void become(Story other) {
            now.become(other.now);
            undoable = other.undoable;
            for (int i = 0; i < undoable; i++) {
                past[i].become(other.past[i]);
            }
        }
    }

    /** In lowest terms, below above 0. */
    private static final class Fraction {
        long above = 0;
        long below = 1;

        void become(long newAbove, long newBelow) {
            long shared = greatestShared(Math.abs(newAbove), newBelow);
            if (shared <= 0) {
                return;
            }
            above = newAbove / shared;
            below = newBelow / shared;
        }

        private static long greatestShared(long a, long b) {
            // Euclid's steps over longs stay under a hundred.
            for (int step = 0; step < 100 && b != 0; step++) {
                long left = a % b;
                a = b;
                b = left;
            }
            return a;
        }

        /** At most 8 of at most 252 are chosen, so a long holds it. */
        static long choose(int of, int k) {
            long ways = 1;
            for (int i = 0; i < k; i++) {
                ways = ways * (of - i) / (i + 1);
            }
            return ways;
        }
    }

    /** The text of a canton, and its tokens one by one; a reading that fails stops at the faulty one. */
    private static final class Reader {
        private static final int END = 0;
        private static final int WORD = 1;
        private static final int NUMBER = 2;
        private static final int STOP = 3;
        private static final int STRANGE = 4;

        int length;
        private final int[] bytes = new int[MOST_BYTES];
        private final int[] numbers = new int[6];
        private int token;
        private int tokenEnd;
        private int sort;

        void put(int b) {
            if (length < MOST_BYTES) {
                bytes[length] = b;
                length++;
            }
        }

        /** How many items were read, or -10 less the fault: then the canton is of no use. */
        int readInto(Canton canton) {
            canton.empty();
            tokenEnd = 0;
            int items = 0;
            nextToken();
            while (items < MOST_BYTES && sort != END) {
                if (!readItem(canton)) {
                    return FAULTS - token;
                }
                items++;
                nextToken();
            }
            return items;
        }

        private boolean readItem(Canton canton) {
            if (isWord("roof")) {
                return canton.roofs < MOST_ROOFS && readRoof(canton);
            }
            if (isWord("storm")) {
                return canton.storms < MOST_STORMS && readStorm(canton);
            }
            return isWord("cannon") && readCannon(canton);
        }

        private boolean readRoof(Canton canton) {
            boolean told = readNumber(0, 0, LAST_KIND) && readNumber(1, 0, OLDEST)
                && readNumber(2, 0, 9) && readNumber(3, 0, 9)
                && readNumber(4, 0, 9) && readNumber(5, 0, 9) && readStop();
            if (told) {
                canton.addRoof(numbers[0], numbers[1], numbers[2], numbers[3], numbers[4], numbers[5]);
            }
            return told;
        }

        private boolean readStorm(Canton canton) {
            boolean told = readNumber(0, 0, PLACES - 1) && readNumber(1, numbers[0], PLACES - 1)
                && readNumber(2, 0, 1) && readNumber(3, 1, 9) && readNumber(4, 1, 9) && readStop();
            if (told) {
                canton.addStorm(numbers[0], numbers[1], numbers[2], numbers[3], numbers[4]);
            }
            return told;
        }

        private boolean readCannon(Canton canton) {
            boolean told = readNumber(0, 0, PLACES - 1) && canton.guns[numbers[0]] == 0 && readStop();
            if (told) {
                canton.guns[numbers[0]] = 1;
            }
            return told;
        }

        private boolean readNumber(int i, int least, int most) {
            nextToken();
            if (sort != NUMBER) {
                return false;
            }
            numbers[i] = bytes[token] - '0';
            return within(numbers[i], least, most);
        }

        private boolean readStop() {
            nextToken();
            return sort == STOP;
        }

        private boolean isWord(String word) {
            if (sort != WORD || tokenEnd - token != word.length()) {
                return false;
            }
            for (int i = 0; i < word.length(); i++) {
                if (bytes[token + i] != word.charAt(i)) {
                    return false;
                }
            }
            return true;
        }

        private void nextToken() {
            token = endOfRun(tokenEnd, ' ', ' ');
            tokenEnd = token + 1;
            if (token >= length) {
                sort = END;
                tokenEnd = length;
            } else if (within(bytes[token], 'a', 'z')) {
                sort = WORD;
                tokenEnd = endOfRun(token, 'a', 'z');
            } else if (within(bytes[token], '0', '9')) {
                tokenEnd = endOfRun(token, '0', '9');
                // Figures that stand together are one token, but only a lone one is a number.
                sort = tokenEnd - token == 1 ? NUMBER : STRANGE;
            } else {
                sort = bytes[token] == ';' ? STOP : STRANGE;
            }
        }

        private int endOfRun(int start, int least, int most) {
            for (int i = start; i < length; i++) {
                if (bytes[i] < least || bytes[i] > most) {
                    return i;
                }
            }
            return length;
        }
    }
}
