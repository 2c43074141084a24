import java.math.BigInteger;
import java.util.function.Supplier;

/** The edges of promises 19 to 21: shards, which storms they tell of, and the count again. */
public final class ShardEdgesTest {
    private static final int BAD = Edges.BAD, NO = Edges.NO, NONE = Edges.NONE;
    private static final int LEAST = Edges.LEAST, MOST = Edges.MOST;

    private static final Edges EDGES = new Edges("ShardEdgesTest");

    private static void shards() {
        for (int told : new int[] {0, 1, 17, 18}) {
            EDGES.edge("19 blue " + told, () -> tells(0, told, 5));
            EDGES.edge("19 brown " + told, () -> tells(0, 5, told));
        }
        EDGES.edge("19 none of both broke", () -> tells(0, 0, 0));
        EDGES.edge("19 as many as can be", () -> tells(6, 18, 18));
        EDGES.edge("19 not told", () -> tells(3, NONE, NONE));
        for (int bad : new int[] {19, -2, LEAST, MOST}) {
            EDGES.edge("19 not so many blue: " + bad, () -> refuses(0, bad, 5));
            EDGES.edge("19 not so many brown: " + bad, () -> refuses(0, 5, bad));
            EDGES.edge("19 brown not told, not so many blue: " + bad, () -> refuses(0, bad, NONE));
            EDGES.edge("19 blue not told, not so many brown: " + bad, () -> refuses(0, NONE, bad));
        }
        for (int told : new int[] {0, 18}) {
            EDGES.edge("19 blue alone not told, brown " + told, () -> refuses(0, NONE, told));
            EDGES.edge("19 brown alone not told, blue " + told, () -> refuses(0, told, NONE));
        }
        for (int bad : new int[] {-1, 3, LEAST, MOST}) {
            EDGES.edge("19 no roof " + bad, () -> refuses(bad, 1, 1));
            EDGES.edge("19 no roof " + bad + " not told", () -> refuses(bad, NONE, NONE));
        }
        EDGES.edge("19 no roof 7", () -> EDGES.refused(() -> Edges.withRoofs(7), BAD, x -> x.shards(7, 1, 1)));
        EDGES.edge("19 no roof at all", () -> EDGES.refused(HailVotes::new, BAD, x -> x.shards(0, 1, 1)));
        EDGES.edge("19 more than the roof has is told all the same", () -> {
            HailVotes x = Edges.withRoofs(1);
            EDGES.taken(x, 1, y -> y.shards(0, 3, 3));
        });
        EDGES.edge("19 told anew", () -> {
            HailVotes x = Edges.withRoofs(7);
            x.shards(2, 18, 0);
            x.shards(2, 0, 18);
            HailVotes y = Edges.withRoofs(7);
            y.shards(2, 0, 18);
            EDGES.same(x, y);
        });
        EDGES.edge("19 told, and not told again", () -> {
            HailVotes x = Edges.withRoofs(7);
            x.shards(2, 18, 0);
            x.shards(2, NONE, NONE);
            EDGES.same(x, Edges.withRoofs(7));
        });
        EDGES.edge("19 not told, again not told", () -> EDGES.asked(() -> Edges.withRoofs(7), 1, x -> x.shards(2, NONE, NONE)));
        EDGES.edge("19 told the same again", () -> EDGES.asked(Edges::busy, 1, x -> x.shards(1, 3, 4)));
        EDGES.edge("19 a year leaves them", () -> {
            HailVotes x = Edges.withRoofs(1);
            x.shards(0, 1, 0);
            x.year(NONE);
            EDGES.due("by hand still", x.which(1), 1);
        });
    }

    private static void tells(int roof, int blue, int brown) {
        HailVotes x = Edges.withRoofs(7);
        EDGES.taken(x, 1, y -> y.shards(roof, blue, brown));
        long[] due = new long[6 + 7 * 8 + 9];
        due[0] = 7;
        due[due.length - 1] = 1;
        for (int r = 0; r < 7; r++) {
            long[] told = {0, 0, 1, 1, 1, 1, r == roof ? blue : NONE, r == roof ? brown : NONE};
            System.arraycopy(told, 0, due, 6 + 8 * r, 8);
        }
        EDGES.due("digest", x.digest(), Edges.mixed(due));
    }

    private static void refuses(int roof, int blue, int brown) {
        EDGES.refused(Edges::busy, BAD, x -> x.shards(roof, blue, brown));
    }

    /** Seven roofs and six storms, the storm s of size s + 1 on all of them, each roof with 9 blue tiles. */
    private static HailVotes grown() {
        HailVotes x = new HailVotes();
        for (int roof = 0; roof < 7; roof++) {
            x.roof(0, 0, 9, 0, 0, 0);
        }
        for (int storm = 0; storm < 6; storm++) {
            x.storm(0, 6, 0, storm + 1, 1);
        }
        return x;
    }

    private static HailVotes grownWith(int... blueByRoof) {
        HailVotes x = grown();
        for (int roof = 0; roof < blueByRoof.length; roof++) {
            x.shards(roof, blueByRoof[roof], blueByRoof[roof] == NONE ? NONE : 0);
        }
        return x;
    }

    private static void which() {
        for (int bad : new int[] {-1, 2, LEAST, MOST}) {
            EDGES.edge("20 not asked so: " + bad, () -> {
                EDGES.refused(Edges::busy, BAD, x -> x.which(bad));
                EDGES.refused(HailVotes::new, BAD, x -> x.which(bad));
            });
        }
        EDGES.edge("20 nothing at all", () -> {
            EDGES.asked(HailVotes::new, 0, x -> x.which(0));
            EDGES.asked(HailVotes::new, 0, x -> x.which(1));
        });
        EDGES.edge("20 no roof: all six storms", () -> EDGES.asked(() -> Edges.withStorms(6), 63, x -> x.which(0)));
        EDGES.edge("20 no roof: none by hand", () -> EDGES.asked(() -> Edges.withStorms(6), 0, x -> x.which(1)));
        EDGES.edge("20 nothing told: all six storms", () -> EDGES.asked(ShardEdgesTest::grown, 63, x -> x.which(0)));
        EDGES.edge("20 nothing told: none by hand", () -> EDGES.asked(ShardEdgesTest::grown, 0, x -> x.which(1)));
        for (int s = 0; s < 6; s++) {
            int storm = s;
            EDGES.edge("20 storm " + s + " alone", () -> EDGES.asked(() -> grownWith(storm + 1), 1 << storm, x -> x.which(0)));
        }
        EDGES.edge("20 less than any storm breaks", () -> shows(0, 1, 0));
        EDGES.edge("20 more than any storm breaks", () -> shows(0, 1, 7));
        EDGES.edge("20 two roofs that no storm breaks together", () -> shows(0, 0, 1, 2));
        EDGES.edge("20 two roofs, one by hand", () -> shows(0, 2, 1, 9));
        EDGES.edge("20 all roofs by one storm", () -> shows(32, 0, 6, 6, 6, 6, 6, 6, 6));
        EDGES.edge("20 all seven by hand", () -> shows(0, 127, 9, 9, 9, 9, 9, 9, 9));
        EDGES.edge("20 the last one by hand", () -> shows(0, 64, NONE, NONE, NONE, NONE, NONE, NONE, 9));
        EDGES.edge("20 brown ones that do not fit", () -> {
            HailVotes x = grown();
            x.shards(0, 3, 1);
            EDGES.due("storms", x.which(0), 0);
            EDGES.due("by hand", x.which(1), 1);
        });
        EDGES.edge("20 no storm: whatever is told is by hand, nothing broken too", () -> {
            HailVotes x = Edges.withRoofs(7);
            x.shards(6, 0, 0);
            EDGES.due("storms", x.which(0), 0);
            EDGES.due("by hand", x.which(1), 64);
        });
        EDGES.edge("20 nothing broken, by a storm that goes elsewhere", () -> {
            HailVotes x = Edges.withRoofs(7);
            x.storm(0, 5, 0, 9, 1);
            x.shards(6, 0, 0);
            EDGES.due("storms", x.which(0), 1);
            EDGES.due("by hand", x.which(1), 0);
        });
        EDGES.edge("20 as many as a roof can lose", () -> {
            HailVotes x = Edges.canton("roof 1 9 9 9 9 9;storm 0 0 0 9 1;");
            x.shards(0, 18, 18);
            EDGES.due("storms", x.which(0), 1);
        });
    }

    private static void shows(int storms, int byHand, int... blueByRoof) {
        EDGES.asked(() -> grownWith(blueByRoof), storms, x -> x.which(0));
        EDGES.asked(() -> grownWith(blueByRoof), byHand, x -> x.which(1));
    }

    private static void recount() {
        // Storm 0 breaks 5 blue and 4 brown ones, storm 1 as many of both, storm 2 none, storm 3 one.
        Supplier<HailVotes> made = () -> Edges.canton("roof 0 0 5 4 0 0;roof 0 0 3 3 0 0;roof 0 0 0 0 0 0;roof 0 0 0 1 0 0;"
            + "storm 0 0 0 9 1;storm 1 1 0 9 1;storm 2 2 0 9 1;storm 3 3 0 9 1;");
        for (int bad : new int[] {0, -1, 9, LEAST, MOST}) {
            EDGES.edge("21 not so many: " + bad, () -> EDGES.refused(made, BAD, x -> x.recount(0, bad)));
            EDGES.edge("21 not so many, though as many broke: " + bad, () -> EDGES.refused(made, BAD, x -> x.recount(1, bad)));
        }
        for (int bad : new int[] {-1, 4, LEAST, MOST}) {
            EDGES.edge("21 no storm " + bad, () -> EDGES.refused(made, BAD, x -> x.recount(bad, 1)));
        }
        EDGES.edge("21 no storm at all", () -> EDGES.refused(() -> Edges.withRoofs(7), BAD, x -> x.recount(0, 1)));
        EDGES.edge("21 no roof at all", () -> EDGES.refused(() -> Edges.withStorms(1), BAD, x -> x.recount(0, 1)));
        EDGES.edge("21 nothing broke", () -> EDGES.refused(made, BAD, x -> x.recount(2, 1)));
        EDGES.edge("21 one more than broke, as many of both", () -> EDGES.refused(made, BAD, x -> x.recount(1, 7)));
        EDGES.edge("21 one more than broke", () -> EDGES.refused(made, BAD, x -> x.recount(3, 2)));
        for (int m = 1; m <= 6; m++) {
            int looks = m;
            EDGES.edge("21 as many of both, " + m + " looked at", () -> EDGES.refused(made, NO, x -> x.recount(1, looks)));
        }
        EDGES.edge("21 the only one", () -> EDGES.reckoned(made, 1, 1, 1, x -> x.recount(3, 1)));
        for (int m = 1; m <= 8; m++) {
            int looks = m;
            EDGES.edge("21 of nine: " + m, () -> EDGES.due("all ways agree", wayByWay(made.get(), 0, looks, 5, 4), 1));
        }
        Supplier<HailVotes> eight = () -> Edges.canton("roof 0 0 3 5 0 0;storm 0 0 0 9 1;");
        EDGES.edge("21 all eight that broke", () -> EDGES.reckoned(eight, 1, 1, 1, x -> x.recount(0, 8)));
        Supplier<HailVotes> seven = () -> Edges.canton("roof 0 0 3 4 0 0;storm 0 0 0 9 1;");
        EDGES.edge("21 all seven that broke", () -> EDGES.reckoned(seven, 1, 1, 1, x -> x.recount(0, 7)));
        EDGES.edge("21 eight of seven", () -> EDGES.refused(seven, BAD, x -> x.recount(0, 8)));
        Supplier<HailVotes> blue = () -> Edges.canton("roof 0 0 9 0 0 0;storm 0 0 0 9 1;");
        EDGES.edge("21 one paint alone", () -> EDGES.reckoned(blue, 1, 1, 1, x -> x.recount(0, 8)));
        EDGES.edge("21 two of three: both must be blue", () -> EDGES.reckoned(
            () -> Edges.canton("roof 0 0 2 1 0 0;storm 0 0 0 9 1;"), 1, 1, 3, x -> x.recount(0, 2)));
        for (int m = 1; m <= 8; m++) {
            int looks = m;
            EDGES.edge("21 of as many as can break: " + m,
                () -> EDGES.due("all ways agree", wayByWay(mostBroken(), 0, looks, 126, 125), 1));
        }
    }

    /** 126 blue ones break, and one brown one less. */
    private static HailVotes mostBroken() {
        HailVotes x = new HailVotes();
        for (int roof = 0; roof < 7; roof++) {
            x.roof(1, 9, 9, roof == 6 ? 8 : 9, 9, 9);
        }
        x.storm(0, 6, 0, 9, 1);
        return x;
    }

    /** Whether the call's fraction is, in lowest terms, what the samples counted one by one give. */
    private static int wayByWay(HailVotes x, int storm, int m, int more, int fewer) {
        BigInteger good = BigInteger.ZERO;
        for (int k = 0; k <= m; k++) {
            if (k > m - k) {
                good = good.add(choose(more, k).multiply(choose(fewer, m - k)));
            }
        }
        BigInteger all = choose(more + fewer, m);
        BigInteger shared = good.gcd(all);
        boolean so = x.recount(storm, m) == 1
            && BigInteger.valueOf(x.part(0)).equals(good.divide(shared))
            && BigInteger.valueOf(x.part(1)).equals(all.divide(shared));
        return so ? 1 : 0;
    }

    private static BigInteger choose(int of, int k) {
        BigInteger ways = BigInteger.ONE;
        for (int i = 0; i < k; i++) {
            ways = ways.multiply(BigInteger.valueOf(of - i)).divide(BigInteger.valueOf(i + 1));
        }
        return ways;
    }

    public static void main(String[] args) {
        shards();
        which();
        recount();
        EDGES.end();
    }
}
