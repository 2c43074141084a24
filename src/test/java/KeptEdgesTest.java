import java.util.function.Supplier;
import java.util.function.ToLongFunction;

/** The edges of promises 25 to 30: the fraction, images, status, counts, the digest. */
public final class KeptEdgesTest {
    private static final int BAD = Edges.BAD, NO = Edges.NO, FULL = Edges.FULL, NONE = Edges.NONE;
    private static final int LEAST = Edges.LEAST, MOST = Edges.MOST;

    private static final Edges EDGES = new Edges("KeptEdgesTest");

    private static void parts() {
        EDGES.edge("25 above, at first", () -> EDGES.asked(HailVotes::new, 0, x -> x.part(0)));
        EDGES.edge("25 below, at first", () -> EDGES.asked(HailVotes::new, 1, x -> x.part(1)));
        EDGES.edge("25 above", () -> EDGES.asked(Edges::busy, 2, x -> x.part(0)));
        EDGES.edge("25 below", () -> EDGES.asked(Edges::busy, 5, x -> x.part(1)));
        for (int bad : new int[] {-1, 2, LEAST, MOST}) {
            EDGES.edge("25 no part " + bad, () -> EDGES.refused(Edges::busy, BAD, -1000, x -> x.part(bad)));
        }
        EDGES.edge("25 below 0 the one above is, the one below never", () -> {
            HailVotes x = Edges.canton("roof 0 0 9 0 0 0;storm 0 0 0 9 9;");
            x.against();
            EDGES.fraction(x, -1, 1);
        });
        EDGES.edge("25 0 is 0 by 1", () -> {
            HailVotes x = Edges.canton("roof 0 0 9 0 0 0;storm 0 0 0 9 9;storm 0 0 0 9 8;");
            x.odds(1);
            x.odds(0);
            EDGES.fraction(x, 0, 1);
        });
        EDGES.edge("25 what is refused leaves it", () -> {
            HailVotes x = Edges.busy();
            x.odds(3);
            x.paint(0, 5);
            x.power(3);
            x.shield(2);
            x.recount(0, 9);
            EDGES.fraction(x, 2, 5);
        });
    }

    private static HailVotes yearsOf(int years) {
        HailVotes x = Edges.canton("roof 0 0 9 9 9 9;storm 0 0 0 1 1;");
        for (int i = 0; i < years; i++) {
            x.year(0);
        }
        return x;
    }

    private static void images() {
        for (int bad : new int[] {-1, 2, LEAST, MOST}) {
            EDGES.edge("26 no image " + bad, () -> EDGES.refused(Edges::busy, BAD, x -> x.image(bad)));
            EDGES.edge("27 no image " + bad, () -> EDGES.refused(Edges::busy, BAD, x -> x.from(bad)));
            EDGES.edge("27 no image " + bad + ", none kept either", () -> EDGES.refused(HailVotes::new, BAD, x -> x.from(bad)));
        }
        for (int i = 0; i <= 1; i++) {
            int mine = i, other = 1 - i;
            EDGES.edge("27 none was kept: " + i, () -> EDGES.refused(() -> yearsOf(2), NO, x -> x.from(mine)));
            EDGES.edge("27 the other alone was kept: " + i, () -> EDGES.refused(() -> {
                HailVotes x = yearsOf(2);
                x.image(other);
                return x;
            }, NO, x -> x.from(mine)));
            EDGES.edge("26 kept: " + i, () -> {
                HailVotes x = yearsOf(2);
                EDGES.taken(x, 1, y -> y.image(mine));
                EDGES.due("digest", x.digest(), yearsOf(2).digest());
            });
            EDGES.edge("27 at once behind it nothing changes: " + i, () -> {
                Supplier<HailVotes> kept = () -> {
                    HailVotes x = yearsOf(4);
                    x.image(mine);
                    return x;
                };
                EDGES.asked(kept, 1, x -> x.from(mine));
            });
            EDGES.edge("26 kept anew: " + i, () -> {
                HailVotes x = yearsOf(1);
                x.image(mine);
                x.year(0);
                x.image(mine);
                x.year(0);
                EDGES.due("from", x.from(mine), 1);
                EDGES.due("the later one", x.count(3), 2);
            });
            EDGES.edge("27 more than once: " + i, () -> {
                HailVotes x = yearsOf(1);
                x.image(mine);
                for (int turn = 0; turn < 3; turn++) {
                    x.year(0);
                    x.roof(0, 0, 0, 0, 0, 0);
                    x.storm(0, 0, 0, 1, 1);
                    x.cannon(6, true);
                    x.shards(0, 1, 1);
                    EDGES.taken(x, 1, y -> y.from(mine));
                    EDGES.due("digest", x.digest(), yearsOf(1).digest());
                }
            });
        }
        EDGES.edge("26 an empty canton is one too", () -> {
            HailVotes x = new HailVotes();
            x.image(0);
            x.roof(0, 0, 0, 0, 0, 0);
            x.year(NONE);
            EDGES.due("from", x.from(0), 1);
            EDGES.due("digest", x.digest(), new HailVotes().digest());
        });
        for (int years = 0; years <= 5; years++) {
            int n = years;
            EDGES.edge("27 years that may be undone: of " + years, () -> undoneFromImage(n));
        }
    }

    /** An image behind so many years keeps those that may be undone, whatever comes since. */
    private static void undoneFromImage(int years) {
        HailVotes x = yearsOf(years);
        x.image(0);
        x.cannon(0, true);
        for (int i = 0; i < 4; i++) {
            x.year(NONE);
        }
        x.from(0);
        int most = Math.min(3, years);
        EDGES.due("count(4)", x.count(4), most);
        for (int i = 1; i <= most; i++) {
            EDGES.due("undo", x.undo(), 1);
            EDGES.due("tiles", x.tiles(0, 0, 0), 9 - years + i);
            EDGES.due("cannons", x.count(2), 0);
        }
        EDGES.due("no more", x.undo(), NO);
    }

    private static void imagesLeave() {
        EDGES.edge("27 the other image is not part of one", () -> {
            HailVotes x = yearsOf(1);
            x.image(0);
            x.year(0);
            x.image(1);
            x.from(0);
            EDGES.due("from(1)", x.from(1), 1);
            EDGES.due("its years", x.count(3), 2);
        });
        EDGES.edge("27 the text stays", () -> {
            HailVotes x = yearsOf(1);
            Edges.type(x, "cannon 1;");
            x.image(0);
            x.clear();
            Edges.type(x, "cannon 2;;");
            x.from(0);
            EDGES.due("count(5)", x.count(5), 10);
            EDGES.due("read", x.read(), -19);
        });
        EDGES.edge("27 the fraction stays", () -> {
            HailVotes x = yearsOf(1);
            x.image(0);
            x.odds(2);
            x.from(0);
            EDGES.fraction(x, 1, 1);
        });
        EDGES.edge("27 status stays", () -> {
            HailVotes x = yearsOf(1);
            x.image(0);
            x.odds(3);
            x.cannon(0, false);
            x.from(0);
            EDGES.status(x, 1, 1, 0);
        });
        EDGES.edge("27 shards, storms and cannons are kept", () -> {
            HailVotes x = Edges.canton("roof 0 0 1 1 1 1;storm 0 0 0 1 1;cannon 6;");
            x.shards(0, 3, 4);
            x.image(1);
            long kept = x.digest();
            x.shards(0, NONE, NONE);
            x.cannon(6, false);
            x.cannon(5, true);
            x.storm(0, 0, 0, 1, 1);
            x.from(1);
            EDGES.due("digest", x.digest(), kept);
        });
        EDGES.edge("27 what was read can be left for an image, with its years", () -> {
            HailVotes x = yearsOf(3);
            x.image(0);
            x.read();
            x.from(0);
            EDGES.due("count(3)", x.count(3), 3);
            EDGES.due("undo", x.undo(), 1);
        });
        EDGES.edge("27 an image of a canton with fewer roofs and storms", () -> {
            HailVotes x = yearsOf(0);
            x.image(0);
            x.roof(0, 0, 1, 1, 1, 1);
            x.storm(0, 0, 0, 9, 9);
            x.from(0);
            EDGES.due("roof 1", x.tiles(1, 0, 0), BAD);
            EDGES.due("storm 1", x.wins(1), BAD);
        });
    }

    private static void statuses() {
        for (int bad : new int[] {-1, 3, LEAST, MOST}) {
            EDGES.edge("28 no status " + bad, () -> EDGES.refused(Edges::busy, BAD, -1, x -> x.status(bad)));
        }
        EDGES.edge("28 bad", () -> EDGES.asked(Edges::busy, 1, x -> x.status(0)));
        EDGES.edge("28 no", () -> EDGES.asked(Edges::busy, 2, x -> x.status(1)));
        EDGES.edge("28 full", () -> EDGES.asked(Edges::busy, 1, x -> x.status(2)));
        EDGES.edge("28 very many", () -> {
            HailVotes x = new HailVotes();
            for (int i = 0; i < 400; i++) {
                x.undo();
            }
            EDGES.status(x, 0, 400, 0);
        });
        EDGES.edge("28 what was refused is not undone, read over, or left by an image", () -> {
            HailVotes x = new HailVotes();
            x.image(0);
            x.year(NONE);
            x.wins(0);
            x.undo();
            x.read();
            x.from(0);
            x.clear();
            EDGES.status(x, 1, 0, 0);
        });
        EDGES.edge("28 answers of -1 that are none refused", () -> {
            HailVotes x = Edges.withStorms(1);
            for (int place = 0; place <= 6; place++) {
                x.cannon(place, true);
            }
            EDGES.due("wins", x.wins(0), NONE);
            EDGES.due("against", x.against(), NONE);
            EDGES.due("shield", x.shield(0), NONE);
            EDGES.status(x, 0, 0, 0);
        });
        EDGES.edge("28 a fault is none refused", () -> {
            HailVotes x = new HailVotes();
            Edges.type(x, "x");
            EDGES.due("read", x.read(), -10);
            EDGES.status(x, 0, 0, 0);
        });
        EDGES.edge("28 a draw of less than nothing is none refused", () -> {
            HailVotes x = Edges.canton("roof 0 0 9 0 0 0;storm 0 0 0 1 9;");
            EDGES.due("below 0", x.drawn(1, 20) < 0 ? 1 : 0, 1);
            EDGES.status(x, 0, 0, 0);
        });
    }

    private static void counts() {
        for (int bad : new int[] {-1, 6, LEAST, MOST}) {
            EDGES.edge("29 no count " + bad, () -> EDGES.refused(Edges::busy, BAD, x -> x.count(bad)));
        }
        int[] busy = {3, 2, 2, 3, 3, 42};
        int[] most = {7, 6, 7, 5, 3, 250};
        for (int what = 0; what <= 5; what++) {
            int asked = what;
            EDGES.edge("29 nothing of " + what, () -> EDGES.asked(HailVotes::new, 0, x -> x.count(asked)));
            EDGES.edge("29 something of " + what, () -> EDGES.asked(Edges::busy, busy[asked], x -> x.count(asked)));
            EDGES.edge("29 all of " + what, () -> EDGES.asked(KeptEdgesTest::fullOfAll, most[asked], x -> x.count(asked)));
        }
    }

    /** All that can be full is, and five years were. */
    private static HailVotes fullOfAll() {
        HailVotes x = new HailVotes();
        for (int i = 0; i < 7; i++) {
            x.roof(5, 4, 9, 9, 9, 9);
            x.cannon(i, true);
            x.shards(i, 18, 18);
        }
        for (int i = 0; i < 6; i++) {
            x.storm(6, 6, 1, 9, 9);
        }
        for (int i = 0; i < 5; i++) {
            x.year(NONE);
        }
        Edges.fill(x);
        return x;
    }

    private static void digests() {
        EDGES.edge("30 of nothing", () -> EDGES.asked(HailVotes::new,
            Edges.mixed(0, 0, 0, 0, 0, 0, 0, 0, 0, 0, 0, 0, 0, 0, 1), HailVotes::digest));
        EDGES.edge("30 of all that can be full", () -> {
            long[] vs = new long[6 + 7 * 8 + 6 * 5 + 7 + 2];
            long[] counts = {7, 6, 7, 5, 3, 250};
            System.arraycopy(counts, 0, vs, 0, 6);
            for (int i = 0; i < 7; i++) {
                System.arraycopy(new long[] {5, 9, 9, 9, 9, 9, 18, 18}, 0, vs, 6 + 8 * i, 8);
                vs[92 + i] = 1;
            }
            for (int i = 0; i < 6; i++) {
                System.arraycopy(new long[] {6, 6, 1, 9, 9}, 0, vs, 62 + 5 * i, 5);
            }
            vs[100] = 1;
            EDGES.asked(KeptEdgesTest::fullOfAll, Edges.mixed(vs), HailVotes::digest);
        });
        EDGES.edge("30 each where it belongs", () -> {
            HailVotes x = Edges.canton("roof 1 2 3 4 5 6;roof 2 4 6 8 7 9;roof 3 1 0 2 4 8;storm 0 1 1 9 3;storm 4 6 0 8 9;cannon 0;cannon 5;");
            x.shards(0, 11, 12);
            x.shards(2, 13, 14);
            x.odds(0);
            EDGES.due("digest", x.digest(), Edges.mixed(3, 2, 2, 0, 0, 0, 1, 2, 3, 4, 5, 6, 11, 12,
                2, 4, 6, 8, 7, 9, -1, -1, 3, 1, 0, 2, 4, 8, 13, 14, 0, 1, 1, 9, 3, 4, 6, 0, 8, 9,
                1, 0, 0, 0, 0, 1, 0, 1, 4));
        });
        EDGES.edge("30 the fraction below 0", () -> {
            HailVotes x = Edges.canton("roof 0 0 9 0 0 0;storm 0 0 0 9 1;storm 1 1 0 9 2;");
            x.against();
            EDGES.due("digest", x.digest(), Edges.mixed(1, 2, 0, 0, 0, 0, 0, 0, 9, 0, 0, 0, -1, -1,
                0, 0, 0, 9, 1, 1, 1, 0, 9, 2, 0, 0, 0, 0, 0, 0, 0, -1, 3));
        });
        unseen("what bytes the text has", x -> {
            x.clear();
            Edges.type(x, "x".repeat(42));
            return 0;
        });
        unseen("what was refused", x -> x.status(9));
        unseen("an image", x -> x.image(0));
        unseen("itself", HailVotes::digest);
    }

    /** The digest is the same behind what it has nothing of. */
    private static void unseen(String name, ToLongFunction<HailVotes> done) {
        EDGES.edge("30 without " + name, () -> {
            HailVotes x = Edges.busy();
            long before = x.digest();
            done.applyAsLong(x);
            EDGES.due("digest", x.digest(), before);
        });
    }

    /** All calls that can be refused by a reason, so that none is forgotten to be counted. */
    private static void allReasons() {
        EDGES.edge("28 each call that can be bad, once", () -> {
            HailVotes x = Edges.busy();
            x.roof(6, 0, 0, 0, 0, 0);
            x.storm(1, 0, 0, 1, 1);
            x.cannon(7, true);
            x.tiles(3, 0, 0);
            x.type(0, 9);
            x.force(2, 0, 0);
            x.breaks(0, -2, 0);
            x.wins(2);
            x.odds(3);
            x.paint(2, 0);
            x.brush(0, 5, 0, 0);
            x.decides(3);
            x.power(3);
            x.shield(2);
            x.shards(0, NONE, 0);
            x.which(2);
            x.recount(0, 9);
            x.year(2);
            x.drawn(1000000, 0);
            x.part(2);
            x.image(2);
            x.from(2);
            x.status(3);
            x.count(6);
            EDGES.status(x, 1 + 24, 2, 1);
        });
        EDGES.edge("28 each call that can be answered by NO, once", () -> {
            HailVotes x = Edges.withRoofs(1);
            x.cannon(0, false);
            x.odds(0);
            x.paint(0, 0);
            x.brush(0, 0, 0, 0);
            x.against();
            x.power(0);
            x.shield(0);
            x.undo();
            x.from(0);
            EDGES.status(x, 0, 9, 0);
            x.storm(0, 0, 0, 1, 1);
            x.recount(0, 1);
            EDGES.status(x, 0, 10, 0);
        });
        EDGES.edge("28 each call that can be full, once", () -> {
            HailVotes x = fullOfAll();
            EDGES.due("roof", x.roof(0, 0, 0, 0, 0, 0), FULL);
            EDGES.due("storm", x.storm(0, 0, 0, 1, 1), FULL);
            EDGES.due("type", x.type(0, 1), FULL);
            EDGES.status(x, 0, 0, 3);
        });
    }

    public static void main(String[] args) {
        parts();
        images();
        imagesLeave();
        statuses();
        counts();
        digests();
        allReasons();
        EDGES.end();
    }
}
