import java.math.BigInteger;
import java.util.function.Supplier;
import java.util.function.ToIntFunction;

/** The edges of promises 22 to 24: years, years undone, years drawn by a seed. */
public final class YearEdgesTest {
    private static final int BAD = Edges.BAD, NO = Edges.NO, NONE = Edges.NONE;
    private static final int LEAST = Edges.LEAST, MOST = Edges.MOST;

    private static final Edges EDGES = new Edges("YearEdgesTest");

    private static void years() {
        for (int bad : new int[] {-2, 2, LEAST, MOST}) {
            EDGES.edge("22 no storm " + bad, () -> EDGES.refused(Edges::busy, BAD, x -> x.year(bad)));
        }
        EDGES.edge("22 no storm 0", () -> EDGES.refused(() -> Edges.withRoofs(7), BAD, x -> x.year(0)));
        EDGES.edge("22 no storm 6", () -> EDGES.refused(() -> Edges.withStorms(6), BAD, x -> x.year(6)));
        EDGES.edge("22 the last storm", () -> EDGES.taken(Edges.withStorms(6), 0, x -> x.year(5)));
        EDGES.edge("22 a mild one of nothing at all", () -> {
            HailVotes x = new HailVotes();
            EDGES.taken(x, 0, y -> y.year(NONE));
            EDGES.due("count(3)", x.count(3), 1);
            EDGES.due("count(4)", x.count(4), 1);
        });
        EDGES.edge("22 a storm over no roofs", () -> {
            HailVotes x = Edges.withStorms(1);
            EDGES.taken(x, 0, y -> y.year(0));
            EDGES.due("count(3)", x.count(3), 1);
        });
        for (int age = 0; age <= 9; age++) {
            int before = age, behind = Math.min(9, age + 1);
            EDGES.edge("22 age " + age + " behind a mild year", () -> ages(before, behind, NONE));
            EDGES.edge("22 age " + age + " behind a storm", () -> ages(before, behind, 0));
        }
        EDGES.edge("22 all age, hit or not, churches too", () -> {
            HailVotes x = Edges.canton("roof 5 1 0 0 0 0;roof 1 2 0 0 0 0;roof 0 3 0 0 0 0;storm 1 1 0 9 1;");
            x.year(0);
            EDGES.due("digest", x.digest(), Edges.mixed(3, 1, 0, 1, 1, 0,
                5, 2, 0, 0, 0, 0, -1, -1, 1, 3, 0, 0, 0, 0, -1, -1, 0, 4, 0, 0, 0, 0, -1, -1,
                1, 1, 0, 9, 1, 0, 0, 0, 0, 0, 0, 0, 0, 1));
        });
        EDGES.edge("22 as many as can break", () -> {
            HailVotes x = new HailVotes();
            x.storm(0, 6, 0, 9, 1);
            for (int roof = 0; roof < 7; roof++) {
                x.roof(1, 9, 9, 9, 9, 9);
            }
            EDGES.due("year", x.year(0), 252);
            for (int i = 0; i < 28; i++) {
                EDGES.due("tiles", x.tiles(i / 4, i / 2 % 2, i % 2), 0);
            }
            EDGES.due("none are left", x.year(0), 0);
        });
        EDGES.edge("22 a tile at a time, down to none", () -> {
            HailVotes x = Edges.canton("roof 0 0 2 1 0 0;storm 0 0 0 1 1;");
            int[] broke = {2, 1, 0, 0};
            int[] blue = {1, 0, 0, 0};
            for (int i = 0; i < 4; i++) {
                EDGES.due("year", x.year(0), broke[i]);
                EDGES.due("blue", x.tiles(0, 0, 0), blue[i]);
                EDGES.due("brown", x.tiles(0, 0, 1), 0);
            }
        });
        EDGES.edge("22 both slopes break by the age ahead of the year", () -> {
            HailVotes x = Edges.canton("roof 1 1 9 9 9 9;storm 0 0 0 3 1;");
            EDGES.due("year", x.year(0), 4 + 4 + 2 + 2);
            EDGES.due("the next one, a year older", x.breaks(0, 0, 0), 5 + 3);
        });
        EDGES.edge("22 very many years", () -> {
            HailVotes x = Edges.withRoofs(1);
            for (int i = 1; i <= 400; i++) {
                x.year(NONE);
            }
            EDGES.due("count(3)", x.count(3), 400);
            EDGES.due("count(4)", x.count(4), 3);
        });
        EDGES.edge("22 storms, cannons, the text and the fraction stay", () -> {
            HailVotes x = Edges.busy();
            EDGES.taken(x, 0, y -> y.year(NONE));
            EDGES.due("storms", x.count(1), 2);
            EDGES.due("cannons", x.count(2), 2);
            EDGES.due("bytes", x.count(5), 42);
            EDGES.fraction(x, 2, 5);
        });
    }

    /** A roof of that age is so old behind the year. */
    private static void ages(int before, int behind, int storm) {
        HailVotes x = new HailVotes();
        x.roof(1, before, 0, 0, 0, 0);
        x.storm(0, 0, 0, 1, 1);
        EDGES.taken(x, 0, y -> y.year(storm));
        EDGES.due("digest", x.digest(), Edges.mixed(1, 1, 0, 1, 1, 0, 1, behind, 0, 0, 0, 0, -1, -1,
            0, 0, 0, 1, 1, 0, 0, 0, 0, 0, 0, 0, 0, 1));
    }

    private static HailVotes ninetiled(int years) {
        HailVotes x = Edges.canton("roof 0 0 9 9 9 9;storm 0 0 0 1 1;");
        for (int i = 0; i < years; i++) {
            x.year(0);
        }
        return x;
    }

    private static void undone() {
        EDGES.edge("23 none was", () -> EDGES.refused(HailVotes::new, NO, HailVotes::undo));
        for (int years = 1; years <= 6; years++) {
            int n = years;
            EDGES.edge("23 behind " + years + " years", () -> {
                HailVotes x = ninetiled(n);
                int most = Math.min(3, n);
                EDGES.due("count(4)", x.count(4), most);
                for (int i = 1; i <= most; i++) {
                    EDGES.taken(x, 1, HailVotes::undo);
                    EDGES.due("tiles", x.tiles(0, 0, 0), 9 - n + i);
                    EDGES.due("count(3)", x.count(3), n - i);
                    EDGES.due("count(4)", x.count(4), most - i);
                }
            });
            EDGES.edge("23 no more behind " + years + " years", () -> EDGES.refused(() -> {
                HailVotes x = ninetiled(n);
                for (int i = 0; i < Math.min(3, n); i++) {
                    x.undo();
                }
                return x;
            }, NO, HailVotes::undo));
        }
        EDGES.edge("23 behind one undone, a year takes its place", () -> {
            HailVotes x = ninetiled(4);
            x.undo();
            x.year(0);
            EDGES.due("count(4)", x.count(4), 3);
            for (int i = 0; i < 3; i++) {
                x.undo();
                EDGES.due("tiles", x.tiles(0, 0, 0), 6 + i);
            }
            EDGES.due("no fourth", x.undo(), NO);
        });
        EDGES.edge("23 a refused year is none to undo", () -> {
            HailVotes x = ninetiled(0);
            x.year(1);
            EDGES.due("undo", x.undo(), NO);
        });
        EDGES.edge("23 none behind read", () -> EDGES.refused(() -> readBehindYears("cannon 1;"), NO, HailVotes::undo));
        EDGES.edge("23 none behind the read of an empty text", () -> EDGES.refused(() -> readBehindYears(""), NO, HailVotes::undo));
        EDGES.edge("23 those ahead of a fault still", () -> {
            HailVotes x = readBehindYears("cannon 7;");
            EDGES.due("count(4)", x.count(4), 3);
            EDGES.due("undo", x.undo(), 1);
        });
        toldSince("a roof", x -> x.roof(0, 0, 1, 1, 1, 1));
        toldSince("a storm", x -> x.storm(0, 0, 0, 1, 1));
        toldSince("a cannon", x -> x.cannon(6, true));
        toldSince("a cannon taken", x -> x.cannon(4, false));
        toldSince("shards", x -> x.shards(2, 1, 1));
        toldSince("shards not told", x -> x.shards(1, NONE, NONE));
        EDGES.edge("23 the text stays", () -> {
            HailVotes x = ninetiled(1);
            Edges.type(x, "cannon 1;");
            x.undo();
            EDGES.due("count(5)", x.count(5), 9);
            EDGES.due("read", x.read(), 1);
        });
        EDGES.edge("23 the fraction stays", () -> {
            HailVotes x = ninetiled(1);
            x.odds(2);
            x.undo();
            EDGES.fraction(x, 1, 1);
        });
        EDGES.edge("23 status stays", () -> {
            HailVotes x = ninetiled(1);
            x.cannon(0, false);
            x.year(9);
            x.undo();
            EDGES.status(x, 1, 1, 0);
        });
        EDGES.edge("23 images stay", () -> {
            HailVotes x = ninetiled(1);
            x.image(0);
            x.undo();
            EDGES.due("from(0)", x.from(0), 1);
            EDGES.due("tiles", x.tiles(0, 0, 0), 8);
        });
        EDGES.edge("23 age 9 may have been 8 or 9", () -> {
            HailVotes x = Edges.canton("roof 1 8 0 0 0 0;roof 1 9 0 0 0 0;");
            long before = x.digest();
            x.year(NONE);
            x.undo();
            EDGES.due("digest", x.digest(), before);
        });
    }

    private static HailVotes readBehindYears(String text) {
        HailVotes x = ninetiled(3);
        Edges.type(x, text);
        x.read();
        return x;
    }

    /** What was told behind a year goes when the year is undone. */
    private static void toldSince(String name, ToIntFunction<HailVotes> told) {
        EDGES.edge("23 told since: " + name, () -> {
            HailVotes x = oneYearUndone();
            x.year(1);
            EDGES.due("told", told.applyAsInt(x) >= 0 ? 1 : 0, 1);
            EDGES.due("undo", x.undo(), 1);
            EDGES.same(x, oneYearUndone());
        });
    }

    /** With one undone, so that a year more makes none of those that may be fall out. */
    private static HailVotes oneYearUndone() {
        HailVotes x = Edges.busy();
        x.undo();
        return x;
    }

    private static void drawn() {
        for (int bad : new int[] {-1, 1000000, LEAST, MOST}) {
            EDGES.edge("24 no seed " + bad, () -> EDGES.refused(Edges::busy, BAD, -1000, x -> x.drawn(bad, 1)));
        }
        for (int bad : new int[] {-1, 21, LEAST, MOST}) {
            EDGES.edge("24 not so many years: " + bad, () -> EDGES.refused(Edges::busy, BAD, -1000, x -> x.drawn(1, bad)));
            EDGES.edge("24 no storm, not so many years: " + bad,
                () -> EDGES.refused(HailVotes::new, BAD, -1000, x -> x.drawn(1, bad)));
        }
        for (int seed : new int[] {0, 1, 999998, 999999}) {
            EDGES.edge("24 no year by " + seed, () -> EDGES.asked(Edges::busy, 0, x -> x.drawn(seed, 0)));
            EDGES.edge("24 no storm by " + seed, () -> EDGES.asked(() -> Edges.withRoofs(7), 0, x -> x.drawn(seed, 20)));
            EDGES.edge("24 no roof by " + seed, () -> EDGES.asked(() -> Edges.withStorms(6), 0, x -> x.drawn(seed, 20)));
            for (int y : new int[] {1, 2, 3, 19, 20}) {
                EDGES.edge("24 year by year, " + y + " by " + seed, () -> {
                    EDGES.asked(YearEdgesTest::mixedCanton, yearByYear(mixedCanton(), seed, y), x -> x.drawn(seed, y));
                    EDGES.asked(Edges::busy, yearByYear(Edges.busy(), seed, y), x -> x.drawn(seed, y));
                });
            }
        }
        EDGES.edge("24 what is left over, from 0 to all chances", YearEdgesTest::allLeftOvers);
        EDGES.edge("24 more seeds", () -> {
            HailVotes x = mixedCanton();
            for (int seed = 0; seed < 400; seed++) {
                EDGES.due("drawn by " + 2499 * seed, x.drawn(2499 * seed, 20), yearByYear(mixedCanton(), 2499 * seed, 20));
            }
        });
    }

    private static HailVotes mixedCanton() {
        return Edges.canton("roof 1 0 9 5 3 9;roof 4 2 2 9 9 9;roof 2 0 9 1 1 9;roof 0 0 7 9 9 7;"
            + "storm 0 1 0 2 3;storm 1 3 1 3 1;storm 0 3 0 1 2;storm 2 2 1 2 9;cannon 3;");
    }

    /** Blue wins by storm 0, brown by storm 1, none in a mild year: each number left over shows itself. */
    private static void allLeftOvers() {
        Supplier<HailVotes> made = () -> Edges.canton("roof 0 0 0 9 0 0;roof 0 0 9 0 0 0;storm 0 0 0 9 2;storm 1 1 0 9 3;");
        HailVotes x = made.get();
        int[] due = {1, 1, -1, -1, -1, 0};
        boolean[] seen = new boolean[6];
        for (int seed = 0; seed < 100; seed++) {
            int r = leftOver(next(BigInteger.valueOf(seed)), 5);
            seen[r] = true;
            EDGES.due("left over " + r, x.drawn(seed, 1), due[r]);
        }
        for (int r = 0; r < 6; r++) {
            EDGES.due("seen " + r, seen[r] ? 1 : 0, 1);
        }
    }

    private static BigInteger next(BigInteger x) {
        return x.multiply(BigInteger.valueOf(1103515245)).add(BigInteger.valueOf(12345)).mod(BigInteger.ONE.shiftLeft(31));
    }

    private static int leftOver(BigInteger x, int chances) {
        return x.divide(BigInteger.valueOf(65536)).mod(BigInteger.valueOf(chances + 1)).intValue();
    }

    /** Goes through the years themselves, on an object that is used up by it; its chances are told here. */
    private static int yearByYear(HailVotes x, int seed, int y) {
        int[] chances = x.count(1) == 4 ? new int[] {3, 1, 2, 9} : new int[] {2, 3};
        int whole = 0;
        for (int c : chances) {
            whole += c;
        }
        int ahead = 0;
        BigInteger state = BigInteger.valueOf(seed);
        for (int i = 0; i < y; i++) {
            state = next(state);
            int r = leftOver(state, whole);
            int storm = NONE;
            int together = 0;
            for (int s = 0; s < chances.length && storm == NONE; s++) {
                together += chances[s];
                storm = together > r ? s : NONE;
            }
            int winner = storm == NONE ? NONE : x.wins(storm);
            ahead += winner == 0 ? 1 : winner == 1 ? -1 : 0;
            x.year(storm);
        }
        return ahead;
    }

    public static void main(String[] args) {
        years();
        undone();
        drawn();
        EDGES.end();
    }
}
