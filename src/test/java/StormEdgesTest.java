import java.util.function.Supplier;

/** The edges of promises 9 to 12: force, what breaks, who wins, and by which odds. */
public final class StormEdgesTest {
    private static final int BAD = Edges.BAD, NO = Edges.NO, NONE = Edges.NONE;
    private static final int LEAST = Edges.LEAST, MOST = Edges.MOST;

    private static final Edges EDGES = new Edges("StormEdgesTest");

    private static HailVotes sevenRoofs(int from, int to, int wind, int size) {
        HailVotes x = Edges.withRoofs(7);
        x.storm(from, to, wind, size, 1);
        return x;
    }

    private static void paths() {
        for (int from = 0; from <= 6; from++) {
            for (int to = from; to <= 6; to++) {
                int first = from, last = to;
                EDGES.edge("9 the path " + from + " .. " + to, () -> {
                    HailVotes x = sevenRoofs(first, last, 0, 5);
                    for (int roof = 0; roof <= 6; roof++) {
                        boolean hit = roof >= first && roof <= last;
                        EDGES.due("force on " + roof, x.force(0, roof, 0), hit ? 5 : 0);
                    }
                });
            }
        }
        for (int size = 1; size <= 9; size++) {
            int whole = size;
            EDGES.edge("9 size " + size + ", west", () -> {
                HailVotes x = sevenRoofs(0, 6, 0, whole);
                EDGES.due("windward", x.force(0, 6, 0), whole);
                EDGES.due("the other slope, cut", x.force(0, 6, 1), whole / 2);
            });
            EDGES.edge("9 size " + size + ", east", () -> {
                HailVotes x = sevenRoofs(0, 6, 1, whole);
                EDGES.due("windward", x.force(0, 0, 1), whole);
                EDGES.due("the other slope, cut", x.force(0, 0, 0), whole / 2);
            });
        }
    }

    private static void cannons() {
        for (int place = 0; place <= 6; place++) {
            int there = place;
            EDGES.edge("9 one cannon at " + place, () -> {
                HailVotes x = sevenRoofs(0, 6, 0, 9);
                x.cannon(there, true);
                for (int roof = 0; roof <= 6; roof++) {
                    int off = Math.abs(roof - there);
                    int less = off == 0 ? 2 : off == 1 ? 1 : 0;
                    EDGES.due("windward of " + roof, x.force(0, roof, 0), 9 - less);
                    EDGES.due("the other slope of " + roof, x.force(0, roof, 1), 4 - less);
                }
            });
        }
        EDGES.edge("9 cannons everywhere", () -> {
            HailVotes x = sevenRoofs(0, 6, 0, 9);
            for (int place = 0; place <= 6; place++) {
                x.cannon(place, true);
            }
            int[] due = {6, 5, 5, 5, 5, 5, 6};
            for (int roof = 0; roof <= 6; roof++) {
                EDGES.due("windward of " + roof, x.force(0, roof, 0), due[roof]);
                EDGES.due("the other slope of " + roof, x.force(0, roof, 1), due[roof] - 5);
            }
        });
        EDGES.edge("9 one at each side", () -> {
            HailVotes x = sevenRoofs(0, 6, 0, 9);
            x.cannon(2, true);
            x.cannon(4, true);
            EDGES.due("between them", x.force(0, 3, 0), 7);
        });
        for (int size = 1; size <= 4; size++) {
            int whole = size;
            EDGES.edge("9 0 at least, by size " + size, () -> {
                HailVotes x = sevenRoofs(0, 6, 0, whole);
                x.cannon(3, true);
                EDGES.due("there", x.force(0, 3, 0), Math.max(0, whole - 2));
                EDGES.due("there, the other slope", x.force(0, 3, 1), Math.max(0, whole / 2 - 2));
                EDGES.due("beside", x.force(0, 4, 0), whole - 1);
                EDGES.due("beside, the other slope", x.force(0, 2, 1), Math.max(0, whole / 2 - 1));
            });
        }
        EDGES.edge("9 a cannon where no roof stands, beside the last", () -> {
            HailVotes x = Edges.withRoofs(1);
            x.storm(0, 0, 0, 9, 1);
            x.cannon(1, true);
            EDGES.due("force", x.force(0, 0, 0), 8);
        });
        EDGES.edge("9 a cannon in a path that ends ahead of it", () -> {
            HailVotes x = sevenRoofs(0, 3, 0, 9);
            x.cannon(4, true);
            EDGES.due("the last of the path", x.force(0, 3, 0), 8);
            EDGES.due("the cannon's own roof", x.force(0, 4, 0), 0);
        });
        EDGES.edge("9 a cannon that was taken", () -> {
            HailVotes x = sevenRoofs(0, 6, 0, 9);
            x.cannon(3, true);
            x.cannon(3, false);
            EDGES.due("force", x.force(0, 3, 0), 9);
        });
    }

    private static void forceRefused() {
        for (int bad : new int[] {-1, LEAST, MOST}) {
            EDGES.edge("9 no storm " + bad, () -> EDGES.refused(Edges::busy, BAD, x -> x.force(bad, 0, 0)));
            EDGES.edge("9 no roof " + bad, () -> EDGES.refused(Edges::busy, BAD, x -> x.force(0, bad, 0)));
            EDGES.edge("9 no slope " + bad, () -> EDGES.refused(Edges::busy, BAD, x -> x.force(0, 0, bad)));
        }
        EDGES.edge("9 the first storm that is none", () -> EDGES.refused(Edges::busy, BAD, x -> x.force(2, 0, 0)));
        EDGES.edge("9 the first roof that is none", () -> EDGES.refused(Edges::busy, BAD, x -> x.force(0, 3, 0)));
        EDGES.edge("9 the first slope that is none", () -> EDGES.refused(Edges::busy, BAD, x -> x.force(0, 0, 2)));
        EDGES.edge("9 the last of all", () -> EDGES.asked(Edges::busy, 2, x -> x.force(1, 2, 1)));
        EDGES.edge("9 no storm at all", () -> EDGES.refused(() -> Edges.withRoofs(7), BAD, x -> x.force(0, 0, 0)));
        EDGES.edge("9 no roof at all", () -> EDGES.refused(() -> Edges.withStorms(6), BAD, x -> x.force(0, 0, 0)));
        EDGES.edge("9 storm 5, roof 6", () -> {
            HailVotes x = Edges.withStorms(6);
            for (int i = 0; i < 7; i++) {
                x.roof(0, 0, 0, 0, 0, 0);
            }
            EDGES.taken(x, 1, y -> y.force(5, 6, 0));
            EDGES.due("storm 6", x.force(6, 6, 0), BAD);
            EDGES.due("roof 7", x.force(5, 7, 0), BAD);
        });
    }

    /** The document's law, a kind under the one told. */
    private static int law(int kind, int f, int age) {
        int[] byKind = {f, f + age, f / 2, f / 2 - 1, f + age - 3, 0};
        return f == 0 ? 0 : Math.max(0, byKind[kind]);
    }

    private static void laws() {
        for (int kind = 0; kind <= 5; kind++) {
            for (int age = 0; age <= 9; age++) {
                for (int size = 1; size <= 9; size++) {
                    int k = kind, a = age, f = size;
                    EDGES.edge("10 kind " + k + ", age " + a + ", size " + f, () -> breaksByLaw(k, a, f));
                }
            }
        }
        EDGES.edge("10 old, without force by a cannon", () -> noneByCannon(1));
        EDGES.edge("10 steep, without force by a cannon", () -> noneByCannon(4));
        EDGES.edge("10 old, out of the path", () -> noneOutOfPath(1));
        EDGES.edge("10 steep, out of the path", () -> noneOutOfPath(4));
    }

    private static void breaksByLaw(int kind, int age, int size) {
        HailVotes x = new HailVotes();
        x.storm(0, 6, 0, size, 1);
        for (int t = 0; t < 7; t++) {
            x.roof(kind, age, t, 9 - t, 9 - t, t);
        }
        int windward = law(kind, size, age), other = law(kind, size / 2, age);
        int blue = 0, brown = 0;
        for (int t = 0; t < 7; t++) {
            int ofBlue = Math.min(windward, t) + Math.min(other, 9 - t);
            int ofBrown = Math.min(windward, 9 - t) + Math.min(other, t);
            EDGES.due("blue of " + t, x.breaks(0, t, 0), ofBlue);
            EDGES.due("brown of " + t, x.breaks(0, t, 1), ofBrown);
            blue += ofBlue;
            brown += ofBrown;
        }
        EDGES.due("blue of all", x.breaks(0, NONE, 0), blue);
        EDGES.due("brown of all", x.breaks(0, NONE, 1), brown);
    }

    private static void noneByCannon(int kind) {
        HailVotes x = new HailVotes();
        x.roof(kind, 9, 9, 9, 9, 9);
        x.storm(0, 0, 0, 2, 1);
        x.cannon(0, true);
        EDGES.due("blue", x.breaks(0, 0, 0), 0);
        EDGES.due("brown", x.breaks(0, 0, 1), 0);
    }

    private static void noneOutOfPath(int kind) {
        HailVotes x = new HailVotes();
        x.roof(kind, 9, 9, 9, 9, 9);
        x.storm(1, 6, 0, 9, 1);
        EDGES.due("blue", x.breaks(0, 0, 0), 0);
        EDGES.due("brown", x.breaks(0, 0, 1), 0);
    }

    private static void breaksRefused() {
        for (int bad : new int[] {-2, LEAST, MOST}) {
            EDGES.edge("10 no storm " + bad, () -> EDGES.refused(Edges::busy, BAD, x -> x.breaks(bad, 0, 0)));
            EDGES.edge("10 no roof " + bad, () -> EDGES.refused(Edges::busy, BAD, x -> x.breaks(0, bad, 0)));
            EDGES.edge("10 no paint " + bad, () -> EDGES.refused(Edges::busy, BAD, x -> x.breaks(0, 0, bad)));
        }
        EDGES.edge("10 no storm NONE", () -> EDGES.refused(Edges::busy, BAD, x -> x.breaks(-1, 0, 0)));
        EDGES.edge("10 no paint NONE", () -> EDGES.refused(Edges::busy, BAD, x -> x.breaks(0, 0, -1)));
        EDGES.edge("10 the first storm that is none", () -> EDGES.refused(Edges::busy, BAD, x -> x.breaks(2, 0, 0)));
        EDGES.edge("10 the first roof that is none", () -> EDGES.refused(Edges::busy, BAD, x -> x.breaks(0, 3, 0)));
        EDGES.edge("10 the first paint that is none", () -> EDGES.refused(Edges::busy, BAD, x -> x.breaks(0, 0, 2)));
        EDGES.edge("10 all roofs, a storm that is none", () -> EDGES.refused(Edges::busy, BAD, x -> x.breaks(2, NONE, 0)));
        EDGES.edge("10 all roofs, a paint that is none", () -> EDGES.refused(Edges::busy, BAD, x -> x.breaks(0, NONE, 2)));
        EDGES.edge("10 all of no roofs", () -> EDGES.asked(() -> Edges.withStorms(1), 0, x -> x.breaks(0, NONE, 0)));
        EDGES.edge("10 a roof of no roofs", () -> EDGES.refused(() -> Edges.withStorms(1), BAD, x -> x.breaks(0, 0, 0)));
        EDGES.edge("10 all roofs of no storms", () -> EDGES.refused(() -> Edges.withRoofs(1), BAD, x -> x.breaks(0, NONE, 0)));
        EDGES.edge("10 as many as can break", () -> EDGES.asked(StormEdgesTest::allBreak, 126, x -> x.breaks(0, NONE, 1)));
    }

    /** Seven old roofs with all the tiles they can have, and a storm that leaves none. */
    private static HailVotes allBreak() {
        HailVotes x = new HailVotes();
        x.storm(0, 6, 0, 9, 9);
        for (int i = 0; i < 7; i++) {
            x.roof(1, 9, 9, 9, 9, 9);
        }
        return x;
    }

    private static void winners() {
        Supplier<HailVotes> made = () -> Edges.canton("roof 0 0 5 4 0 0;roof 0 0 4 5 0 0;roof 5 9 9 0 9 0;roof 0 0 0 0 0 0;"
            + "storm 0 0 0 9 1;storm 1 1 0 9 1;storm 0 1 0 9 1;storm 0 0 0 4 1;storm 2 2 0 9 1;storm 3 6 0 9 1;");
        EDGES.edge("11 one blue more", () -> EDGES.asked(made, 1, x -> x.wins(0)));
        EDGES.edge("11 one brown more", () -> EDGES.asked(made, 0, x -> x.wins(1)));
        EDGES.edge("11 as many, of two roofs", () -> EDGES.asked(made, NONE, x -> x.wins(2)));
        EDGES.edge("11 as many, though more blue ones are there", () -> EDGES.asked(made, NONE, x -> x.wins(3)));
        EDGES.edge("11 a church alone", () -> EDGES.asked(made, NONE, x -> x.wins(4)));
        EDGES.edge("11 no tile there", () -> EDGES.asked(made, NONE, x -> x.wins(5)));
        EDGES.edge("11 no roof at all", () -> EDGES.asked(() -> Edges.withStorms(1), NONE, x -> x.wins(0)));
        for (int bad : new int[] {-1, -2, 6, LEAST, MOST}) {
            EDGES.edge("11 no storm " + bad, () -> EDGES.refused(made, BAD, x -> x.wins(bad)));
        }
        EDGES.edge("11 the first storm that is none", () -> EDGES.refused(Edges::busy, BAD, x -> x.wins(2)));
        EDGES.edge("11 no storm at all", () -> EDGES.refused(() -> Edges.withRoofs(7), BAD, x -> x.wins(0)));
    }

    private static void odds() {
        for (int bad : new int[] {-1, 3, LEAST, MOST}) {
            EDGES.edge("12 no odds " + bad, () -> EDGES.refused(Edges::busy, BAD, x -> x.odds(bad)));
            EDGES.edge("12 no storm, bad ahead of it: " + bad, () -> EDGES.refused(HailVotes::new, BAD, x -> x.odds(bad)));
        }
        for (int what = 0; what <= 2; what++) {
            int asked = what;
            EDGES.edge("12 no storm: " + what, () -> {
                EDGES.refused(HailVotes::new, NO, x -> x.odds(asked));
                EDGES.refused(() -> Edges.withRoofs(7), NO, x -> x.odds(asked));
            });
        }
        EDGES.edge("12 no roof: none wins for sure", () -> EDGES.reckoned(() -> Edges.withStorms(6), 1, 1, 1, x -> x.odds(2)));
        EDGES.edge("12 no roof: blue never wins", () -> EDGES.reckoned(() -> Edges.withStorms(6), 1, 0, 1, x -> x.odds(0)));
        EDGES.edge("12 no roof: brown never wins", () -> EDGES.reckoned(() -> Edges.withStorms(6), 1, 0, 1, x -> x.odds(1)));
        Supplier<HailVotes> six = () -> Edges.canton("roof 0 0 1 0 0 0;roof 0 0 0 1 0 0;storm 0 0 0 9 9;storm 0 0 0 9 9;"
            + "storm 0 0 0 9 9;storm 1 1 0 9 9;storm 1 1 0 9 9;storm 2 2 0 9 9;");
        EDGES.edge("12 the greatest chances, lowest terms: blue", () -> EDGES.reckoned(six, 1, 1, 3, x -> x.odds(0)));
        EDGES.edge("12 the greatest chances, lowest terms: brown", () -> EDGES.reckoned(six, 1, 1, 2, x -> x.odds(1)));
        EDGES.edge("12 the greatest chances, lowest terms: none", () -> EDGES.reckoned(six, 1, 1, 6, x -> x.odds(2)));
        Supplier<HailVotes> two = () -> Edges.canton("roof 0 0 1 0 0 0;storm 0 0 0 9 8;storm 1 1 0 9 9;");
        EDGES.edge("12 no common divisor", () -> EDGES.reckoned(two, 1, 8, 17, x -> x.odds(1)));
        Supplier<HailVotes> one = () -> Edges.canton("roof 0 0 1 0 0 0;storm 0 0 0 1 1;");
        EDGES.edge("12 one storm of chance 1", () -> EDGES.reckoned(one, 1, 1, 1, x -> x.odds(1)));
    }

    public static void main(String[] args) {
        paths();
        cannons();
        forceRefused();
        laws();
        breaksRefused();
        winners();
        odds();
        EDGES.end();
    }
}
