import java.util.function.Supplier;

/** The edges of promises 13 to 18: painting, deciding, shielding. */
public final class PaintEdgesTest {
    private static final int BAD = Edges.BAD, NO = Edges.NO, NONE = Edges.NONE;
    private static final int LEAST = Edges.LEAST, MOST = Edges.MOST;

    private static final Edges EDGES = new Edges("PaintEdgesTest");

    /** Blue wins by 2 of 7, brown by 4, none by 1. */
    private static HailVotes parted() {
        return Edges.canton("roof 0 0 1 9 0 0;roof 0 0 9 1 0 0;roof 0 0 4 4 0 0;"
            + "storm 0 0 0 9 2;storm 1 1 0 9 4;storm 2 2 0 9 1;");
    }

    private static void painted() {
        for (int bad : new int[] {-1, 2, LEAST, MOST}) {
            EDGES.edge("13 no paint " + bad, () -> EDGES.refused(Edges::busy, BAD, x -> x.paint(bad, 1)));
            EDGES.edge("13 no storm, but no paint " + bad, () -> EDGES.refused(HailVotes::new, BAD, x -> x.paint(bad, 1)));
        }
        for (int bad : new int[] {-1, 5, LEAST, MOST}) {
            EDGES.edge("13 not so many: " + bad, () -> EDGES.refused(Edges::busy, BAD, x -> x.paint(0, bad)));
            EDGES.edge("13 no storm, but not so many: " + bad, () -> EDGES.refused(HailVotes::new, BAD, x -> x.paint(0, bad)));
        }
        for (int n = 0; n <= 4; n++) {
            int tiles = n;
            EDGES.edge("13 blue, by " + n, () -> EDGES.reckoned(PaintEdgesTest::parted, 1, 2, 7, x -> x.paint(0, tiles)));
            EDGES.edge("13 brown, by " + n, () -> EDGES.reckoned(PaintEdgesTest::parted, 1, 4, 7, x -> x.paint(1, tiles)));
            EDGES.edge("13 no storm, by " + n, () -> {
                EDGES.refused(HailVotes::new, NO, x -> x.paint(0, tiles));
                EDGES.refused(() -> Edges.withRoofs(7), NO, x -> x.paint(1, tiles));
            });
            EDGES.edge("13 no roof, by " + n, () -> EDGES.reckoned(() -> Edges.withStorms(6), 1, 0, 1, x -> x.paint(0, tiles)));
        }
        Supplier<HailVotes> brown = () -> Edges.canton("roof 0 0 0 9 0 9;storm 0 6 0 9 3;");
        EDGES.edge("13 blue wins for sure", () -> EDGES.reckoned(brown, 1, 1, 1, x -> x.paint(0, 4)));
        EDGES.edge("13 brown has no tile to paint", () -> EDGES.reckoned(brown, 1, 0, 1, x -> x.paint(1, 4)));
        Supplier<HailVotes> one = () -> Edges.canton("roof 0 0 0 1 0 0;storm 0 6 0 9 3;");
        EDGES.edge("13 fewer tiles than may be painted", () -> EDGES.reckoned(one, 1, 1, 1, x -> x.paint(0, 4)));
    }

    private static void brushed() {
        for (int bad : new int[] {-1, 2, LEAST, MOST}) {
            EDGES.edge("14 no paint " + bad, () -> EDGES.refused(Edges::busy, BAD, x -> x.brush(bad, 1, 0, 0)));
            EDGES.edge("14 no slope " + bad, () -> EDGES.refused(Edges::busy, BAD, x -> x.brush(0, 1, 0, bad)));
            EDGES.edge("14 no storm, but no slope " + bad,
                () -> EDGES.refused(() -> Edges.withRoofs(1), BAD, x -> x.brush(0, 1, 0, bad)));
        }
        for (int bad : new int[] {-1, 5, LEAST, MOST}) {
            EDGES.edge("14 not so many: " + bad, () -> EDGES.refused(Edges::busy, BAD, x -> x.brush(0, bad, 0, 0)));
        }
        for (int bad : new int[] {-1, 3, LEAST, MOST}) {
            EDGES.edge("14 no roof " + bad, () -> EDGES.refused(Edges::busy, BAD, x -> x.brush(0, 1, bad, 0)));
        }
        EDGES.edge("14 no roof at all", () -> EDGES.refused(() -> Edges.withStorms(1), BAD, x -> x.brush(0, 0, 0, 0)));
        EDGES.edge("14 no roof and no storm", () -> EDGES.refused(HailVotes::new, BAD, x -> x.brush(0, 0, 0, 0)));
        EDGES.edge("14 no storm", () -> EDGES.refused(() -> Edges.withRoofs(1), NO, x -> x.brush(0, 0, 0, 0)));
        EDGES.edge("14 no storm, the last of all numbers", () -> EDGES.refused(() -> Edges.withRoofs(7), NO, x -> x.brush(1, 4, 6, 1)));
        for (int who = 0; who <= 1; who++) {
            for (int n = 0; n <= 4; n++) {
                int paint = who, tiles = n;
                EDGES.edge("14 paint " + who + " by " + n + ": to paint none is the first of like ways, and the fraction stays", () -> {
                    for (int slope = 0; slope < 6; slope++) {
                        int at = slope;
                        EDGES.asked(Edges::busy, 0, x -> x.brush(paint, tiles, at / 2, at % 2));
                    }
                });
            }
        }
    }

    private static void against() {
        EDGES.edge("15 no storm", () -> EDGES.refused(HailVotes::new, NO, -20, HailVotes::against));
        EDGES.edge("15 no storm, but roofs", () -> EDGES.refused(() -> Edges.withRoofs(7), NO, -20, HailVotes::against));
        gives("no roof", NONE, 0, 1, "storm 0 6 0 9 9;");
        gives("no brown tile", NONE, -1, 1, "roof 0 0 9 0 9 0;storm 0 0 0 9 1;");
        gives("no tile at all", NONE, 0, 1, "roof 0 0 0 0 0 0;storm 0 0 0 9 1;");
        gives("the first slope of all", 0, 1, 1, "roof 0 0 0 9 0 9;storm 0 0 0 9 1;");
        gives("slope 1 of roof 0", 1, 1, 1, "roof 0 0 0 0 0 9;storm 0 0 0 9 1;");
        gives("the last slope of all", 13, 0, 1, "roof 0 0 0 0 0 0;".repeat(6) + "roof 0 0 0 0 0 1;storm 0 5 0 9 1;");
        gives("of like ones the least", 2, 0, 1, "roof 0 0 9 0 9 0;roof 0 0 0 1 0 1;storm 2 2 0 9 1;");
        gives("none, where each one costs", NONE, 1, 1, "roof 0 0 0 1 0 0;storm 0 0 0 9 1;");
        gives("a slope ahead of none, where it costs nothing", 0, 1, 1, "roof 0 0 0 3 0 0;storm 0 0 0 9 1;");
        gives("the edge of blue, two tiles more", NONE, 1, 1, "roof 0 0 0 2 0 0;storm 0 0 0 9 1;");
        gives("blue has less than nothing", NONE, -1, 3, "roof 0 0 1 0 0 0;storm 0 0 0 9 1;storm 1 1 0 9 2;");
        gives("chances one against another, lowest terms", 3, 1, 2,
            "roof 0 0 0 1 0 0;roof 0 0 1 0 0 1;storm 0 0 0 9 6;storm 1 1 0 1 2;");
        gives("a slope that has 9 blue tiles has room", 0, -1, 1, "roof 0 0 9 1 0 0;storm 0 0 0 9 1;");
        gives("no brown tile on seven roofs", NONE, -1, 1, "roof 0 0 1 0 1 0;".repeat(7) + "storm 0 0 0 9 1;");
        gives("six storms", 0, 1, 1, "roof 0 0 0 9 0 9;" + "storm 0 0 0 9 9;".repeat(6));
        EDGES.edge("15 what was told call by call", () -> EDGES.reckoned(() -> {
            HailVotes x = new HailVotes();
            x.roof(0, 0, 9, 0, 0, 3);
            x.storm(0, 0, 0, 1, 1);
            return x;
        }, 1, -1, 1, HailVotes::against));
        EDGES.edge("15 roofs and storms that are gone", () -> EDGES.reckoned(() -> {
            HailVotes x = Edges.canton("roof 0 0 1 0 0 0;storm 0 0 0 9 1;storm 1 1 0 9 1;");
            x.year(NONE);
            x.roof(0, 0, 0, 9, 0, 9);
            x.storm(1, 1, 0, 9, 9);
            x.undo();
            return x;
        }, NONE, -1, 2, HailVotes::against));
        gives("a slope of a church costs nothing", 0, 1, 1, "roof 5 0 0 1 0 0;roof 0 0 0 1 0 0;storm 1 1 0 9 1;");
    }

    private static void gives(String name, int slope, int above, int below, String text) {
        EDGES.edge("15 " + name, () -> EDGES.reckoned(() -> Edges.canton(text), slope, above, below, HailVotes::against));
    }

    private static void decided() {
        for (int bad : new int[] {-1, 3, LEAST, MOST}) {
            EDGES.edge("16 no roof " + bad, () -> EDGES.refused(Edges::busy, BAD, x -> x.decides(bad)));
            EDGES.edge("17 no roof " + bad, () -> EDGES.refused(Edges::busy, BAD, x -> x.power(bad)));
        }
        EDGES.edge("16 no roof at all", () -> EDGES.refused(() -> Edges.withStorms(6), BAD, x -> x.decides(0)));
        EDGES.edge("17 no roof at all", () -> EDGES.refused(() -> Edges.withStorms(6), BAD, x -> x.power(0)));
        EDGES.edge("16 no roof 7", () -> EDGES.refused(() -> Edges.withRoofs(7), BAD, x -> x.decides(7)));
        EDGES.edge("17 no roof 7, and no storm", () -> EDGES.refused(() -> Edges.withRoofs(7), BAD, x -> x.power(7)));
        EDGES.edge("17 no roof, and no storm", () -> EDGES.refused(HailVotes::new, BAD, x -> x.power(0)));
        EDGES.edge("16 no storm: by none of them", () -> EDGES.asked(() -> Edges.withRoofs(7), 0, x -> x.decides(6)));
        EDGES.edge("17 no storm", () -> EDGES.refused(() -> Edges.withRoofs(7), NO, x -> x.power(6)));
        decides("none in place of one", "roof 0 0 1 0 0 0;storm 0 0 0 9 1;storm 1 1 0 9 1;", 1, 1, 2);
        decides("one in place of none", "roof 0 0 1 0 0 0;roof 0 0 0 1 0 0;storm 0 1 0 9 1;storm 2 2 0 9 2;", 1, 1, 3);
        decides("the other one", "roof 0 0 2 0 0 0;roof 0 0 0 1 0 0;storm 0 1 0 9 3;storm 1 1 0 9 1;", 1, 3, 4);
        decides("the same one by one tile", "roof 0 0 0 1 0 0;roof 0 0 3 1 0 0;storm 0 1 0 9 3;", 0, 0, 1);
        decides("no tiles there", "roof 0 0 0 0 0 0;roof 0 0 3 1 0 0;storm 0 1 0 9 3;", 0, 0, 1);
        decides("as many of both there", "roof 0 0 5 5 4 4;roof 0 0 3 1 0 0;storm 0 1 0 9 3;", 0, 0, 1);
        decides("a church", "roof 5 9 9 0 9 0;storm 0 1 0 9 3;", 0, 0, 1);
        decides("all six", "roof 0 0 1 0 0 0;" + "storm 0 1 0 9 9;".repeat(6), 6, 1, 1);
        EDGES.edge("16, 17 the last roof by the last storm", () -> {
            HailVotes x = Edges.canton("roof 0 0 0 0 0 0;".repeat(6) + "roof 0 0 0 0 1 0;"
                + "storm 0 5 1 9 1;".repeat(5) + "storm 6 6 1 1 9;");
            EDGES.due("decides", x.decides(6), 1);
            EDGES.due("power", x.power(6), 1);
            EDGES.fraction(x, 9, 14);
        });
    }

    /** Roof 0 decides so many storms, with that power. */
    private static void decides(String name, String text, int storms, int above, int below) {
        EDGES.edge("16 " + name, () -> EDGES.asked(() -> Edges.canton(text), storms, x -> x.decides(0)));
        EDGES.edge("17 " + name, () -> EDGES.reckoned(() -> Edges.canton(text), 1, above, below, x -> x.power(0)));
    }

    private static HailVotes withAllCannons(String text) {
        HailVotes x = Edges.canton(text);
        for (int place = 0; place <= 6; place++) {
            x.cannon(place, true);
        }
        return x;
    }

    private static void shielded() {
        for (int bad : new int[] {-1, 2, LEAST, MOST}) {
            EDGES.edge("18 no paint " + bad, () -> EDGES.refused(Edges::busy, BAD, x -> x.shield(bad)));
            EDGES.edge("18 no storm, but no paint " + bad, () -> EDGES.refused(HailVotes::new, BAD, x -> x.shield(bad)));
            EDGES.edge("18 all have one, but no paint " + bad,
                () -> EDGES.refused(() -> withAllCannons("storm 0 0 0 1 1;"), BAD, x -> x.shield(bad)));
        }
        EDGES.edge("18 no storm", () -> {
            EDGES.refused(HailVotes::new, NO, x -> x.shield(0));
            EDGES.refused(() -> Edges.withRoofs(7), NO, x -> x.shield(1));
        });
        EDGES.edge("18 no storm, and all have one", () -> EDGES.refused(() -> withAllCannons(""), NO, x -> x.shield(0)));
        Supplier<HailVotes> full = () -> {
            HailVotes x = withAllCannons("roof 0 0 9 0 0 0;storm 0 0 0 9 2;storm 1 1 0 9 3;");
            x.odds(1);
            return x;
        };
        EDGES.edge("18 all have one: NONE, the fraction stays", () -> {
            EDGES.asked(full, NONE, x -> x.shield(0));
            EDGES.asked(full, NONE, x -> x.shield(1));
            EDGES.fraction(full.get(), 2, 5);
        });
        for (int place = 0; place <= 6; place++) {
            int free = place;
            EDGES.edge("18 one place is left: " + place, () -> {
                HailVotes x = withAllCannons("roof 0 0 9 0 0 0;storm 0 0 0 9 2;storm 1 1 0 9 3;");
                x.cannon(free, false);
                EDGES.due("shield", x.shield(1), free);
                EDGES.fraction(x, 2, 5);
                EDGES.due("cannons", x.count(2), 6);
            });
        }
        EDGES.edge("18 of like ones the least", () -> EDGES.reckoned(() -> Edges.withStorms(3), 0, 0, 1, x -> x.shield(0)));
        EDGES.edge("18 the least that has none", () -> {
            HailVotes x = Edges.withStorms(3);
            x.cannon(0, true);
            x.cannon(1, true);
            EDGES.due("shield", x.shield(0), 2);
        });
        shieldsAt(0);
        shieldsAt(6);
        EDGES.edge("18 a place without a roof, beside the last one", () -> {
            // Two of both break; at 3 the storm is turned from the blue ones alone.
            HailVotes x = Edges.canton("roof 0 0 0 0 0 0;roof 0 0 0 2 0 0;roof 0 0 2 0 0 0;storm 0 2 0 4 1;cannon 2;");
            EDGES.due("shield", x.shield(0), 3);
            EDGES.fraction(x, 1, 1);
        });
        // Five blue ones break, three by a cannon there, four by one beside.
        shields("it turns no more than 2 there", "roof 0 0 9 0 0 0;roof 0 0 0 0 0 0;roof 0 0 0 2 0 0;storm 0 2 0 5 1;", 0, 0, 1);
        shields("it turns 2 there", "roof 0 0 9 0 0 0;roof 0 0 0 0 0 0;roof 0 0 0 4 0 0;storm 0 2 0 5 1;", 0, 1, 1);
        shields("it turns 1 beside", "cannon 0;roof 0 0 9 0 0 0;roof 0 0 0 0 0 0;roof 0 0 0 3 0 0;storm 0 2 0 5 1;", 1, 1, 1);
        EDGES.edge("18 roofs and storms that are gone", () -> {
            HailVotes x = Edges.canton("roof 0 0 0 1 0 0;storm 0 0 0 9 1;storm 1 1 0 9 1;");
            x.year(NONE);
            x.roof(0, 0, 0, 9, 0, 9);
            x.storm(1, 1, 0, 9, 9);
            x.undo();
            EDGES.due("shield", x.shield(0), 0);
            EDGES.fraction(x, 1, 2);
        });
        EDGES.edge("18 it may be worse than it was", () -> {
            HailVotes x = Edges.canton("roof 0 0 0 1 0 0;storm 0 0 0 1 1;");
            for (int place = 2; place <= 6; place++) {
                x.cannon(place, true);
            }
            EDGES.due("shield", x.shield(0), 0);
            EDGES.fraction(x, 0, 1);
        });
    }

    private static void shields(String name, String text, int place, int above, int below) {
        EDGES.edge("18 " + name, () -> EDGES.reckoned(() -> Edges.canton(text), place, above, below, x -> x.shield(0)));
    }

    /** As many blue tiles there as brown ones beside: blue wins by a cannon there alone. */
    private static void shieldsAt(int place) {
        EDGES.edge("18 the best is at the end of the row: " + place, () -> {
            HailVotes x = new HailVotes();
            for (int roof = 0; roof <= 6; roof++) {
                boolean there = roof == place;
                boolean beside = Math.abs(roof - place) == 1;
                x.roof(0, 0, there ? 4 : 0, beside ? 4 : 0, 0, 0);
            }
            x.storm(0, 6, 0, 4, 7);
            EDGES.due("shield", x.shield(0), place);
            EDGES.fraction(x, 1, 1);
            EDGES.due("tried only", x.count(2), 0);
        });
    }

    public static void main(String[] args) {
        painted();
        brushed();
        against();
        decided();
        shielded();
        EDGES.end();
    }
}
