import java.util.function.Supplier;

/** The edges of promises 1 to 7: a new object, roofs, storms, cannons, tiles, and the bytes of the text. */
public final class CantonEdgesTest {
    private static final int BAD = Edges.BAD, NO = Edges.NO, FULL = Edges.FULL, NONE = Edges.NONE;
    private static final int LEAST = Edges.LEAST, MOST = Edges.MOST;

    private static final Edges EDGES = new Edges("CantonEdgesTest");

    private static int roof(HailVotes x, int... v) {
        return x.roof(v[0], v[1], v[2], v[3], v[4], v[5]);
    }

    private static int storm(HailVotes x, int... v) {
        return x.storm(v[0], v[1], v[2], v[3], v[4]);
    }

    private static int[] with(int[] all, int at, int v) {
        int[] changed = all.clone();
        changed[at] = v;
        return changed;
    }

    private static void newObject() {
        EDGES.edge("1 nothing of anything", () -> {
            HailVotes x = new HailVotes();
            for (int what = 0; what <= 5; what++) {
                EDGES.due("count(" + what + ")", x.count(what), 0);
            }
        });
        EDGES.edge("1 no roof 0", () -> EDGES.refused(HailVotes::new, BAD, x -> x.tiles(0, 0, 0)));
        EDGES.edge("1 no storm 0", () -> EDGES.refused(HailVotes::new, BAD, x -> x.wins(0)));
        EDGES.edge("1 no cannon anywhere", () -> {
            for (int place = 0; place <= 6; place++) {
                int there = place;
                EDGES.refused(HailVotes::new, NO, x -> x.cannon(there, false));
            }
        });
        EDGES.edge("1 the text is empty", () -> EDGES.asked(HailVotes::new, 0, HailVotes::clear));
        EDGES.edge("1 the fraction is 0 by 1", () -> EDGES.fraction(new HailVotes(), 0, 1));
        EDGES.edge("1 nothing was refused", () -> EDGES.status(new HailVotes(), 0, 0, 0));
        EDGES.edge("1 no year may be undone", () -> EDGES.refused(HailVotes::new, NO, HailVotes::undo));
        EDGES.edge("1 no image 0", () -> EDGES.refused(HailVotes::new, NO, x -> x.from(0)));
        EDGES.edge("1 no image 1", () -> EDGES.refused(HailVotes::new, NO, x -> x.from(1)));
        EDGES.edge("1 objects have nothing in common", () -> {
            HailVotes x = new HailVotes();
            HailVotes busy = Edges.busy();
            EDGES.same(x, new HailVotes());
            EDGES.same(busy, Edges.busy());
        });
    }

    private static void roofs() {
        String[] names = {"kind", "age", "blue of slope 0", "brown of slope 0", "blue of slope 1", "brown of slope 1"};
        int[] most = {5, 9, 9, 9, 9, 9};
        int[] some = {1, 2, 3, 4, 5, 6};
        for (int i = 0; i < 6; i++) {
            int at = i;
            EDGES.edge("2 " + names[i] + ": 0 is the first", () -> keepsRoof(with(some, at, 0)));
            EDGES.edge("2 " + names[i] + ": the last", () -> keepsRoof(with(some, at, most[at])));
            EDGES.edge("2 " + names[i] + ": below 0", () -> refusesRoof(with(some, at, -1)));
            EDGES.edge("2 " + names[i] + ": above the last", () -> refusesRoof(with(some, at, most[at] + 1)));
            EDGES.edge("2 " + names[i] + ": the least int", () -> refusesRoof(with(some, at, LEAST)));
            EDGES.edge("2 " + names[i] + ": the greatest int", () -> refusesRoof(with(some, at, MOST)));
        }
        EDGES.edge("2 all are 0", () -> keepsRoof(0, 0, 0, 0, 0, 0));
        EDGES.edge("2 all are the last", () -> keepsRoof(most));
        EDGES.edge("2 seven, by number", () -> {
            HailVotes x = new HailVotes();
            for (int i = 0; i < 7; i++) {
                EDGES.taken(x, i, y -> roof(y, some));
                EDGES.due("count(0)", x.count(0), i + 1);
            }
        });
        Supplier<HailVotes> seven = () -> Edges.withRoofs(7);
        EDGES.edge("2 an eighth", () -> EDGES.refused(seven, FULL, x -> roof(x, some)));
        EDGES.edge("2 an eighth that is bad", () -> EDGES.refused(seven, BAD, x -> roof(x, 6, 0, 0, 0, 0, 0)));
        EDGES.edge("2 an eighth that is bad at its end", () -> EDGES.refused(seven, BAD, x -> roof(x, 0, 0, 0, 0, 0, 10)));
        EDGES.edge("2 room again behind undo", () -> {
            HailVotes x = Edges.withRoofs(6);
            x.year(NONE);
            roof(x, some);
            EDGES.due("full", roof(x, some), FULL);
            x.undo();
            EDGES.due("room", roof(x, some), 6);
        });
        EDGES.edge("2 room again behind an empty text", () -> {
            HailVotes x = Edges.withRoofs(7);
            x.read();
            EDGES.due("room", roof(x, some), 0);
        });
        EDGES.edge("2 no shards are told of a new one, whatever was told of one there", () -> {
            HailVotes x = new HailVotes();
            x.year(NONE);
            roof(x, some);
            x.shards(0, 18, 18);
            x.undo();
            roof(x, some);
            EDGES.due("digest", x.digest(), Edges.mixed(1, 0, 0, 0, 0, 0, 1, 2, 3, 4, 5, 6, -1, -1, 0, 0, 0, 0, 0, 0, 0, 0, 1));
        });
    }

    private static void keepsRoof(int... v) {
        HailVotes x = new HailVotes();
        EDGES.taken(x, 0, y -> roof(y, v));
        for (int i = 0; i < 4; i++) {
            EDGES.due("tiles", x.tiles(0, i / 2, i % 2), v[2 + i]);
        }
        EDGES.due("digest", x.digest(), Edges.mixed(1, 0, 0, 0, 0, 0, v[0], v[1], v[2], v[3], v[4], v[5], -1, -1,
            0, 0, 0, 0, 0, 0, 0, 0, 1));
    }

    private static void refusesRoof(int... v) {
        EDGES.refused(HailVotes::new, BAD, x -> roof(x, v));
        EDGES.refused(Edges::busy, BAD, x -> roof(x, v));
    }

    private static void storms() {
        String[] names = {"from", "to", "wind", "size", "chance"};
        int[] least = {0, 3, 0, 1, 1};
        int[] most = {3, 6, 1, 9, 9};
        int[] some = {3, 3, 1, 4, 5};
        for (int i = 0; i < 5; i++) {
            int at = i;
            EDGES.edge("3 " + names[i] + ": the first", () -> keepsStorm(with(some, at, least[at])));
            EDGES.edge("3 " + names[i] + ": the last", () -> keepsStorm(with(some, at, most[at])));
            EDGES.edge("3 " + names[i] + ": below the first", () -> refusesStorm(with(some, at, least[at] - 1)));
            EDGES.edge("3 " + names[i] + ": above the last", () -> refusesStorm(with(some, at, most[at] + 1)));
            EDGES.edge("3 " + names[i] + ": the least int", () -> refusesStorm(with(some, at, LEAST)));
            EDGES.edge("3 " + names[i] + ": the greatest int", () -> refusesStorm(with(some, at, MOST)));
        }
        EDGES.edge("3 the first place alone", () -> keepsStorm(0, 0, 0, 1, 1));
        EDGES.edge("3 the last place alone", () -> keepsStorm(6, 6, 0, 1, 1));
        EDGES.edge("3 all places", () -> keepsStorm(0, 6, 1, 9, 9));
        EDGES.edge("3 from and to behind the last place", () -> refusesStorm(7, 7, 0, 1, 1));
        EDGES.edge("3 from and to ahead of the first", () -> refusesStorm(-1, -1, 0, 1, 1));
        EDGES.edge("3 from ahead of the first place", () -> refusesStorm(-1, 6, 0, 1, 1));
        EDGES.edge("3 from the last to the first", () -> refusesStorm(6, 0, 0, 1, 1));
        EDGES.edge("3 six, by number", () -> {
            HailVotes x = new HailVotes();
            for (int i = 0; i < 6; i++) {
                EDGES.taken(x, i, y -> storm(y, some));
                EDGES.due("count(1)", x.count(1), i + 1);
            }
        });
        Supplier<HailVotes> six = () -> Edges.withStorms(6);
        EDGES.edge("3 a seventh", () -> EDGES.refused(six, FULL, x -> storm(x, some)));
        EDGES.edge("3 a seventh that is bad", () -> EDGES.refused(six, BAD, x -> storm(x, -1, 0, 0, 1, 1)));
        EDGES.edge("3 a seventh that is bad at its end", () -> EDGES.refused(six, BAD, x -> storm(x, 0, 0, 0, 1, 10)));
        EDGES.edge("3 room again behind undo", () -> {
            HailVotes x = Edges.withStorms(5);
            x.year(NONE);
            storm(x, some);
            EDGES.due("full", storm(x, some), FULL);
            x.undo();
            EDGES.due("room", storm(x, some), 5);
        });
        EDGES.edge("3 room again behind an empty text", () -> {
            HailVotes x = Edges.withStorms(6);
            x.read();
            EDGES.due("room", storm(x, some), 0);
        });
    }

    private static void keepsStorm(int... v) {
        HailVotes x = new HailVotes();
        EDGES.taken(x, 0, y -> storm(y, v));
        EDGES.due("digest", x.digest(), Edges.mixed(0, 1, 0, 0, 0, 0, v[0], v[1], v[2], v[3], v[4],
            0, 0, 0, 0, 0, 0, 0, 0, 1));
    }

    private static void refusesStorm(int... v) {
        EDGES.refused(HailVotes::new, BAD, x -> storm(x, v));
        EDGES.refused(Edges::busy, BAD, x -> storm(x, v));
    }

    private static void cannons() {
        for (int place : new int[] {-1, 7, LEAST, MOST}) {
            EDGES.edge("4 no place " + place, () -> {
                EDGES.refused(Edges::busy, BAD, x -> x.cannon(place, true));
                EDGES.refused(Edges::busy, BAD, x -> x.cannon(place, false));
            });
        }
        for (int place = 0; place <= 6; place++) {
            int there = place;
            EDGES.edge("4 place " + place + ", though no roof stands there", () -> {
                HailVotes x = new HailVotes();
                EDGES.taken(x, 1, y -> y.cannon(there, true));
                long[] told = {0, 0, 1, 0, 0, 0, 0, 0, 0, 0, 0, 0, 0, 0, 1};
                told[6 + there] = 1;
                EDGES.due("digest", x.digest(), Edges.mixed(told));
                EDGES.taken(x, 1, y -> y.cannon(there, false));
                EDGES.same(x, new HailVotes());
            });
        }
        EDGES.edge("4 a second one at a place", () -> EDGES.refused(Edges::busy, NO, x -> x.cannon(4, true)));
        EDGES.edge("4 none taken where none is", () -> EDGES.refused(Edges::busy, NO, x -> x.cannon(5, false)));
        EDGES.edge("4 all seven", () -> {
            HailVotes x = new HailVotes();
            for (int place = 0; place <= 6; place++) {
                EDGES.due("put", x.cannon(place, true), 1);
                EDGES.due("count(2)", x.count(2), place + 1);
            }
            for (int place = 0; place <= 6; place++) {
                EDGES.due("there", x.cannon(place, true), NO);
            }
            EDGES.due("count(2)", x.count(2), 7);
            EDGES.status(x, 0, 7, 0);
        });
    }

    private static void tiles() {
        Supplier<HailVotes> two = () -> Edges.canton("roof 0 0 9 8 7 6;roof 0 0 0 1 2 9;");
        int[] due = {9, 8, 7, 6, 0, 1, 2, 9};
        for (int i = 0; i < 8; i++) {
            int at = i;
            EDGES.edge("5 roof " + i / 4 + ", slope " + i / 2 % 2 + ", paint " + i % 2,
                () -> EDGES.asked(two, due[at], x -> x.tiles(at / 4, at / 2 % 2, at % 2)));
        }
        for (int bad : new int[] {-1, 2, LEAST, MOST}) {
            EDGES.edge("5 no roof " + bad, () -> EDGES.refused(two, BAD, x -> x.tiles(bad, 0, 0)));
            EDGES.edge("5 no slope " + bad, () -> EDGES.refused(two, BAD, x -> x.tiles(0, bad, 0)));
            EDGES.edge("5 no paint " + bad, () -> EDGES.refused(two, BAD, x -> x.tiles(0, 0, bad)));
        }
        EDGES.edge("5 roof 6 is the last", () -> EDGES.asked(() -> Edges.withRoofs(7), 1, x -> x.tiles(6, 1, 1)));
        EDGES.edge("5 no roof 7", () -> EDGES.refused(() -> Edges.withRoofs(7), BAD, x -> x.tiles(7, 0, 0)));
        EDGES.edge("5 no roof at all", () -> EDGES.refused(HailVotes::new, BAD, x -> x.tiles(0, 0, 0)));
        EDGES.edge("5 a roof that a text took", () -> {
            HailVotes x = Edges.withRoofs(3);
            Edges.type(x, "roof 0 0 1 1 1 1;");
            x.read();
            EDGES.due("roof 1", x.tiles(1, 0, 0), BAD);
        });
    }

    private static HailVotes textOf(int bytes) {
        HailVotes x = new HailVotes();
        Edges.type(x, " ".repeat(bytes));
        return x;
    }

    private static void typed() {
        for (int n : new int[] {0, 9, -1, LEAST, MOST}) {
            EDGES.edge("6 no bytes of " + n, () -> {
                EDGES.refused(HailVotes::new, BAD, x -> x.type(32, n));
                EDGES.refused(Edges::busy, BAD, x -> x.type(32, n));
            });
            EDGES.edge("6 a full text, bad ahead: " + n, () -> EDGES.refused(() -> textOf(250), BAD, x -> x.type(32, n)));
        }
        for (int n = 1; n <= 8; n++) {
            int bytes = n;
            EDGES.edge("6 one behind the 250th, by " + n, () -> {
                EDGES.refused(() -> textOf(251 - bytes), FULL, x -> x.type(0x2020_2020_2020_2020L, bytes));
                EDGES.refused(() -> textOf(250), FULL, x -> x.type(0x2020_2020_2020_2020L, bytes));
            });
            EDGES.edge("6 up to the 250th, by " + n,
                () -> EDGES.taken(textOf(250 - bytes), 250, x -> x.type(0, bytes)));
            EDGES.edge("6 the first " + n, () -> EDGES.taken(new HailVotes(), bytes, x -> x.type(0, bytes)));
        }
        EDGES.edge("6 one byte: the lowest alone", () -> readsOneCannon(0x3B3B_3B3B_3B3B_3B63L, 1, "annon 3;"));
        EDGES.edge("6 eight bytes, the highest first", () -> readsOneCannon(0x6361_6E6E_6F6E_2033L, 8, ";"));
        EDGES.edge("6 seven bytes, without the eighth", () -> readsOneCannon(0x8161_6E6E_6F6E_2033L, 7, ";", "c"));
        EDGES.edge("6 the highest byte of a number below 0", () -> faultOf(-1L << 56 | 0x6361_6E6EL, 8, 0));
        EDGES.edge("6 a byte of 255 is none of 0", () -> faultOf(0x6361_6E6E_6F6E_20FFL, 8, 7));
        EDGES.edge("6 a byte of 128 is no blank", () -> faultOf(0x20A0L, 2, 1));
        EDGES.edge("6 a byte of 0", () -> faultOf(0x2000L, 2, 1));
        EDGES.edge("6 nothing of what was refused is there", () -> {
            HailVotes x = new HailVotes();
            Edges.type(x, " ".repeat(243));
            x.type(0x6565_6565_6565_6565L, 8);
            EDGES.due("room for seven", x.type(0x2020_2020_2020_20L, 7), 250);
            EDGES.due("blanks alone", x.read(), 0);
        });
    }

    private static void readsOneCannon(long v, int n, String behind, String... ahead) {
        HailVotes x = new HailVotes();
        for (String first : ahead) {
            Edges.type(x, first);
        }
        x.type(v, n);
        Edges.type(x, behind);
        EDGES.due("read", x.read(), 1);
        EDGES.due("the cannon at 3", x.cannon(3, true), NO);
    }

    private static void faultOf(long v, int n, int place) {
        HailVotes x = new HailVotes();
        x.type(v, n);
        EDGES.due("read", x.read(), -10 - place);
    }

    private static void cleared() {
        EDGES.edge("7 an empty text", () -> EDGES.asked(HailVotes::new, 0, HailVotes::clear));
        EDGES.edge("7 one byte", () -> clears(1));
        EDGES.edge("7 a full text", () -> clears(250));
        EDGES.edge("7 a full text has room again", () -> {
            HailVotes x = textOf(250);
            x.clear();
            EDGES.due("the first bytes", x.type(0, 8), 8);
        });
        EDGES.edge("7 nothing but the text goes", () -> {
            HailVotes x = Edges.busy();
            EDGES.taken(x, 42, HailVotes::clear);
            EDGES.due("count(5)", x.count(5), 0);
            Edges.type(x, Edges.BUSY_TEXT);
            EDGES.same(x, Edges.busy());
        });
        EDGES.edge("7 twice", () -> {
            HailVotes x = textOf(9);
            EDGES.due("first", x.clear(), 9);
            EDGES.due("second", x.clear(), 0);
        });
    }

    private static void clears(int bytes) {
        HailVotes x = textOf(bytes);
        EDGES.taken(x, bytes, HailVotes::clear);
        EDGES.same(x, new HailVotes());
    }

    public static void main(String[] args) {
        newObject();
        roofs();
        storms();
        cannons();
        tiles();
        typed();
        cleared();
        EDGES.end();
    }
}
