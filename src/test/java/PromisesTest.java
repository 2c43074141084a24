/** Each promise of the document by number: an ordinary call, the edges told, and what is refused. */
public final class PromisesTest {
    private static final int NONE = HailVotes.NONE, BAD = HailVotes.BAD, NO = HailVotes.NO, FULL = HailVotes.FULL;

    private static int wrong = 0;

    private static void due(String what, long got, long want) {
        if (got != want) {
            wrong++;
            System.out.println(what + ": answered " + got + ", due is " + want);
        }
    }

    private static void fraction(String what, HailVotes x, long above, long below) {
        due(what + ", above", x.part(0), above);
        due(what + ", below", x.part(1), below);
    }

    private static void refused(String what, HailVotes x, int bads, int noes, int fulls) {
        due(what + ", BAD", x.status(0), bads);
        due(what + ", NO", x.status(1), noes);
        due(what + ", FULL", x.status(2), fulls);
    }

    private static void type(HailVotes x, String text) {
        for (int at = 0; at < text.length(); at += 8) {
            long v = 0;
            int n = Math.min(8, text.length() - at);
            for (int i = 0; i < n; i++) {
                v = v << 8 | text.charAt(at + i);
            }
            x.type(v, n);
        }
    }

    private static int readOf(HailVotes x, String text) {
        x.clear();
        type(x, text);
        return x.read();
    }

    private static HailVotes canton(String text) {
        HailVotes x = new HailVotes();
        if (readOf(x, text) < 0) {
            due("read of " + text, x.read(), 0);
        }
        return x;
    }

    private static void promise1() {
        HailVotes x = new HailVotes();
        for (int what = 0; what <= 5; what++) {
            due("1 count(" + what + ")", x.count(what), 0);
        }
        fraction("1 the fraction", x, 0, 1);
        refused("1 status", x, 0, 0, 0);
        due("1 from", x.from(0), NO);
        due("1 undo", x.undo(), NO);
        due("1 two objects", new HailVotes().roof(0, 0, 0, 0, 0, 0), 0);
        due("1 two objects", x.count(0), 0);
    }

    private static void promise2() {
        HailVotes x = new HailVotes();
        int[][] bad = {{-1, 0, 0, 0, 0, 0}, {6, 0, 0, 0, 0, 0}, {0, -1, 0, 0, 0, 0}, {0, 10, 0, 0, 0, 0},
            {0, 0, -1, 0, 0, 0}, {0, 0, 10, 0, 0, 0}, {0, 0, 0, -1, 0, 0}, {0, 0, 0, 10, 0, 0},
            {0, 0, 0, 0, -1, 0}, {0, 0, 0, 0, 10, 0}, {0, 0, 0, 0, 0, -1}, {0, 0, 0, 0, 0, 10}};
        for (int[] b : bad) {
            due("2 bad", x.roof(b[0], b[1], b[2], b[3], b[4], b[5]), BAD);
        }
        for (int i = 0; i < 7; i++) {
            due("2 roof", x.roof(i % 6, 9, 9, 1, 0, 9), i);
        }
        due("2 full", x.roof(0, 0, 0, 0, 0, 0), FULL);
        due("2 bad ahead of full", x.roof(6, 0, 0, 0, 0, 0), BAD);
        refused("2", x, 13, 0, 1);
        due("2 count", x.count(0), 7);
    }

    private static void promise3() {
        HailVotes x = new HailVotes();
        int[][] bad = {{-1, 0, 0, 1, 1}, {0, 7, 0, 1, 1}, {7, 7, 0, 1, 1}, {3, 2, 0, 1, 1}, {0, 0, -1, 1, 1},
            {0, 0, 2, 1, 1}, {0, 0, 0, 0, 1}, {0, 0, 0, 10, 1}, {0, 0, 0, 1, 0}, {0, 0, 0, 1, 10}};
        for (int[] b : bad) {
            due("3 bad", x.storm(b[0], b[1], b[2], b[3], b[4]), BAD);
        }
        for (int i = 0; i < 6; i++) {
            due("3 storm", x.storm(i, 6, i % 2, 9, 9), i);
        }
        due("3 full", x.storm(6, 6, 1, 1, 1), FULL);
        due("3 bad ahead of full", x.storm(0, 0, 0, 0, 0), BAD);
        refused("3", x, 11, 0, 1);
        due("3 count", x.count(1), 6);
    }

    private static void promise4() {
        HailVotes x = new HailVotes();
        due("4 bad", x.cannon(-1, true), BAD);
        due("4 bad", x.cannon(7, false), BAD);
        due("4 none there", x.cannon(0, false), NO);
        due("4 put", x.cannon(0, true), 1);
        due("4 there", x.cannon(0, true), NO);
        due("4 last place", x.cannon(6, true), 1);
        due("4 count", x.count(2), 2);
        due("4 taken", x.cannon(0, false), 1);
        due("4 count", x.count(2), 1);
        refused("4", x, 2, 2, 0);
    }

    private static void promise5() {
        HailVotes x = canton("roof 0 0 9 9 9 9;roof 1 2 3 4 5 6;");
        due("5 blue 0", x.tiles(1, 0, 0), 3);
        due("5 brown 0", x.tiles(1, 0, 1), 4);
        due("5 blue 1", x.tiles(1, 1, 0), 5);
        due("5 brown 1", x.tiles(1, 1, 1), 6);
        int[][] bad = {{-1, 0, 0}, {2, 0, 0}, {0, -1, 0}, {0, 2, 0}, {0, 0, -1}, {0, 0, 2}};
        for (int[] b : bad) {
            due("5 bad", x.tiles(b[0], b[1], b[2]), BAD);
        }
        refused("5", x, 6, 0, 0);
    }

    private static void promise6() {
        HailVotes x = new HailVotes();
        due("6 bad", x.type(65, 0), BAD);
        due("6 bad", x.type(65, 9), BAD);
        due("6 highest first", x.type(0x1122_6361_6E6E_6F6EL, 6), 6);
        due("6 lowest ones only", x.type(0x7766_5544_4420_363BL, 3), 9);
        due("6 it reads so", x.read(), 1);
        due("6 a cannon", x.cannon(6, true), NO);
        due("6 a high byte", x.type(-1L, 8), 17);
        due("6 a high byte is a fault", x.read(), -19);
        for (int i = 0; i < 29; i++) {
            x.type(0, 8);
        }
        due("6 count", x.count(5), 249);
        due("6 full", x.type(0, 2), FULL);
        due("6 the last one", x.type(0, 1), 250);
        due("6 full", x.type(0, 1), FULL);
        due("6 bad ahead of full", x.type(0, 0), BAD);
        refused("6", x, 3, 1, 2);
    }

    private static void promise7() {
        HailVotes x = new HailVotes();
        due("7 empty", x.clear(), 0);
        x.type(0, 5);
        due("7 had", x.clear(), 5);
        due("7 count", x.count(5), 0);
        due("7 again", x.clear(), 0);
    }

    private static void promise8() {
        HailVotes x = new HailVotes();
        due("8 empty", x.read(), 0);
        due("8 blanks", readOf(x, "  "), 0);
        due("8 all sorts", readOf(x, "cannon 3;roof 5 9 9 9 9 9 ; storm 6 6 1 9 9;cannon 0;"), 4);
        due("8 roofs", x.count(0), 1);
        due("8 storms", x.count(1), 1);
        due("8 cannons", x.count(2), 2);
        due("8 no blanks needed behind a word", readOf(x, "cannon3;"), 1);
        due("8 takes the place of all", x.count(0) + x.count(1), 0);
        faults(x);
        due("8 a text that is full", readOf(x, "a".repeat(250)), -10);
        due("8 a text that is full and ends too early", readOf(x, " ".repeat(244) + "cannon"), -260);
        due("8 a text that is full of blanks", readOf(x, " ".repeat(250)), 0);
        due("8 a text that is full", readOf(x, " ".repeat(242) + "cannon6;"), 1);
        String roof = "roof 0 0 0 0 0 0;";
        due("8 seven roofs", readOf(x, roof.repeat(7)), 7);
        due("8 an eighth", readOf(x, roof.repeat(8)), -10 - 7 * 17);
        String storm = "storm 0 0 0 1 1;";
        due("8 six storms", readOf(x, storm.repeat(6)), 6);
        due("8 a seventh", readOf(x, storm.repeat(7)), -10 - 6 * 16);
        due("8 all stays", x.count(1), 6);
        due("8 the text too", x.clear(), 7 * 16);
        refused("8 a fault is not refused by reason", x, 0, 0, 0);
        x.roof(0, 3, 0, 0, 0, 0);
        x.shards(0, 1, 1);
        x.year(NONE);
        readOf(x, roof);
        due("8 year 0", x.count(3), 0);
        due("8 none may be undone", x.undo(), NO);
        due("8 no shards told", x.which(1), 0);
    }

    private static void faults(HailVotes x) {
        Object[][] texts = {{"roofs 0 0 0 0 0 0;", 0}, {"roo 0 0 0 0 0 0;", 0}, {"hoof 0 0 0 0 0 0;", 0}, {"  hail;", 2}, {"1;", 0}, {";", 0},
            {"Roof 0 0 0 0 0 0;", 0}, {"roof 6 0 0 0 0 0;", 5}, {"roof 0 0 0 0 0;", 14}, {"roof 0 0 0 0 0 0 0;", 17},
            {"roof 0 0 0 0 0 10;", 15}, {"roof 0 0 0 0 0 00;", 15}, {"roof 0 0 0 0 0 0", 16}, {"roof   ", 7},
            {"roof 0 x 0 0 0 0;", 7}, {"roof 0 0 0 0 0 0x", 16}, {"roof -1;", 5}, {"storm 7 7 0 1 1;", 6},
            {"storm 3 2 0 1 1;", 8}, {"storm 0 7 0 1 1;", 8}, {"storm 0 0 2 1 1;", 10}, {"storm 0 0 0 0 1;", 12},
            {"storm 0 0 0 1 0;", 14}, {"storm 0 0 0 1 1 ", 16}, {"cannon 7;", 7}, {"cannon 1;;", 9},
            {"cannon 1;cannon 2;cannon 1;", 25}, {"cannon 1;c", 9}, {"cannon\t1;", 6}, {"cannon 1 1;", 9},
            {"cannon roof;", 7}, {"cannon", 6}};
        for (Object[] t : texts) {
            due("8 fault of " + t[0], readOf(x, (String) t[0]), -10 - (Integer) t[1]);
        }
    }

    private static void promise9() {
        HailVotes x = canton("roof 0 0 0 0 0 0;roof 0 0 0 0 0 0;roof 0 0 0 0 0 0;roof 0 0 0 0 0 0;"
            + "storm 1 2 0 9 1;storm 0 3 1 5 1;");
        due("9 ahead of its path", x.force(0, 0, 0), 0);
        due("9 windward", x.force(0, 1, 0), 9);
        due("9 the other slope", x.force(0, 2, 1), 4);
        due("9 behind its path", x.force(0, 3, 0), 0);
        due("9 from the east", x.force(1, 0, 1), 5);
        due("9 the other slope", x.force(1, 0, 0), 2);
        x.cannon(1, true);
        due("9 a cannon there", x.force(1, 1, 1), 3);
        due("9 a cannon beside", x.force(1, 0, 1), 4);
        due("9 a cannon beside", x.force(1, 2, 0), 1);
        due("9 a cannon far off", x.force(1, 3, 1), 5);
        x.roof(0, 0, 0, 0, 0, 0);
        x.roof(0, 0, 0, 0, 0, 0);
        x.roof(0, 0, 0, 0, 0, 0);
        x.storm(6, 6, 1, 9, 1);
        x.cannon(6, true);
        due("9 a cannon at the last place", x.force(2, 6, 1), 7);
        x.cannon(5, true);
        due("9 and beside it", x.force(2, 6, 0), 1);
        x.cannon(2, true);
        x.cannon(0, true);
        due("9 three cannons", x.force(1, 1, 1), 1);
        due("9 0 at least", x.force(1, 1, 0), 0);
        int[][] bad = {{-1, 0, 0}, {3, 0, 0}, {0, -1, 0}, {0, 7, 0}, {0, 0, -1}, {0, 0, 2}};
        for (int[] b : bad) {
            due("9 bad", x.force(b[0], b[1], b[2]), BAD);
        }
        refused("9", x, 6, 0, 0);
    }

    private static void promise10() {
        // One storm for all: force 6 to windward, 3 on the other slope.
        int[] ofNines = {9, 9 + 7, 3 + 1, 2 + 0, 7 + 4, 0};
        for (int kind = 0; kind <= 5; kind++) {
            HailVotes x = canton("storm 0 6 0 6 1;");
            x.roof(kind, 4, 9, 9, 9, 9);
            due("10 kind " + kind, x.breaks(0, 0, 0), ofNines[kind]);
            due("10 kind " + kind, x.breaks(0, 0, 1), ofNines[kind]);
        }
        HailVotes x = canton("storm 0 1 1 1 1;storm 2 2 0 9 1;roof 1 9 9 8 9 8;roof 4 1 9 9 9 9;roof 0 0 2 3 4 1;");
        due("10 without force none, whatever the age", x.breaks(0, 0, 0), 9);
        due("10 as many as there are", x.breaks(0, 0, 1), 8);
        due("10 steep, 0 at least", x.breaks(0, 1, 0), 0);
        due("10 t at most", x.breaks(1, 2, 0), 6);
        due("10 t at most", x.breaks(1, 2, 1), 4);
        due("10 all", x.breaks(0, NONE, 0), 9);
        due("10 all", x.breaks(1, NONE, 1), 4);
        int[][] bad = {{-1, 0, 0}, {2, 0, 0}, {0, -2, 0}, {0, 3, 0}, {0, 0, -1}, {0, 0, 2}};
        for (int[] b : bad) {
            due("10 bad", x.breaks(b[0], b[1], b[2]), BAD);
        }
        refused("10", x, 6, 0, 0);
    }

    private static void promise11() {
        HailVotes x = canton("roof 0 0 5 4 0 0;roof 0 0 4 5 0 0;storm 0 0 0 9 1;storm 1 1 0 9 1;storm 0 1 0 9 1;");
        due("11 more blue broke", x.wins(0), 1);
        due("11 more brown broke", x.wins(1), 0);
        due("11 as many", x.wins(2), NONE);
        due("11 bad", x.wins(-1), BAD);
        due("11 bad", x.wins(3), BAD);
        refused("11", x, 2, 0, 0);
    }

    private static void promise12() {
        HailVotes x = new HailVotes();
        due("12 no storm", x.odds(0), NO);
        due("12 bad ahead of no", x.odds(3), BAD);
        x = canton("roof 0 0 5 4 0 0;roof 0 0 4 5 0 0;storm 0 0 0 9 2;storm 1 1 0 9 3;storm 0 1 0 9 7;");
        due("12 blue", x.odds(0), 1);
        fraction("12 blue", x, 1, 4);
        due("12 brown", x.odds(1), 1);
        fraction("12 brown", x, 1, 6);
        due("12 none", x.odds(2), 1);
        fraction("12 none", x, 7, 12);
        due("12 bad", x.odds(-1), BAD);
        fraction("12 what is refused changes nothing", x, 7, 12);
    }

    private static void promises13And14() {
        HailVotes x = new HailVotes();
        due("13 no storm", x.paint(0, 0), NO);
        due("13 bad ahead of no", x.paint(0, 5), BAD);
        due("14 no roof", x.brush(0, 0, 0, 0), BAD);
        x.roof(0, 0, 1, 1, 1, 1);
        due("14 no storm", x.brush(0, 0, 0, 0), NO);
        refused("13, 14", x, 2, 2, 0);
        x = canton("roof 0 0 2 4 1 1;roof 0 0 4 2 0 0;storm 0 0 0 9 1;storm 1 1 0 9 4;");
        for (int n = 0; n <= 4; n++) {
            due("13 blue", x.paint(0, n), 1);
            fraction("13 blue", x, 1, 5);
            due("13 brown", x.paint(1, n), 1);
            fraction("13 brown", x, 4, 5);
            due("14 blue", x.brush(0, n, 0, 0), 0);
            due("14 brown", x.brush(1, n, 1, 0), 0);
        }
        fraction("14 leaves the fraction", x, 4, 5);
        int[][] bad = {{-1, 0, 0, 0}, {2, 0, 0, 0}, {0, -1, 0, 0}, {0, 5, 0, 0}, {0, 0, -1, 0}, {0, 0, 2, 0},
            {0, 0, 0, -1}, {0, 0, 0, 2}};
        for (int[] b : bad) {
            due("14 bad", x.brush(b[0], b[1], b[2], b[3]), BAD);
        }
        due("13 bad", x.paint(2, 0), BAD);
        due("13 bad", x.paint(-1, 0), BAD);
        due("13 bad", x.paint(0, -1), BAD);
        refused("13, 14", x, 11, 0, 0);
    }

    private static void promise15() {
        HailVotes x = new HailVotes();
        due("15 no storm", x.against(), -20);
        refused("15", x, 0, 1, 0);
        x = canton("storm 0 6 0 1 1;");
        x.odds(2);
        due("15 no roof", x.against(), NONE);
        fraction("15 no roof", x, 0, 1);
        // Painted on slope 0 or 1 blue would no longer win; slope 2 has no brown tile, 3 is not hit.
        x = canton("roof 0 0 0 1 0 1;roof 0 0 3 0 0 3;storm 0 0 0 2 3;storm 0 0 1 2 2;");
        due("15 the least that costs nothing", x.against(), 3);
        fraction("15 the least that costs nothing", x, 1, 1);
        x = canton("roof 0 0 1 2 0 0;storm 0 0 0 1 1;");
        due("15 one of each still breaks", x.against(), 0);
        fraction("15 one of each still breaks", x, 0, 1);
        x = canton("roof 0 0 1 1 0 0;storm 0 0 0 2 1;");
        due("15 none behind all", x.against(), NONE);
        fraction("15 none behind all", x, 0, 1);
        x = canton("roof 0 0 2 1 0 0;storm 0 0 0 9 5;");
        due("15 nothing more to lose", x.against(), 0);
        fraction("15 blue has less than nothing", x, -1, 1);
        due("15 nothing is painted", x.tiles(0, 0, 1), 1);
    }

    private static void promises16And17() {
        HailVotes x = new HailVotes();
        due("17 no roof", x.power(0), BAD);
        due("16 no roof", x.decides(0), BAD);
        x.roof(0, 0, 1, 0, 0, 0);
        due("16 no storm", x.decides(0), 0);
        due("17 no storm", x.power(0), NO);
        refused("16, 17", x, 2, 1, 0);
        // Storm 0: roof 0 alone, none without it. 1: a draw by both. 2: brown by 3, with or without roof 1.
        x = canton("roof 0 0 1 0 0 0;roof 0 0 0 1 0 0;roof 0 0 3 0 0 0;storm 0 0 0 9 2;storm 0 1 0 9 3;storm 1 2 0 9 4;");
        due("16 roof 0", x.decides(0), 2);
        due("16 roof 1", x.decides(1), 1);
        due("16 roof 2", x.decides(2), 1);
        due("17 roof 0", x.power(0), 1);
        fraction("17 roof 0", x, 5, 9);
        due("17 roof 1", x.power(1), 1);
        fraction("17 roof 1", x, 1, 3);
        due("17 roof 2", x.power(2), 1);
        fraction("17 roof 2", x, 4, 9);
        due("16 bad", x.decides(3), BAD);
        due("17 bad", x.power(-1), BAD);
        refused("16, 17", x, 2, 0, 0);
    }

    private static void promise18() {
        HailVotes x = new HailVotes();
        due("18 no storm", x.shield(0), NO);
        due("18 bad ahead of no", x.shield(2), BAD);
        // Blue 4 against brown 4 until a cannon at 2 or beside it turns the storm from the blue ones.
        x = canton("roof 0 0 0 0 0 4;roof 0 0 0 0 0 0;roof 0 0 0 0 4 0;storm 0 2 1 4 3;storm 6 6 0 1 1;");
        due("18 blue", x.shield(0), 2);
        fraction("18 blue", x, 3, 4);
        due("18 brown", x.shield(1), 0);
        fraction("18 brown", x, 3, 4);
        x.cannon(2, true);
        due("18 none is the better for it: the least", x.shield(1), 0);
        fraction("18 none is the better for it", x, 0, 1);
        due("18 tried only", x.count(2), 1);
        for (int p = 0; p < 7; p++) {
            x.cannon(p, true);
        }
        x.odds(2);
        due("18 all have one", x.shield(0), NONE);
        fraction("18 all have one: the fraction stays", x, 1, 4);
        due("18 bad", x.shield(-1), BAD);
        refused("18", x, 1, 1, 0);
    }

    private static void promises19And20() {
        HailVotes x = canton("roof 0 0 5 1 0 0;roof 0 0 9 9 0 0;storm 0 1 0 1 1;storm 0 1 0 2 1;storm 0 0 0 2 1;");
        due("20 nothing told: all storms", x.which(0), 7);
        due("20 nothing told: none by hand", x.which(1), 0);
        due("19 roof 0", x.shards(0, 2, 1), 1);
        due("20 of size 2", x.which(0), 6);
        due("19 roof 1", x.shards(1, 2, 2), 1);
        due("20 the one that hits both", x.which(0), 2);
        due("19 roof 1", x.shards(1, 18, 18), 1);
        due("20 no storm", x.which(0), 0);
        due("20 by hand", x.which(1), 2);
        due("19 roof 0", x.shards(0, 1, 1), 1);
        due("20 by hand, whatever of others", x.which(1), 2);
        due("19 both contradict", x.shards(1, 0, 0), 1);
        due("20 no storm", x.which(0), 0);
        due("20 neither by hand", x.which(1), 0);
        due("19 not told", x.shards(1, NONE, NONE), 1);
        due("20 not told", x.which(0), 1);
        int[][] bad = {{-1, 0, 0}, {2, 0, 0}, {0, 19, 0}, {0, 0, 19}, {0, -2, 0}, {0, 0, -2}, {0, -1, 0}, {0, 0, -1},
            {2, -1, -1}};
        for (int[] b : bad) {
            due("19 bad", x.shards(b[0], b[1], b[2]), BAD);
        }
        due("20 bad", x.which(2), BAD);
        due("20 bad", x.which(-1), BAD);
        due("20 still", x.which(0), 1);
        refused("19, 20", x, 11, 0, 0);
        x = canton("roof 0 0 0 0 0 0;");
        x.shards(0, 0, 0);
        due("20 no storm at all: by hand", x.which(1), 1);
        due("20 no storm at all", x.which(0), 0);
    }

    private static void promise21() {
        HailVotes x = canton("roof 0 0 3 2 0 0;roof 0 0 2 2 0 0;storm 0 0 0 9 1;storm 1 1 0 9 1;storm 2 2 0 9 1;");
        due("21 one of five", x.recount(0, 1), 1);
        fraction("21 one of five", x, 3, 5);
        due("21 two: both blue", x.recount(0, 2), 1);
        fraction("21 two: both blue", x, 3, 10);
        due("21 three", x.recount(0, 3), 1);
        fraction("21 three", x, 7, 10);
        due("21 all", x.recount(0, 5), 1);
        fraction("21 all", x, 1, 1);
        due("21 more than broke", x.recount(0, 6), BAD);
        due("21 as many", x.recount(1, 4), NO);
        due("21 bad ahead of no", x.recount(1, 5), BAD);
        due("21 nothing broke", x.recount(2, 1), BAD);
        due("21 bad", x.recount(0, 0), BAD);
        due("21 bad", x.recount(-1, 1), BAD);
        due("21 bad", x.recount(3, 1), BAD);
        fraction("21 what is refused changes nothing", x, 1, 1);
        x.storm(0, 1, 0, 9, 1);
        due("21 eight of nine", x.recount(3, 8), 1);
        fraction("21 eight of nine", x, 4, 9);
        due("21 bad", x.recount(3, 9), BAD);
        refused("21", x, 7, 1, 0);
    }

    private static void promise22() {
        HailVotes x = canton("roof 0 8 5 4 3 2;roof 1 0 9 9 9 9;roof 5 0 1 1 1 1;storm 0 2 0 5 1;cannon 6;");
        due("22 broke", x.year(0), 5 + 4 + 2 + 2 + 5 + 5 + 2 + 2);
        due("22 gone", x.tiles(0, 1, 0), 1);
        due("22 gone", x.tiles(1, 0, 1), 4);
        due("22 years", x.count(3), 1);
        due("22 a year older", x.breaks(0, 1, 0), 4 + 3);
        due("22 mild", x.year(NONE), 0);
        due("22 a year older", x.breaks(0, 1, 0), 4 + 4);
        due("22 nothing else gone", x.tiles(0, 1, 0), 1);
        for (int i = 0; i < 12; i++) {
            x.year(NONE);
        }
        due("22 years", x.count(3), 14);
        due("22 bad", x.year(-2), BAD);
        due("22 bad", x.year(1), BAD);
        due("22 no year", x.count(3), 14);
        refused("22", x, 2, 0, 0);
        x.undo();
        HailVotes y = canton("roof 1 8 1 1 1 1;");
        y.year(NONE);
        long nine = y.digest();
        y.year(NONE);
        y.undo();
        due("22 undone", y.digest(), nine);
        HailVotes old = canton("roof 1 9 0 0 0 0;");
        HailVotes older = canton("roof 1 9 0 0 0 0;");
        old.year(NONE);
        older.year(NONE);
        older.year(NONE);
        older.undo();
        due("22 9 at most", old.digest(), older.digest());
        old = canton("roof 1 9 9 9 9 9;storm 0 0 0 1 1;");
        old.year(NONE);
        old.year(NONE);
        due("22 at nine", old.breaks(0, 0, 0), 9);
    }

    private static void promise23() {
        HailVotes x = canton("roof 0 0 9 9 9 9;storm 0 0 0 1 1;");
        x.shards(0, 3, 3);
        long before = x.digest();
        x.year(0);
        x.roof(0, 0, 0, 0, 0, 0);
        x.storm(0, 0, 0, 9, 9);
        x.cannon(0, true);
        x.shards(0, NONE, NONE);
        due("23 whatever was told since", x.undo(), 1);
        due("23 as it was", x.digest(), before);
        due("23 none may be", x.undo(), NO);
        for (int i = 0; i < 5; i++) {
            x.year(0);
        }
        due("23 three at most", x.count(4), 3);
        for (int i = 0; i < 3; i++) {
            due("23 undone", x.undo(), 1);
            due("23 the tiles", x.tiles(0, 0, 0), 5 + i);
            due("23 the years", x.count(3), 4 - i);
            due("23 may be undone", x.count(4), 2 - i);
        }
        due("23 no fourth", x.undo(), NO);
        x.year(0);
        due("23 from there on", x.count(4), 1);
        refused("23", x, 0, 2, 0);
        type(x, " ");
        x.clear();
        x.read();
        due("23 none behind read", x.undo(), NO);
    }

    private static void promise24() {
        HailVotes x = new HailVotes();
        due("24 no storm: all years are mild", x.drawn(1, 20), 0);
        // X: 1103527590 by 65536 is 16838; by 2 nothing is left over: the storm. Its tiles are then gone.
        x = canton("roof 0 0 0 9 0 0;storm 0 0 0 9 1;");
        due("24 one year", x.drawn(1, 1), 1);
        due("24 it breaks them once", x.drawn(1, 20), 1);
        due("24 nothing changes", x.tiles(0, 0, 1), 9);
        due("24 nothing changes", x.count(3), 0);
        due("24 no year", x.drawn(1, 0), 0);
        x = canton("roof 0 0 9 0 9 0;roof 0 0 0 9 0 9;storm 0 0 0 9 1;storm 1 1 1 9 1;storm 0 1 0 5 3;cannon 1;");
        due("24 tiles go year by year", x.drawn(1, 20), -2);
        due("24 the last seed", x.drawn(999999, 5), -1);
        int[][] bad = {{-1, 0}, {1000000, 0}, {0, -1}, {0, 21}};
        for (int[] b : bad) {
            due("24 bad", x.drawn(b[0], b[1]), -1000);
        }
        refused("24", x, 4, 0, 0);
    }

    private static void promise25() {
        HailVotes x = canton("roof 0 0 1 0 0 0;storm 0 0 0 1 2;storm 1 1 0 1 4;");
        fraction("25 at first", x, 0, 1);
        x.odds(1);
        fraction("25 lowest terms", x, 1, 3);
        due("25 bad", x.part(2), -1000);
        due("25 bad", x.part(-1), -1000);
        refused("25", x, 2, 0, 0);
    }

    private static void promises26And27() {
        HailVotes x = canton("roof 0 0 9 9 9 9;storm 0 0 0 1 3;cannon 3;");
        due("27 none was kept", x.from(0), NO);
        x.shards(0, 1, 1);
        x.year(0);
        due("26 kept", x.image(0), 1);
        long kept = x.digest();
        x.year(0);
        x.year(0);
        due("26 the other", x.image(1), 1);
        x.roof(0, 0, 0, 0, 0, 0);
        due("27 back", x.from(0), 1);
        due("27 as it was", x.digest(), kept);
        due("27 the year may be undone", x.undo(), 1);
        due("27 undone", x.tiles(0, 0, 0), 9);
        due("27 again", x.from(0), 1);
        due("27 the image stays as it was", x.digest(), kept);
        due("27 the other", x.from(1), 1);
        due("27 its years", x.count(4), 3);
        due("27 its tiles", x.tiles(0, 0, 0), 6);
        x.clear();
        type(x, "cannon 1;");
        x.odds(1);
        x.odds(2);
        due("27 from", x.from(0), 1);
        due("27 the text stays", x.count(5), 9);
        fraction("27 the fraction stays", x, 1, 1);
        x.read();
        due("27 images outlive a reading", x.from(0), 1);
        due("26 bad", x.image(2), BAD);
        due("26 bad", x.image(-1), BAD);
        due("27 bad", x.from(2), BAD);
        due("27 bad", x.from(-1), BAD);
        refused("26, 27 status stays", x, 4, 1, 0);
        HailVotes y = new HailVotes();
        y.image(1);
        due("27 only the other was kept", y.from(0), NO);
        due("27 an empty one", y.from(1), 1);
    }

    private static void promise28() {
        HailVotes x = new HailVotes();
        refused("28 at first", x, 0, 0, 0);
        x.roof(9, 0, 0, 0, 0, 0);
        x.undo();
        x.against();
        due("28 another", x.status(3), -1);
        due("28 another", x.status(-1), -1);
        x.part(9);
        x.drawn(-1, 0);
        refused("28", x, 5, 2, 0);
    }

    private static void promise29() {
        HailVotes x = canton("roof 0 0 0 0 0 0;roof 0 0 0 0 0 0;storm 0 0 0 1 1;cannon 1;cannon 2;cannon 3;");
        x.year(NONE);
        x.year(NONE);
        x.year(NONE);
        x.year(NONE);
        int[] counts = {2, 1, 3, 4, 3, 77};
        for (int what = 0; what <= 5; what++) {
            due("29 count(" + what + ")", x.count(what), counts[what]);
        }
        due("29 bad", x.count(6), BAD);
        due("29 bad", x.count(-1), BAD);
        refused("29", x, 2, 0, 0);
    }

    private static long mixed(long... vs) {
        long h = 719;
        for (long v : vs) {
            h = 31 * h + v;
        }
        return h;
    }

    private static void promise30() {
        HailVotes x = new HailVotes();
        due("30 empty", x.digest(), mixed(0, 0, 0, 0, 0, 0, 0, 0, 0, 0, 0, 0, 0, 0, 1));
        x.roof(1, 2, 3, 4, 5, 6);
        x.roof(0, 9, 9, 8, 7, 6);
        x.storm(1, 2, 0, 3, 4);
        x.storm(0, 6, 1, 9, 1);
        x.cannon(6, true);
        x.shards(1, 7, 8);
        x.type(32, 1);
        x.year(NONE);
        x.odds(2);
        due("30 all", x.digest(), mixed(2, 2, 1, 1, 1, 1, 1, 3, 3, 4, 5, 6, -1, -1, 0, 9, 9, 8, 7, 6, 7, 8,
            1, 2, 0, 3, 4, 0, 6, 1, 9, 1, 0, 0, 0, 0, 0, 0, 1, x.part(0), x.part(1)));
        refused("30", x, 0, 0, 0);
    }

    public static void main(String[] args) {
        promise1();
        promise2();
        promise3();
        promise4();
        promise5();
        promise6();
        promise7();
        promise8();
        promise9();
        promise10();
        promise11();
        promise12();
        promises13And14();
        promise15();
        promises16And17();
        promise18();
        promises19And20();
        promise21();
        promise22();
        promise23();
        promise24();
        promise25();
        promises26And27();
        promise28();
        promise29();
        promise30();
        System.out.println(wrong == 0 ? "PromisesTest: all as due" : "PromisesTest: " + wrong + " wrong");
        if (wrong != 0) {
            System.exit(1);
        }
    }
}
