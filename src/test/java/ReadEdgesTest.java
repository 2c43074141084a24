/** The edges of promise 8: which texts are a canton, and where the others have their fault. */
public final class ReadEdgesTest {
    private static final int NO = Edges.NO, NONE = Edges.NONE;
    private static final String ROOF = "roof 0 0 0 0 0 0;";
    private static final String STORM = "storm 0 0 0 1 1;";

    private static final Edges EDGES = new Edges("ReadEdgesTest");

    private static HailVotes busyWith(String text) {
        HailVotes x = Edges.busy();
        x.clear();
        Edges.type(x, text);
        return x;
    }

    /** The text has its fault there; nothing changes, and no status counts it. */
    private static void fault(String text, int place) {
        EDGES.asked(() -> busyWith(text), -10 - place, HailVotes::read);
        EDGES.asked(() -> typed(text), -10 - place, HailVotes::read);
    }

    private static void faultAt(String name, String text, int place) {
        EDGES.edge("8 fault: " + name + ": " + text, () -> fault(text, place));
    }

    private static HailVotes typed(String text) {
        HailVotes x = new HailVotes();
        Edges.type(x, text);
        return x;
    }

    /** The text is read over a canton with something of all, as by an object that knew nothing else. */
    private static void reads(String text, int items, int roofs, int storms, int cannons) {
        HailVotes x = busyWith(text);
        EDGES.taken(x, items, HailVotes::read);
        EDGES.due("roofs", x.count(0), roofs);
        EDGES.due("storms", x.count(1), storms);
        EDGES.due("cannons", x.count(2), cannons);
        HailVotes y = typed(text);
        EDGES.due("read by a new one", y.read(), items);
        // The fraction of the busy one stays; both get the same.
        x.storm(0, 0, 0, 1, 1);
        y.storm(0, 0, 0, 1, 1);
        x.odds(2);
        y.odds(2);
        EDGES.due("digest", x.digest(), y.digest());
    }

    private static void readsAs(String name, String text, int items, int roofs, int storms, int cannons) {
        EDGES.edge("8 " + name, () -> reads(text, items, roofs, storms, cannons));
    }

    private static void empties() {
        readsAs("an empty text", "", 0, 0, 0, 0);
        readsAs("one blank", " ", 0, 0, 0, 0);
        readsAs("a full text of blanks", " ".repeat(250), 0, 0, 0, 0);
        readsAs("blanks at both ends", "  cannon 0;  ", 1, 0, 0, 1);
        readsAs("blanks between all", "  cannon   0  ;  roof  0 0 0  0 0 0 ;", 2, 1, 0, 1);
        readsAs("no more blanks than between figures", "cannon0;roof0 0 0 0 0 0;storm0 0 0 1 1;", 3, 1, 1, 1);
    }

    private static void fulls() {
        readsAs("seven roofs", ROOF.repeat(7), 7, 7, 0, 0);
        readsAs("six storms", STORM.repeat(6), 6, 0, 6, 0);
        readsAs("seven cannons", "cannon 6;cannon 5;cannon 4;cannon 3;cannon 2;cannon 1;cannon 0;", 7, 0, 0, 7);
        String most = ROOF.repeat(7) + STORM.repeat(6) + "cannon 0;cannon 3;cannon 6;";
        readsAs("seven roofs, six storms, three cannons", most, 16, 7, 6, 3);
        readsAs("as many, up to the 250th byte", " ".repeat(250 - most.length()) + most, 16, 7, 6, 3);
        faultAt("an 8th roof, at the word", ROOF.repeat(8), 7 * 17);
        faultAt("an 8th roof, whatever stands behind", ROOF.repeat(7) + " roof", 7 * 17 + 1);
        faultAt("a 7th storm, at the word", STORM.repeat(7), 6 * 16);
        faultAt("a 7th storm, whatever stands behind", STORM.repeat(6) + "  storm x", 6 * 16 + 2);
        faultAt("an 8th roof behind storms", STORM.repeat(6) + ROOF.repeat(8), 6 * 16 + 7 * 17);
        faultAt("a cannon where there is one, at its place", "cannon 6;cannon 6;", 16);
        faultAt("a cannon where there is one, far behind", "cannon 0;" + ROOF + STORM + "cannon 1;cannon 0;", 58);
        faultAt("a cannon where there is one, at the text's end", "cannon 1;cannon 1", 16);
        EDGES.edge("8 a cannon where the canton has one, but not the text", () -> reads("cannon 4;", 1, 0, 0, 1));
        EDGES.edge("8 eight roofs, though the canton has some", () -> {
            HailVotes x = Edges.withRoofs(7);
            Edges.type(x, ROOF.repeat(7));
            EDGES.taken(x, 7, HailVotes::read);
            EDGES.due("roofs", x.count(0), 7);
        });
    }

    private static String item(String word, int[] numbers) {
        StringBuilder b = new StringBuilder(word);
        for (int n : numbers) {
            b.append(' ').append(n);
        }
        return b.append(';').toString();
    }

    private static void numbers() {
        numbersOf("roof", new int[6], new int[] {5, 9, 9, 9, 9, 9}, new int[] {1, 2, 3, 4, 5, 6});
        numbersOf("storm", new int[] {0, 3, 0, 1, 1}, new int[] {6, 6, 1, 9, 9}, new int[] {3, 6, 0, 4, 5});
        numbersOf("cannon", new int[] {0}, new int[] {6}, new int[] {3});
        faultAt("from ahead of no to", "storm 6 5 0 1 1;", 8);
        faultAt("from too large, to as well", "storm 7 7 0 1 1;", 6);
        EDGES.edge("8 from and to the last", () -> reads("storm 6 6 1 9 9;", 1, 0, 1, 0));
        EDGES.edge("8 numbers come where they belong", () -> {
            HailVotes x = Edges.canton("roof 1 2 3 4 5 6;storm 0 5 1 7 8;cannon 2;");
            HailVotes y = new HailVotes();
            y.roof(1, 2, 3, 4, 5, 6);
            y.storm(0, 5, 1, 7, 8);
            y.cannon(2, true);
            EDGES.same(x, y);
        });
    }

    private static void numbersOf(String word, int[] least, int[] most, int[] some) {
        for (int i = 0; i < some.length; i++) {
            int place = word.length() + 1 + 2 * i;
            for (int v = 0; v <= 9; v++) {
                int[] tried = some.clone();
                tried[i] = v;
                String text = item(word, tried);
                if (v >= least[i] && v <= most[i]) {
                    EDGES.edge("8 number " + i + " of " + text, () -> EDGES.due("read", typed(text).read(), 1));
                } else {
                    faultAt("number " + i, text, place);
                }
            }
            for (int v : new int[] {10, 11, 99, 100}) {
                int[] tried = some.clone();
                tried[i] = v;
                faultAt("more than one figure", item(word, tried), place);
            }
            faultAt("a nought ahead", item(word, some).replaceFirst("^(.{" + place + "})", "$10"), place);
            faultAt("below 0", item(word, some).replaceFirst("^(.{" + place + "})", "$1-"), place);
        }
    }

    /** A text cut behind any of its tokens ends too early: its length is told, blanks too. */
    private static void ends() {
        for (String whole : new String[] {"roof 1 2 3 4 5 6;", "storm 1 2 0 3 4;", "cannon 5;"}) {
            int wordEnds = whole.indexOf(' ');
            for (int end = wordEnds; end < whole.length(); end++) {
                String text = whole.substring(0, end);
                faultAt("ends too early", text, end);
                faultAt("ends too early with blanks", text + "   ", end + 3);
                faultAt("a second item ends too early", "cannon 1;" + text, 9 + end);
            }
            for (int end = 1; end < wordEnds; end++) {
                faultAt("a piece of a word at the end", whole.substring(0, end), 0);
            }
            faultAt("the end of a full text", " ".repeat(250 - wordEnds) + whole.substring(0, wordEnds), 250);
            faultAt("all but ';' in a full text", " ".repeat(251 - whole.length())
                + whole.substring(0, whole.length() - 1), 250);
        }
    }

    private static void tokens() {
        for (String word : new String[] {"a", "z", "roo", "roofs", "rof", "oof", "stor", "storms", "canno", "cannons", "roofroof"}) {
            noWord(word);
        }
        for (String word : new String[] {"roof", "storm", "cannon"}) {
            for (int i = 0; i < word.length(); i++) {
                noWord(word.substring(0, i) + (char) (word.charAt(i) + 1) + word.substring(i + 1));
            }
        }
        faultAt("a capital ahead", "Roof 0 0 0 0 0 0;", 0);
        faultAt("a capital behind", "rooF 0 0 0 0 0 0;", 0);
        faultAt("a word in two", "ro of 0 0 0 0 0 0;", 0);
        faultAt("a number for a word", "1 0;", 0);
        faultAt("';' for a word", ";", 0);
        faultAt("';' twice", "cannon 1;;", 9);
        faultAt("';' for a number", "cannon ;", 7);
        faultAt("a word for a number", "cannon cannon 1;", 7);
        faultAt("a word right behind a word", "cannon roof 0 0 0 0 0 0;", 7);
        faultAt("a number for ';'", "cannon 1 2;", 9);
        faultAt("a word for ';'", "cannon 1 cannon 2;", 9);
        faultAt("a word right behind a figure", "cannon 1cannon 2;", 8);
        faultAt("one number too few, of a roof", "roof 0 0 0 0 0;", 14);
        faultAt("one number too many, of a roof", "roof 0 0 0 0 0 0 0;", 17);
        faultAt("one number too few, of a storm", "storm 0 0 0 1;", 13);
        faultAt("one number too many, of a storm", "storm 0 0 0 1 1 1;", 16);
        faultAt("the first of two", "cannon 7;storm 9;", 7);
        faultAt("the last byte of a full text", " ".repeat(249) + "x", 249);
        faultAt("the first byte of a full text", "x".repeat(250), 0);
        faultAt("a number of very many figures", "cannon " + "1".repeat(243), 7);
    }

    private static void noWord(String word) {
        String behind = word.length() == 6 ? " 1;" : word.length() == 5 ? " 0 0 0 1 1;" : " 0 0 0 0 0 0;";
        faultAt("a word that is none", word + behind, 0);
        faultAt("a word that is none behind an item", "cannon 1; " + word + behind, 10);
    }

    private static void bytes() {
        for (int b = 0; b <= 255; b++) {
            char sign = (char) b;
            boolean letter = sign >= 'a' && sign <= 'z';
            boolean figure = sign >= '0' && sign <= '9';
            if (sign == ' ') {
                continue;
            }
            String name = "the byte " + b;
            EDGES.edge("8 " + name + " ahead of all", () -> fault(sign + " cannon 1;", 0));
            EDGES.edge("8 " + name + " behind an item", () -> fault("cannon 1;" + sign, 9));
            if (!(figure && sign <= '6')) {
                EDGES.edge("8 " + name + " for a number", () -> fault("cannon " + sign + ";", 7));
            }
            if (sign != ';') {
                // With a figure behind it the number has two, with all else it stands alone.
                int place = figure ? 7 : 8;
                EDGES.edge("8 " + name + " right behind a number", () -> fault("cannon 1" + sign + ";", place));
            }
            if (!figure || sign > '6') {
                int place = letter ? 0 : 6;
                EDGES.edge("8 " + name + " right behind a word", () -> fault("cannon" + sign + "1;", place));
            }
        }
    }

    private static void whatStays() {
        EDGES.edge("8 the text stays when it is read", () -> {
            HailVotes x = typed("cannon 1;");
            x.read();
            EDGES.due("count(5)", x.count(5), 9);
            EDGES.due("read again", x.read(), 1);
        });
        EDGES.edge("8 the fraction stays", () -> {
            HailVotes x = Edges.busy();
            x.read();
            EDGES.fraction(x, 2, 5);
        });
        EDGES.edge("8 images stay", () -> {
            HailVotes x = Edges.busy();
            x.read();
            EDGES.due("from(0)", x.from(0), 1);
            EDGES.due("its years", x.count(3), 1);
            EDGES.due("from(1)", x.from(1), 1);
            EDGES.due("its years", x.count(3), 2);
        });
        EDGES.edge("8 year 0", () -> {
            HailVotes x = Edges.busy();
            x.read();
            EDGES.due("count(3)", x.count(3), 0);
        });
        EDGES.edge("8 none may be undone behind it", () -> {
            HailVotes x = Edges.busy();
            x.read();
            EDGES.due("count(4)", x.count(4), 0);
            EDGES.due("undo", x.undo(), NO);
        });
        EDGES.edge("8 none may be undone behind an empty text", () -> {
            HailVotes x = Edges.busy();
            x.clear();
            x.read();
            EDGES.due("undo", x.undo(), NO);
        });
        EDGES.edge("8 a year behind it may be undone, back to what was read", () -> {
            HailVotes x = Edges.busy();
            x.read();
            long read = x.digest();
            x.year(NONE);
            EDGES.due("undo", x.undo(), 1);
            EDGES.due("digest", x.digest(), read);
            EDGES.due("no more", x.undo(), NO);
        });
        EDGES.edge("8 no shards are told of what was read", () -> {
            HailVotes x = Edges.withRoofs(1);
            x.shards(0, 18, 18);
            Edges.type(x, ROOF);
            x.read();
            EDGES.due("which(1)", x.which(1), 0);
        });
    }

    public static void main(String[] args) {
        empties();
        fulls();
        numbers();
        ends();
        tokens();
        bytes();
        whatStays();
        EDGES.end();
    }
}
