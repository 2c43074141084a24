import java.util.ArrayList;
import java.util.List;
import java.util.function.Supplier;
import java.util.function.ToLongFunction;

/**
 * What the tests of the edges share: cases with a name each, and calls tried on one of two like
 * objects, so that the other shows what the call has changed.
 */
final class Edges {
    static final int NONE = HailVotes.NONE, BAD = HailVotes.BAD, NO = HailVotes.NO, FULL = HailVotes.FULL;
    static final int LEAST = Integer.MIN_VALUE, MOST = Integer.MAX_VALUE;

    static final String BUSY_TEXT = "roof 2 3 4 5 6 7;storm 1 2 0 3 4;cannon 5;";

    private static final int NOT_REFUSED = 0;

    private final String title;
    private String running = "";
    private int cases;
    private int wrong;

    Edges(String title) {
        this.title = title;
    }

    /** One edge of the document: its name, with the promise's number ahead, and what is tried. */
    void edge(String name, Runnable tried) {
        running = name;
        cases++;
        tried.run();
    }

    void due(String what, long got, long want) {
        if (got != want) {
            wrong++;
            System.out.println(running + ": " + what + " answered " + got + ", due is " + want);
        }
    }

    void fraction(HailVotes x, long above, long below) {
        due("part(0)", x.part(0), above);
        due("part(1)", x.part(1), below);
    }

    void status(HailVotes x, int bads, int noes, int fulls) {
        due("status(0)", x.status(0), bads);
        due("status(1)", x.status(1), noes);
        due("status(2)", x.status(2), fulls);
    }

    /** The call is refused, answered by its reason; STATUS counts it, and nothing else changes. */
    void refused(Supplier<HailVotes> made, int reason, ToLongFunction<HailVotes> call) {
        refused(made, reason, reason, call);
    }

    /** The same, where another answer is told in the reason's place. */
    void refused(Supplier<HailVotes> made, int reason, long answer, ToLongFunction<HailVotes> call) {
        HailVotes tried = made.get();
        HailVotes left = made.get();
        due("the refused call", call.applyAsLong(tried), answer);
        counted(tried, left, reason);
        same(tried, left);
    }

    /** The call is answered so, and changes nothing at all. */
    void asked(Supplier<HailVotes> made, long answer, ToLongFunction<HailVotes> call) {
        HailVotes tried = made.get();
        HailVotes left = made.get();
        due("the call", call.applyAsLong(tried), answer);
        counted(tried, left, NOT_REFUSED);
        same(tried, left);
    }

    /** The call answers so, its fraction is above by below, and nothing but the fraction changes. */
    void reckoned(Supplier<HailVotes> made, long answer, long above, long below, ToLongFunction<HailVotes> call) {
        HailVotes tried = made.get();
        HailVotes left = made.get();
        due("the call", call.applyAsLong(tried), answer);
        fraction(tried, above, below);
        counted(tried, left, NOT_REFUSED);
        // Both get the same fraction, so that all the rest can be held against one another.
        due("odds(2)", tried.odds(2), left.odds(2));
        same(tried, left);
    }

    /** The call is taken: it answers so, and STATUS counts nothing. */
    void taken(HailVotes x, long answer, ToLongFunction<HailVotes> call) {
        int[] before = {x.status(0), x.status(1), x.status(2)};
        due("the call", call.applyAsLong(x), answer);
        status(x, before[0], before[1], before[2]);
    }

    private void counted(HailVotes tried, HailVotes left, int reason) {
        for (int what = 0; what < 3; what++) {
            int more = reason == BAD - what ? 1 : 0;
            due("status(" + what + ")", tried.status(what), left.status(what) + more);
        }
    }

    /** Holds all that can be seen of both against one another; both are used up by it. */
    void same(HailVotes one, HailVotes other) {
        List<Long> ones = sights(one);
        List<Long> others = sights(other);
        due("all that can be seen: how much", ones.size(), others.size());
        for (int i = 0; i < Math.min(ones.size(), others.size()); i++) {
            if (!ones.get(i).equals(others.get(i))) {
                due("all that can be seen: sight " + i, ones.get(i), others.get(i));
                return;
            }
        }
    }

    private static List<Long> sights(HailVotes x) {
        List<Long> seen = new ArrayList<>();
        for (int what = 0; what < 6; what++) {
            seen.add((long) x.count(what));
        }
        seen.add(x.part(0));
        seen.add(x.part(1));
        seen.add(x.digest());
        lookBack(x, seen);
        for (int i = 0; i < 2; i++) {
            seen.add((long) x.from(i));
            seen.add(x.digest());
            lookBack(x, seen);
        }
        seen.add((long) x.read());
        seen.add(x.digest());
        seen.add((long) x.clear());
        return seen;
    }

    private static void lookBack(HailVotes x, List<Long> seen) {
        for (int i = 0; i < 4; i++) {
            seen.add((long) x.undo());
            seen.add(x.digest());
        }
    }

    /** The digest of these numbers, as promise 30 tells it. */
    static long mixed(long... vs) {
        long h = 719;
        for (long v : vs) {
            h = 31 * h + v;
        }
        return h;
    }

    static void type(HailVotes x, String text) {
        for (int at = 0; at < text.length(); at += 8) {
            int n = Math.min(8, text.length() - at);
            long v = 0;
            for (int i = 0; i < n; i++) {
                v = v << 8 | text.charAt(at + i);
            }
            x.type(v, n);
        }
    }

    /** A new object that has read the text; the text is empty again. */
    static HailVotes canton(String text) {
        HailVotes x = new HailVotes();
        type(x, text);
        int items = x.read();
        if (items < 0) {
            throw new IllegalStateException("a test's own text: " + text + ", " + items);
        }
        x.clear();
        return x;
    }

    /** Something of all there is, so that whatever a call spoils shows: 3 roofs, 2 storms, 2 cannons. */
    static HailVotes busy() {
        HailVotes x = canton("roof 0 1 9 2 3 4;roof 1 8 5 5 5 9;roof 4 0 1 8 2 7;"
            + "storm 0 0 0 6 2;storm 1 2 1 3 3;cannon 4;");
        x.shards(1, 3, 4);
        x.year(1);
        x.image(0);
        x.shards(0, 18, 0);
        x.year(0);
        x.image(1);
        x.cannon(3, true);
        x.year(NONE);
        fill(x);
        x.type(0, 1);
        x.cannon(3, true);
        x.cannon(0, false);
        x.year(9);
        x.clear();
        type(x, BUSY_TEXT);
        x.odds(1);
        return x;
    }

    /** The text gets all the bytes it can hold, blanks. */
    static void fill(HailVotes x) {
        while (x.count(5) + 8 <= 250) {
            x.type(0x2020_2020_2020_2020L, 8);
        }
        while (x.count(5) < 250) {
            x.type(32, 1);
        }
    }

    static HailVotes withRoofs(int n) {
        HailVotes x = new HailVotes();
        for (int i = 0; i < n; i++) {
            x.roof(0, 0, 1, 1, 1, 1);
        }
        return x;
    }

    static HailVotes withStorms(int n) {
        HailVotes x = new HailVotes();
        for (int i = 0; i < n; i++) {
            x.storm(0, 6, 0, 1, 1);
        }
        return x;
    }

    void end() {
        System.out.println(title + ": " + cases + " edges, " + (wrong == 0 ? "all as due" : wrong + " wrong"));
        if (wrong != 0) {
            System.exit(1);
        }
    }
}
