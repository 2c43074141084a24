import java.util.Random;

/** Random runs of calls, each answer and each digest held against the Model's. */
public final class ModelTest {
    private static final int RUNS = 1500;
    private static final int STEPS = 170;
    private static final int[] ODD = {-1000, -3, -2, -1, 0, 1, 2, 3, 4, 5, 6, 7, 8, 9, 10, 18, 19,
        Integer.MIN_VALUE, Integer.MAX_VALUE};

    private static int wrong = 0;

    private final Random random;
    private final int run;
    private final HailVotes votes = new HailVotes();
    private final Model model = new Model();

    private ModelTest(int run) {
        this.run = run;
        this.random = new Random(run);
    }

    /** Mostly a number from least to most, now and then any odd one. */
    private int pick(int least, int most) {
        if (random.nextInt(40) == 0) {
            return ODD[random.nextInt(ODD.length)];
        }
        return least + random.nextInt(Math.max(1, most - least + 1));
    }

    private void due(String call, long got, long want) {
        if (got != want) {
            wrong++;
            if (wrong < 20) {
                System.out.println("run " + run + ": " + call + " answered " + got + ", the model " + want);
            }
        }
    }

    private int roofPick() {
        return pick(0, model.now.roofs.size() - 1);
    }

    private int stormPick() {
        return pick(0, model.now.storms.size() - 1);
    }

    private void roof() {
        int kind = pick(0, 5), age = pick(0, 9), b0 = pick(0, 9), n0 = pick(0, 9), b1 = pick(0, 9), n1 = pick(0, 9);
        due("roof", votes.roof(kind, age, b0, n0, b1, n1), model.roof(kind, age, b0, n0, b1, n1));
    }

    private void storm() {
        int from = pick(0, 6), to = pick(Math.max(0, from), 6), wind = pick(0, 1), size = pick(1, 9), chance = pick(1, 9);
        due("storm", votes.storm(from, to, wind, size, chance), model.storm(from, to, wind, size, chance));
    }

    private String itemText() {
        StringBuilder b = new StringBuilder();
        int sort = random.nextInt(3);
        int n = sort == 0 ? 6 : sort == 1 ? 5 : 1;
        b.append(sort == 0 ? "roof" : sort == 1 ? "storm" : "cannon");
        int from = random.nextInt(7);
        for (int i = 0; i < n; i++) {
            int v = random.nextInt(10);
            if (sort == 0 && i == 0) {
                v = random.nextInt(6);
            } else if (sort == 1) {
                v = switch (i) {
                    case 0 -> from;
                    case 1 -> from + random.nextInt(7 - from);
                    case 2 -> random.nextInt(2);
                    default -> 1 + random.nextInt(9);
                };
            } else if (sort == 2) {
                v = random.nextInt(7);
            }
            b.append(i == 0 && random.nextInt(9) == 0 ? "" : random.nextInt(9) == 0 ? "  " : " ").append(v);
        }
        return b.append(random.nextInt(5) == 0 ? " ; " : ";").toString();
    }

    private String cantonText() {
        StringBuilder b = new StringBuilder();
        int items = random.nextInt(14);
        for (int i = 0; i < items; i++) {
            b.append(itemText());
        }
        if (random.nextInt(3) == 0 && b.length() > 0) {
            int at = random.nextInt(b.length());
            String signs = " ;;09azrR-\n\u0000\u00e9\u00ff";
            char sign = signs.charAt(random.nextInt(signs.length()));
            switch (random.nextInt(4)) {
                case 0 -> b.setCharAt(at, sign);
                case 1 -> b.insert(at, sign);
                case 2 -> b.deleteCharAt(at);
                default -> b.setLength(at);
            }
        }
        return b.toString();
    }

    private void typeAndRead() {
        due("clear", votes.clear(), model.clear());
        String text = cantonText();
        for (int at = 0; at < text.length(); ) {
            int n = Math.min(1 + random.nextInt(8), text.length() - at);
            long v = random.nextLong();
            for (int i = 0; i < n; i++) {
                v = v << 8 | text.charAt(at + i);
            }
            due("type", votes.type(v, n), model.type(v, n));
            at += n;
        }
        due("read of " + text, votes.read(), model.read());
    }

    private void shards() {
        int roof = roofPick(), blue = pick(0, 6), brown = pick(0, 6);
        int storm = random.nextInt(6);
        if (random.nextInt(3) > 0 && storm < model.now.storms.size() && roof >= 0 && roof < model.now.roofs.size()) {
            blue = model.breaks(storm, roof, 0);
            brown = model.breaks(storm, roof, 1);
        } else if (random.nextInt(6) == 0) {
            blue = -1;
            brown = -1;
        }
        due("shards", votes.shards(roof, blue, brown), model.shards(roof, blue, brown));
    }

    private void ask() {
        int s = stormPick(), r = roofPick(), a = pick(0, 1), b = pick(0, 1), n = pick(0, 4);
        int all = random.nextInt(3) == 0 ? -1 : r;
        switch (random.nextInt(16)) {
            case 0 -> due("tiles", votes.tiles(r, a, b), model.tiles(r, a, b));
            case 1 -> due("force", votes.force(s, r, a), model.force(s, r, a));
            case 2 -> due("breaks", votes.breaks(s, all, a), model.breaks(s, all, a));
            case 3 -> due("wins", votes.wins(s), model.wins(s));
            case 4 -> due("odds", votes.odds(n), model.odds(n));
            case 5 -> due("paint", votes.paint(a, Math.min(n, 6)), model.paint(a, Math.min(n, 6)));
            case 6 -> due("brush", votes.brush(a, n, r, b), model.brush(a, n, r, b));
            case 7 -> due("against", votes.against(), model.against());
            case 8 -> due("decides", votes.decides(r), model.decides(r));
            case 9 -> due("power", votes.power(r), model.power(r));
            case 10 -> due("shield", votes.shield(a), model.shield(a));
            case 11 -> due("which", votes.which(a), model.which(a));
            case 12 -> due("recount", votes.recount(s, 2 * n), model.recount(s, 2 * n));
            case 13 -> due("recount", votes.recount(s, 2 * n - 1), model.recount(s, 2 * n - 1));
            case 14 -> {
                int seed = pick(0, 999999), y = pick(0, 20);
                due("drawn", votes.drawn(seed, y), model.drawn(seed, y));
            }
            default -> {
                due("part", votes.part(a), model.part(a));
                due("status", votes.status(n), model.status(n));
                due("count", votes.count(n + 1), model.count(n + 1));
            }
        }
    }

    private void step(int i) {
        int way = i < 12 ? random.nextInt(3) : random.nextInt(40);
        if (way == 0) {
            roof();
        } else if (way == 1) {
            storm();
        } else if (way == 2) {
            int place = pick(0, 6);
            boolean is = random.nextInt(3) > 0;
            due("cannon", votes.cannon(place, is), model.cannon(place, is));
        } else if (way == 3 && random.nextInt(3) == 0) {
            typeAndRead();
        } else if (way <= 6) {
            shards();
        } else if (way <= 8) {
            int storm = random.nextInt(3) == 0 ? -1 : stormPick();
            due("year", votes.year(storm), model.year(storm));
        } else if (way == 9) {
            due("undo", votes.undo(), model.undo());
        } else if (way == 10) {
            int image = pick(0, 1);
            due("image", votes.image(image), model.image(image));
        } else if (way == 11 && random.nextInt(2) == 0) {
            int image = pick(0, 1);
            due("from", votes.from(image), model.from(image));
        } else {
            ask();
        }
        due("digest behind step " + i, votes.digest(), model.digest());
    }

    public static void main(String[] args) {
        for (int run = 0; run < RUNS; run++) {
            ModelTest test = new ModelTest(run);
            for (int i = 0; i < STEPS; i++) {
                test.step(i);
            }
            for (int what = 0; what < 3; what++) {
                test.due("status", test.votes.status(what), test.model.status(what));
            }
        }
        System.out.println(wrong == 0 ? "ModelTest: all answers as the model's" : "ModelTest: " + wrong + " wrong");
        if (wrong != 0) {
            System.exit(1);
        }
    }
}
