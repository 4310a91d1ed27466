import java.util.Random;

/** Runs of calls by chance (always the same ones), each answer compared with that of Oracle. */
public final class RandomTest {
    private static final int RUNS = 1500;
    private static final int CALLS = 150;

    private final Random random;
    private final int run;
    private final MuseumGuide guide = new MuseumGuide();
    private final Oracle oracle = new Oracle();

    private RandomTest(int run) {
        this.run = run;
        random = new Random(run);
    }

    public static void main(String[] args) {
        int first = args.length > 0 ? Integer.parseInt(args[0]) : 0;
        int runs = args.length > 1 ? Integer.parseInt(args[1]) : RUNS;
        for (int run = first; run < first + runs; run++) {
            RandomTest test = new RandomTest(run);
            test.teach();
            test.come();
            for (int call = 0; call < CALLS; call++) {
                test.call();
            }
            test.digest();
        }
        Check.finish("RandomTest");
    }

    private void both(String what, Check.Call got, Check.Call due) {
        Check.same("run " + run + ": " + what, Check.answer(got), Check.answer(due));
    }

    private int below(int n) {
        return random.nextInt(n);
    }

    /** Mostly a number from least to most, now and then one close to or far from them. */
    private int around(int least, int most) {
        int turn = below(60);
        if (turn == 0) {
            return below(2) == 0 ? least - 1 : most + 1;
        }
        if (turn == 1) {
            return random.nextInt();
        }
        return turn == 2 ? least : turn == 3 ? most : least + below(Math.max(1, most - least + 1));
    }

    private int room() {
        return around(0, guide.count(0) - 1);
    }

    private int tour() {
        return around(0, guide.count(3) - 1);
    }

    private int person() {
        return around(0, guide.count(4) - 1);
    }

    private int second() {
        return below(3) == 0 ? around(0, 90000) : below(4000);
    }

    private int time() {
        return below(3) == 0 ? around(1, 20000) : 1 + below(4000);
    }

    private void teach() {
        String text = new TextMaker(random).text(below(2) == 0 ? 6 : 14);
        Check.feed(guide, text);
        oracle.trim(0);
        for (int at = 0; at < text.length(); at += 20) {
            oracle.feed(Check.four(text, at), Check.four(text, at + 4), Check.four(text, at + 8),
                Check.four(text, at + 12), Check.four(text, at + 16));
        }
        oracle.trim(text.length());
        both("teach() of " + text, guide::teach, oracle::teach);
        both("errorAt() of " + text, guide::errorAt, oracle::errorAt);
    }

    private void come() {
        int a = around(1, 9);
        int b = below(2) == 0 ? around(10, 500) : 10 + below(90);
        int c = around(0, 2);
        both("come(" + a + ", " + b + ", " + c + ")", () -> guide.come(a, b, c), () -> oracle.come(a, b, c));
    }

    private void digest() {
        both("digest()", guide::digest, oracle::digest);
    }

    private void call() {
        int kind = below(100);
        if (kind < 4) {
            teach();
        } else if (kind < 8) {
            come();
        } else if (kind < 20) {
            hours();
        } else if (kind < 30) {
            feed();
        } else if (kind < 50) {
            visit();
        } else if (kind < 70) {
            search();
        } else if (kind < 98) {
            look();
        } else {
            digest();
        }
    }

    private void feed() {
        int[] n = {random.nextInt(), random.nextInt(), below(99), random.nextInt(), -1};
        int k = around(0, guide.count(5));
        if (below(3) > 0) {
            both("feed()", () -> guide.feed(n[0], n[1], n[2], n[3], n[4]), () -> oracle.feed(n));
        } else {
            both("trim(" + k + ")", () -> guide.trim(k), () -> oracle.trim(k));
        }
    }

    private void hours() {
        int a = room();
        int from = below(3) == 0 ? around(0, 100000) : below(3000);
        int to = below(3) == 0 ? around(0, 100000) : from + below(3000);
        if (below(3) > 0) {
            both("close(" + a + ", " + from + ", " + to + ")", () -> guide.close(a, from, to), () -> oracle.close(a, from, to));
        } else {
            both("reopen(" + a + ")", () -> guide.reopen(a), () -> oracle.reopen(a));
        }
    }

    private void visit() {
        int a = person();
        int b = tour();
        int c = room();
        int d = second();
        int e = time();
        both("visit(" + a + ", " + b + ", " + c + ", " + d + ", " + e + ")", () -> guide.visit(a, b, c, d, e),
            () -> oracle.visit(a, b, c, d, e));
        for (int what = -1; what < 11; what++) {
            int w = what;
            both("latest(" + w + ")", () -> guide.latest(w), () -> oracle.latest(w));
        }
        for (int index = -1; index <= guide.count(7); index++) {
            int i = index;
            int w = around(0, 2);
            both("event(" + i + ", " + w + ")", () -> guide.event(i, w), () -> oracle.event(i, w));
        }
    }

    private void search() {
        int a = person();
        int b = tour();
        int c = room();
        int d = second();
        int e = time();
        int w = below(3) == 0 ? around(0, 2000) : below(150);
        switch (below(4)) {
            case 0 -> both("begins(" + a + ", " + b + ", " + c + ", " + d + ", " + e + ")",
                () -> guide.begins(a, b, c, d, e), () -> oracle.begins(a, b, c, d, e));
            case 1 -> both("needs(" + a + ", " + b + ", " + c + ", " + d + ", " + w + ")",
                () -> guide.needs(a, b, c, d, w), () -> oracle.needs(a, b, c, d, w));
            case 2 -> {
                both("compose(" + a + ", " + c + ", " + d + ", " + e + ")", () -> guide.compose(a, c, d, e),
                    () -> oracle.compose(a, c, d, e));
                for (int index = -1; index <= guide.count(6); index++) {
                    int i = index;
                    both("byteAt(" + i + ")", () -> guide.byteAt(i), () -> oracle.byteAt(i));
                }
            }
            default -> both("best(" + a + ", " + c + ", " + d + ", " + e + ")", () -> guide.best(a, c, d, e),
                () -> oracle.best(a, c, d, e));
        }
    }

    private void look() {
        int a = room();
        int b = room();
        int c = around(0, guide.count(2) - 1);
        int s = below(2) == 0 ? around(0, 200000) : below(4000);
        int w = around(0, 7);
        int v = person();
        switch (below(8)) {
            case 0 -> both("count(" + w + ")", () -> guide.count(w), () -> oracle.count(w));
            case 1 -> both("part(" + c + ", " + w + ")", () -> guide.part(c, w), () -> oracle.part(c, w));
            case 2 -> both("isOpen(" + a + ", " + s + ")", () -> guide.isOpen(a, s), () -> oracle.isOpen(a, s));
            case 3 -> both("visitor(" + v + ", " + w + ")", () -> guide.visitor(v, w), () -> oracle.visitor(v, w));
            case 4 -> both("heard(" + c + ")", () -> guide.heard(c), () -> oracle.heard(c));
            case 5 -> both("share()", guide::share, oracle::share);
            case 6 -> both("latest(" + w + ")", () -> guide.latest(w), () -> oracle.latest(w));
            default -> both("way(" + a + ", " + b + ", " + s + ")", () -> guide.way(a, b, s), () -> oracle.way(a, b, s));
        }
    }
}
