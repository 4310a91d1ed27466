/** Promises 20 to 24: composing, the paper, the best order, the share, and the digest. */
public final class ComposingTest {
    private ComposingTest() {
    }

    public static void main(String[] args) {
        compose();
        composeByRate();
        composeWithNeedsAndKinds();
        composeWithTime();
        composeWithClosedRooms();
        composeWithRests();
        wrongCompose();
        byteAt();
        best();
        bestOrder();
        wrongBest();
        share();
        digest();
        Check.finish("ComposingTest");
    }

    private static MuseumGuide guide(String text) {
        MuseumGuide guide = Check.taught(text);
        guide.come(6, 100, 0);
        return guide;
    }

    private static void composed(String what, MuseumGuide guide, int[] call, int worth, String lines) {
        Check.same("compose() " + what, guide.compose(call[0], call[1], call[2], call[3]), worth);
        Check.same("paper " + what, Check.paper(guide), "tour made {\n" + lines + "}\n");
    }

    private static int[] call(int visitor, int room, int second, int time) {
        return new int[] {visitor, room, second, time};
    }

    private static void compose() {
        MuseumGuide guide = guide("room hall; room abcdefghij; door hall abcdefghij 10;"
            + "part intro in hall 60 worth 9; part klmnopqrst in abcdefghij 100 worth 5;");
        composed("of two parts", guide, call(0, 0, 0, 2000), 14,
            " go hall; play intro;\n go abcdefghij; play klmnopqrst;\n");
        composed("anew, in the place of what was there", guide, call(0, 0, 0, 59), 0, "");
        MuseumGuide none = guide("room a;");
        composed("of no parts", none, call(0, 0, 0, 2000), 0, "");
        StringBuilder parts = new StringBuilder("room roomroom10;");
        StringBuilder lines = new StringBuilder();
        for (int k = 10; k < 26; k++) {
            parts.append("part partpart").append(k).append(" in roomroom10 1;");
            lines.append(" go roomroom10; play partpart").append(k).append(";\n");
        }
        composed("of the longest names", guide(parts.toString()), call(0, 0, 0, 16), 16, lines.toString());
    }

    private static void composeByRate() {
        // Rates at first: p 2000/100 = 20, q 3000/(20+100) = 25, r 1000/40 = 25, s 0.
        String text = "room a; room b; door a b 10; part p in a 100 worth 2; part q in b 100 worth 3;"
            + "part r in a 40; part s in a 10 worth 0;";
        // Behind q in b: p 2000/120 = 16, r 1000/60 = 16, s 0: p, the smaller number; then r.
        composed("by rate", guide(text), call(0, 0, 0, 9000), 6,
            " go b; play q;\n go a; play p;\n go a; play r;\n go a; play s;\n");
        // The rate is cut: 1000/300 and 1000/333 are both 3, and 1000/334 is 2.
        composed("by cut rates", guide("room a; part p in a 334; part q in a 333; part r in a 300;"),
            call(0, 0, 0, 9000), 3, " go a; play q;\n go a; play r;\n go a; play p;\n");
    }

    private static void composeWithNeedsAndKinds() {
        String text = "room a; room b; part p in a 100; part q in a 1 needs p worth 99; part r in a 1 for child worth 50;"
            + "part s in a 1 for expert worth 60; part t in b 1 worth 99; part u in a 1 needs t worth 70;";
        MuseumGuide guide = guide(text);
        guide.come(6, 100, 1);
        guide.come(6, 100, 2);
        composed("of an adult", guide, call(0, 0, 0, 9000), 100, " go a; play p;\n go a; play q;\n");
        composed("of a child", guide, call(1, 0, 0, 9000), 150, " go a; play r;\n go a; play p;\n go a; play q;\n");
        composed("of an expert", guide, call(2, 0, 0, 9000), 160, " go a; play s;\n go a; play p;\n go a; play q;\n");
        composed("from the other room", guide, call(0, 1, 0, 9000), 99, " go b; play t;\n");
    }

    private static void composeWithTime() {
        // 10 steps at the pace 6 take 20 seconds.
        MuseumGuide guide = guide("room a; room b; door a b 10; part p in b 100 worth 7; part q in a 30 worth 1;");
        composed("with just the time for p", guide, call(0, 0, 500, 120), 7, " go b; play p;\n");
        composed("with a second less", guide, call(0, 0, 500, 119), 1, " go a; play q;\n");
        composed("with just the time for both", guide, call(0, 0, 500, 170), 8, " go b; play p;\n go a; play q;\n");
        composed("with a second less for both", guide, call(0, 0, 500, 169), 7, " go b; play p;\n");
        composed("at the latest", guide, call(0, 0, 90000, 20000), 8, " go b; play p;\n go a; play q;\n");
    }

    private static void composeWithClosedRooms() {
        String text = "room a; room b; door a b 10; part p in b 100 worth 7; part q in a 30 worth 1;";
        MuseumGuide guide = guide(text);
        guide.close(1, 0, 1);
        composed("when there is no way now", guide, call(0, 0, 0, 9000), 8, " go a; play q;\n go b; play p;\n");
        composed("when there is a way again", guide, call(0, 0, 1, 9000), 8, " go b; play p;\n go a; play q;\n");
        guide.reopen(1);
        guide.close(1, 20, 21);
        composed("when it is closed where one could begin", guide, call(0, 0, 0, 9000), 8,
            " go a; play q;\n go b; play p;\n");
        composed("when it is closed a second ahead of that", guide, call(0, 0, 1, 9000), 8,
            " go b; play p;\n go a; play q;\n");
        guide.close(0, 0, 9);
        composed("when one is in a closed room", guide, call(0, 0, 1, 9000), 8, " go b; play p;\n go a; play q;\n");
        guide.close(0, 9, 100000);
        composed("when one's own room stays closed", guide, call(0, 0, 1, 9000), 7, " go b; play p;\n");
    }

    private static void composeWithRests() {
        // 30 steps at the pace 6 take 60 seconds; with a stamina of 29 one rests 60 seconds more.
        MuseumGuide guide = Check.taught("room a; room b; door a b 30; part p in b 100 worth 11; part q in a 100 worth 5;");
        guide.come(6, 30, 0);
        guide.come(6, 29, 0);
        composed("of one who is not worn", guide, call(0, 0, 0, 160), 11, " go b; play p;\n");
        // 11000 / 160 = 68 and 11000 / 220 = 50: at the same rate the first one is taken.
        composed("of one who is worn", guide, call(1, 0, 0, 220), 11, " go b; play p;\n");
        composed("of one who is worn, with a second less", guide, call(1, 0, 0, 219), 5, " go a; play q;\n");
        guide.close(1, 60, 61);
        composed("of one who rests while it is closed", guide, call(1, 0, 0, 220), 11, " go b; play p;\n");
        guide.close(1, 120, 121);
        composed("of one who has rested when it is closed", guide, call(1, 0, 0, 220), 5, " go a; play q;\n");
        // The rest makes the rate of p 10000/220 = 45, less than q's 4600/100 = 46.
        MuseumGuide other = Check.taught("room a; room b; door a b 30; part p in b 100 worth 10; part q in a 100 worth 4;"
            + "part r in a 50 worth 3;");
        other.come(6, 29, 0);
        // At first r 60, p 45, q 40; behind r p 45, q 40; back in a one is worn again.
        composed("by rates with rests", other, call(0, 0, 0, 9000), 17,
            " go a; play r;\n go b; play p;\n go a; play q;\n");
    }

    private static void wrongCompose() {
        MuseumGuide guide = guide("room a; part p in a 10; tour t { play p; }");
        guide.visit(0, 0, 0, 0, 100);
        String latest = Check.latest(guide);
        guide.compose(0, 0, 50, 100);
        Check.same("latest behind compose()", Check.latest(guide), latest);
        Check.same("event behind compose()", guide.event(0, 1), 10);
        String paper = Check.paper(guide);
        Check.index("compose(-1, ..)", () -> guide.compose(-1, 0, 0, 5));
        Check.index("compose(1, ..)", () -> guide.compose(1, 0, 0, 5));
        Check.index("compose(0, -1, ..)", () -> guide.compose(0, -1, 0, 5));
        Check.index("compose(0, 1, -1, 0): the room first", () -> guide.compose(0, 1, -1, 0));
        Check.argument("compose(.., -1, 5)", () -> guide.compose(0, 0, -1, 5));
        Check.argument("compose(.., 90001, 5)", () -> guide.compose(0, 0, 90001, 5));
        Check.argument("compose(.., 0, 0)", () -> guide.compose(0, 0, 0, 0));
        Check.argument("compose(.., 0, 20001)", () -> guide.compose(0, 0, 0, 20001));
        Check.same("paper behind wrong calls", Check.paper(guide), paper);
        Check.is("compose(.., 0, 1)", () -> guide.compose(0, 0, 0, 1), 0);
    }

    private static void byteAt() {
        MuseumGuide guide = guide("room a1; part p in a1 10;");
        Check.index("byteAt(0) of no paper", () -> guide.byteAt(0));
        guide.compose(0, 0, 0, 10);
        String due = "tour made {\n go a1; play p;\n}\n";
        for (int index = 0; index < due.length(); index++) {
            Check.same("byteAt(" + index + ")", guide.byteAt(index), (int) due.charAt(index));
        }
        Check.index("byteAt(-1)", () -> guide.byteAt(-1));
        Check.index("byteAt() behind the end", () -> guide.byteAt(due.length()));
        guide.compose(0, 0, 0, 9);
        Check.index("byteAt() behind the end of a shorter paper", () -> guide.byteAt(14));
    }

    private static void best() {
        // The rates have q taken first, and then there is no time for p.
        MuseumGuide guide = guide("room a; part p in a 100 worth 20; part q in a 10 worth 3; tour t { play p; }");
        Check.same("compose() of the nearer part", guide.compose(0, 0, 0, 109), 3);
        guide.visit(0, 0, 0, 0, 100);
        long digest = guide.digest();
        Check.is("best() of the other part", () -> guide.best(0, 0, 0, 109), 20);
        Check.is("best() of both", () -> guide.best(0, 0, 0, 110), 23);
        Check.is("best() of the nearer part alone", () -> guide.best(0, 0, 0, 99), 3);
        Check.is("best() of none", () -> guide.best(0, 0, 0, 9), 0);
        Check.same("digest() behind best()", guide.digest(), digest);
        Check.is("best() of no parts", () -> guide("room a;").best(0, 0, 0, 9), 0);
    }

    private static void bestOrder() {
        // b closes at 200, so that p has to be heard ahead of the others, though its rate is the least.
        MuseumGuide guide = guide("room a; room b; door a b 10; part p in b 100 worth 2; part q in a 100 worth 9;"
            + "part r in a 20 needs p worth 8;");
        guide.close(1, 100, 9000);
        Check.same("compose() of the greatest rate", guide.compose(0, 0, 0, 5000), 9);
        Check.is("best() in another order", () -> guide.best(0, 0, 0, 5000), 19);
        guide.come(1, 10, 1);
        // At the pace 1 it takes 120 seconds to b: closed then.
        Check.is("best() of one who is too slow", () -> guide.best(1, 0, 0, 5000), 9);
        MuseumGuide kinds = guide("room a; part p in a 5 for child worth 9; part q in a 5 for expert worth 8; part r in a 5;");
        kinds.come(1, 10, 1);
        kinds.come(1, 10, 2);
        Check.is("best() of an adult", () -> kinds.best(0, 0, 0, 100), 1);
        Check.is("best() of a child", () -> kinds.best(1, 0, 0, 100), 10);
        Check.is("best() of an expert", () -> kinds.best(2, 0, 0, 100), 9);
    }

    private static void wrongBest() {
        StringBuilder parts = new StringBuilder("room a;");
        for (int k = 0; k < 6; k++) {
            parts.append("part p").append(k).append(" in a 1;");
        }
        MuseumGuide six = guide(parts.toString());
        Check.is("best() of 6 parts", () -> six.best(0, 0, 0, 100), 6);
        Check.index("best(-1, ..)", () -> six.best(-1, 0, 0, 5));
        Check.index("best(1, ..)", () -> six.best(1, 0, 0, 5));
        Check.index("best(0, -1, ..)", () -> six.best(0, -1, 0, 5));
        Check.index("best(0, 1, -1, 0): the room first", () -> six.best(0, 1, -1, 0));
        Check.argument("best(.., -1, 5)", () -> six.best(0, 0, -1, 5));
        Check.argument("best(.., 90001, 5)", () -> six.best(0, 0, 90001, 5));
        Check.argument("best(.., 0, 0)", () -> six.best(0, 0, 0, 0));
        Check.argument("best(.., 0, 20001)", () -> six.best(0, 0, 0, 20001));
        Check.is("best(.., 0, 1)", () -> six.best(0, 0, 0, 1), 1);
        MuseumGuide seven = guide(parts + "part p6 in a 1 for child;");
        Check.state("best() of 7 parts", () -> seven.best(0, 0, 0, 100));
        Check.argument("best() of 7 parts, wrong time: the time first", () -> seven.best(0, 0, 0, 0));
        Check.index("best() of 7 parts, wrong room: the room first", () -> seven.best(0, 9, 0, 100));
    }

    private static void share() {
        MuseumGuide guide = guide("room a; part p in a 1; part q in a 1; part r in a 1; tour t { play p; play q; }"
            + "tour u { }");
        Check.same("share() without a visit", guide.share(), 0.0);
        guide.visit(0, 0, 0, 0, 100);
        Check.same("share() of 2 of 3", guide.share(), 2.0 / 3);
        guide.visit(0, 1, 0, 0, 100);
        Check.same("share() of 0 of 3", guide.share(), 0.0);
        MuseumGuide none = guide("room a; tour t { }");
        none.visit(0, 0, 0, 0, 100);
        Check.same("share() of no parts", none.share(), 0.0);
    }

    private static void digest() {
        MuseumGuide guide = guide("room a; room b; door a b 7; part p in b 30 worth 4; tour t { go b; play p; }");
        guide.close(1, 5, 9);
        guide.close(1, 0, 1);
        // Counts: rooms to events; each room's closings and ways (b is closed in the second 0); the part; the visitor.
        int[] before = {2, 1, 1, 1, 1, 0, 0, 0, 0, 0, -1, 2, 7, 0, 1, 30, 4, 0, 0, 6, 100, 0};
        Check.same("digest() without a visit", guide.digest(), digest(before));
        guide.visit(0, 0, 0, 20, 100);
        int[] visited = {2, 1, 1, 1, 1, 0, 0, 2, 0, 0, -1, 2, 7, 0, 1, 30, 4, 0, 0, 6, 100, 0,
            64, 1, 1, 4, 7, 0, 0, 0, 7, 2, 0, 34, 1, 1, 64, 0};
        Check.same("digest() with a visit", guide.digest(), digest(visited));
        guide.compose(0, 0, 20, 10);
        Check.feed(guide, "xyz");
        int[] written = {2, 1, 1, 1, 1, 3, 14, 2, 0, 0, -1, 2, 7, 0, 1, 30, 4, 0, 0, 6, 100, 0,
            64, 1, 1, 4, 7, 0, 0, 0, 7, 2, 0, 34, 1, 1, 64, 0,
            't', 'o', 'u', 'r', ' ', 'm', 'a', 'd', 'e', ' ', '{', 10, '}', 10};
        Check.same("digest() with a paper", guide.digest(), digest(written));
    }

    private static long digest(int[] numbers) {
        long d = 691;
        for (int number : numbers) {
            d = d * 31 + number;
        }
        return d;
    }
}
