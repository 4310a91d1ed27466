/** Promises 14 to 19: visits, what is told of the latest one, and the searches for a visit. */
public final class VisitsTest {
    private static final String MUSEUM = "room a; room b; room c; room far; door a b 20; door b c 30;"
        + "part p in a 60 worth 2; part q in b 120 needs p worth 9; part r in c 30 for child worth 4;"
        + "part s in c 40 for expert worth 5;";

    private VisitsTest() {
    }

    public static void main(String[] args) {
        visit();
        wrongVisits();
        go();
        forcedRest();
        play();
        rest();
        endsByTime();
        endsBySentences();
        call();
        branches();
        loops();
        comparisons();
        connectives();
        sums();
        valuesOfTheVisit();
        heardAndOpenInTests();
        latest();
        event();
        heard();
        begins();
        wrongBegins();
        needs();
        wrongNeeds();
        Check.finish("VisitsTest");
    }

    /** A guide with the museum, a tour t, and an adult of pace 5 and stamina 100. */
    private static MuseumGuide guide(String tour) {
        MuseumGuide guide = Check.taught(MUSEUM + "tour t { " + tour + " }");
        guide.come(5, 100, 0);
        return guide;
    }

    private static void visited(String tour, int time, String latest, String events) {
        MuseumGuide guide = guide(tour);
        guide.visit(0, 0, 0, 0, time);
        Check.same("latest of " + tour, Check.latest(guide), latest);
        Check.same("events of " + tour, Check.events(guide), events);
    }

    private static void visit() {
        MuseumGuide guide = guide("play p; go a; go b; play q; play q; rest 59; go c; play r;");
        Check.is("visit()", () -> guide.visit(0, 0, 0, 10, 2000), 11);
        Check.same("latest", Check.latest(guide), "369 2 2 11 50 0 2 0 45 8");
        Check.same("events", Check.events(guide),
            "1 70 0, 0 118 1, 1 238 1, 4 238 1, 2 297 59, 0 369 2, 4 369 2");
        Check.is("visit() anew: nothing of the one before stays", () -> guide.visit(0, 0, 3, 90000, 1), 0);
        Check.same("latest anew", Check.latest(guide), "90059 3 0 0 0 0 5 1 0 6");
        Check.is("visit() in the greatest seconds", () -> guide.visit(0, 0, 0, 90000, 20000), 11);
    }

    private static void wrongVisits() {
        MuseumGuide guide = guide("play p;");
        Check.is("visit()", () -> guide.visit(0, 0, 0, 0, 100), 2);
        Check.index("visit(-1, ..)", () -> guide.visit(-1, 0, 0, 0, 5));
        Check.index("visit(1, ..)", () -> guide.visit(1, 0, 0, 0, 5));
        Check.index("visit(0, -1, ..)", () -> guide.visit(0, -1, 0, 0, 5));
        Check.index("visit(0, 1, ..)", () -> guide.visit(0, 1, 0, 0, 5));
        Check.index("visit(0, 0, -1, ..)", () -> guide.visit(0, 0, -1, 0, 5));
        Check.index("visit(0, 0, 4, -1, 0): the room first", () -> guide.visit(0, 0, 4, -1, 0));
        Check.argument("visit(.., -1, 5)", () -> guide.visit(0, 0, 0, -1, 5));
        Check.argument("visit(.., 90001, 5)", () -> guide.visit(0, 0, 0, 90001, 5));
        Check.argument("visit(.., 0, 0)", () -> guide.visit(0, 0, 0, 0, 0));
        Check.argument("visit(.., 0, 20001)", () -> guide.visit(0, 0, 0, 0, 20001));
        Check.same("latest behind wrong visits", Check.latest(guide), "60 0 1 2 0 0 0 0 0 1");
    }

    private static void go() {
        visited("go a;", 100, "0 0 0 0 0 0 0 0 0 1", "");
        visited("go b;", 100, "48 1 0 0 20 0 0 0 20 1", "0 48 1");
        visited("go c;", 1000, "120 2 0 0 50 0 0 0 50 1", "0 120 2");
        visited("go far; go b;", 1000, "48 1 0 0 20 0 1 0 20 2", "4 0 3, 0 48 1");
        // 20 * 12 / 9 is cut to 26, and 30 * 12 / 7 to 51.
        MuseumGuide guide = guide("go b;");
        guide.come(9, 100, 0);
        guide.visit(1, 0, 0, 0, 100);
        Check.same("seconds of 20 steps at the pace 9", guide.latest(0), 26);
        guide.come(7, 100, 0);
        guide.visit(2, 0, 2, 0, 100);
        Check.same("seconds of 30 steps at the pace 7", guide.latest(0), 51);
        guide.close(1, 5, 10);
        guide.visit(0, 0, 0, 5, 100);
        Check.same("go to a room closed now", Check.events(guide), "4 5 1");
        guide.visit(0, 0, 0, 4, 100);
        Check.same("go to a room closed a second later", Check.events(guide), "0 52 1");
        guide.visit(0, 0, 1, 5, 100);
        Check.same("go to the closed room where one is", Check.events(guide), "");
        guide.visit(0, 0, 0, 10, 100);
        Check.same("go to a room that is open again", Check.events(guide), "0 58 1");
    }

    private static void forcedRest() {
        MuseumGuide guide = guide("go b; go c; go b;");
        guide.come(7, 49, 0);
        guide.visit(1, 0, 0, 0, 1000);
        // Tired 20, then 50 > 49: 24, then 54 > 49: 24.
        Check.same("events of one who is worn", Check.events(guide),
            "0 34 1, 0 85 2, 3 145 60, 0 196 1, 3 256 60");
        Check.same("latest of one who is worn", Check.latest(guide), "256 1 0 0 80 2 0 0 24 3");
        guide.come(7, 50, 0);
        guide.visit(2, 0, 0, 0, 1000);
        Check.same("events of one who is not more tired than the stamina", Check.events(guide),
            "0 34 1, 0 85 2, 0 136 1, 3 196 60");
        Check.same("tired by half of 50", guide.latest(8), 25);
    }

    private static void play() {
        visited("play p; play p;", 100, "60 0 1 2 0 0 1 0 0 2", "1 60 0, 4 60 0");
        visited("play q;", 100, "0 0 0 0 0 0 1 0 0 1", "4 0 1");
        visited("go b; play q;", 1000, "48 1 0 0 20 0 1 0 20 2", "0 48 1, 4 48 1");
        MuseumGuide guide = guide("play r; play s;");
        guide.come(5, 100, 1);
        guide.come(5, 100, 2);
        String[] due = {"4 0 2, 4 0 3", "1 30 2, 4 30 3", "4 0 2, 1 40 3"};
        for (int visitor = 0; visitor < 3; visitor++) {
            guide.visit(visitor, 0, 2, 0, 1000);
            Check.same("parts for some, of visitor " + visitor, Check.events(guide), due[visitor]);
        }
        MuseumGuide closed = guide("play p;");
        closed.close(0, 100, 200);
        int[] seconds = {99, 100, 199, 200};
        int[] worth = {2, 0, 0, 2};
        for (int k = 0; k < 4; k++) {
            Check.same("play in a room closed from 100 to 200, at " + seconds[k],
                closed.visit(0, 0, 0, seconds[k], 100), worth[k]);
        }
    }

    private static void rest() {
        visited("go b; rest 99; rest 900;", 5000, "1047 1 0 0 20 0 0 0 0 3", "0 48 1, 2 147 99, 2 1047 900");
        visited("go b; rest 99;", 5000, "147 1 0 0 20 0 0 0 11 2", "0 48 1, 2 147 99");
        visited("go b; rest 9;", 5000, "57 1 0 0 20 0 0 0 20 2", "0 48 1, 2 57 9");
        visited("rest 1;", 5000, "1 0 0 0 0 0 0 0 0 1", "2 1 1");
    }

    private static void endsByTime() {
        visited("rest 50; rest 50; rest 50;", 100, "100 0 0 0 0 0 0 1 0 2", "2 50 50, 2 100 50");
        visited("rest 50; rest 50; rest 50;", 101, "150 0 0 0 0 0 0 0 0 3", "2 50 50, 2 100 50, 2 150 50");
        visited("rest 50; rest 50;", 100, "100 0 0 0 0 0 0 0 0 2", "2 50 50, 2 100 50");
        visited("rest 50; if 1 < 2 { }", 50, "50 0 0 0 0 0 0 1 0 1", "2 50 50");
        visited("rest 50; repeat 0 { }", 50, "50 0 0 0 0 0 0 1 0 1", "2 50 50");
        visited("repeat 2 { rest 50; }", 100, "100 0 0 0 0 0 0 0 0 3", "2 50 50, 2 100 50");
        visited("repeat 2 { rest 50; } go b;", 100, "100 0 0 0 0 0 0 1 0 3", "2 50 50, 2 100 50");
        visited("if 1 < 2 { rest 50; go b; } go b;", 50, "50 0 0 0 0 0 0 1 0 2", "2 50 50");
    }

    private static void endsBySentences() {
        // 1 + 9 * (1 + 9 * 3 + 5) + 2 sentences.
        String exact = "repeat 9 { repeat 9 { go a; go a; go a; } " + "go a; ".repeat(5) + "} go a; go a;";
        visited(exact, 10, "0 0 0 0 0 0 0 0 0 300", "");
        visited(exact + "rest 5;", 10, "0 0 0 0 0 0 0 1 0 300", "");
        visited("repeat 9 { " + exact + "}", 10, "0 0 0 0 0 0 0 1 0 300", "");
        // In the first 300 there are 31 loops, and 269 ways, each of which wears out: 14 and 60 seconds.
        MuseumGuide guide = Check.taught("room a; room b; door a b 11;"
            + "tour t { repeat 9 { repeat 9 { repeat 5 { go b; go a; } } } }");
        guide.come(9, 10, 0);
        guide.visit(0, 0, 0, 0, 20000);
        Check.same("latest of many ways", Check.latest(guide), "19906 1 0 0 2959 269 0 1 5 300");
        Check.same("events of many ways", guide.count(7), 538);
        Check.same("the last event of many ways", guide.event(537, 1), 19906);
    }

    private static void call() {
        MuseumGuide guide = Check.taught(MUSEUM + "tour u { play p; } tour v { call u; go b; } tour t { call v; play q; call u; }");
        guide.come(5, 100, 0);
        Check.is("visit() with calls", () -> guide.visit(0, 2, 0, 0, 1000), 11);
        Check.same("events with calls", Check.events(guide), "1 60 0, 0 108 1, 1 228 1, 4 228 0");
        Check.same("sentences with calls", guide.latest(9), 7);
        Check.is("visit() of a tour that others call", () -> guide.visit(0, 0, 0, 0, 1000), 2);
        Check.is("visit() that ends early in a call", () -> guide.visit(0, 2, 0, 0, 60), 2);
        Check.same("latest of a visit that ends early in a call", Check.latest(guide), "60 0 1 2 0 0 0 1 0 3");
        MuseumGuide empty = Check.taught("room a; tour u { } tour t { repeat 9 { call u; } call u; }");
        empty.come(5, 100, 0);
        empty.visit(0, 1, 0, 0, 5);
        Check.same("calls of an empty tour", Check.latest(empty), "0 0 0 0 0 0 0 0 0 11");
    }

    private static void branches() {
        visited("if 1 < 2 { rest 5; } else { rest 7; } rest 9;", 100, "14 0 0 0 0 0 0 0 0 3", "2 5 5, 2 14 9");
        visited("if 2 < 1 { rest 5; } else { rest 7; } rest 9;", 100, "16 0 0 0 0 0 0 0 0 3", "2 7 7, 2 16 9");
        visited("if 1 < 2 { rest 5; } rest 9;", 100, "14 0 0 0 0 0 0 0 0 3", "2 5 5, 2 14 9");
        visited("if 2 < 1 { rest 5; } rest 9;", 100, "9 0 0 0 0 0 0 0 0 2", "2 9 9");
        visited("if 1 < 2 { if 2 < 1 { rest 5; } else { rest 6; } } else { rest 7; } rest 9;", 100,
            "15 0 0 0 0 0 0 0 0 4", "2 6 6, 2 15 9");
        visited("if 1 < 2 { if 2 < 1 { rest 5; } } else { rest 7; } rest 9;", 100, "9 0 0 0 0 0 0 0 0 3", "2 9 9");
    }

    private static void loops() {
        visited("repeat 0 { rest 5; } rest 9;", 100, "9 0 0 0 0 0 0 0 0 2", "2 9 9");
        visited("repeat 3 { rest 5; rest 6; }", 100, "33 0 0 0 0 0 0 0 0 7",
            "2 5 5, 2 11 6, 2 16 5, 2 22 6, 2 27 5, 2 33 6");
        visited("repeat 2 { repeat 2 { rest 5; } rest 1; } rest 2;", 100, "24 0 0 0 0 0 0 0 0 10",
            "2 5 5, 2 10 5, 2 11 1, 2 16 5, 2 21 5, 2 22 1, 2 24 2");
        visited("repeat 9 { }", 100, "0 0 0 0 0 0 0 0 0 1", "");
    }

    /** Looks whether the test holds in the second 7, with 100 seconds. */
    private static void holds(String test, boolean due) {
        MuseumGuide guide = guide("if " + test + " { play p; }");
        Check.same("if " + test, guide.visit(0, 0, 0, 7, 100) == 2, due);
        MuseumGuide other = guide("if " + test + " { } else { play p; }");
        Check.same("else of " + test, other.visit(0, 0, 0, 7, 100) == 2, !due);
    }

    private static void comparisons() {
        String[] signs = {"<", ">", "=", "<=", ">="};
        boolean[][] due = {{true, false, false, true, false}, {false, false, true, true, true},
            {false, true, false, false, true}};
        for (int k = 0; k < 5; k++) {
            holds("3 " + signs[k] + " 4", due[0][k]);
            holds("4 " + signs[k] + " 4", due[1][k]);
            holds("5 " + signs[k] + " 4", due[2][k]);
            holds("- 5 " + signs[k] + " 4", due[0][k]);
        }
    }

    private static void connectives() {
        String yes = " 1 < 2 ";
        String no = " 2 < 1 ";
        holds(yes + "and" + yes, true);
        holds(yes + "and" + no, false);
        holds(no + "and" + yes, false);
        holds(no + "or" + no, false);
        holds(yes + "or" + no, true);
        holds(no + "or" + yes, true);
        holds(yes + "or" + yes + "and" + no, true);
        holds("[" + yes + "or" + yes + "] and" + no, false);
        holds(no + "and" + no + "or" + yes, true);
        holds(no + "and [" + no + "or" + yes + "]", false);
        holds("not" + no, true);
        holds("not" + yes, false);
        holds("not not" + yes, true);
        holds("not" + no + "and" + no, false);
        holds("not [" + no + "and" + no + "]", true);
        holds("not" + yes + "or" + yes, true);
        holds("not [" + yes + "or" + yes + "]", false);
        holds(no + "or" + no + "or" + yes, true);
        holds(yes + "and" + yes + "and" + no, false);
    }

    private static void sums() {
        holds("1 + 2 * 3 = 7", true);
        holds("( 1 + 2 ) * 3 = 9", true);
        holds("10 - 4 - 3 = 3", true);
        holds("10 - ( 4 - 3 ) = 9", true);
        holds("100 / 7 / 2 = 7", true);
        holds("100 / 7 * 7 = 98", true);
        holds("7 / 2 = 3", true);
        holds("- 7 / 2 = - 3", true);
        holds("7 / - 2 = - 3", true);
        holds("- 7 / - 2 = 3", true);
        holds("7 / 0 = 0", true);
        holds("7 / ( 3 - 3 ) + 1 = 1", true);
        holds("- 2 - - 3 = 1", true);
        holds("- - 3 = 3", true);
        holds("min ( 3 , 5 ) = 3", true);
        holds("min ( 5 , 3 ) = 3", true);
        holds("max ( 3 , 5 ) = 5", true);
        holds("max ( - 3 , - 5 ) = - 3", true);
        holds("min ( max ( 1 , 2 ) + 1 , 2 * 2 ) * 2 = 6", true);
        holds("65536 * 65536 = 0", true);
        holds("65536 * 32768 < 0", true);
        holds("65536 * 32768 - 1 > 0", true);
        holds("65536 * 32768 / - 1 = 65536 * 32768", true);
        holds("- ( 65536 * 32768 ) = 65536 * 32768", true);
        holds("65536 * 32767 + 65535 + 1 < 0", true);
        holds("65536 * 32768 < 65536 * 32768 - 1", true);
    }

    private static void valuesOfTheVisit() {
        holds("time = 7", true);
        holds("left = 100", true);
        holds("tired = 0", true);
        holds("pace = 5", true);
        holds("worth = 0", true);
        MuseumGuide guide = guide("play p; go b; play q; rest 50;"
            + "if time = 285 and left = 722 and tired = 15 and pace = 5 and worth = 11 { go a; }");
        guide.visit(0, 0, 0, 7, 1000);
        Check.same("values behind some sentences", guide.latest(1), 0);
    }

    private static void heardAndOpenInTests() {
        visited("if heard p { rest 1; } play p; if heard p { rest 2; } if heard q { rest 4; }", 100,
            "62 0 1 2 0 0 0 0 0 5", "1 60 0, 2 62 2");
        MuseumGuide guide = guide("if open b { rest 1; } else { rest 2; } if open b { rest 4; }");
        guide.close(1, 10, 20);
        guide.visit(0, 0, 0, 9, 100);
        Check.same("open, then closed", Check.events(guide), "2 10 1");
        guide.visit(0, 0, 0, 18, 100);
        Check.same("closed, then open", Check.events(guide), "2 20 2, 2 24 4");
    }

    private static void latest() {
        MuseumGuide guide = guide("play p; go far; go b; go c;");
        Check.index("latest(-1) without a visit: what first", () -> guide.latest(-1));
        Check.index("latest(10) without a visit: what first", () -> guide.latest(10));
        Check.state("latest(0) without a visit", () -> guide.latest(0));
        Check.state("latest(9) without a visit", () -> guide.latest(9));
        guide.come(6, 40, 1);
        guide.visit(1, 0, 0, 1000, 130);
        // 60 of p, 40 to b, 60 to c, then worn: 60 more; 50 steps tire more than 40.
        int[] due = {1220, 2, 1, 2, 50, 1, 1, 0, 20, 4};
        for (int what = 0; what < 10; what++) {
            Check.same("latest(" + what + ")", guide.latest(what), due[what]);
        }
        Check.index("latest(-1)", () -> guide.latest(-1));
        Check.index("latest(10)", () -> guide.latest(10));
    }

    private static void event() {
        MuseumGuide guide = guide("play p; go far; go b; go c; rest 33; play p;");
        Check.index("event(0, 0) without a visit", () -> guide.event(0, 0));
        guide.come(6, 40, 1);
        guide.visit(1, 0, 0, 1000, 2000);
        int[][] due = {{1, 1060, 0}, {4, 1060, 3}, {0, 1100, 1}, {0, 1160, 2}, {3, 1220, 60}, {2, 1253, 33}, {4, 1253, 0}};
        Check.same("events", guide.count(7), due.length);
        for (int index = 0; index < due.length; index++) {
            for (int what = 0; what < 3; what++) {
                Check.same("event(" + index + ", " + what + ")", guide.event(index, what), due[index][what]);
            }
        }
        Check.index("event(-1, 0)", () -> guide.event(-1, 0));
        Check.index("event(7, 0)", () -> guide.event(7, 0));
        Check.index("event(0, -1)", () -> guide.event(0, -1));
        Check.index("event(0, 3)", () -> guide.event(0, 3));
        Check.index("event(2147483647, 2)", () -> guide.event(2147483647, 2));
    }

    private static void heard() {
        MuseumGuide guide = guide("play p; go b; play q;");
        Check.same("heard(0) without a visit", guide.heard(0), false);
        guide.visit(0, 0, 0, 0, 1000);
        boolean[] due = {true, true, false, false};
        for (int part = 0; part < 4; part++) {
            Check.same("heard(" + part + ")", guide.heard(part), due[part]);
        }
        Check.index("heard(-1)", () -> guide.heard(-1));
        Check.index("heard(4)", () -> guide.heard(4));
        guide.visit(0, 0, 1, 0, 1000);
        Check.same("heard(0) of the next visit", guide.heard(0), false);
    }

    private static void begins() {
        MuseumGuide guide = guide("play p; go b; play q;");
        Check.is("begins() with the same worth each time", () -> guide.begins(0, 0, 0, 5, 1000), 5);
        guide.close(0, 0, 700);
        Check.is("begins() when the first part is closed at first", () -> guide.begins(0, 0, 0, 0, 1000), 900);
        Check.is("begins() in the second of the opening", () -> guide.begins(0, 0, 0, 100, 1000), 700);
        guide.close(1, 900, 1100);
        // At 900 one hears p alone, from 1200 on p and q.
        Check.is("begins() with the greatest worth", () -> guide.begins(0, 0, 0, 0, 1000), 1200);
        Check.is("begins() with so little time that p is all", () -> guide.begins(0, 0, 0, 0, 60), 900);
        guide.reopen(0);
        guide.close(0, 0, 5700);
        Check.is("begins() the last time", () -> guide.begins(0, 0, 0, 0, 1000), 5700);
        guide.close(0, 5700, 5701);
        Check.is("begins() in vain", () -> guide.begins(0, 0, 0, 0, 1000), 0);
        guide.close(0, 90000, 95700);
        Check.is("begins() at the latest", () -> guide.begins(0, 0, 0, 90000, 20000), 95700);
        guide.visit(0, 0, 0, 6000, 1000);
        String latest = Check.latest(guide);
        long digest = guide.digest();
        guide.begins(0, 0, 0, 0, 50);
        Check.same("latest behind begins()", Check.latest(guide), latest);
        Check.same("digest() behind begins()", guide.digest(), digest);
    }

    private static void wrongBegins() {
        MuseumGuide guide = guide("play p;");
        Check.index("begins(-1, ..)", () -> guide.begins(-1, 0, 0, 0, 5));
        Check.index("begins(1, ..)", () -> guide.begins(1, 0, 0, 0, 5));
        Check.index("begins(0, 1, ..)", () -> guide.begins(0, 1, 0, 0, 5));
        Check.index("begins(0, -1, ..)", () -> guide.begins(0, -1, 0, 0, 5));
        Check.index("begins(0, 0, 4, -1, 0): the room first", () -> guide.begins(0, 0, 4, -1, 0));
        Check.argument("begins(.., -1, 5)", () -> guide.begins(0, 0, 0, -1, 5));
        Check.argument("begins(.., 90001, 5)", () -> guide.begins(0, 0, 0, 90001, 5));
        Check.argument("begins(.., 0)", () -> guide.begins(0, 0, 0, 0, 0));
        Check.argument("begins(.., 20001)", () -> guide.begins(0, 0, 0, 0, 20001));
        Check.is("begins(.., 1)", () -> guide.begins(0, 0, 0, 7, 1), 7);
        Check.state("latest() behind begins()", () -> guide.latest(0));
    }

    private static void needs() {
        MuseumGuide guide = guide("play p; go b; play q;");
        // In 100 seconds p is heard, and one is on the way to b; in 200 q is begun.
        int[] worths = {0, 1, 2, 3, 11, 12, 2000};
        int[] due = {100, 100, 100, 200, 200, -1, -1};
        for (int k = 0; k < worths.length; k++) {
            Check.same("needs(.., " + worths[k] + ")", guide.needs(0, 0, 0, 90000, worths[k]), due[k]);
        }
        MuseumGuide last = guide("repeat 6 { rest 900; } rest 599; play p;");
        Check.same("needs() of the longest time", last.needs(0, 0, 0, 0, 2), 6000);
        MuseumGuide late = guide("repeat 6 { rest 900; } rest 600; play p;");
        Check.same("needs() of a longer time", late.needs(0, 0, 0, 0, 2), -1);
        MuseumGuide some = guide("if left >= 300 and left < 500 { play p; }");
        Check.same("needs() where more time is no help", some.needs(0, 0, 0, 0, 2), 300);
        some.visit(0, 0, 0, 0, 300);
        long digest = some.digest();
        some.needs(0, 0, 0, 0, 2000);
        Check.same("digest() behind needs()", some.digest(), digest);
    }

    private static void wrongNeeds() {
        MuseumGuide guide = guide("play p;");
        Check.index("needs(-1, ..)", () -> guide.needs(-1, 0, 0, 0, 5));
        Check.index("needs(1, ..)", () -> guide.needs(1, 0, 0, 0, 5));
        Check.index("needs(0, 1, ..)", () -> guide.needs(0, 1, 0, 0, 5));
        Check.index("needs(0, -1, ..)", () -> guide.needs(0, -1, 0, 0, 5));
        Check.index("needs(0, 0, 4, -1, -1): the room first", () -> guide.needs(0, 0, 4, -1, -1));
        Check.argument("needs(.., -1, 5)", () -> guide.needs(0, 0, 0, -1, 5));
        Check.argument("needs(.., 90001, 5)", () -> guide.needs(0, 0, 0, 90001, 5));
        Check.argument("needs(.., -1)", () -> guide.needs(0, 0, 0, 0, -1));
        Check.argument("needs(.., 2001)", () -> guide.needs(0, 0, 0, 0, 2001));
        Check.state("latest() behind needs()", () -> guide.latest(0));
    }
}
