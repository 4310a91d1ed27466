/** The edges that "4. Composing" and promises 20 to 24 name, each one under its sentence. */
public final class ComposingEdgesTest {
    private static final int LEAST = -2147483648;
    private static final int MOST = 2147483647;

    private ComposingEdgesTest() {
    }

    public static void main(String[] args) {
        notHeardYet();
        forTheVisitor();
        needsHeard();
        wayNow();
        openThen();
        openBehindTheRest();
        overInTime();
        greatestRate();
        secondsFromNowOn();
        smallestNumber();
        asToldAbove();
        asAVisit();
        paper();
        inThePlace();
        longestPaper();
        composeReturns();
        composeWrongly();
        composeWrongNumbers();
        byteAt();
        bestOrder();
        bestOfSome();
        bestAsComposed();
        bestChangesNothing();
        bestWrongly();
        bestOfMany();
        share();
        digestOfLittle();
        digestOfAll();
        Check.finish("ComposingEdgesTest");
    }

    /** A guide with an adult, a child and an expert, of pace 6 and stamina 100. */
    private static MuseumGuide guide(String text) {
        MuseumGuide guide = Check.taught(text);
        for (int kind = 0; kind < 3; kind++) {
            guide.come(6, 100, kind);
        }
        return guide;
    }

    /** Has a tour composed for visitor 0, and looks at its worth and its parts, "p in a,q in b". */
    private static void composed(MuseumGuide guide, int room, int second, int time, String parts, int worth) {
        String what = "compose(0, " + room + ", " + second + ", " + time + ")";
        Check.same(what, guide.compose(0, room, second, time), worth);
        StringBuilder paper = new StringBuilder("tour made {\n");
        for (String part : parts.isEmpty() ? new String[0] : parts.split(",")) {
            String[] words = part.split(" in ");
            paper.append(" go ").append(words[1]).append("; play ").append(words[0]).append(";\n");
        }
        Check.same("paper of " + what, Check.paper(guide), paper.append("}\n").toString());
    }

    private static String parts(int number, String behind) {
        StringBuilder parts = new StringBuilder();
        for (int k = 0; k < number; k++) {
            parts.append("part p").append(k).append(" in a 1").append(behind).append(';');
        }
        return parts.toString();
    }

    // ---- 4. Composing

    private static void notHeardYet() {
        Check.sentence("again and again the part is taken that was not heard yet");
        composed(guide("room a;part p in a 1;"), 0, 0, 20000, "p in a", 1);
        composed(guide("room a;part p in a 1;part q in a 2;"), 0, 0, 20000, "p in a,q in a", 2);
        composed(guide("room a;"), 0, 0, 20000, "", 0);
        composed(guide("room a;" + parts(16, "")), 0, 90000, 20000, "p0 in a,p1 in a,p2 in a,p3 in a,p4 in a,p5 in a,"
            + "p6 in a,p7 in a,p8 in a,p9 in a,p10 in a,p11 in a,p12 in a,p13 in a,p14 in a,p15 in a", 16);
        // What a visit, or another call, has heard is not heard here.
        MuseumGuide guide = guide("room a;part p in a 1;tour t{play p;}");
        guide.visit(0, 0, 0, 0, 100);
        composed(guide, 0, 0, 20000, "p in a", 1);
        composed(guide, 0, 0, 20000, "p in a", 1);
        Check.same("best() behind it", guide.best(0, 0, 0, 20000), 1);
        // A part that is worth nothing is taken, too.
        composed(guide("room a;part p in a 1 worth 0;part q in a 1 worth 0;"), 0, 0, 20000, "p in a,q in a", 0);
    }

    private static void forTheVisitor() {
        Check.sentence("is for the visitor, has all that it needs heard");
        MuseumGuide guide = guide("room a;part p in a 1 for child worth 9;part q in a 1 for expert worth 8;"
            + "part r in a 1 for all worth 7;part s in a 1 needs p worth 6;part t in a 1 needs q worth 5;");
        int[] due = {7, 22, 20};
        for (int visitor = 0; visitor < 3; visitor++) {
            Check.same("compose() of kind " + visitor, guide.compose(visitor, 0, 0, 100), due[visitor]);
            Check.same("best() of kind " + visitor, guide.best(visitor, 0, 0, 100), due[visitor]);
        }
    }

    private static void needsHeard() {
        Check.sentence("has all that it needs heard");
        String text = "room a;part p in a 50;part q in a 40;part r in a 1 needs p,q worth 99;part s in a 1 needs r worth 99;";
        composed(guide(text), 0, 0, 20000, "q in a,p in a,r in a,s in a", 200);
        composed(guide(text), 0, 0, 91, "q in a,p in a,r in a", 101);
        composed(guide(text), 0, 0, 90, "q in a,p in a", 2);
        composed(guide(text), 0, 0, 50, "q in a", 1);
        // One of two needs can't be heard: there is no door.
        MuseumGuide closed = guide("room a;room b;part p in b 1;part q in a 1;part r in a 1 needs p,q worth 99;");
        composed(closed, 0, 0, 20000, "q in a", 1);
        composed(closed, 1, 0, 20000, "p in b", 1);
    }

    private static void wayNow() {
        Check.sentence("to whose room there is a way now (or one is there)");
        MuseumGuide guide = guide("room a;room b;room c;door a b 10;door b c 10;"
            + "part p in b 10 worth 9;part q in a 10;part r in c 10;");
        composed(guide, 0, 0, 20000, "p in b,q in a,r in c", 11);
        // b is closed in the second 0 alone: then one begins where one is.
        guide.close(1, 0, 1);
        composed(guide, 0, 0, 20000, "q in a,p in b,r in c", 11);
        composed(guide, 0, 1, 20000, "p in b,q in a,r in c", 11);
        composed(guide, 2, 0, 20000, "r in c,p in b,q in a", 11);
        // From b, which is closed now, one can go, and hear elsewhere.
        composed(guide, 1, 0, 20000, "q in a,p in b,r in c", 11);
        guide.close(1, 0, 100000);
        composed(guide, 0, 0, 20000, "q in a", 1);
        composed(guide, 2, 0, 20000, "r in c", 1);
        composed(guide, 1, 0, 20000, "q in a", 1);
        Check.same("best() from a", guide.best(0, 0, 0, 20000), 1);
        Check.same("best() from b", guide.best(0, 1, 0, 20000), 1);
    }

    private static void openThen() {
        Check.sentence("that is open in the second in which one could begin to hear it");
        // 10 steps take 20 seconds.
        MuseumGuide guide = guide("room a;room b;door a b 10;part p in b 10 worth 9;");
        guide.close(1, 100, 110);
        int[] seconds = {79, 80, 85, 89, 90, 99, 100, 109, 110};
        boolean[] due = {true, false, false, false, true, true, false, false, true};
        for (int k = 0; k < seconds.length; k++) {
            composed(guide, 0, seconds[k], 20000, due[k] ? "p in b" : "", due[k] ? 9 : 0);
            Check.same("best() at " + seconds[k], guide.best(0, 0, seconds[k], 20000), due[k] ? 9 : 0);
        }
        // Where one is, one could begin now.
        composed(guide, 1, 99, 20000, "p in b", 9);
        composed(guide, 1, 100, 20000, "", 0);
        composed(guide, 1, 109, 20000, "", 0);
        composed(guide, 1, 110, 20000, "p in b", 9);
        // It may be closed a second later, and the room where one was may be closed.
        guide.reopen(1);
        guide.close(1, 21, 100000);
        guide.close(0, 0, 100000);
        composed(guide, 0, 0, 20000, "p in b", 9);
    }

    private static void openBehindTheRest() {
        Check.sentence("(behind the way, and the rest that one has to take)");
        // 30 steps take 60 seconds at the pace 6, and wear out who has a stamina of less than 30.
        MuseumGuide guide = Check.taught("room a;room b;door a b 30;part p in b 10 worth 9;");
        guide.come(6, 29, 0);
        guide.come(6, 30, 0);
        int[][] closed = {{119, 120}, {120, 121}, {121, 122}, {59, 60}, {60, 61}, {61, 62}};
        int[][] due = {{9, 9}, {0, 9}, {9, 9}, {9, 9}, {9, 0}, {9, 9}};
        for (int k = 0; k < closed.length; k++) {
            guide.reopen(1);
            guide.close(1, closed[k][0], closed[k][1]);
            for (int visitor = 0; visitor < 2; visitor++) {
                String what = " of visitor " + visitor + ", closed at " + closed[k][0];
                Check.same("compose()" + what, guide.compose(visitor, 0, 0, 20000), due[k][visitor]);
                Check.same("best()" + what, guide.best(visitor, 0, 0, 20000), due[k][visitor]);
            }
        }
        // The rest takes of the time, too.
        guide.reopen(1);
        int[] times = {69, 70, 129, 130};
        int[][] worths = {{0, 0}, {0, 9}, {0, 9}, {9, 9}};
        for (int k = 0; k < times.length; k++) {
            for (int visitor = 0; visitor < 2; visitor++) {
                String what = " of visitor " + visitor + " in " + times[k];
                Check.same("compose()" + what, guide.compose(visitor, 0, 0, times[k]), worths[k][visitor]);
                Check.same("best()" + what, guide.best(visitor, 0, 0, times[k]), worths[k][visitor]);
            }
        }
    }

    private static void overInTime() {
        Check.sentence("and that would be over then not later than the time of the visit");
        MuseumGuide guide = guide("room a;room b;door a b 10;part p in b 10 worth 9;part q in a 1;");
        for (int second : new int[] {0, 7, 90000}) {
            // From a q has the greater rate: it is over at 1, and p then at 31.
            composed(guide, 0, second, 1, "q in a", 1);
            composed(guide, 0, second, 30, "q in a", 1);
            composed(guide, 0, second, 31, "q in a,p in b", 10);
            // From b p is over at 10, and q then at 31.
            composed(guide, 1, second, 9, "", 0);
            composed(guide, 1, second, 10, "p in b", 9);
            composed(guide, 1, second, 30, "p in b", 9);
            composed(guide, 1, second, 31, "p in b,q in a", 10);
            int[] times = {1, 29, 30, 31};
            int[] due = {1, 1, 9, 10};
            for (int k = 0; k < 4; k++) {
                Check.same("best() in " + times[k], guide.best(0, 0, second, times[k]), due[k]);
            }
        }
        MuseumGuide longest = guide("room a;part p in a 900;");
        composed(longest, 0, 0, 899, "", 0);
        composed(longest, 0, 0, 900, "p in a", 1);
        Check.same("best() with a second less", longest.best(0, 0, 0, 899), 0);
        Check.same("best() with just the time", longest.best(0, 0, 0, 900), 1);
    }

    private static void greatestRate() {
        Check.sentence("of these the one with the greatest worth * 1000 / (the seconds till it is over, from now on)");
        composed(guide("room a;part p in a 100;part q in a 100 worth 2;part r in a 50 worth 2;"), 0, 0, 20000,
            "r in a,q in a,p in a", 5);
        // It is cut: 1000/250 is 4, 1000/251 and 1000/333 are 3, 1000/334 is 2.
        composed(guide("room a;part o in a 334;part p in a 333;part q in a 251;part r in a 250;"), 0, 0, 20000,
            "r in a,p in a,q in a,o in a", 4);
        // 2400 seconds of way: 1000/2410 is cut to 0, as great as that of a part that is worth nothing.
        MuseumGuide slow = Check.taught("room a;room b;door a b 200;part p in a 1 worth 0;part q in b 10;");
        slow.come(1, 500, 0);
        composed(slow, 0, 0, 20000, "p in a,q in b", 1);
        MuseumGuide other = Check.taught("room a;room b;door a b 200;part q in b 10;part p in a 1 worth 0;");
        other.come(1, 500, 0);
        composed(other, 0, 0, 20000, "q in b,p in a", 1);
        // 3000/1001 is cut to 2, as great as 1000/500: 801 seconds behind a way of 100 steps.
        MuseumGuide thousand = guide("room a;room b;door a b 100;part p in a 500;part q in b 801 worth 3;");
        composed(thousand, 0, 0, 20000, "p in a,q in b", 4);
        // 3000/1000 is 3.
        MuseumGuide less = guide("room a;room b;door a b 100;part p in a 500;part q in b 800 worth 3;");
        composed(less, 0, 0, 20000, "q in b,p in a", 4);
        // 3000/2410 is 1.
        MuseumGuide worth = Check.taught("room a;room b;door a b 200;part p in a 1 worth 0;part q in b 10 worth 3;");
        worth.come(1, 500, 0);
        composed(worth, 0, 0, 20000, "q in b,p in a", 3);
    }

    private static void secondsFromNowOn() {
        Check.sentence("(the seconds till it is over, from now on)");
        // Behind o, 100 long: q 2000/10 and r 5000/30; from the beginning they were 2000/110 and 5000/130.
        for (int second : new int[] {0, 90000}) {
            composed(guide("room a;part o in a 100 worth 99;part r in a 30 worth 5;part q in a 10 worth 2;"), 0, second, 20000,
                "o in a,q in a,r in a", 106);
        }
        // The rest that one has to take belongs to them: 13000/130 is as much as 1000/10, 12000/130 less.
        String[] texts = {"worth 13", "worth 12"};
        String[] due = {"p in b,q in a", "q in a,p in b"};
        for (int k = 0; k < 2; k++) {
            MuseumGuide guide = Check.taught("room a;room b;door a b 30;part p in b 10 " + texts[k] + ";part q in a 10;");
            guide.come(6, 29, 0);
            composed(guide, 0, 0, 20000, due[k], 14 - k);
        }
        // And the way: 3000/30 is as much as 1000/10, 2000/30 less.
        composed(guide("room a;room b;door a b 10;part p in b 10 worth 3;part q in a 10;"), 0, 0, 20000, "p in b,q in a", 4);
        composed(guide("room a;room b;door a b 10;part p in b 10 worth 2;part q in a 10;"), 0, 0, 20000, "q in a,p in b", 3);
    }

    private static void smallestNumber() {
        Check.sentence("of several the one with the smallest number");
        composed(guide("room a;part z in a 7;part y in a 7;part x in a 7;"), 0, 0, 20000, "z in a,y in a,x in a", 3);
        composed(guide("room a;room b;door a b 10;part p in b 10 worth 3;part q in a 10;"), 0, 0, 20000, "p in b,q in a", 4);
        composed(guide("room a;room b;door a b 10;part q in a 10;part p in b 10 worth 3;"), 0, 0, 20000, "q in a,p in b", 4);
        composed(guide("room a;part p in a 9 worth 0;part q in a 1 worth 0;"), 0, 0, 20000, "p in a,q in a", 0);
    }

    private static void asToldAbove() {
        Check.sentence("One goes there, and hears it, as told above.");
        // 120 seconds there; back one is tired by 120, and has to rest: 50; there again 110, once more.
        MuseumGuide guide = guide("room a;room b;door a b 60;part p in b 10 worth 50;part q in a 10 needs p worth 2;"
            + "part r in b 10 needs q;");
        composed(guide, 0, 0, 129, "", 0);
        composed(guide, 0, 0, 130, "p in b", 50);
        composed(guide, 0, 0, 319, "p in b", 50);
        composed(guide, 0, 0, 320, "p in b,q in a", 52);
        composed(guide, 0, 0, 509, "p in b,q in a", 52);
        composed(guide, 0, 0, 510, "p in b,q in a,r in b", 53);
        int[] times = {129, 130, 319, 320, 509, 510};
        int[] due = {0, 50, 50, 52, 52, 53};
        for (int k = 0; k < times.length; k++) {
            Check.same("best() in " + times[k], guide.best(0, 0, 0, times[k]), due[k]);
        }
    }

    private static void asAVisit() {
        Check.sentence("A tour is composed from where a visit begins");
        String text = "room a;room b;room c;room d;door a b 13;door b c 29;door c d 7;door a d 40;part p in b 70 worth 5;"
            + "part q in c 35 worth 8;part r in d 90 needs p worth 20;part s in a 15;part u in c 50 needs q worth 4;"
            + "part v in d 20 worth 2;";
        for (int start = 0; start < 4; start++) {
            for (int time = 20; time < 800; time += 60) {
                MuseumGuide guide = Check.taught(text);
                guide.come(7, 45, 0);
                closeSome(guide);
                int worth = guide.compose(0, start, 300, time);
                Check.same("best() is as much or more", guide.best(0, start, 300, time) >= worth, true);
                // The paper is a text, whose tour is visited as it was composed.
                Check.same("teach() of the paper", Check.teach(guide, text + Check.paper(guide)), 0);
                closeSome(guide);
                Check.same("visit() of the paper", guide.visit(0, 0, start, 300, time), worth);
                Check.same("what it missed", guide.latest(6), 0);
                Check.same("whether it ended early", guide.latest(7), 0);
                Check.same("whether it was over in time", guide.latest(0) <= 300 + time, true);
            }
        }
    }

    private static void closeSome(MuseumGuide guide) {
        guide.close(1, 330, 400);
        guide.close(2, 300, 340);
        guide.close(2, 600, 700);
        guide.close(3, 420, 450);
    }

    // ---- promises 20 to 24

    private static void paper() {
        Check.sentence("tour made { and a line end (10); for each part that is taken a blank, go, a blank, the name of its "
            + "room, a semicolon, a blank, play, a blank, the name of the part, a semicolon, and a line end; "
            + "then } and a line end");
        MuseumGuide guide = guide("room r0;part q1 in r0 1;");
        guide.compose(0, 0, 0, 1);
        int[] due = {'t', 'o', 'u', 'r', 32, 'm', 'a', 'd', 'e', 32, '{', 10, 32, 'g', 'o', 32, 'r', '0', ';', 32, 'p', 'l', 'a', 'y',
            32, 'q', '1', ';', 10, '}', 10};
        Check.same("bytes of the paper", guide.count(6), due.length);
        for (int index = 0; index < due.length; index++) {
            Check.same("byteAt(" + index + ")", guide.byteAt(index), due[index]);
        }
        MuseumGuide none = guide("room r0;");
        none.compose(0, 0, 0, 1);
        Check.same("paper of no part", Check.paper(none), "tour made {\n}\n");
        Check.same("its bytes", none.count(6), 14);
    }

    private static void inThePlace() {
        Check.sentence("and writes it on the paper, in the place of what was there");
        MuseumGuide guide = guide("room a;part p in a 5;part q in a 6;part r in a 7;");
        int[] times = {18, 4, 11, 5, 20000, 1};
        String[] due = {"p in a,q in a,r in a", "", "p in a,q in a", "p in a", "p in a,q in a,r in a", ""};
        int[] worth = {3, 0, 2, 1, 3, 0};
        for (int k = 0; k < times.length; k++) {
            composed(guide, 0, 0, times[k], due[k], worth[k]);
        }
        Check.argument("compose() that is refused", () -> guide.compose(0, 0, 0, 0));
        Check.same("bytes of the paper behind it", guide.count(6), 14);
        Check.teach(guide, "");
        Check.same("bytes of the paper behind a teach()", guide.count(6), 14);
    }

    private static void longestPaper() {
        Check.sentence("for each part that is taken");
        StringBuilder text = new StringBuilder("room abcdefghij;");
        StringBuilder due = new StringBuilder("tour made {\n");
        for (int k = 10; k < 26; k++) {
            text.append("part partpart").append(k).append(" in abcdefghij 900 worth 99;");
            due.append(" go abcdefghij; play partpart").append(k).append(";\n");
        }
        MuseumGuide guide = guide(text.toString());
        Check.same("compose() of all", guide.compose(2, 0, 90000, 14400), 1584);
        Check.same("the longest paper", Check.paper(guide), due.append("}\n").toString());
        Check.same("its bytes", guide.count(6), 542);
        Check.is("its last byte", () -> guide.byteAt(541), 10);
        Check.index("a byte behind it", () -> guide.byteAt(542));
        Check.same("compose() with a second less", guide.compose(2, 0, 90000, 14399), 1485);
        Check.same("its bytes", guide.count(6), 509);
        Check.index("a byte behind it", () -> guide.byteAt(509));
    }

    private static void composeReturns() {
        Check.sentence("Returns the worth of all parts that are taken, added (the latest visit stays).");
        MuseumGuide guide = guide("room a;part p in a 5 worth 3;part q in a 6 worth 99;tour t{play p;}");
        guide.compose(0, 0, 0, 100);
        Check.state("latest(0) behind compose()", () -> guide.latest(0));
        Check.same("heard(0) behind compose()", guide.heard(0), false);
        Check.same("share() behind compose()", guide.share(), 0.0);
        guide.visit(1, 0, 0, 50, 100);
        String latest = Check.latest(guide);
        String events = Check.events(guide);
        Check.same("compose() of both", guide.compose(0, 0, 0, 11), 102);
        Check.same("compose() of one", guide.compose(0, 0, 0, 10), 99);
        Check.same("compose() of none", guide.compose(0, 0, 0, 4), 0);
        Check.same("latest behind compose()", Check.latest(guide), latest);
        Check.same("events behind compose()", Check.events(guide), events);
        Check.same("heard(0) behind compose()", guide.heard(0), true);
        Check.same("heard(1) behind compose()", guide.heard(1), false);
    }

    private static void composeWrongly() {
        Check.sentence("if there is no such visitor or room");
        MuseumGuide guide = guide("room a;room b;part p in a 1;");
        guide.compose(0, 0, 0, 5);
        String paper = Check.paper(guide);
        for (int wrong : new int[] {LEAST, -1, 3, 8, 12, MOST}) {
            Check.index("compose(" + wrong + ", 0, 0, 5)", () -> guide.compose(wrong, 0, 0, 5));
            Check.index("compose(" + wrong + ", 0, -1, 0): the visitor first", () -> guide.compose(wrong, 0, -1, 0));
            Check.index("best(" + wrong + ", 0, 0, 5)", () -> guide.best(wrong, 0, 0, 5));
            Check.index("best(" + wrong + ", 0, -1, 0): the visitor first", () -> guide.best(wrong, 0, -1, 0));
        }
        for (int wrong : new int[] {LEAST, -1, 2, 11, 12, MOST}) {
            Check.index("compose(0, " + wrong + ", 0, 5)", () -> guide.compose(0, wrong, 0, 5));
            Check.index("compose(0, " + wrong + ", 90001, 0): the room first", () -> guide.compose(0, wrong, 90001, 0));
            Check.index("best(0, " + wrong + ", 0, 5)", () -> guide.best(0, wrong, 0, 5));
            Check.index("best(0, " + wrong + ", 90001, 0): the room first", () -> guide.best(0, wrong, 90001, 0));
        }
        Check.same("paper behind them", Check.paper(guide), paper);
        Check.is("compose(2, 1, 0, 5)", () -> guide.compose(2, 1, 0, 5), 0);
        MuseumGuide none = Check.taught("room a;");
        Check.index("compose() without visitors", () -> none.compose(0, 0, 0, 5));
        Check.index("best() without visitors", () -> none.best(0, 0, 0, 5));
        MuseumGuide noRoom = guide("");
        Check.index("compose() without rooms", () -> noRoom.compose(0, 0, 0, 5));
        Check.index("best() without rooms", () -> noRoom.best(0, 0, 0, 5));
    }

    private static void composeWrongNumbers() {
        Check.sentence("if second is not 0 to 90000, or time is not 1 to 20000");
        MuseumGuide guide = guide("room a;part p in a 1;");
        for (int second : new int[] {LEAST, -1, 90001, MOST}) {
            Check.argument("compose(.., " + second + ", 5)", () -> guide.compose(0, 0, second, 5));
            Check.argument("best(.., " + second + ", 5)", () -> guide.best(0, 0, second, 5));
        }
        for (int time : new int[] {LEAST, -1, 0, 20001, MOST}) {
            Check.argument("compose(.., 0, " + time + ")", () -> guide.compose(0, 0, 0, time));
            Check.argument("best(.., 0, " + time + ")", () -> guide.best(0, 0, 0, time));
        }
        Check.same("bytes of the paper behind them", guide.count(6), 0);
        for (int second : new int[] {0, 90000}) {
            for (int time : new int[] {1, 20000}) {
                Check.is("compose(.., " + second + ", " + time + ")", () -> guide.compose(0, 0, second, time), 1);
                Check.is("best(.., " + second + ", " + time + ")", () -> guide.best(0, 0, second, time), 1);
            }
        }
    }

    private static void byteAt() {
        Check.sentence("if there is no such place");
        MuseumGuide guide = guide("room a;part p in a 5;");
        for (int index : new int[] {LEAST, -1, 0, 1, MOST}) {
            Check.index("byteAt(" + index + ") of no paper", () -> guide.byteAt(index));
        }
        guide.compose(0, 0, 0, 5);
        for (int index : new int[] {LEAST, -1, 29, 30, 541, 542, MOST}) {
            Check.index("byteAt(" + index + ")", () -> guide.byteAt(index));
        }
        Check.is("byteAt(0)", () -> guide.byteAt(0), (int) 't');
        Check.is("byteAt(28)", () -> guide.byteAt(28), 10);
        guide.compose(0, 0, 0, 4);
        Check.is("byteAt(13) of a shorter paper", () -> guide.byteAt(13), 10);
        Check.is("byteAt(12) of a shorter paper", () -> guide.byteAt(12), (int) '}');
        Check.index("byteAt(14) of a shorter paper", () -> guide.byteAt(14));
        Check.teach(guide, "");
        Check.is("byteAt(13) behind a teach()", () -> guide.byteAt(13), 10);
        Check.index("byteAt(14) behind a teach()", () -> guide.byteAt(14));
    }

    private static void bestOrder() {
        Check.sentence("if the parts were taken in the best order");
        // Composing takes q first, and finds b closed behind it.
        int[] closed = {20, 21, 30};
        int[] due = {99, 100, 100};
        for (int k = 0; k < 3; k++) {
            MuseumGuide guide = guide("room a;room b;door a b 10;part p in b 10;part q in a 30 worth 99;");
            guide.close(1, closed[k], 100000);
            composed(guide, 0, 0, 20000, "q in a", 99);
            Check.same("best() when b is closed from " + closed[k] + " on", guide.best(0, 0, 0, 80), due[k]);
            Check.same("best() of it with a second less", guide.best(0, 0, 0, 79), 99);
        }
        // Six parts in six rooms, each of them open just when one goes there and begins, the last one first.
        StringBuilder text = new StringBuilder();
        for (int room = 0; room < 6; room++) {
            text.append("room r").append(room).append(';');
        }
        int[] worths = {99, 80, 60, 40, 20, 1};
        for (int room = 0; room < 6; room++) {
            text.append("part p").append(room).append(" in r").append(room).append(" 10 worth ").append(worths[room]).append(';');
        }
        for (int room = 0; room < 5; room++) {
            text.append("door r").append(room).append(" r").append(room + 1).append(" 1;");
        }
        MuseumGuide six = Check.taught(text.toString());
        six.come(9, 500, 0);
        for (int room = 0; room < 6; room++) {
            int begin = 11 * (5 - room);
            six.close(room, begin + 1, 100000);
            if (begin > 0) {
                six.close(room, 0, begin - 1);
            }
        }
        Check.is("best() of six in one order", () -> six.best(0, 5, 0, 65), 300);
        Check.is("best() of six with a second less", () -> six.best(0, 5, 0, 64), 201);
        Check.is("best() a second later", () -> six.best(0, 5, 1, 20000), 0);
        Check.is("best() when the first one is over", () -> six.best(0, 5, 10, 20000), 299);
    }

    private static void bestOfSome() {
        Check.sentence("Tells the greatest worth that could be composed");
        // Time for p, or for q and r.
        MuseumGuide guide = guide("room a;part p in a 60 worth 5;part q in a 30 worth 3;part r in a 30 worth 3;");
        int[] times = {1, 29, 30, 59, 60, 89, 90, 119, 120};
        int[] due = {0, 0, 3, 3, 6, 6, 8, 8, 11};
        for (int k = 0; k < times.length; k++) {
            int time = times[k];
            Check.is("best() in " + time, () -> guide.best(0, 0, 0, time), due[k]);
            Check.is("best() in " + time + " at 90000", () -> guide.best(0, 0, 90000, time), due[k]);
        }
        Check.is("best() of no parts", () -> guide("room a;").best(0, 0, 0, 20000), 0);
        Check.is("best() of parts that are worth nothing", () -> guide("room a;" + parts(6, " worth 0")).best(0, 0, 0, 20000), 0);
        // A part that is worth nothing may be needed.
        Check.is("best() of a need", () -> guide("room a;part p in a 9 worth 0;part q in a 1 needs p worth 7;").best(0, 0, 0, 10), 7);
        Check.is("best() of a need, with a second less",
            () -> guide("room a;part p in a 9 worth 0;part q in a 1 needs p worth 7;").best(0, 0, 0, 9), 0);
    }

    private static void bestAsComposed() {
        Check.sentence("(each one as it could be taken by composing)");
        // One does not wait: b opens in the second 100, q is over in the second 99, 100 or 101.
        int[] lengths = {99, 100, 101};
        int[] due = {1, 10, 10};
        for (int k = 0; k < 3; k++) {
            MuseumGuide guide = guide("room a;room b;door a b 10;part p in b 10 worth 9;part q in a " + lengths[k] + ";");
            guide.close(1, 0, 100);
            Check.same("best() with a part of " + lengths[k], guide.best(0, 0, 0, 20000), due[k]);
            Check.same("best() with just the time", guide.best(0, 0, 0, lengths[k] + 30), due[k]);
            Check.same("best() with a second less", guide.best(0, 0, 0, lengths[k] + 29), 1);
        }
        // Nor does one go where one hears nothing: there and back b would be open.
        MuseumGuide still = guide("room a;room b;door a b 10;part p in b 10 worth 9;");
        still.close(1, 0, 15);
        Check.is("best() of one who could walk till it is open", () -> still.best(0, 1, 0, 20000), 0);
        Check.is("compose() of the same", () -> still.compose(0, 1, 0, 20000), 0);
        Check.is("best() when it is open", () -> still.best(0, 1, 15, 20000), 9);
        // Ways tire: from b p is over at 10, q at 80, and r, behind a rest that one has to take, at 210.
        MuseumGuide tired = Check.taught("room a;room b;door a b 30;part p in b 10;part q in a 10;part r in b 10 needs q;");
        tired.come(6, 59, 0);
        tired.come(6, 60, 0);
        Check.is("best() of one who is worn", () -> tired.best(0, 1, 0, 210), 3);
        Check.is("best() of one who is worn, with a second less", () -> tired.best(0, 1, 0, 209), 2);
        Check.is("best() of one who is not", () -> tired.best(1, 1, 0, 150), 3);
        Check.is("best() of one who is not, with a second less", () -> tired.best(1, 1, 0, 149), 2);
        Check.is("best() from a", () -> tired.best(0, 0, 0, 90), 3);
        Check.is("best() from a, with a second less", () -> tired.best(0, 0, 0, 89), 2);
    }

    private static void bestChangesNothing() {
        Check.sentence("Returns this worth (nothing is changed).");
        MuseumGuide guide = guide("room a;part p in a 5 worth 3;part q in a 6 worth 99;tour t{play p;}");
        guide.best(0, 0, 0, 100);
        Check.state("latest(0) behind best()", () -> guide.latest(0));
        Check.same("bytes of the paper behind best()", guide.count(6), 0);
        guide.visit(1, 0, 0, 50, 100);
        guide.compose(0, 0, 0, 5);
        Check.feed(guide, "xyz");
        long digest = guide.digest();
        String paper = Check.paper(guide);
        String events = Check.events(guide);
        guide.best(0, 0, 0, 100);
        guide.best(2, 0, 90000, 20000);
        Check.same("digest() behind best()", guide.digest(), digest);
        Check.same("paper behind best()", Check.paper(guide), paper);
        Check.same("events behind best()", Check.events(guide), events);
        Check.same("heard(1) behind best()", guide.heard(1), false);
        Check.same("errorAt() behind best()", guide.errorAt(), -1);
    }

    private static void bestWrongly() {
        Check.sentence("if there are more than 6 parts");
        MuseumGuide six = guide("room a;" + parts(6, " worth 99"));
        Check.is("best() of 6 parts", () -> six.best(0, 0, 0, 6), 594);
        Check.is("best() of 6 parts with a second less", () -> six.best(0, 0, 0, 5), 495);
        for (int number : new int[] {7, 8, 16}) {
            MuseumGuide more = guide("room a;" + parts(number, ""));
            Check.state("best() of " + number + " parts", () -> more.best(0, 0, 0, 6));
            Check.argument("best() of " + number + " parts: the time first", () -> more.best(0, 0, 0, 0));
            Check.argument("best() of " + number + " parts: the second first", () -> more.best(0, 0, 90001, 6));
            Check.index("best() of " + number + " parts: the room first", () -> more.best(0, 1, 0, 6));
            Check.index("best() of " + number + " parts: the visitor first", () -> more.best(3, 0, 0, 6));
            Check.is("compose() of " + number + " parts", () -> more.compose(0, 0, 0, 20000), number);
        }
        // It is no matter whom they are for.
        MuseumGuide others = guide("room a;" + parts(7, " for child"));
        Check.state("best() of 7 parts for others", () -> others.best(0, 0, 0, 6));
        Check.teach(others, "room a;" + parts(6, " for child"));
        Check.is("best() of 6 parts for others", () -> others.best(0, 0, 0, 6), 0);
        Check.is("best() of 6 parts for one", () -> others.best(1, 0, 0, 6), 6);
    }

    private static void bestOfMany() {
        Check.sentence("An object is used for at most 512 calls after it has been made");
        MuseumGuide guide = guide("room a;room b;room c;door a b 3;door b c 4;part p0 in a 3 worth 9;part p1 in b 5 worth 8;"
            + "part p2 in c 7 worth 7;part p3 in a 9 worth 6;part p4 in b 2 worth 5;part p5 in c 1 worth 4;");
        for (int k = 0; k < 480; k++) {
            Check.same("best() the " + k + "th time", guide.best(0, k % 3, 90000, 20000), 39);
        }
    }

    private static void share() {
        Check.sentence("Returns the parts that were heard in the latest visit, divided by all parts; "
            + "0 if there are none, or there was no visit.");
        Check.same("share() of a new object", new MuseumGuide().share(), 0.0);
        for (int number = 1; number <= 16; number++) {
            StringBuilder plays = new StringBuilder("repeat 9{");
            for (int k = 0; k < number; k++) {
                plays.append("play p").append(k).append(';');
            }
            MuseumGuide guide = guide("room a;room b;" + parts(number, "") + "tour t{" + plays + "}}");
            Check.same("share() without a visit", guide.share(), 0.0);
            for (int time = 1; time <= number; time++) {
                guide.visit(0, 0, 0, 0, time);
                Check.same("share() of " + time + " of " + number, guide.share(), (double) time / number);
            }
            guide.visit(0, 0, 1, 0, 5);
            Check.same("share() of 0 of " + number, guide.share(), 0.0);
            guide.visit(0, 0, 0, 0, 100);
            Check.same("share() of all", guide.share(), 1.0);
            Check.teach(guide, "?");
            Check.same("share() behind an error", guide.share(), 1.0);
            Check.teach(guide, "room a;part p in a 1;");
            Check.same("share() behind a teach()", guide.share(), 0.0);
        }
        MuseumGuide none = guide("room a;tour t{}");
        Check.same("share() of no parts", none.share(), 0.0);
        none.visit(0, 0, 0, 0, 5);
        Check.same("share() of no parts, with a visit", none.share(), 0.0);
    }

    private static long next(long d, int... numbers) {
        for (int number : numbers) {
            d = d * 31 + number;
        }
        return d;
    }

    private static void digestOfLittle() {
        Check.sentence("A number d starts with 691; for each of the following numbers x, d becomes d * 31 + x, "
            + "which wraps around as a 64-bit integer");
        MuseumGuide guide = new MuseumGuide();
        Check.same("digest() of a new object", guide.digest(), next(691, 0, 0, 0, 0, 0, 0, 0, 0));
        guide.feed(0, 0, 0, 0, 0);
        Check.same("digest() with a tape", guide.digest(), next(691, 0, 0, 0, 0, 0, 20, 0, 0));
        guide.come(9, 500, 2);
        long d = next(691, 0, 0, 0, 0, 1, 20, 0, 0, 9, 500, 2);
        Check.same("digest() with a visitor", guide.digest(), d);
        for (int k = 0; k < 7; k++) {
            guide.come(1, 10, 0);
        }
        d = next(691, 0, 0, 0, 0, 8, 20, 0, 0, 9, 500, 2);
        for (int k = 0; k < 7; k++) {
            d = next(d, 1, 10, 0);
        }
        // 691 * 31^32 is far more than 64 bits hold.
        Check.same("digest() with eight visitors", guide.digest(), d);
        Check.same("digest() again", guide.digest(), d);
        Check.sentence("if there was a visit, what latest() tells, and for each of its events what event() tells");
        Check.teach(guide, "room a;tour t{}");
        Check.same("digest() without a visit", guide.digest(), withEight(next(691, 1, 0, 0, 1, 8, 0, 0, 0, 0, 0)));
        guide.visit(0, 0, 0, 90000, 1);
        long visited = next(withEight(next(691, 1, 0, 0, 1, 8, 0, 0, 0, 0, 0)), 90000, 0, 0, 0, 0, 0, 0, 0, 0, 0);
        Check.same("digest() of a visit without events", guide.digest(), visited);
        Check.teach(guide, "?");
        Check.same("digest() behind an error", guide.digest(), visited);
        Check.teach(guide, "room a;tour t{}");
        Check.same("digest() behind a teach()", guide.digest(), withEight(next(691, 1, 0, 0, 1, 8, 0, 0, 0, 0, 0)));
    }

    private static long withEight(long start) {
        long d = next(start, 9, 500, 2);
        for (int k = 0; k < 7; k++) {
            d = next(d, 1, 10, 0);
        }
        return d;
    }

    /** A guide that is as full as can be, the same each time. */
    private static MuseumGuide full() {
        StringBuilder text = new StringBuilder();
        for (int room = 0; room < 12; room++) {
            text.append("room r").append(room).append(';');
        }
        for (int room = 0; room < 10; room++) {
            text.append("door r").append(room).append(" r").append(room + 1).append(' ').append(room + 1).append(';');
        }
        for (int part = 0; part < 16; part++) {
            text.append("part p").append(part).append(" in r").append(part % 11).append(" 1 ")
                .append(part == 0 ? "" : "needs p" + (part - 1)).append(part % 2 == 0 ? " for expert" : "").append(';');
        }
        MuseumGuide guide = Check.taught(text + "tour t{play p0;go r1;play p1;go r11;rest 9;}");
        for (int visitor = 0; visitor < 8; visitor++) {
            guide.come(9 - visitor, 10 + visitor, 2 - visitor % 3);
        }
        for (int room = 0; room < 12; room++) {
            for (int times = 0; times < room % 5; times++) {
                guide.close(room, times + 1, times + 2);
            }
        }
        guide.close(6, 0, 1);
        guide.visit(0, 0, 0, 50, 900);
        guide.compose(0, 0, 90000, 20);
        Check.feed(guide, "left over");
        return guide;
    }

    private static void digestOfAll() {
        Check.sentence("what count() tells; for each room how often it is closed, and the shortest way to each room in the "
            + "second 0 (as way() tells it); for each part what part() tells; for each visitor what visitor() tells; "
            + "if there was a visit, what latest() tells, and for each of its events what event() tells; "
            + "the bytes of the paper (all in their order)");
        // Several guides are asked, so that none of them is asked more often than an object may be.
        MuseumGuide rooms = full();
        MuseumGuide closed = full();
        MuseumGuide things = full();
        MuseumGuide paper = full();
        long d = 691;
        for (int what = 0; what < 8; what++) {
            d = next(d, things.count(what));
        }
        for (int room = 0; room < 12; room++) {
            d = next(d, closed.reopen(room));
            for (int to = 0; to < 12; to++) {
                d = next(d, rooms.way(room, to, 0));
            }
        }
        for (int part = 0; part < 16; part++) {
            for (int what = 0; what < 5; what++) {
                d = next(d, things.part(part, what));
            }
        }
        for (int visitor = 0; visitor < 8; visitor++) {
            d = next(d, things.visitor(visitor, 0), things.visitor(visitor, 1), things.visitor(visitor, 2));
        }
        for (int what = 0; what < 10; what++) {
            d = next(d, things.latest(what));
        }
        Check.same("there are events", things.count(7) > 3, true);
        for (int index = 0; index < things.count(7); index++) {
            d = next(d, things.event(index, 0), things.event(index, 1), things.event(index, 2));
        }
        Check.same("there are lines on the paper", paper.count(6) > 14, true);
        for (int index = 0; index < paper.count(6); index++) {
            d = next(d, paper.byteAt(index));
        }
        Check.same("digest() of all", full().digest(), d);
        Check.same("way through the closed room", rooms.way(0, 7, 0), -1);
        Check.same("closings of the fullest room", full().reopen(9), 4);
    }
}
