/** The edges that "3. Visits" and promises 14 to 19 name, each one under its sentence. */
public final class VisitsEdgesTest {
    private static final int LEAST = -2147483648;
    private static final int MOST = 2147483647;
    // c can't be reached; s needs p and q.
    private static final String MUSEUM = "room a;room b;room c;door a b 20;part p in a 60 worth 2;part q in a 30 worth 4;"
        + "part r in b 10 worth 8;part s in a 1 needs p,q worth 16;part t in c 5 worth 32;";

    private VisitsEdgesTest() {
    }

    public static void main(String[] args) {
        beginsFresh();
        timeIsOver();
        sentencesCounted();
        threeHundred();
        threeHundredWithCalls();
        goWhereOneIs();
        goWithoutAWay();
        goByTheShortestWay();
        secondsOfAWay();
        hasToRest();
        mostTired();
        playElsewhere();
        playInAClosedRoom();
        playHeard();
        playForOthers();
        playWithNeeds();
        playsLength();
        restsTenth();
        calls();
        branches();
        repeats();
        comparisons();
        timeAndLeft();
        tiredPaceAndWorth();
        heardAndOpen();
        connectives();
        deepest();
        eventsInOrder();
        eventSeconds();
        visit();
        visitWrongly();
        visitWrongNumbers();
        latestIsTheLatest();
        latest();
        latestAnew();
        endedInLoops();
        latestWithoutVisit();
        event();
        eventWrongly();
        heard();
        heardWrongly();
        beginsTwenty();
        beginsEarliest();
        beginsStays();
        beginsWrongly();
        needsMultiples();
        needsAtLeast();
        needsStays();
        needsWrongly();
        Check.finish("VisitsEdgesTest");
    }

    /** The museum with the tour, and an adult, a child and an expert of pace 5 and stamina 100. */
    private static MuseumGuide guide(String tour) {
        return people(Check.taught(MUSEUM + "tour t{" + tour + "}"));
    }

    private static MuseumGuide people(MuseumGuide guide) {
        for (int kind = 0; kind < 3; kind++) {
            guide.come(5, 100, kind);
        }
        return guide;
    }

    /** A visit of the adult in room a at the second 0. */
    private static void visited(String tour, int time, String latest, String events) {
        MuseumGuide guide = guide(tour);
        guide.visit(0, 0, 0, 0, time);
        Check.same("latest of " + tour + " in " + time, Check.latest(guide), latest);
        Check.same("events of " + tour + " in " + time, Check.events(guide), events);
    }

    // ---- 3. Visits

    private static void beginsFresh() {
        Check.sentence("One is not tired at all (0), and has heard nothing.");
        MuseumGuide guide = guide("if tired=0 and worth=0 and not heard p{play p;go b;}");
        for (int second : new int[] {0, 0, 90000, 5}) {
            for (int visitor = 0; visitor < 3; visitor++) {
                Check.same("visit() of " + visitor + " at " + second, guide.visit(visitor, 0, 0, second, 1000), 2);
                Check.same("tired", guide.latest(8), 20);
                Check.same("steps", guide.latest(4), 20);
                Check.same("heard", guide.latest(2), 1);
                Check.same("sentences", guide.latest(9), 3);
                Check.same("events", guide.count(7), 2);
            }
        }
        Check.same("visit() elsewhere", guide.visit(0, 0, 1, 0, 1000), 0);
        Check.same("latest elsewhere", Check.latest(guide), "0 1 0 0 0 0 1 0 0 3");
    }

    private static void timeIsOver() {
        Check.sentence("if the time of the visit is over (the second now is not earlier than that of the beginning and its "
            + "time, added), or 300 have been carried out, the visit ends early");
        visited("rest 50;rest 50;rest 5;", 99, "100 0 0 0 0 0 0 1 0 2", "2 50 50, 2 100 50");
        visited("rest 50;rest 50;rest 5;", 100, "100 0 0 0 0 0 0 1 0 2", "2 50 50, 2 100 50");
        visited("rest 50;rest 50;rest 5;", 101, "105 0 0 0 0 0 0 0 0 3", "2 50 50, 2 100 50, 2 105 5");
        visited("rest 1;rest 1;", 1, "1 0 0 0 0 0 0 1 0 1", "2 1 1");
        // Where no sentence is left, it does not end early.
        visited("rest 50;rest 50;", 100, "100 0 0 0 0 0 0 0 0 2", "2 50 50, 2 100 50");
        visited("rest 50;rest 900;", 51, "950 0 0 0 0 0 0 0 0 2", "2 50 50, 2 950 900");
        visited("", 1, "0 0 0 0 0 0 0 0 0 0", "");
        visited("if 1<2{rest 9;}", 9, "9 0 0 0 0 0 0 0 0 2", "2 9 9");
        visited("if 1<2{rest 9;}else{rest 1;}rest 1;", 9, "9 0 0 0 0 0 0 1 0 2", "2 9 9");
        visited("repeat 2{rest 9;}", 9, "9 0 0 0 0 0 0 1 0 2", "2 9 9");
        // It begins at another second: that of the beginning counts.
        MuseumGuide guide = guide("rest 50;rest 50;rest 5;");
        guide.visit(0, 0, 0, 90000, 100);
        Check.same("latest at 90000", Check.latest(guide), "90100 0 0 0 0 0 0 1 0 2");
        guide.visit(0, 0, 0, 90000, 101);
        Check.same("latest at 90000, a second more", Check.latest(guide), "90105 0 0 0 0 0 0 0 0 3");
        guide.visit(0, 0, 0, 90000, 20000);
        Check.same("latest at 90000, with the most time", Check.latest(guide), "90105 0 0 0 0 0 0 0 0 3");
        visited("repeat 9{repeat 3{rest 900;}}", 20000, "20700 0 0 0 0 0 0 1 0 32", events(23, 900));
    }

    private static String events(int rests, int seconds) {
        StringBuilder events = new StringBuilder();
        for (int k = 1; k <= rests; k++) {
            events.append(k == 1 ? "" : ", ").append("2 ").append(k * seconds).append(' ').append(seconds);
        }
        return events.toString();
    }

    private static void sentencesCounted() {
        Check.sentence("before each one (of if and repeat as well, as often as they are come to, but not of a block as such)");
        visited("if 1<2{}", 100, "0 0 0 0 0 0 0 0 0 1", "");
        visited("if 2<1{}else{}", 100, "0 0 0 0 0 0 0 0 0 1", "");
        visited("repeat 0{go a;}", 100, "0 0 0 0 0 0 0 0 0 1", "");
        visited("repeat 9{}", 100, "0 0 0 0 0 0 0 0 0 1", "");
        visited("repeat 3{if 1<2{}}", 100, "0 0 0 0 0 0 0 0 0 4", "");
        visited("repeat 3{repeat 2{}}", 100, "0 0 0 0 0 0 0 0 0 4", "");
        visited("repeat 3{repeat 2{go a;}}", 100, "0 0 0 0 0 0 0 0 0 10", "");
        visited("go c;play t;go a;", 100, "0 0 0 0 0 0 2 0 0 3", "4 0 2, 4 0 4");
        // They are looked at as well when the time is over.
        visited("rest 50;if 1<2{}", 50, "50 0 0 0 0 0 0 1 0 1", "2 50 50");
        visited("rest 50;repeat 0{}", 50, "50 0 0 0 0 0 0 1 0 1", "2 50 50");
        visited("rest 50;if 2<1{rest 1;}", 50, "50 0 0 0 0 0 0 1 0 1", "2 50 50");
        visited("rest 50;if 2<1{rest 1;}", 51, "50 0 0 0 0 0 0 0 0 2", "2 50 50");
        // A block that goes on for the last time, and its end, are none.
        visited("repeat 2{rest 25;}", 50, "50 0 0 0 0 0 0 0 0 3", "2 25 25, 2 50 25");
        visited("repeat 2{rest 25;}go a;", 50, "50 0 0 0 0 0 0 1 0 3", "2 25 25, 2 50 25");
    }

    /** So many sentences, which do nothing. */
    private static String sentences(int number) {
        // repeat 9 with k sentences in it counts 1 + 9 * k.
        int inner = (number - 1) / 9;
        int more = number - 1 - 9 * inner;
        return "repeat 9{" + "go a;".repeat(inner) + "}" + "go a;".repeat(more);
    }

    private static void threeHundred() {
        Check.sentence("or 300 have been carried out, the visit ends early");
        visited(sentences(299), 5, "0 0 0 0 0 0 0 0 0 299", "");
        visited(sentences(300), 5, "0 0 0 0 0 0 0 0 0 300", "");
        visited(sentences(301), 5, "0 0 0 0 0 0 0 1 0 300", "");
        visited(sentences(600), 5, "0 0 0 0 0 0 0 1 0 300", "");
        // The 300th has its effect, the 301st none.
        visited(sentences(299) + "rest 7;", 5, "7 0 0 0 0 0 0 0 0 300", "2 7 7");
        visited(sentences(300) + "rest 7;", 5, "0 0 0 0 0 0 0 1 0 300", "");
        visited(sentences(299) + "if 1<2{rest 7;}", 5, "0 0 0 0 0 0 0 1 0 300", "");
        visited(sentences(298) + "if 1<2{rest 7;}", 5, "7 0 0 0 0 0 0 0 0 300", "2 7 7");
        visited(sentences(299) + "repeat 9{}", 5, "0 0 0 0 0 0 0 0 0 300", "");
        visited(sentences(299) + "repeat 1{go a;}", 5, "0 0 0 0 0 0 0 1 0 300", "");
        visited(sentences(300) + "repeat 0{}", 5, "0 0 0 0 0 0 0 1 0 300", "");
        // It is no matter what is carried out 300 times.
        // 35 of these are repeats: 1 + 3 * (1 + 9) + 1 + 3.
        MuseumGuide misses = guide("repeat 9{repeat 9{repeat 9{go c;}}}");
        misses.visit(0, 0, 0, 0, 5);
        Check.same("latest of many misses", Check.latest(misses), "0 0 0 0 0 0 265 1 0 300");
        Check.same("events of many misses", misses.count(7), 265);
        Check.same("what the last one was", misses.event(264, 0), 4);
        Check.index("event(265, 0)", () -> misses.event(265, 0));
        visited("repeat 9{repeat 9{repeat 9{if 1<2{}}}}", 5, "0 0 0 0 0 0 0 1 0 300", "");
        visited("repeat 9{repeat 9{repeat 9{repeat 0{}}}}", 5, "0 0 0 0 0 0 0 1 0 300", "");
        // Both at once: ended early.
        visited(sentences(299) + "rest 5;rest 1;", 5, "5 0 0 0 0 0 0 1 0 300", "2 5 5");
    }

    private static void threeHundredWithCalls() {
        Check.sentence("call carries out the sentences of this tour");
        // Each call is a sentence, and so are those of its tour.
        MuseumGuide guide = people(Check.taught(MUSEUM + "tour u{go a;go a;}tour v{repeat 9{call u;}}tour w{" + "call v;".repeat(10)
            + "call u;" + "}tour x{call w;rest 1;}tour y{call w;call u;rest 1;}tour z{repeat 9{call y;}rest 1;}"));
        // u: 2; v: 1 + 9 * 3 = 28; w: 10 * 29 + 3 = 293.
        int[] due = {2, 28, 293, 295, 298, 300};
        for (int tour = 0; tour < 6; tour++) {
            guide.visit(0, tour, 0, 0, 100);
            Check.same("sentences of tour " + tour, guide.latest(9), due[tour]);
            Check.same("tour " + tour + " ends early", guide.latest(7), tour == 5 ? 1 : 0);
        }
        // Six tours, each of which calls the one before out of its deepest block.
        StringBuilder deep = new StringBuilder("tour t0{" + "repeat 1{".repeat(7) + "rest 1;" + "}".repeat(8));
        for (int tour = 1; tour < 6; tour++) {
            deep.append("tour t").append(tour).append("{").append("repeat 1{".repeat(6)).append("repeat 2{call t")
                .append(tour - 1).append(";}").append("}".repeat(6)).append("rest 3;}");
        }
        MuseumGuide deepest = people(Check.taught("room a;" + deep));
        // f(0) = 8 sentences and 1 second; f(n) = 7 + 2 * (1 + f(n - 1)) + 1, and twice the seconds and 3.
        int[] sentences = {8, 26, 62, 134, 278, 300};
        int[] seconds = {1, 5, 13, 29, 61};
        for (int tour = 0; tour < 6; tour++) {
            deepest.visit(0, tour, 0, 0, 20000);
            Check.same("sentences of deep tour " + tour, deepest.latest(9), sentences[tour]);
            if (tour < 5) {
                Check.same("seconds of deep tour " + tour, deepest.latest(0), seconds[tour]);
            }
        }
    }

    private static void goWhereOneIs() {
        Check.sentence("go: if one is in this room, nothing happens.");
        visited("go a;", 100, "0 0 0 0 0 0 0 0 0 1", "");
        visited("go b;go b;go b;", 100, "48 1 0 0 20 0 0 0 20 3", "0 48 1");
        MuseumGuide guide = guide("go a;");
        guide.close(0, 0, 100000);
        guide.visit(0, 0, 0, 0, 100);
        Check.same("latest where it is closed", Check.latest(guide), "0 0 0 0 0 0 0 0 0 1");
        guide.visit(0, 0, 2, 0, 100);
        Check.same("latest from a room without a way", Check.latest(guide), "0 2 0 0 0 0 1 0 0 1");
        // Nothing happens, also if one is as tired as can be.
        MuseumGuide worn = Check.taught("room a;room b;door a b 10;tour t{go b;go b;}");
        worn.come(6, 10, 0);
        worn.visit(0, 0, 0, 0, 100);
        Check.same("latest of one as tired as the stamina", Check.latest(worn), "20 1 0 0 10 0 0 0 10 2");
    }

    private static void goWithoutAWay() {
        Check.sentence("If there is no way, it is missed.");
        visited("go c;", 100, "0 0 0 0 0 0 1 0 0 1", "4 0 2");
        visited("go b;go c;rest 7;go c;", 100, "55 1 0 0 20 0 2 0 20 4", "0 48 1, 4 48 2, 2 55 7, 4 55 2");
        MuseumGuide guide = guide("go b;");
        guide.close(1, 10, 20);
        String[] due = {"0 57 1", "4 10 1", "4 19 1", "0 68 1"};
        int[] seconds = {9, 10, 19, 20};
        for (int k = 0; k < 4; k++) {
            guide.visit(0, 0, 0, seconds[k], 100);
            Check.same("events at " + seconds[k], Check.events(guide), due[k]);
        }
        guide.close(0, 0, 100);
        guide.visit(0, 0, 0, 9, 100);
        Check.same("events from a closed room", Check.events(guide), "0 57 1");
    }

    private static void goByTheShortestWay() {
        Check.sentence("Otherwise one takes the shortest one");
        MuseumGuide guide = people(Check.taught("room a;room b;room c;door a c 50;door a b 10;door b c 15;tour t{go c;go a;}"));
        guide.visit(0, 0, 0, 0, 1000);
        // The rooms between are not come into: no event tells of them.
        Check.same("events by the shortest way", Check.events(guide), "0 60 2, 0 120 0");
        guide.close(1, 0, 60);
        guide.visit(0, 0, 0, 0, 1000);
        Check.same("events by another way at first", Check.events(guide), "0 120 2, 0 180 0");
        guide.visit(0, 0, 0, 59, 1000);
        Check.same("latest a second ahead of the opening", Check.latest(guide), "239 0 0 0 75 0 0 0 75 2");
        guide.visit(0, 0, 0, 60, 1000);
        Check.same("latest in the second of the opening", Check.latest(guide), "180 0 0 0 50 0 0 0 50 2");
    }

    private static void secondsOfAWay() {
        Check.sentence("the second is steps * 12 / pace later, one is more tired by the steps, and is there");
        int[] steps = {1, 2, 3, 7, 199, 200};
        for (int length : steps) {
            MuseumGuide guide = Check.taught("room a;room b;door a b " + length + ";tour t{go b;}");
            for (int pace = 1; pace < 9; pace++) {
                guide.come(pace, 500, 0);
            }
            for (int visitor = 0; visitor < 8; visitor++) {
                guide.visit(visitor, 0, 0, 1000, 1);
                Check.same("second behind " + length + " steps at the pace " + (visitor + 1), guide.latest(0),
                    1000 + length * 12 / (visitor + 1));
                Check.same("tired by " + length + " steps", guide.latest(8), length);
                Check.same("room behind " + length + " steps", guide.latest(1), 1);
            }
            MuseumGuide fast = Check.taught("room a;room b;door a b " + length + ";tour t{go b;}");
            fast.come(9, 500, 0);
            fast.visit(0, 0, 0, 1000, 1);
            Check.same("second behind " + length + " steps at the pace 9", fast.latest(0), 1000 + length * 4 / 3);
        }
        // The steps of a way of two doors are added before they are cut.
        MuseumGuide two = Check.taught("room a;room b;room c;door a b 1;door b c 1;tour t{go c;}tour u{go b;go c;}");
        two.come(9, 500, 0);
        two.visit(0, 0, 0, 0, 100);
        Check.same("second behind one way of two doors", two.latest(0), 2);
        two.visit(0, 1, 0, 0, 100);
        Check.same("second behind two ways of one door", two.latest(0), 2);
        two.come(8, 500, 0);
        two.visit(1, 0, 0, 0, 100);
        Check.same("second behind one way at the pace 8", two.latest(0), 3);
        two.visit(1, 1, 0, 0, 100);
        Check.same("second behind two ways at the pace 8", two.latest(0), 2);
    }

    private static void hasToRest() {
        Check.sentence("If one is more tired than the stamina then, one has to rest: the second is 60 later, "
            + "and one is tired by stamina / 2.");
        MuseumGuide guide = Check.taught("room a;room b;door a b 12;tour t{go b;}tour u{go b;go a;}");
        int[] staminas = {10, 11, 12, 13, 23, 24, 25};
        for (int stamina : staminas) {
            guide.come(6, stamina, 0);
        }
        for (int visitor = 0; visitor < staminas.length; visitor++) {
            int stamina = staminas[visitor];
            guide.visit(visitor, 0, 0, 0, 100);
            boolean rests = 12 > stamina;
            Check.same("second with the stamina " + stamina, guide.latest(0), rests ? 84 : 24);
            Check.same("tired with the stamina " + stamina, guide.latest(8), rests ? stamina / 2 : 12);
            Check.same("rests with the stamina " + stamina, guide.latest(5), rests ? 1 : 0);
            Check.same("events with the stamina " + stamina, Check.events(guide), rests ? "0 24 1, 3 84 60" : "0 24 1");
            guide.visit(visitor, 1, 0, 0, 1000);
            Check.same("tired behind two ways with the stamina " + stamina, guide.latest(8),
                stamina == 10 || stamina == 11 ? 5 : stamina < 24 ? stamina / 2 : 24);
            Check.same("rests behind two ways with the stamina " + stamina, guide.latest(5),
                stamina == 10 || stamina == 11 ? 2 : stamina < 24 ? 1 : 0);
        }
        // One rests once, though half of the stamina and the way are much less than what tired.
        MuseumGuide far = Check.taught("room a;room b;door a b 200;tour t{go b;}");
        far.come(6, 10, 0);
        far.visit(0, 0, 0, 0, 100);
        Check.same("latest behind 200 steps with the stamina 10", Check.latest(far), "460 1 0 0 200 1 0 0 5 1");
    }

    private static void mostTired() {
        Check.sentence("one has to rest");
        MuseumGuide guide = Check.taught("room a;room b;room c;door a b 200;door b c 101;door c a 100;tour t{go b;go a;go c;}"
            + "tour u{go b;go a;go c;go a;}");
        guide.come(9, 500, 0);
        guide.visit(0, 0, 0, 0, 20000);
        Check.same("latest of one who is tired by 500", Check.latest(guide), "665 2 0 0 500 0 0 0 500 3");
        guide.visit(0, 1, 0, 0, 20000);
        Check.same("latest of one who is tired by more than 500", Check.latest(guide), "858 0 0 0 600 1 0 0 250 4");
        // A rest of one's own makes that one need not.
        MuseumGuide rested = Check.taught("room a;room b;door a b 100;tour t{go b;rest 10;go a;}tour u{go b;rest 9;go a;}");
        rested.come(6, 199, 0);
        rested.visit(0, 0, 0, 0, 1000);
        Check.same("latest behind a rest of 10 seconds", Check.latest(rested), "410 0 0 0 200 0 0 0 199 3");
        rested.visit(0, 1, 0, 0, 1000);
        Check.same("latest behind a rest of 9 seconds", Check.latest(rested), "469 0 0 0 200 1 0 0 99 3");
    }

    private static void playElsewhere() {
        Check.sentence("play: if one is not in the room of the part");
        visited("play r;", 100, "0 0 0 0 0 0 1 0 0 1", "4 0 2");
        visited("go b;play r;play p;", 100, "58 1 1 8 20 0 1 0 20 3", "0 48 1, 1 58 2, 4 58 0");
        visited("play t;", 100, "0 0 0 0 0 0 1 0 0 1", "4 0 4");
        MuseumGuide guide = guide("play t;");
        Check.same("visit() that begins in the room of the part", guide.visit(0, 0, 2, 0, 100), 32);
    }

    private static void playInAClosedRoom() {
        Check.sentence("this is closed now");
        MuseumGuide guide = guide("play p;play q;");
        guide.close(0, 100, 130);
        int[] seconds = {39, 40, 70, 99, 100, 129, 130};
        String[] due = {"1 99 0, 1 129 1", "1 100 0, 4 100 1", "1 130 0, 1 160 1", "1 159 0, 1 189 1", "4 100 0, 4 100 1",
            "4 129 0, 4 129 1", "1 190 0, 1 220 1"};
        for (int k = 0; k < seconds.length; k++) {
            guide.visit(0, 0, 0, seconds[k], 1000);
            Check.same("events at " + seconds[k], Check.events(guide), due[k]);
        }
        // Another room that is closed is no matter.
        MuseumGuide other = guide("play p;");
        other.close(1, 0, 100000);
        other.close(2, 0, 100000);
        Check.same("visit() while the others are closed", other.visit(0, 0, 0, 0, 100), 2);
    }

    private static void playHeard() {
        Check.sentence("the part was heard already");
        visited("play p;play p;", 100, "60 0 1 2 0 0 1 0 0 2", "1 60 0, 4 60 0");
        visited("repeat 3{play q;}", 100, "30 0 1 4 0 0 2 0 0 4", "1 30 1, 4 30 1, 4 30 1");
        visited("play p;play q;play p;play q;", 200, "90 0 2 6 0 0 2 0 0 4", "1 60 0, 1 90 1, 4 90 0, 4 90 1");
    }

    private static void playForOthers() {
        Check.sentence("A part for children is for children alone, one for experts for experts alone.");
        MuseumGuide guide = people(Check.taught("room a;part p in a 1 for all worth 1;part q in a 1 for child worth 2;"
            + "part r in a 1 for expert worth 4;part s in a 1 worth 8;tour t{play p;play q;play r;play s;}"));
        int[] due = {9, 11, 13};
        String[] events = {"1 1 0, 4 1 1, 4 1 2, 1 2 3", "1 1 0, 1 2 1, 4 2 2, 1 3 3", "1 1 0, 4 1 1, 1 2 2, 1 3 3"};
        for (int visitor = 0; visitor < 3; visitor++) {
            Check.same("visit() of kind " + visitor, guide.visit(visitor, 0, 0, 0, 100), due[visitor]);
            Check.same("events of kind " + visitor, Check.events(guide), events[visitor]);
            Check.same("compose() of kind " + visitor, guide.compose(visitor, 0, 0, 100), due[visitor]);
            Check.same("best() of kind " + visitor, guide.best(visitor, 0, 0, 100), due[visitor]);
        }
    }

    private static void playWithNeeds() {
        Check.sentence("or a part that it needs was not heard, it is missed");
        visited("play s;", 200, "0 0 0 0 0 0 1 0 0 1", "4 0 3");
        visited("play p;play s;", 200, "60 0 1 2 0 0 1 0 0 2", "1 60 0, 4 60 3");
        visited("play q;play s;", 200, "30 0 1 4 0 0 1 0 0 2", "1 30 1, 4 30 3");
        visited("play q;play p;play s;", 200, "91 0 3 22 0 0 0 0 0 3", "1 30 1, 1 90 0, 1 91 3");
        // What a needed part needs is no matter, and other parts are no help.
        visited("go b;play r;go a;play s;", 500, "106 0 1 8 40 0 1 0 40 4", "0 48 1, 1 58 2, 0 106 0, 4 106 3");
        // A part that was missed was not heard.
        MuseumGuide guide = guide("play p;rest 9;play q;play s;");
        guide.close(0, 0, 5);
        guide.visit(0, 0, 0, 0, 500);
        Check.same("events behind a needed part was missed", Check.events(guide), "4 0 0, 2 9 9, 1 39 1, 4 39 3");
        // Fifteen needs, the last one not heard.
        StringBuilder text = new StringBuilder("room a;");
        StringBuilder plays = new StringBuilder();
        for (int k = 0; k < 15; k++) {
            text.append("part p").append(k).append(" in a 1;");
            plays.append("play p").append(k).append(';');
        }
        text.append("part last in a 1 needs p0,p1,p2,p3,p4,p5,p6,p7,p8,p9,p10,p11,p12,p13,p14 worth 99;");
        String most = plays.substring(0, plays.length() - "play p14;".length());
        MuseumGuide needs = people(Check.taught(text + "tour t{" + plays + "play last;}tour u{" + most + "play last;}"));
        Check.same("visit() that hears all 15", needs.visit(0, 0, 0, 0, 100), 114);
        Check.same("visit() that hears 14", needs.visit(0, 1, 0, 0, 100), 14);
    }

    private static void playsLength() {
        Check.sentence("Otherwise the second is its length later, and it is heard.");
        MuseumGuide guide = people(Check.taught("room a;part p in a 1 worth 3;part q in a 900 worth 5;tour t{play p;}tour u{play q;}"));
        Check.same("visit() of a part 1 long", guide.visit(0, 0, 0, 0, 1), 3);
        Check.same("latest of a part 1 long", Check.latest(guide), "1 0 1 3 0 0 0 0 0 1");
        // It is heard to its end, though the time is over, or the room closed, before that.
        Check.same("visit() of a part 900 long", guide.visit(0, 1, 0, 0, 1), 5);
        Check.same("latest of a part 900 long", Check.latest(guide), "900 0 1 5 0 0 0 0 0 1");
        guide.close(0, 1, 2000);
        Check.same("visit() of a part while which it is closed", guide.visit(0, 1, 0, 0, 1), 5);
        Check.same("latest of it", Check.latest(guide), "900 0 1 5 0 0 0 0 0 1");
    }

    private static void restsTenth() {
        Check.sentence("rest: the second is so much later, and one is less tired by a tenth of it (at least 0).");
        int[] rests = {1, 9, 10, 19, 20, 190, 199, 200, 201, 210, 900};
        int[] tired = {20, 20, 19, 19, 18, 1, 1, 0, 0, 0, 0};
        for (int k = 0; k < rests.length; k++) {
            visited("go b;rest " + rests[k] + ";", 5000, (48 + rests[k]) + " 1 0 0 20 0 0 0 " + tired[k] + " 2",
                "0 48 1, 2 " + (48 + rests[k]) + " " + rests[k]);
            // One who is not tired stays so.
            visited("rest " + rests[k] + ";", 5000, rests[k] + " 0 0 0 0 0 0 0 0 1", "2 " + rests[k] + " " + rests[k]);
        }
        // Each rest is cut for itself, and what is too much is no store.
        visited("go b;rest 9;rest 9;rest 9;", 5000, "75 1 0 0 20 0 0 0 20 4", "0 48 1, 2 57 9, 2 66 9, 2 75 9");
        visited("rest 900;go b;", 5000, "948 1 0 0 20 0 0 0 20 2", "2 900 900, 0 948 1");
    }

    private static void calls() {
        Check.sentence("call carries out the sentences of this tour");
        MuseumGuide guide = people(Check.taught(MUSEUM + "tour e{}tour u{play p;}tour v{call u;go b;call e;}tour w{call v;play r;call v;}"));
        Check.same("visit() of an empty tour", guide.visit(0, 0, 0, 0, 1), 0);
        Check.same("latest of an empty tour", Check.latest(guide), "0 0 0 0 0 0 0 0 0 0");
        Check.same("visit() with calls", guide.visit(0, 3, 0, 0, 1000), 10);
        Check.same("latest with calls", Check.latest(guide), "118 1 2 10 20 0 1 0 20 11");
        Check.same("events with calls", Check.events(guide), "1 60 0, 0 108 1, 1 118 2, 4 118 0");
        // What ends early in a call ends the whole visit.
        Check.same("visit() that ends in a call", guide.visit(0, 3, 0, 0, 60), 2);
        Check.same("latest of it", Check.latest(guide), "60 0 1 2 0 0 0 1 0 3");
        Check.same("visit() that ends behind a call", guide.visit(0, 3, 0, 0, 108), 2);
        Check.same("latest of it", Check.latest(guide), "108 1 1 2 20 0 0 1 20 4");
    }

    private static void branches() {
        Check.sentence("if the block behind the test, if it holds, otherwise that behind else, if there is one");
        visited("if 1<2{rest 1;}else{rest 2;}rest 4;", 100, "5 0 0 0 0 0 0 0 0 3", "2 1 1, 2 5 4");
        visited("if 2<1{rest 1;}else{rest 2;}rest 4;", 100, "6 0 0 0 0 0 0 0 0 3", "2 2 2, 2 6 4");
        visited("if 1<2{rest 1;}rest 4;", 100, "5 0 0 0 0 0 0 0 0 3", "2 1 1, 2 5 4");
        visited("if 2<1{rest 1;}rest 4;", 100, "4 0 0 0 0 0 0 0 0 2", "2 4 4");
        visited("if 1<2{}else{rest 2;}rest 4;", 100, "4 0 0 0 0 0 0 0 0 2", "2 4 4");
        visited("if 2<1{rest 1;}else{}rest 4;", 100, "4 0 0 0 0 0 0 0 0 2", "2 4 4");
        // An else is of the if right ahead of it.
        visited("if 2<1{if 1<2{rest 1;}else{rest 2;}}rest 4;", 100, "4 0 0 0 0 0 0 0 0 2", "2 4 4");
        visited("if 1<2{if 2<1{rest 1;}}else{rest 2;}rest 4;", 100, "4 0 0 0 0 0 0 0 0 3", "2 4 4");
        visited("if 2<1{rest 1;}else{if 2<1{rest 2;}else{rest 8;}}rest 4;", 100, "12 0 0 0 0 0 0 0 0 4", "2 8 8, 2 12 4");
    }

    private static void repeats() {
        Check.sentence("repeat its block so often, one time behind the other");
        int[] times = {0, 1, 2, 8, 9};
        for (int k : times) {
            visited("repeat " + k + "{rest 3;}rest 2;", 100, (3 * k + 2) + " 0 0 0 0 0 0 0 0 " + (k + 2),
                events(k, 3) + (k == 0 ? "" : ", ") + "2 " + (3 * k + 2) + " 2");
        }
        visited("repeat 2{repeat 0{rest 1;}rest 2;}", 100, "4 0 0 0 0 0 0 0 0 5", "2 2 2, 2 4 2");
        visited("repeat 0{repeat 9{rest 1;}}rest 2;", 100, "2 0 0 0 0 0 0 0 0 2", "2 2 2");
        visited("repeat 2{rest 1;rest 2;}", 100, "6 0 0 0 0 0 0 0 0 5", "2 1 1, 2 3 2, 2 4 1, 2 6 2");
        visited("repeat 2{repeat 2{rest 1;}rest 5;}", 100, "14 0 0 0 0 0 0 0 0 9",
            "2 1 1, 2 2 1, 2 7 5, 2 8 1, 2 9 1, 2 14 5");
        visited("repeat 000003{rest 1;}", 100, "3 0 0 0 0 0 0 0 0 4", "2 1 1, 2 2 1, 2 3 1");
    }

    /** Looks whether the test holds behind some sentences of a visit in a at 0. */
    private static void holds(String sentences, String test, int second, int time) {
        MuseumGuide guide = guide(sentences + "if " + test + "{go c;}");
        guide.visit(0, 0, 0, second, time);
        int last = guide.count(7) - 1;
        Check.same("if " + test + " behind " + sentences,
            last >= 0 && guide.event(last, 0) == 4 && guide.event(last, 2) == 2, true);
    }

    private static void comparisons() {
        Check.sentence("if the block behind the test, if it holds, otherwise that behind else, if there is one");
        String[] signs = {"<", ">", "=", "<=", ">="};
        boolean[][] due = {{true, false, false, true, false}, {false, false, true, true, true}, {false, true, false, false, true}};
        for (int k = 0; k < 5; k++) {
            for (int left = 3; left <= 5; left++) {
                connected(left + signs[k] + "4", due[left - 3][k]);
                connected("not " + left + signs[k] + "4", !due[left - 3][k]);
                connected("-4" + signs[k] + "-" + left, due[left - 3][k]);
                connected("0" + signs[k] + "4-" + left, due[left - 3][k]);
                connected(left + "*100000" + signs[k] + "400000", due[left - 3][k]);
            }
        }
    }

    private static void timeAndLeft() {
        Check.sentence("In tests and sums time is the second now, left the seconds till the time of the visit is over "
            + "(less than 0, if it is)");
        holds("", "time=0", 0, 100);
        holds("", "time=90000", 90000, 100);
        holds("rest 7;", "time=90007", 90000, 100);
        holds("", "left=1", 0, 1);
        holds("", "left=20000", 0, 20000);
        holds("", "left=20000", 90000, 20000);
        holds("rest 99;", "left=1", 0, 100);
        holds("rest 99;", "left=1 and time=90099", 90000, 100);
        holds("play p;", "left=40", 0, 100);
        holds("go b;", "left=2", 0, 50);
        // When it is 0 or less, no sentence is left that could look at it.
        MuseumGuide guide = guide("rest 99;rest 1;if left<=0{rest 1;}else{rest 1;}");
        guide.visit(0, 0, 0, 0, 100);
        Check.same("second when nothing is left", guide.latest(0), 100);
        // A sum takes the wrap of what the visit tells, as of all numbers.
        holds("", "time*65536*65536=0 and time+left=90100 and left-time=-89900 and -left=-100", 90000, 100);
    }

    private static void tiredPaceAndWorth() {
        Check.sentence("tired and pace are those of the visitor, worth is the worth of all parts that were heard, added");
        holds("", "tired=0 and pace=5 and worth=0", 0, 100);
        holds("go b;", "tired=20 and pace=5 and worth=0", 0, 100);
        holds("go b;play r;", "worth=8", 0, 100);
        holds("play p;play q;play s;play s;", "worth=22", 0, 100);
        MuseumGuide guide = Check.taught("room a;room b;door a b 30;tour t{go b;if tired=14 and pace=9{rest 1;}if tired=30 and pace=1{rest 2;}}");
        guide.come(9, 29, 0);
        guide.come(1, 30, 0);
        guide.visit(0, 0, 0, 0, 1000);
        Check.same("second of one who had to rest", guide.latest(0), 101);
        guide.visit(1, 0, 0, 0, 1000);
        Check.same("second of one who had not", guide.latest(0), 362);
        // Sixteen parts of the greatest worth.
        StringBuilder text = new StringBuilder("room a;");
        StringBuilder plays = new StringBuilder();
        for (int k = 0; k < 16; k++) {
            text.append("part p").append(k).append(" in a 1 worth 99;");
            plays.append("play p").append(k).append(';');
        }
        MuseumGuide most = people(Check.taught(text + "tour t{" + plays + "if worth=1584{rest 5;}}"));
        Check.same("visit() of the greatest worth", most.visit(0, 0, 0, 0, 100), 1584);
        Check.same("latest of the greatest worth", Check.latest(most), "21 0 16 1584 0 0 0 0 0 18");
        Check.same("share() of all parts", most.share(), 1.0);
        Check.same("compose() of the greatest worth", most.compose(0, 0, 0, 16), 1584);
        Check.same("needs() of the greatest worth", most.needs(0, 0, 0, 0, 1584), 100);
        Check.same("needs() of one more", most.needs(0, 0, 0, 0, 1585), -1);
    }

    private static void heardAndOpen() {
        Check.sentence("heard tells whether a part was heard, open whether a room is open now.");
        visited("if heard p{rest 1;}play p;if heard p{rest 2;}if heard q{rest 4;}", 100, "62 0 1 2 0 0 0 0 0 5", "1 60 0, 2 62 2");
        visited("if not heard p{rest 1;}play p;if not heard p{rest 2;}if not not heard p{rest 4;}", 100,
            "65 0 1 2 0 0 0 0 0 6", "2 1 1, 1 61 0, 2 65 4");
        // A part that was missed was not heard.
        visited("play s;if heard s{rest 1;}else{rest 2;}", 100, "2 0 0 0 0 0 1 0 0 3", "4 0 3, 2 2 2");
        MuseumGuide guide = guide("if open b{rest 1;}if not open b{rest 2;}");
        guide.close(1, 10, 20);
        guide.close(1, 0, 1);
        int[] seconds = {0, 1, 9, 10, 19, 20};
        // At 9 it is open, and closed a second later.
        int[] due = {2, 1, 3, 2, 2, 1};
        for (int k = 0; k < 6; k++) {
            guide.visit(0, 0, 0, seconds[k], 100);
            Check.same("rest at " + seconds[k], guide.latest(0) - seconds[k], due[k]);
        }
        MuseumGuide then = guide("if open b{rest 10;}if open b{rest 10;}");
        then.close(1, 10, 20);
        then.visit(0, 0, 0, 0, 100);
        Check.same("second: open at first, then closed", then.latest(0), 10);
        // Neither a way to the room nor that one is there counts.
        MuseumGuide far = guide("if open c and open a{rest 1;}");
        far.visit(0, 0, 2, 0, 100);
        Check.same("second where there is no way", far.latest(0), 1);
        far.close(2, 0, 5);
        far.visit(0, 0, 2, 0, 100);
        Check.same("second in the closed room", far.latest(0), 0);
    }

    private static void connectives() {
        Check.sentence("Both sides of and and or are reckoned; and binds more than or, not more than and.");
        String[] singles = {"2<1", "1<2"};
        for (int a = 0; a < 2; a++) {
            for (int b = 0; b < 2; b++) {
                for (int c = 0; c < 2; c++) {
                    boolean x = a == 1;
                    boolean y = b == 1;
                    boolean z = c == 1;
                    String xs = singles[a];
                    String ys = singles[b];
                    String zs = singles[c];
                    connected(xs + " and " + ys + " or " + zs, x && y || z);
                    connected(xs + " or " + ys + " and " + zs, x || y && z);
                    connected(xs + " or " + ys + " or " + zs, x || y || z);
                    connected(xs + " and " + ys + " and " + zs, x && y && z);
                    connected("[" + xs + " or " + ys + "]and " + zs, (x || y) && z);
                    connected(xs + " and[" + ys + " or " + zs + "]", x && (y || z));
                    connected("not " + xs + " and " + ys + " or " + zs, !x && y || z);
                    connected("not " + xs + " or " + ys + " and not " + zs, !x || y && !z);
                    connected("not[" + xs + " and " + ys + "]or " + zs, !(x && y) || z);
                    connected("not[" + xs + " or not " + ys + "]and not not " + zs, !(x || !y) && z);
                }
            }
        }
    }

    private static void connected(String test, boolean due) {
        MuseumGuide guide = guide("if " + test + "{rest 1;}else{rest 2;}");
        guide.visit(0, 0, 0, 0, 100);
        Check.same("if " + test, guide.latest(0) == 1, due);
    }

    private static void deepest() {
        Check.sentence("It may be at most 8.");
        // At the depth 8 each level has one side of each sign waiting.
        String sum = "47=1+2*(1+2*(1+2*(1+2*(1+1))))";
        connected("2<1 or 1<2 and[2<1 or 1<2 and[2<1 or 1<2 and[2<1 or 1<2 and " + sum + "]]]", true);
        connected("2<1 or 1<2 and[2<1 or 1<2 and not[2<1 or 1<2 and " + sum + "]]", false);
        connected("1+1*max(1,".repeat(7) + "1+1" + ")".repeat(7) + "=9", true);
        connected("9=" + "1+1*min(9,".repeat(7) + "1+1" + ")".repeat(7), true);
        connected("8=" + "1*max(1+".repeat(7) + "1" + ",2)".repeat(7), true);
        connected("-(-(-(-5)))=5 and 5=-(-(-(-5)))", true);
        connected("- - - - - - - 5=-5", true);
        connected("not not not not not not not 2<1", true);
    }

    private static void eventsInOrder() {
        Check.sentence("Events of a visit, in their order: 0 one came into a room (by go, not if one was there), "
            + "1 a part was heard, 2 a rest (by the sentence), 3 one had to rest, 4 something was missed.");
        MuseumGuide guide = Check.taught(MUSEUM + "tour t{go a;go c;play p;play p;go b;rest 7;play r;go b;go a;}");
        guide.come(5, 38, 0);
        guide.visit(0, 0, 0, 100, 2000);
        Check.same("events", Check.events(guide),
            "4 100 2, 1 160 0, 4 160 0, 0 208 1, 2 215 7, 1 225 2, 0 273 0, 3 333 60");
        Check.same("latest", Check.latest(guide), "333 0 2 10 40 1 2 0 19 9");
        // Of 300 sentences 19 are repeats: 281 ways of 8 seconds, and behind the first one each wears out.
        MuseumGuide many = Check.taught("room a;room b;door a b 6;tour t{repeat 9{repeat 9{repeat 9{go b;go a;}}}}");
        many.come(9, 10, 0);
        many.visit(0, 0, 0, 90000, 20000);
        Check.same("latest of many ways", Check.latest(many), "109048 1 0 0 1686 280 0 1 5 300");
        Check.same("events of many ways", many.count(7), 561);
        Check.same("first second", many.event(0, 1), 90008);
        for (int index = 1; index < 561; index += 35) {
            boolean rests = index % 2 == 0;
            Check.same("what of event " + index, many.event(index, 0), rests ? 3 : 0);
            Check.same("second of event " + index, many.event(index, 1), 90008 + (index - 1) / 2 * 68 + (rests ? 68 : 8));
            Check.same("subject of event " + index, many.event(index, 2), rests ? 60 : index % 4 == 1 ? 0 : 1);
        }
        Check.index("event(561, 0)", () -> many.event(561, 0));
    }

    private static void eventSeconds() {
        Check.sentence("Each has the second in which it was over.");
        MuseumGuide guide = Check.taught("room a;room b;room c;door a b 11;part p in b 9;tour t{go b;play p;rest 3;go c;}");
        guide.come(4, 10, 0);
        guide.visit(0, 0, 0, 50, 103);
        // 33 seconds of the way, 60 of the rest one has to take, 9 of the part, 3 of the rest; then time is over.
        Check.same("events", Check.events(guide), "0 83 1, 3 143 60, 1 152 0, 2 155 3");
        guide.visit(0, 0, 0, 50, 106);
        Check.same("events with more time", Check.events(guide), "0 83 1, 3 143 60, 1 152 0, 2 155 3, 4 155 2");
    }

    // ---- promises 14 to 19

    private static void visit() {
        Check.sentence("Returns the worth of all parts that were heard, added.");
        MuseumGuide guide = guide("play p;play q;play s;go b;play r;play t;");
        Check.is("visit() of the least", () -> guide.visit(0, 0, 0, 0, 1), 2);
        Check.is("visit() of the greatest", () -> guide.visit(2, 0, 2, 90000, 20000), 32);
        int[] times = {1, 60, 61, 90, 91, 92, 139, 140, 20000};
        int[] due = {2, 2, 6, 6, 22, 22, 22, 30, 30};
        for (int k = 0; k < times.length; k++) {
            int time = times[k];
            Check.is("visit() in " + time, () -> guide.visit(0, 0, 0, 0, time), due[k]);
            Check.is("visit() in " + time + " at 90000", () -> guide.visit(0, 0, 0, 90000, time), due[k]);
        }
        MuseumGuide nothing = people(Check.taught("room a;part p in a 1 worth 0;tour t{play p;}tour u{}"));
        Check.is("visit() that hears what is worth nothing", () -> nothing.visit(0, 0, 0, 0, 5), 0);
        Check.same("parts that it heard", nothing.latest(2), 1);
        Check.is("visit() of an empty tour", () -> nothing.visit(0, 1, 0, 0, 5), 0);
        Check.same("parts that it heard", nothing.latest(2), 0);
    }

    private static void visitWrongly() {
        Check.sentence("if there is no such visitor, tour or room");
        MuseumGuide guide = guide("play p;");
        for (int wrong : new int[] {LEAST, -1, 3, 8, 12, MOST}) {
            Check.index("visit(" + wrong + ", ..)", () -> guide.visit(wrong, 0, 0, 0, 100));
            Check.index("begins(" + wrong + ", ..)", () -> guide.begins(wrong, 0, 0, 0, 100));
            Check.index("needs(" + wrong + ", ..)", () -> guide.needs(wrong, 0, 0, 0, 100));
            Check.index("visit(.., room " + wrong + ")", () -> guide.visit(0, 0, wrong, 0, 100));
            Check.index("begins(.., room " + wrong + ")", () -> guide.begins(0, 0, wrong, 0, 100));
            Check.index("needs(.., room " + wrong + ")", () -> guide.needs(0, 0, wrong, 0, 100));
            Check.index("visit(.., room " + wrong + ", -1, 0): the room first", () -> guide.visit(0, 0, wrong, -1, 0));
            Check.index("begins(.., room " + wrong + ", -1, 0): the room first", () -> guide.begins(0, 0, wrong, -1, 0));
            Check.index("needs(.., room " + wrong + ", -1, -1): the room first", () -> guide.needs(0, 0, wrong, -1, -1));
        }
        for (int wrong : new int[] {LEAST, -1, 1, 6, MOST}) {
            Check.index("visit(.., tour " + wrong + ")", () -> guide.visit(0, wrong, 0, 0, 100));
            Check.index("begins(.., tour " + wrong + ")", () -> guide.begins(0, wrong, 0, 0, 100));
            Check.index("needs(.., tour " + wrong + ")", () -> guide.needs(0, wrong, 0, 0, 100));
            Check.index("visit(.., tour " + wrong + ", .., 90001, 0): the tour first", () -> guide.visit(0, wrong, 0, 90001, 0));
            Check.index("begins(.., tour " + wrong + ", .., 90001, 0): the tour first", () -> guide.begins(0, wrong, 0, 90001, 0));
            Check.index("needs(.., tour " + wrong + ", .., 90001, 0): the tour first", () -> guide.needs(0, wrong, 0, 90001, 0));
        }
        Check.index("visit(3, .., 90001, 0): the visitor first", () -> guide.visit(3, 0, 0, 90001, 0));
        Check.index("begins(3, .., 90001, 0): the visitor first", () -> guide.begins(3, 0, 0, 90001, 0));
        Check.index("needs(3, .., 90001, 2001): the visitor first", () -> guide.needs(3, 0, 0, 90001, 2001));
        Check.state("latest(0) behind them", () -> guide.latest(0));
        Check.is("visit(2, 0, 2, ..)", () -> guide.visit(2, 0, 2, 0, 100), 0);
        MuseumGuide none = Check.taught("room a;tour t{}");
        Check.index("visit() without visitors", () -> none.visit(0, 0, 0, 0, 100));
        MuseumGuide noTour = people(Check.taught("room a;"));
        Check.index("visit() without tours", () -> noTour.visit(0, 0, 0, 0, 100));
        MuseumGuide noRoom = people(Check.taught("tour t{}"));
        Check.index("visit() without rooms", () -> noRoom.visit(0, 0, 0, 0, 100));
    }

    private static void visitWrongNumbers() {
        Check.sentence("if second is not 0 to 90000, or time is not 1 to 20000");
        MuseumGuide guide = guide("play p;");
        guide.visit(0, 0, 0, 7, 100);
        for (int second : new int[] {LEAST, -1, 90001, 200000, MOST}) {
            Check.argument("visit(.., " + second + ", 100)", () -> guide.visit(0, 0, 0, second, 100));
            Check.argument("begins(.., " + second + ", 100)", () -> guide.begins(0, 0, 0, second, 100));
            Check.argument("needs(.., " + second + ", 100)", () -> guide.needs(0, 0, 0, second, 100));
        }
        for (int time : new int[] {LEAST, -1, 0, 20001, MOST}) {
            Check.argument("visit(.., 0, " + time + ")", () -> guide.visit(0, 0, 0, 0, time));
            Check.argument("begins(.., 0, " + time + ")", () -> guide.begins(0, 0, 0, 0, time));
        }
        Check.same("latest behind them", Check.latest(guide), "67 0 1 2 0 0 0 0 0 1");
        for (int second : new int[] {0, 90000}) {
            for (int time : new int[] {1, 20000}) {
                Check.is("visit(.., " + second + ", " + time + ")", () -> guide.visit(0, 0, 0, second, time), 2);
                Check.same("second behind it", guide.latest(0), second + 60);
                Check.is("begins(.., " + second + ", " + time + ")", () -> guide.begins(0, 0, 0, second, time), second);
            }
        }
    }

    private static void latestIsTheLatest() {
        Check.sentence("Has a visitor visit; this is the latest visit then.");
        MuseumGuide guide = guide("go b;go c;play r;rest 5;go a;play p;play q;play s;");
        guide.visit(0, 0, 0, 0, 5000);
        Check.same("latest of the first visit", Check.latest(guide), "202 0 4 30 40 0 1 0 40 8");
        Check.same("events of the first visit", guide.count(7), 8);
        guide.visit(1, 0, 1, 90000, 1);
        Check.same("latest of the second visit", Check.latest(guide), "90010 1 1 8 0 0 1 1 0 3");
        Check.same("events of the second visit", Check.events(guide), "4 90000 2, 1 90010 2");
        Check.same("heard(0) of the second visit", guide.heard(0), false);
        Check.same("heard(2) of the second visit", guide.heard(2), true);
        Check.same("share() of the second visit", guide.share(), 0.2);
    }

    private static void latest() {
        Check.sentence("7 1 if it ended early, else 0");
        MuseumGuide guide = guide("rest 5;rest 5;");
        int[] times = {1, 5, 6, 10, 11};
        int[] early = {1, 1, 0, 0, 0};
        for (int k = 0; k < times.length; k++) {
            guide.visit(0, 0, 0, 0, times[k]);
            Check.same("latest(7) in " + times[k], guide.latest(7), early[k]);
            Check.same("latest(9) in " + times[k], guide.latest(9), 2 - early[k]);
        }
        Check.sentence("if what is not 0 to 9");
        for (int what : new int[] {LEAST, -1, 10, MOST}) {
            Check.index("latest(" + what + ")", () -> guide.latest(what));
        }
        int[] due = {10, 0, 0, 0, 0, 0, 0, 0, 0, 2};
        for (int what = 0; what < 10; what++) {
            Check.same("latest(" + what + ")", guide.latest(what), due[what]);
        }
    }

    private static void latestAnew() {
        Check.sentence("this is the latest visit then");
        // A visit in which nothing at all happens, behind one that ended early with everything.
        MuseumGuide guide = Check.taught(MUSEUM + "tour e{}tour t{play p;repeat 9{go b;go c;go a;}rest 5;}");
        guide.come(5, 30, 0);
        guide.visit(0, 1, 0, 0, 1000);
        // 60 seconds, then five times there and back in 96, with two rests of 60 each, but one the first time.
        Check.same("latest of much", Check.latest(guide), "1080 0 1 2 200 9 5 1 15 17");
        guide.visit(0, 0, 1, 70, 5);
        Check.same("latest of nothing", Check.latest(guide), "70 1 0 0 0 0 0 0 0 0");
        Check.same("events of nothing", guide.count(7), 0);
        Check.same("share() of nothing", guide.share(), 0.0);
    }

    private static void endedInLoops() {
        Check.sentence("or 300 have been carried out, the visit ends early");
        // However many visits have ended in the deepest loops and calls, the next one is as the first.
        String loops = "repeat 9{repeat 9{repeat 9{repeat 9{repeat 9{repeat 9{";
        MuseumGuide guide = people(Check.taught("room a;tour s{" + loops + "rest 1;" + "}".repeat(7) + "tour t{" + loops
            + "call s;rest 2;" + "}".repeat(7) + "tour u{repeat 2{repeat 3{rest 1;}rest 7;}rest 9;}"));
        for (int k = 0; k < 200; k++) {
            guide.visit(0, k % 2, 0, 0, 1 + k % 20);
            Check.same("whether visit " + k + " ended early", guide.latest(7), 1);
        }
        guide.begins(0, 1, 0, 0, 20000);
        guide.needs(0, 1, 0, 0, 2000);
        guide.visit(0, 2, 0, 0, 100);
        Check.same("latest behind them", Check.latest(guide), "29 0 0 0 0 0 0 0 0 12");
        Check.same("events behind them", Check.events(guide),
            "2 1 1, 2 2 1, 2 3 1, 2 10 7, 2 11 1, 2 12 1, 2 13 1, 2 20 7, 2 29 9");
    }

    private static void latestWithoutVisit() {
        Check.sentence("if there was no visit");
        MuseumGuide guide = guide("play p;");
        guide.begins(0, 0, 0, 0, 100);
        guide.needs(0, 0, 0, 0, 1);
        guide.compose(0, 0, 0, 100);
        guide.best(0, 0, 0, 100);
        Check.argument("visit() that is refused", () -> guide.visit(0, 0, 0, 0, 0));
        for (int what = 0; what < 10; what++) {
            int asked = what;
            Check.state("latest(" + what + ")", () -> guide.latest(asked));
        }
        Check.index("latest(10): what first", () -> guide.latest(10));
        Check.index("latest(-1): what first", () -> guide.latest(-1));
        guide.visit(0, 0, 0, 0, 100);
        Check.is("latest(3) of a visit", () -> guide.latest(3), 2);
        Check.teach(guide, "?");
        Check.is("latest(3) behind an error", () -> guide.latest(3), 2);
        Check.teach(guide, "");
        Check.state("latest(3) behind a teach()", () -> guide.latest(3));
        Check.index("latest(10) behind a teach(): what first", () -> guide.latest(10));
    }

    private static void event() {
        Check.sentence("2 the room, the part (heard or missed), the room that was missed, "
            + "the seconds of a rest (60, if one had to)");
        MuseumGuide guide = Check.taught(MUSEUM + "tour t{go c;play s;go b;play r;rest 900;go a;}");
        guide.come(5, 19, 0);
        guide.visit(0, 0, 0, 0, 5000);
        Check.same("events", Check.events(guide),
            "4 0 2, 4 0 3, 0 48 1, 3 108 60, 1 118 2, 2 1018 900, 0 1066 0, 3 1126 60");
    }

    private static void eventWrongly() {
        Check.sentence("if there is no such event, or what is not 0 to 2");
        MuseumGuide guide = guide("go c;rest 3;");
        Check.index("event(0, 0) without a visit", () -> guide.event(0, 0));
        guide.visit(0, 0, 0, 0, 100);
        for (int index : new int[] {LEAST, -1, 2, 3, 599, 600, MOST, MOST / 3, MOST / 3 + 1, LEAST / 3}) {
            for (int what = -1; what <= 3; what++) {
                int asked = what;
                Check.index("event(" + index + ", " + what + ")", () -> guide.event(index, asked));
            }
        }
        for (int what : new int[] {LEAST, -1, 3, MOST}) {
            Check.index("event(0, " + what + ")", () -> guide.event(0, what));
            Check.index("event(1, " + what + ")", () -> guide.event(1, what));
        }
        int[][] due = {{4, 0, 2}, {2, 3, 3}};
        for (int index = 0; index < 2; index++) {
            for (int what = 0; what < 3; what++) {
                Check.same("event(" + index + ", " + what + ")", guide.event(index, what), due[index][what]);
            }
        }
        // The next visit has fewer events, and none behind a teach().
        guide.visit(0, 0, 2, 0, 100);
        Check.same("events", guide.count(7), 1);
        Check.index("event(1, 0) of fewer", () -> guide.event(1, 0));
        Check.teach(guide, "room a;");
        Check.index("event(0, 0) behind a teach()", () -> guide.event(0, 0));
    }

    private static void heard() {
        Check.sentence("Returns whether it was heard in the latest visit; false if there was none.");
        MuseumGuide guide = guide("play p;play r;play q;");
        for (int part = 0; part < 5; part++) {
            Check.same("heard(" + part + ") without a visit", guide.heard(part), false);
        }
        guide.visit(0, 0, 0, 0, 1000);
        boolean[] due = {true, true, false, false, false};
        for (int part = 0; part < 5; part++) {
            Check.same("heard(" + part + ")", guide.heard(part), due[part]);
        }
        guide.begins(0, 0, 1, 0, 1000);
        guide.needs(0, 0, 1, 0, 2000);
        guide.compose(0, 1, 0, 1000);
        guide.best(0, 1, 0, 1000);
        for (int part = 0; part < 5; part++) {
            Check.same("heard(" + part + ") behind other calls", guide.heard(part), due[part]);
        }
        guide.visit(0, 0, 1, 0, 1000);
        for (int part = 0; part < 5; part++) {
            Check.same("heard(" + part + ") of the next visit", guide.heard(part), part == 2);
        }
        Check.teach(guide, MUSEUM);
        for (int part = 0; part < 5; part++) {
            Check.same("heard(" + part + ") behind a teach()", guide.heard(part), false);
        }
    }

    private static void heardWrongly() {
        Check.sentence("if there is no such part");
        StringBuilder text = new StringBuilder("room a;");
        for (int k = 0; k < 16; k++) {
            text.append("part p").append(k).append(" in a 1;");
        }
        MuseumGuide guide = people(Check.taught(text + "tour t{play p15;}"));
        guide.visit(0, 0, 0, 0, 5);
        Check.is("heard(15)", () -> guide.heard(15), true);
        Check.is("heard(14)", () -> guide.heard(14), false);
        for (int part : new int[] {LEAST, -17, -1, 16, 31, 32, 47, MOST}) {
            Check.index("heard(" + part + ")", () -> guide.heard(part));
        }
        Check.teach(guide, "room a;part p in a 1;");
        Check.index("heard(1) of one part", () -> guide.heard(1));
        Check.teach(guide, "room a;");
        Check.index("heard(0) of no part", () -> guide.heard(0));
    }

    /** Closes the room all the time but for one second. */
    private static void openAt(MuseumGuide guide, int room, int second) {
        guide.reopen(room);
        if (second > 0) {
            guide.close(room, 0, second);
        }
        if (second + 1 < 100000) {
            guide.close(room, second + 1, 100000);
        }
    }

    private static void beginsTwenty() {
        Check.sentence("of 20: the first one, and those 300, 600 and so on later");
        MuseumGuide guide = guide("play p;");
        for (int first : new int[] {0, 7, 90000}) {
            for (int k = 0; k <= 20; k++) {
                int second = first + 300 * k;
                openAt(guide, 0, second);
                Check.is("begins() from " + first + " if it is open at " + second,
                    () -> guide.begins(0, 0, 0, first, 100), k < 20 ? second : first);
            }
        }
        for (int second : new int[] {1, 299, 301, 150, 5699, 5701, 6000}) {
            openAt(guide, 0, second);
            Check.is("begins() if it is open at " + second, () -> guide.begins(0, 0, 0, 0, 100), 0);
        }
    }

    private static void beginsEarliest() {
        Check.sentence("with the greatest worth of all parts that are heard; of several the earliest one");
        MuseumGuide guide = guide("play p;go b;play r;");
        Check.is("begins() with the same worth each time", () -> guide.begins(0, 0, 0, 11, 1000), 11);
        Check.is("begins() where nothing is heard", () -> guide.begins(0, 0, 2, 11, 1000), 11);
        guide.close(0, 0, 600);
        Check.is("begins() with the same worth from 600 on", () -> guide.begins(0, 0, 0, 0, 1000), 600);
        guide.close(1, 600, 1300);
        // At 0 and 300 r is heard alone, from 600 on p alone, and from 1500 on both.
        Check.is("begins() with more worth later", () -> guide.begins(0, 0, 0, 0, 1000), 1500);
        Check.is("begins() of the same behind the first two", () -> guide.begins(0, 0, 0, 600, 1000), 1500);
        // Each time there is so much time: r is begun 108 seconds later, or 48 if p was missed.
        Check.is("begins() with just the time for both", () -> guide.begins(0, 0, 0, 0, 109), 1500);
        Check.is("begins() with a second less", () -> guide.begins(0, 0, 0, 0, 108), 0);
        Check.is("begins() with just the time for r alone", () -> guide.begins(0, 0, 0, 0, 49), 0);
        Check.is("begins() with another second less", () -> guide.begins(0, 0, 0, 0, 48), 600);
        // The greatest worth, then less, then as much again.
        MuseumGuide other = guide("if time=300 or time=900{play q;}if time=600{play p;}");
        Check.is("begins() with the greatest worth first", () -> other.begins(0, 0, 0, 0, 1000), 300);
        Check.is("begins() with the greatest worth behind a lesser", () -> other.begins(0, 0, 0, 600, 1000), 900);
        MuseumGuide last = guide("if time=5700{play q;}if time=0{play p;}");
        Check.is("begins() with the greatest worth at last", () -> last.begins(0, 0, 0, 0, 1), 5700);
    }

    private static void beginsStays() {
        Check.sentence("Returns this second (the latest visit stays).");
        MuseumGuide guide = guide("play p;go b;play r;");
        guide.begins(0, 0, 0, 0, 1000);
        Check.state("latest(0) behind begins()", () -> guide.latest(0));
        Check.same("events behind begins()", guide.count(7), 0);
        Check.same("share() behind begins()", guide.share(), 0.0);
        guide.visit(1, 0, 0, 5000, 61);
        guide.compose(0, 0, 0, 100);
        long digest = guide.digest();
        String events = Check.events(guide);
        String latest = Check.latest(guide);
        guide.begins(0, 0, 1, 0, 1000);
        guide.begins(2, 0, 0, 90000, 20000);
        Check.same("digest() behind begins()", guide.digest(), digest);
        Check.same("events behind begins()", Check.events(guide), events);
        Check.same("latest behind begins()", Check.latest(guide), latest);
        Check.same("heard(2) behind begins()", guide.heard(2), false);
    }

    private static void beginsWrongly() {
        Check.sentence("if second is not 0 to 90000, or time is not 1 to 20000");
        MuseumGuide guide = guide("play p;");
        Check.argument("begins(.., 90001, 1)", () -> guide.begins(0, 0, 0, 90001, 1));
        Check.argument("begins(.., -1, 1)", () -> guide.begins(0, 0, 0, -1, 1));
        Check.argument("begins(.., 0, 0)", () -> guide.begins(0, 0, 0, 0, 0));
        Check.argument("begins(.., 0, 20001)", () -> guide.begins(0, 0, 0, 0, 20001));
        Check.is("begins(.., 90000, 20000)", () -> guide.begins(0, 0, 0, 90000, 20000), 90000);
        Check.is("begins(.., 0, 1)", () -> guide.begins(0, 0, 0, 0, 1), 0);
    }

    private static void needsMultiples() {
        Check.sentence("Looks for the least time of a visit, of the multiples of 100 from 100 to 6000");
        for (int time = 0; time <= 6100; time += 50) {
            MuseumGuide guide = guide("if left=" + time + "{play p;}");
            boolean isOne = time % 100 == 0 && time >= 100 && time <= 6000;
            Check.same("needs() of just " + time, guide.needs(0, 0, 0, 0, 1), isOne ? time : -1);
        }
        int[] rests = {98, 99, 100, 101, 199, 200};
        int[] due = {100, 100, 200, 200, 200, 300};
        for (int k = 0; k < rests.length; k++) {
            MuseumGuide guide = guide("rest " + rests[k] + ";play p;");
            Check.same("needs() behind " + rests[k], guide.needs(0, 0, 0, 90000, 2), due[k]);
        }
        MuseumGuide most = guide("repeat 6{rest 900;}rest 599;play p;");
        Check.same("needs() behind 5999", most.needs(0, 0, 0, 0, 2), 6000);
        MuseumGuide more = guide("repeat 6{rest 900;}rest 600;play p;");
        Check.same("needs() behind 6000", more.needs(0, 0, 0, 0, 2), -1);
    }

    private static void needsAtLeast() {
        Check.sentence("with which at least so much worth is heard");
        MuseumGuide guide = guide("play p;play q;play s;rest 10;go b;play r;");
        // p 2 at 60, q 6 at 90, s 22 at 91, r 30: begun at 149.
        int[] worths = {0, 1, 2, 3, 6, 21, 22, 23, 30, 31, 1999, 2000};
        int[] due = {100, 100, 100, 100, 100, 100, 100, 200, 200, -1, -1, -1};
        for (int k = 0; k < worths.length; k++) {
            int worth = worths[k];
            Check.is("needs(.., " + worth + ")", () -> guide.needs(0, 0, 0, 0, worth), due[k]);
        }
        Check.is("needs(.., 0) where nothing is heard", () -> guide.needs(0, 0, 1, 0, 0), 100);
        MuseumGuide empty = guide("");
        Check.is("needs(.., 0) of an empty tour", () -> empty.needs(0, 0, 0, 0, 0), 100);
        Check.is("needs(.., 1) of an empty tour", () -> empty.needs(0, 0, 0, 0, 1), -1);
        // More time may bring less.
        MuseumGuide some = guide("if left<300{play p;}else{if left<500{play q;}}");
        Check.is("needs(.., 2)", () -> some.needs(0, 0, 0, 0, 2), 100);
        Check.is("needs(.., 3)", () -> some.needs(0, 0, 0, 0, 3), 300);
        Check.is("needs(.., 5)", () -> some.needs(0, 0, 0, 0, 5), -1);
    }

    private static void needsStays() {
        Check.sentence("Returns this time (the latest visit stays); -1 if there is none.");
        MuseumGuide guide = guide("play p;go b;play r;");
        guide.needs(0, 0, 0, 0, 2);
        guide.needs(0, 0, 0, 0, 2000);
        Check.state("latest(0) behind needs()", () -> guide.latest(0));
        Check.same("events behind needs()", guide.count(7), 0);
        guide.visit(1, 0, 0, 5000, 61);
        guide.compose(0, 0, 0, 100);
        long digest = guide.digest();
        String events = Check.events(guide);
        Check.same("needs() that there is", guide.needs(0, 0, 0, 0, 10), 200);
        Check.same("needs() that there is none", guide.needs(0, 0, 0, 0, 11), -1);
        Check.same("digest() behind needs()", guide.digest(), digest);
        Check.same("events behind needs()", Check.events(guide), events);
        Check.same("heard(2) behind needs()", guide.heard(2), false);
    }

    private static void needsWrongly() {
        Check.sentence("if second is not 0 to 90000, or worth is not 0 to 2000");
        MuseumGuide guide = guide("play p;");
        for (int worth : new int[] {LEAST, -1, 2001, MOST}) {
            Check.argument("needs(.., 0, " + worth + ")", () -> guide.needs(0, 0, 0, 0, worth));
        }
        for (int second : new int[] {LEAST, -1, 90001, MOST}) {
            Check.argument("needs(.., " + second + ", 0)", () -> guide.needs(0, 0, 0, second, 0));
        }
        Check.is("needs(.., 90000, 0)", () -> guide.needs(0, 0, 0, 90000, 0), 100);
        Check.is("needs(.., 0, 2000)", () -> guide.needs(0, 0, 0, 0, 2000), -1);
        Check.is("needs(.., 0, 2)", () -> guide.needs(0, 0, 0, 0, 2), 100);
    }
}
