/** The edges that "2. Rooms and visitors" and promises 8 to 13 name, each one under its sentence. */
public final class RoomsEdgesTest {
    private static final int LEAST = -2147483648;
    private static final int MOST = 2147483647;

    private RoomsEdgesTest() {
    }

    public static void main(String[] args) {
        doors();
        closedFromTo();
        closedAtMost();
        nothingClosedBehindTeach();
        openBehindTheFirst();
        openWhenBegun();
        fewestSteps();
        longestWay();
        toItself();
        visitors();
        visitorsStay();
        close();
        closeWrongRooms();
        closeWrongSeconds();
        closeTooOften();
        reopen();
        isOpen();
        isOpenWrongly();
        way();
        wayWrongly();
        come();
        comeTooMany();
        visitor();
        Check.finish("RoomsEdgesTest");
    }

    /** A guide with so many rooms r0, r1 and so on, and the doors. */
    private static MuseumGuide guide(int rooms, String doors) {
        StringBuilder text = new StringBuilder();
        for (int room = 0; room < rooms; room++) {
            text.append("room r").append(room).append(';');
        }
        return Check.taught(text + doors);
    }

    // ---- 2. Rooms and visitors

    private static void doors() {
        Check.sentence("A door joins two rooms in both directions, and is some steps long.");
        MuseumGuide guide = guide(4, "door r0 r1 1;door r2 r1 200;");
        int[][] due = {{0, 1, 201, -1}, {1, 0, 200, -1}, {201, 200, 0, -1}, {-1, -1, -1, 0}};
        for (int from = 0; from < 4; from++) {
            for (int to = 0; to < 4; to++) {
                Check.same("way(" + from + ", " + to + ", 0)", guide.way(from, to, 0), due[from][to]);
            }
        }
        // The last one of 24 is a door as the others.
        MuseumGuide last = guide(12, "door r0 r1 200;".repeat(23) + "door r11 r10 7;");
        Check.same("way(10, 11, 0) through the last door", last.way(10, 11, 0), 7);
        Check.same("way(11, 10, 0) through the last door", last.way(11, 10, 0), 7);
        MuseumGuide shortest = guide(2, "door r0 r1 200;".repeat(23) + "door r0 r1 1;");
        Check.same("way(0, 1, 0) through the last door", shortest.way(0, 1, 0), 1);
        Check.same("way(1, 0, 0) through the last door", shortest.way(1, 0, 0), 1);
    }

    private static void closedFromTo() {
        Check.sentence("from a second on, up to, but not with, another one");
        MuseumGuide guide = guide(2, "door r0 r1 5;");
        guide.close(1, 10, 20);
        guide.close(1, 30, 31);
        guide.close(1, 0, 1);
        guide.close(1, 99999, 100000);
        int[] seconds = {0, 1, 9, 10, 11, 19, 20, 21, 29, 30, 31, 99998, 99999, 100000, 100001};
        boolean[] due = {false, true, true, false, false, false, true, true, true, false, true, true, false, true, true};
        for (int k = 0; k < seconds.length; k++) {
            Check.same("isOpen(1, " + seconds[k] + ")", guide.isOpen(1, seconds[k]), due[k]);
            Check.same("way(0, 1, " + seconds[k] + ")", guide.way(0, 1, seconds[k]), due[k] ? 5 : -1);
            Check.same("isOpen(0, " + seconds[k] + ")", guide.isOpen(0, seconds[k]), true);
            Check.same("way(1, 0, " + seconds[k] + ")", guide.way(1, 0, seconds[k]), 5);
        }
    }

    private static void closedAtMost() {
        Check.sentence("Each room can be closed at most 4 times");
        MuseumGuide guide = guide(12, "");
        for (int times = 1; times <= 4; times++) {
            for (int room = 0; room < 12; room++) {
                Check.same("close() of room " + room, guide.close(room, 100 * room + 10 * times, 100 * room + 10 * times + 5), times);
            }
        }
        for (int room = 0; room < 12; room++) {
            int closed = room;
            Check.state("close() of room " + room + " the 5th time", () -> guide.close(closed, 5000, 6000));
            Check.same("isOpen() behind it", guide.isOpen(room, 5500), true);
            for (int times = 1; times <= 4; times++) {
                Check.same("isOpen() ahead of it", guide.isOpen(room, 100 * room + 10 * times), false);
                Check.same("isOpen() between", guide.isOpen(room, 100 * room + 10 * times + 5), true);
            }
        }
        // The same seconds can be closed again: each time counts.
        MuseumGuide same = guide(1, "");
        for (int times = 1; times <= 4; times++) {
            Check.same("close(0, 5, 9)", same.close(0, 5, 9), times);
        }
        Check.state("close(0, 5, 9) the 5th time", () -> same.close(0, 5, 9));
        Check.is("reopen(0)", () -> same.reopen(0), 4);
        Check.is("close(0, 5, 9) behind reopen(0)", () -> same.close(0, 5, 9), 1);
    }

    private static void nothingClosedBehindTeach() {
        Check.sentence("Behind a teach() without an error nothing is closed.");
        MuseumGuide guide = guide(2, "door r0 r1 5;");
        for (int times = 0; times < 4; times++) {
            guide.close(1, 0, 100000);
        }
        guide.close(0, 50, 60);
        Check.same("teach() with an error", Check.teach(guide, "room r0;room r1;door r0 r0 5;"), 6);
        Check.same("isOpen(1, 5) behind an error", guide.isOpen(1, 5), false);
        Check.same("way(0, 1, 5) behind an error", guide.way(0, 1, 5), -1);
        Check.state("close() the 5th time behind an error", () -> guide.close(1, 0, 1));
        Check.same("teach() without an error", Check.teach(guide, "room r0;room r1;door r0 r1 5;"), 0);
        Check.same("isOpen(1, 5)", guide.isOpen(1, 5), true);
        Check.same("isOpen(0, 55)", guide.isOpen(0, 55), true);
        Check.same("way(0, 1, 5)", guide.way(0, 1, 5), 5);
        Check.same("reopen(0)", guide.reopen(0), 0);
        Check.same("close()", guide.close(1, 7, 8), 1);
        Check.same("isOpen(1, 5) once more", guide.isOpen(1, 5), true);
        // What is closed behind it is closed in its own seconds alone.
        Check.same("teach() once more", Check.teach(guide, "room r0;room r1;door r0 r1 5;"), 0);
        guide.close(0, 20, 30);
        int[] seconds = {6, 7, 8, 19, 20, 29, 30};
        for (int second : seconds) {
            Check.same("isOpen(0, " + second + ")", guide.isOpen(0, second), second < 20 || second >= 30);
            Check.same("isOpen(1, " + second + ")", guide.isOpen(1, second), true);
        }
        guide.close(0, 5, 10);
        Check.teach(guide, "room r0;room r1;door r0 r1 5;");
        guide.close(0, 25, 26);
        for (int second : seconds) {
            Check.same("isOpen(0, " + second + ") once more", guide.isOpen(0, second), true);
        }
        Check.same("isOpen(0, 25) once more", guide.isOpen(0, 25), false);
    }

    private static void openBehindTheFirst() {
        Check.sentence("The rooms behind its first one have to be open");
        MuseumGuide guide = guide(4, "door r0 r1 5;door r1 r2 6;door r2 r3 7;");
        guide.close(0, 0, 10);
        Check.same("from a closed room", guide.way(0, 3, 5), 18);
        Check.same("to a closed room", guide.way(3, 0, 5), -1);
        Check.same("to the room ahead of it", guide.way(3, 1, 5), 13);
        guide.reopen(0);
        guide.close(1, 0, 10);
        Check.same("through a closed room", guide.way(0, 2, 5), -1);
        Check.same("from it on", guide.way(1, 3, 5), 13);
        Check.same("from it back", guide.way(1, 0, 5), 5);
        Check.same("behind it", guide.way(2, 3, 5), 7);
        guide.close(2, 0, 10);
        Check.same("between two closed rooms", guide.way(1, 2, 5), -1);
        Check.same("the other way", guide.way(2, 1, 5), -1);
        Check.same("out of the second one", guide.way(2, 3, 5), 7);
    }

    private static void openWhenBegun() {
        Check.sentence("have to be open in the second in which it is begun");
        // The way takes longer than the room is open, or closed.
        MuseumGuide guide = guide(3, "door r0 r1 100;door r1 r2 100;");
        guide.close(2, 5, 6);
        guide.close(1, 8, 9);
        int[] due = {200, -1, 200, 200, -1, 200};
        for (int second = 4; second < 10; second++) {
            Check.same("way(0, 2, " + second + ")", guide.way(0, 2, second), due[second - 4]);
        }
        guide.come(1, 500, 0);
        Check.teach(guide, "room r0;room r1;room r2;door r0 r1 100;door r1 r2 100;tour t{go r2;}");
        guide.close(2, 5, 6);
        guide.visit(0, 0, 0, 4, 100);
        Check.same("room of who began a second ahead", guide.latest(1), 2);
        guide.visit(0, 0, 0, 5, 100);
        Check.same("room of who began then", guide.latest(1), 0);
        guide.visit(0, 0, 0, 6, 100);
        Check.same("room of who began behind it", guide.latest(1), 2);
    }

    private static void fewestSteps() {
        Check.sentence("Of the ways between two rooms the shortest one has the fewest steps");
        // Three doors of 66 are fewer steps than one of 200; two of 100 are as many.
        MuseumGuide guide = guide(6, "door r0 r3 200;door r0 r1 66;door r1 r2 66;door r2 r3 66;door r0 r4 100;door r4 r3 100;");
        Check.same("way(0, 3, 0)", guide.way(0, 3, 0), 198);
        Check.same("way(3, 0, 0)", guide.way(3, 0, 0), 198);
        guide.close(1, 0, 10);
        Check.same("way(0, 3, 0) round r1", guide.way(0, 3, 0), 200);
        Check.same("way(0, 2, 0) round r1", guide.way(0, 2, 0), 266);
        guide.close(3, 0, 5);
        Check.same("way(0, 2, 0) when r3 is closed too", guide.way(0, 2, 0), -1);
        Check.same("way(0, 2, 5) when r3 is open again", guide.way(0, 2, 5), 266);
        Check.same("way(0, 2, 10)", guide.way(0, 2, 10), 132);
        MuseumGuide twice = guide(2, "door r0 r1 9;door r1 r0 8;door r0 r1 10;");
        Check.same("the shortest of three doors", twice.way(0, 1, 0), 8);
        Check.same("and back", twice.way(1, 0, 0), 8);
    }

    private static void longestWay() {
        Check.sentence("A way goes from room to room through doors.");
        // Twelve rooms in a row, the doors told from either end, and from the middle.
        int[][] orders = {{0, 1, 2, 3, 4, 5, 6, 7, 8, 9, 10}, {10, 9, 8, 7, 6, 5, 4, 3, 2, 1, 0}, {5, 0, 6, 10, 1, 4, 9, 2, 7, 3, 8}};
        for (int[] order : orders) {
            StringBuilder doors = new StringBuilder();
            for (int door : order) {
                doors.append("door r").append(door + 1).append(" r").append(door).append(" 200;");
            }
            MuseumGuide guide = guide(12, doors.toString());
            for (int room = 0; room < 12; room++) {
                Check.same("way(0, " + room + ", 0)", guide.way(0, room, 0), 200 * room);
                Check.same("way(11, " + room + ", 0)", guide.way(11, room, 0), 200 * (11 - room));
                Check.same("way(" + room + ", 5, 200000)", guide.way(room, 5, 200000), 200 * Math.abs(5 - room));
            }
            guide.close(6, 7, 9);
            Check.same("way(0, 11, 8)", guide.way(0, 11, 8), -1);
            Check.same("way(0, 5, 8)", guide.way(0, 5, 8), 1000);
            Check.same("way(6, 11, 8)", guide.way(6, 11, 8), 1000);
        }
    }

    private static void toItself() {
        Check.sentence("from a room to itself it has 0");
        MuseumGuide guide = guide(3, "door r0 r1 5;");
        guide.close(1, 0, 10);
        guide.close(2, 0, 10);
        for (int room = 0; room < 3; room++) {
            Check.same("way(" + room + ", " + room + ", 0)", guide.way(room, room, 0), 0);
            Check.same("way(" + room + ", " + room + ", 200000)", guide.way(room, room, 200000), 0);
        }
    }

    private static void visitors() {
        Check.sentence("There are at most 8, numbered from 0 in the order of their coming; each has a pace, 1 to 9, "
            + "stamina, 10 to 500, and is an adult (0), a child (1) or an expert (2).");
        MuseumGuide guide = new MuseumGuide();
        int[][] visitors = {{1, 10, 0}, {9, 500, 2}, {1, 500, 1}, {9, 10, 0}, {2, 11, 1}, {8, 499, 2}, {5, 100, 0}, {5, 100, 0}};
        for (int k = 0; k < 8; k++) {
            Check.same("come() of visitor " + k, guide.come(visitors[k][0], visitors[k][1], visitors[k][2]), k);
            Check.same("visitors", guide.count(4), k + 1);
        }
        for (int k = 0; k < 8; k++) {
            for (int what = 0; what < 3; what++) {
                Check.same("visitor(" + k + ", " + what + ")", guide.visitor(k, what), visitors[k][what]);
            }
        }
        Check.state("come() of a ninth", () -> guide.come(5, 100, 0));
    }

    private static void visitorsStay() {
        Check.sentence("They stay behind a teach().");
        MuseumGuide guide = new MuseumGuide();
        for (int k = 0; k < 8; k++) {
            guide.come(k + 1, 10 + k, k % 3);
        }
        for (String text : new String[] {"room a;", "", "?", "room a;room a;"}) {
            Check.teach(guide, text);
            Check.same("visitors behind teach() of " + text, guide.count(4), 8);
            for (int k = 0; k < 8; k++) {
                Check.same("visitor(" + k + ", 0)", guide.visitor(k, 0), k + 1);
                Check.same("visitor(" + k + ", 1)", guide.visitor(k, 1), 10 + k);
                Check.same("visitor(" + k + ", 2)", guide.visitor(k, 2), k % 3);
            }
        }
        Check.state("come() behind them", () -> guide.come(1, 10, 0));
    }

    // ---- promises 8 to 13

    private static void close() {
        Check.sentence("Returns how often it is closed in all.");
        MuseumGuide guide = guide(3, "");
        Check.is("close(2, ..)", () -> guide.close(2, 0, 1), 1);
        Check.is("close(0, ..)", () -> guide.close(0, 0, 1), 1);
        Check.is("close(2, ..) again", () -> guide.close(2, 0, 1), 2);
        Check.is("close(2, ..) the 3rd time", () -> guide.close(2, 500, 100000), 3);
        Check.is("close(0, ..) again", () -> guide.close(0, 99999, 100000), 2);
        Check.is("close(2, ..) the 4th time", () -> guide.close(2, 0, 100000), 4);
        Check.is("close(1, ..)", () -> guide.close(1, 3, 4), 1);
    }

    private static void closeWrongRooms() {
        Check.sentence("if there is no such room");
        MuseumGuide guide = guide(2, "");
        for (int room : new int[] {LEAST, -1, 2, 11, 12, MOST}) {
            Check.index("close(" + room + ", 0, 1)", () -> guide.close(room, 0, 1));
            Check.index("close(" + room + ", 1, 1)", () -> guide.close(room, 1, 1));
            Check.index("reopen(" + room + ")", () -> guide.reopen(room));
            Check.index("isOpen(" + room + ", 0)", () -> guide.isOpen(room, 0));
            Check.index("isOpen(" + room + ", -1)", () -> guide.isOpen(room, -1));
            Check.index("way(" + room + ", 0, 0)", () -> guide.way(room, 0, 0));
            Check.index("way(0, " + room + ", 0)", () -> guide.way(0, room, 0));
            Check.index("way(" + room + ", " + room + ", 0)", () -> guide.way(room, room, 0));
            Check.index("way(1, " + room + ", 200001)", () -> guide.way(1, room, 200001));
        }
        Check.same("isOpen(0, 0) behind them", guide.isOpen(0, 0), true);
        Check.same("isOpen(1, 0) behind them", guide.isOpen(1, 0), true);
        Check.is("close(1, 0, 1)", () -> guide.close(1, 0, 1), 1);
    }

    private static void closeWrongSeconds() {
        Check.sentence("if from is less than 0, to is not greater than from, or to is more than 100000");
        MuseumGuide guide = guide(1, "");
        int[][] wrong = {{-1, 5}, {LEAST, 5}, {LEAST, MOST}, {-1, -1}, {-2, -1}, {0, 0}, {5, 5}, {5, 4}, {5, -1}, {1, 0},
            {100000, 100000}, {99999, 100001}, {0, 100001}, {100000, 100001}, {5, MOST}, {MOST, MOST}, {MOST, LEAST}, {5, LEAST}};
        for (int[] w : wrong) {
            Check.argument("close(0, " + w[0] + ", " + w[1] + ")", () -> guide.close(0, w[0], w[1]));
        }
        for (int second : new int[] {0, 1, 4, 5, 6, 99999, 100000, 200000}) {
            Check.same("isOpen(0, " + second + ") behind them", guide.isOpen(0, second), true);
        }
        Check.is("close(0, 0, 1)", () -> guide.close(0, 0, 1), 1);
        Check.is("close(0, 99999, 100000)", () -> guide.close(0, 99999, 100000), 2);
        Check.is("close(0, 0, 100000)", () -> guide.close(0, 0, 100000), 3);
        Check.is("close(0, 5, 6)", () -> guide.close(0, 5, 6), 4);
    }

    private static void closeTooOften() {
        Check.sentence("if it is closed 4 times already");
        MuseumGuide guide = guide(2, "");
        for (int times = 0; times < 4; times++) {
            guide.close(0, 10 * times, 10 * times + 5);
        }
        Check.state("close(0, 40, 45)", () -> guide.close(0, 40, 45));
        Check.same("isOpen(0, 42)", guide.isOpen(0, 42), true);
        Check.argument("close(0, -1, 45): the seconds first", () -> guide.close(0, -1, 45));
        Check.argument("close(0, 45, 45): the seconds first", () -> guide.close(0, 45, 45));
        Check.argument("close(0, 45, 100001): the seconds first", () -> guide.close(0, 45, 100001));
        Check.index("close(2, 45, 45): the room first", () -> guide.close(2, 45, 45));
        Check.is("close(1, 40, 45) of another room", () -> guide.close(1, 40, 45), 1);
        Check.is("reopen(0)", () -> guide.reopen(0), 4);
        Check.is("close(0, 40, 45) behind reopen(0)", () -> guide.close(0, 40, 45), 1);
    }

    private static void reopen() {
        Check.sentence("Returns how often it was closed.");
        MuseumGuide guide = guide(12, "");
        Check.is("reopen(0) of an open room", () -> guide.reopen(0), 0);
        for (int room = 0; room < 12; room++) {
            for (int times = 0; times < room % 5; times++) {
                guide.close(room, 10 * times, 10 * times + 5);
            }
        }
        for (int room : new int[] {4, 3, 11, 0, 9, 1}) {
            Check.same("reopen(" + room + ")", guide.reopen(room), room % 5);
            Check.same("reopen(" + room + ") again", guide.reopen(room), 0);
        }
        Check.sentence("Has a room be open all the time.");
        for (int room = 0; room < 12; room++) {
            boolean isReopened = room == 4 || room == 3 || room == 11 || room == 0 || room == 9 || room == 1;
            for (int times = 0; times < 4; times++) {
                Check.same("isOpen(" + room + ", " + (10 * times + 2) + ")", guide.isOpen(room, 10 * times + 2),
                    isReopened || times >= room % 5);
            }
        }
        Check.same("reopen(8)", guide.reopen(8), 3);
    }

    private static void isOpen() {
        Check.sentence("Returns whether it is open then.");
        MuseumGuide guide = guide(2, "");
        guide.close(0, 0, 100000);
        guide.close(0, 50, 60);
        int[] seconds = {0, 49, 50, 59, 60, 99999, 100000, 199999, 200000};
        for (int second : seconds) {
            Check.same("isOpen(0, " + second + ")", guide.isOpen(0, second), second >= 100000);
            Check.same("isOpen(1, " + second + ")", guide.isOpen(1, second), true);
        }
    }

    private static void isOpenWrongly() {
        Check.sentence("if second is not 0 to 200000");
        MuseumGuide guide = guide(2, "door r0 r1 5;");
        for (int second : new int[] {LEAST, -200000, -1, 200001, MOST}) {
            Check.argument("isOpen(0, " + second + ")", () -> guide.isOpen(0, second));
            Check.argument("isOpen(1, " + second + ")", () -> guide.isOpen(1, second));
            Check.argument("way(0, 1, " + second + ")", () -> guide.way(0, 1, second));
            Check.argument("way(1, 1, " + second + ")", () -> guide.way(1, 1, second));
        }
        for (int second : new int[] {0, 1, 199999, 200000}) {
            Check.is("isOpen(0, " + second + ")", () -> guide.isOpen(0, second), true);
            Check.is("way(0, 1, " + second + ")", () -> guide.way(0, 1, second), 5);
        }
    }

    private static void way() {
        Check.sentence("Returns the steps of the shortest way; -1 if there is none.");
        MuseumGuide none = guide(3, "");
        MuseumGuide some = guide(3, "door r0 r1 1;");
        for (int from = 0; from < 3; from++) {
            for (int to = 0; to < 3; to++) {
                Check.same("way(" + from + ", " + to + ", 0) without doors", none.way(from, to, 0), from == to ? 0 : -1);
                Check.same("way(" + from + ", " + to + ", 0) with one", some.way(from, to, 0),
                    from == to ? 0 : from + to == 1 ? 1 : -1);
            }
        }
        // Asked again for other seconds, rooms and texts, it is told anew.
        some.close(1, 5, 10);
        int[] seconds = {4, 5, 9, 10, 5, 0};
        for (int second : seconds) {
            Check.same("way(0, 1, " + second + ")", some.way(0, 1, second), second >= 5 && second < 10 ? -1 : 1);
        }
        some.close(1, 0, 1);
        Check.same("way(0, 1, 0) closed once more", some.way(0, 1, 0), -1);
        some.reopen(1);
        Check.same("way(0, 1, 0) reopened", some.way(0, 1, 0), 1);
        Check.same("teach() of other doors", Check.teach(some, "room a;room b;room c;door b c 7;"), 0);
        Check.same("way(0, 1, 0) of other doors", some.way(0, 1, 0), -1);
        Check.same("way(1, 2, 0) of other doors", some.way(1, 2, 0), 7);
        Check.same("teach() of an error", Check.teach(some, "room a;room b;room c;door a b 9;door b c 0;"), 5);
        Check.same("way(0, 1, 0) behind an error", some.way(0, 1, 0), -1);
        Check.same("way(1, 2, 0) behind an error", some.way(1, 2, 0), 7);
    }

    private static void wayWrongly() {
        Check.sentence("if there is no such room");
        MuseumGuide guide = guide(12, "door r0 r11 5;");
        Check.is("way(0, 11, 0)", () -> guide.way(0, 11, 0), 5);
        Check.index("way(0, 12, 0)", () -> guide.way(0, 12, 0));
        Check.index("way(12, 0, 0)", () -> guide.way(12, 0, 0));
        Check.index("way(12, 12, 0)", () -> guide.way(12, 12, 0));
        Check.index("way(-1, -1, 0)", () -> guide.way(-1, -1, 0));
        Check.index("way(0, 12, -1): the room first", () -> guide.way(0, 12, -1));
        Check.index("way(-1, 0, 200001): the room first", () -> guide.way(-1, 0, 200001));
        // A shorter text has fewer rooms.
        Check.teach(guide, "room a;room b;");
        Check.index("way(0, 11, 0) behind a shorter text", () -> guide.way(0, 11, 0));
        Check.index("isOpen(2, 0) behind a shorter text", () -> guide.isOpen(2, 0));
        Check.teach(guide, "");
        Check.index("isOpen(0, 0) behind an empty text", () -> guide.isOpen(0, 0));
    }

    private static void come() {
        Check.sentence("if pace is not 1 to 9, stamina is not 10 to 500, or kind is not 0 to 2");
        MuseumGuide guide = new MuseumGuide();
        for (int pace : new int[] {LEAST, -1, 0, 10, MOST}) {
            Check.argument("come(" + pace + ", 100, 0)", () -> guide.come(pace, 100, 0));
        }
        for (int stamina : new int[] {LEAST, -10, 0, 9, 501, MOST}) {
            Check.argument("come(5, " + stamina + ", 0)", () -> guide.come(5, stamina, 0));
        }
        for (int kind : new int[] {LEAST, -1, 3, MOST}) {
            Check.argument("come(5, 100, " + kind + ")", () -> guide.come(5, 100, kind));
        }
        Check.argument("come(0, 9, 3)", () -> guide.come(0, 9, 3));
        Check.same("visitors behind them", guide.count(4), 0);
        Check.is("come(1, 10, 0)", () -> guide.come(1, 10, 0), 0);
        Check.is("come(9, 500, 2)", () -> guide.come(9, 500, 2), 1);
        Check.is("come(5, 100, 1)", () -> guide.come(5, 100, 1), 2);
    }

    private static void comeTooMany() {
        Check.sentence("if there are 8");
        MuseumGuide guide = new MuseumGuide();
        for (int k = 0; k < 7; k++) {
            guide.come(5, 100, 0);
        }
        Check.is("come() the 8th time", () -> guide.come(4, 40, 1), 7);
        Check.state("come() the 9th time", () -> guide.come(3, 30, 2));
        Check.state("come() the 10th time", () -> guide.come(1, 10, 0));
        Check.argument("come(0, 30, 2): the numbers first", () -> guide.come(0, 30, 2));
        Check.argument("come(3, 501, 2): the numbers first", () -> guide.come(3, 501, 2));
        Check.argument("come(3, 30, -1): the numbers first", () -> guide.come(3, 30, -1));
        Check.same("visitors behind them", guide.count(4), 8);
        Check.same("the pace of the 8th", guide.visitor(7, 0), 4);
        Check.same("the stamina of the 8th", guide.visitor(7, 1), 40);
        Check.same("the kind of the 8th", guide.visitor(7, 2), 1);
        Check.index("visitor(8, 0)", () -> guide.visitor(8, 0));
    }

    private static void visitor() {
        Check.sentence("if there is no such visitor, or what is not 0 to 2");
        MuseumGuide guide = new MuseumGuide();
        Check.index("visitor(0, 0) of none", () -> guide.visitor(0, 0));
        guide.come(5, 100, 1);
        for (int visitor : new int[] {LEAST, -1, 1, 7, 8, MOST}) {
            Check.index("visitor(" + visitor + ", 0)", () -> guide.visitor(visitor, 0));
            Check.index("visitor(" + visitor + ", 3)", () -> guide.visitor(visitor, 3));
        }
        for (int what : new int[] {LEAST, -1, 3, MOST}) {
            Check.index("visitor(0, " + what + ")", () -> guide.visitor(0, what));
        }
        Check.is("visitor(0, 0)", () -> guide.visitor(0, 0), 5);
        Check.is("visitor(0, 1)", () -> guide.visitor(0, 1), 100);
        Check.is("visitor(0, 2)", () -> guide.visitor(0, 2), 1);
        guide.come(6, 200, 2);
        Check.is("visitor(1, 2)", () -> guide.visitor(1, 2), 2);
        Check.is("visitor(0, 2) behind another one's coming", () -> guide.visitor(0, 2), 1);
    }
}
