/** Promises 8 to 13: rooms that are closed, ways, and visitors. */
public final class RoomsTest {
    private RoomsTest() {
    }

    public static void main(String[] args) {
        close();
        reopen();
        isOpen();
        way();
        wayThroughClosedRooms();
        come();
        visitor();
        Check.finish("RoomsTest");
    }

    private static void close() {
        MuseumGuide guide = Check.taught("room a; room b;");
        Check.index("close(-1, 5, 6)", () -> guide.close(-1, 5, 6));
        Check.index("close(2, -1, 6): the room first", () -> guide.close(2, -1, 6));
        Check.argument("close(0, -1, 6)", () -> guide.close(0, -1, 6));
        Check.argument("close(0, 6, 6)", () -> guide.close(0, 6, 6));
        Check.argument("close(0, 7, 6)", () -> guide.close(0, 7, 6));
        Check.argument("close(0, 7, 100001)", () -> guide.close(0, 7, 100001));
        Check.same("room 0 behind wrong calls", guide.isOpen(0, 6), true);
        Check.is("close(0, 99999, 100000)", () -> guide.close(0, 99999, 100000), 1);
        Check.is("close(0, 0, 1)", () -> guide.close(0, 0, 1), 2);
        Check.is("close(0, 0, 1) again", () -> guide.close(0, 0, 1), 3);
        Check.is("close(1, 3, 5)", () -> guide.close(1, 3, 5), 1);
        Check.is("close(0, 20, 30)", () -> guide.close(0, 20, 30), 4);
        Check.state("close(0, 40, 50) the 5th time", () -> guide.close(0, 40, 50));
        Check.argument("close(0, 50, 50) the 5th time: the seconds first", () -> guide.close(0, 50, 50));
        Check.same("isOpen(0, 45) behind the 5th time", guide.isOpen(0, 45), true);
        Check.is("close(1, 4, 9)", () -> guide.close(1, 4, 9), 2);
    }

    private static void reopen() {
        MuseumGuide guide = Check.taught("room a; room b; room c;");
        guide.close(0, 0, 10);
        guide.close(1, 0, 10);
        guide.close(2, 5, 15);
        guide.close(0, 20, 30);
        guide.close(2, 25, 35);
        Check.index("reopen(-1)", () -> guide.reopen(-1));
        Check.index("reopen(3)", () -> guide.reopen(3));
        Check.is("reopen(0)", () -> guide.reopen(0), 2);
        Check.is("reopen(0) again", () -> guide.reopen(0), 0);
        Check.same("isOpen(0, 5) reopened", guide.isOpen(0, 5), true);
        Check.same("isOpen(0, 25) reopened", guide.isOpen(0, 25), true);
        Check.same("isOpen(1, 5) of another room", guide.isOpen(1, 5), false);
        Check.same("isOpen(2, 4) of another room", guide.isOpen(2, 4), true);
        Check.same("isOpen(2, 14) of another room", guide.isOpen(2, 14), false);
        Check.same("isOpen(2, 30) of another room", guide.isOpen(2, 30), false);
        for (int times = 1; times <= 4; times++) {
            Check.same("close() behind reopen()", guide.close(0, 5 * times, 6 * times), times);
        }
        Check.is("reopen(0) of 4", () -> guide.reopen(0), 4);
    }

    private static void isOpen() {
        MuseumGuide guide = Check.taught("room a; room b;");
        guide.close(0, 10, 20);
        guide.close(0, 15, 30);
        guide.close(0, 99999, 100000);
        boolean[] due = {true, false, false, false, false, true};
        int[] seconds = {9, 10, 19, 20, 29, 30};
        for (int k = 0; k < seconds.length; k++) {
            Check.same("isOpen(0, " + seconds[k] + ")", guide.isOpen(0, seconds[k]), due[k]);
            Check.same("isOpen(1, " + seconds[k] + ")", guide.isOpen(1, seconds[k]), true);
        }
        Check.is("isOpen(0, 0)", () -> guide.isOpen(0, 0), true);
        Check.is("isOpen(0, 99999)", () -> guide.isOpen(0, 99999), false);
        Check.is("isOpen(0, 100000)", () -> guide.isOpen(0, 100000), true);
        Check.is("isOpen(0, 200000)", () -> guide.isOpen(0, 200000), true);
        Check.argument("isOpen(0, 200001)", () -> guide.isOpen(0, 200001));
        Check.argument("isOpen(0, -1)", () -> guide.isOpen(0, -1));
        Check.index("isOpen(2, 0)", () -> guide.isOpen(2, 0));
        Check.index("isOpen(-1, -1): the room first", () -> guide.isOpen(-1, -1));
    }

    private static void way() {
        // a - b - c - d is shorter than a - d; e has no door; two doors join a and b.
        MuseumGuide guide = Check.taught("room a; room b; room c; room d; room e; door a b 9; door b a 5;"
            + "door c b 6; door c d 7; door a d 19; door a c 200;");
        int[][] due = {{0, 5, 11, 18, -1}, {5, 0, 6, 13, -1}, {11, 6, 0, 7, -1}, {18, 13, 7, 0, -1}, {-1, -1, -1, -1, 0}};
        for (int from = 0; from < 5; from++) {
            for (int to = 0; to < 5; to++) {
                Check.same("way(" + from + ", " + to + ", 0)", guide.way(from, to, 0), due[from][to]);
            }
        }
        Check.index("way(-1, 0, 0)", () -> guide.way(-1, 0, 0));
        Check.index("way(5, 0, 0)", () -> guide.way(5, 0, 0));
        Check.index("way(0, -1, 0)", () -> guide.way(0, -1, 0));
        Check.index("way(0, 5, -1): the room first", () -> guide.way(0, 5, -1));
        Check.argument("way(0, 1, -1)", () -> guide.way(0, 1, -1));
        Check.argument("way(0, 0, 200001)", () -> guide.way(0, 0, 200001));
        Check.is("way(0, 1, 200000)", () -> guide.way(0, 1, 200000), 5);
        Check.same("teach() of other doors", Check.teach(guide, "room a; room b; door a b 8;"), 0);
        Check.same("way(0, 1, 0) of the other doors", guide.way(0, 1, 0), 8);
    }

    private static void wayThroughClosedRooms() {
        MuseumGuide guide = Check.taught("room a; room b; room c; door a b 5; door b c 5; door a c 50;");
        guide.close(1, 10, 20);
        Check.same("way(0, 2, 9)", guide.way(0, 2, 9), 10);
        Check.same("way(0, 2, 10) round the closed room", guide.way(0, 2, 10), 50);
        Check.same("way(0, 1, 10) to the closed room", guide.way(0, 1, 10), -1);
        Check.same("way(1, 0, 10) from the closed room", guide.way(1, 0, 10), 5);
        Check.same("way(1, 1, 10) in the closed room", guide.way(1, 1, 10), 0);
        Check.same("way(0, 2, 20)", guide.way(0, 2, 20), 10);
        guide.close(0, 15, 16);
        Check.same("way(2, 0, 15)", guide.way(2, 0, 15), -1);
        Check.same("way(0, 2, 15) from a closed room", guide.way(0, 2, 15), 50);
        guide.reopen(1);
        Check.same("way(0, 2, 15) through the reopened room", guide.way(0, 2, 15), 10);
    }

    private static void come() {
        MuseumGuide guide = new MuseumGuide();
        int[][] wrong = {{0, 10, 0}, {10, 10, 0}, {1, 9, 0}, {1, 501, 0}, {1, 10, -1}, {1, 10, 3}, {-1, -1, -1}};
        for (int[] w : wrong) {
            Check.argument("come(" + w[0] + ", " + w[1] + ", " + w[2] + ")", () -> guide.come(w[0], w[1], w[2]));
        }
        Check.same("visitors behind wrong calls", guide.count(4), 0);
        for (int k = 0; k < 8; k++) {
            Check.same("come() the " + k + "th time", guide.come(k % 2 == 0 ? 1 : 9, k % 2 == 0 ? 10 : 500, k % 3), k);
        }
        Check.state("come() the 9th time", () -> guide.come(1, 10, 0));
        Check.argument("come() wrongly the 9th time: the numbers first", () -> guide.come(0, 10, 0));
        Check.same("visitors behind the 9th time", guide.count(4), 8);
    }

    private static void visitor() {
        MuseumGuide guide = new MuseumGuide();
        Check.index("visitor(0, 0) of none", () -> guide.visitor(0, 0));
        guide.come(3, 77, 1);
        guide.come(9, 500, 2);
        int[][] due = {{3, 77, 1}, {9, 500, 2}};
        Check.teach(guide, "room a;");
        for (int visitor = 0; visitor < 2; visitor++) {
            for (int what = 0; what < 3; what++) {
                Check.same("visitor(" + visitor + ", " + what + ")", guide.visitor(visitor, what), due[visitor][what]);
            }
        }
        Check.index("visitor(2, 0)", () -> guide.visitor(2, 0));
        Check.index("visitor(-1, 0)", () -> guide.visitor(-1, 0));
        Check.index("visitor(0, 3)", () -> guide.visitor(0, 3));
        Check.index("visitor(0, -1)", () -> guide.visitor(0, -1));
    }
}
