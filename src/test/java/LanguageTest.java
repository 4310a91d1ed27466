/** Promises 1 to 7: a new object, the tape, and texts with and without errors. */
public final class LanguageTest {
    private LanguageTest() {
    }

    public static void main(String[] args) {
        newObject();
        feed();
        trim();
        teach();
        teachWithError();
        errorAt();
        count();
        part();
        tokens();
        grammar();
        depth();
        manyTokens();
        names();
        tooMany();
        ranges();
        orderOfErrors();
        Check.finish("LanguageTest");
    }

    private static void newObject() {
        MuseumGuide guide = new MuseumGuide();
        for (int what = 0; what < 8; what++) {
            Check.same("count(" + what + ") of a new object", guide.count(what), 0);
        }
        Check.same("errorAt() of a new object", guide.errorAt(), -1);
        Check.state("latest(0) of a new object", () -> guide.latest(0));
        Check.index("byteAt(0) of a new object", () -> guide.byteAt(0));
        Check.same("share() of a new object", guide.share(), 0.0);
        long d = 691;
        for (int k = 0; k < 8; k++) {
            d = d * 31;
        }
        Check.same("digest() of a new object", guide.digest(), d);
    }

    private static void feed() {
        MuseumGuide guide = new MuseumGuide();
        // "room" "hall" ";roo" "m ea" "st; ": the highest byte is the first one.
        Check.same("feed()", guide.feed(0x726f6f6d, 0x2068616c, 0x6c3b726f, 0x6f6d2065, 0x6173743b), 20);
        Check.same("teach() of what was fed", guide.teach(), 0);
        Check.same("rooms that were fed", guide.count(0), 2);
        // A byte above 127 is one byte, and begins no token.
        Check.same("feed() of a negative number", guide.feed(0x20202020, 0x2020ff20, 0, 0, -1), 20);
        Check.same("teach() of byte 255", guide.teach(), 1);
        Check.same("errorAt() of byte 255", guide.errorAt(), 6);
        for (int k = 1; k <= 100; k++) {
            Check.same("feed() the " + k + "th time", guide.feed(0, 0, 0, 0, 0), 20 * k);
        }
        Check.state("feed() behind 2000 bytes", () -> guide.feed(0, 0, 0, 0, 0));
        Check.same("tape behind a feed() too many", guide.count(5), 2000);
        guide.trim(1981);
        Check.state("feed() behind 1981 bytes", () -> guide.feed(0, 0, 0, 0, 0));
        guide.trim(1980);
        Check.same("feed() behind 1980 bytes", guide.feed(0, 0, 0, 0, 0), 2000);
    }

    private static void trim() {
        MuseumGuide guide = new MuseumGuide();
        Check.is("trim(0) of nothing", () -> guide.trim(0), 0);
        Check.argument("trim(1) of nothing", () -> guide.trim(1));
        guide.feed(0x726f6f6d, 0x20613b20, 0x726f6f6d, 0x20623b20, 0x20202020);
        Check.argument("trim(-1)", () -> guide.trim(-1));
        Check.argument("trim(21)", () -> guide.trim(21));
        Check.same("tape behind wrong trims", guide.count(5), 20);
        Check.is("trim(20)", () -> guide.trim(20), 20);
        Check.is("trim(8)", () -> guide.trim(8), 8);
        Check.same("tape behind trim(8)", guide.count(5), 8);
        Check.same("teach() of the first bytes", guide.teach(), 0);
        Check.same("rooms of the first bytes", guide.count(0), 1);
    }

    private static void teach() {
        MuseumGuide guide = Check.taught("room a; room b; door a b 3; part p in a 5 worth 7; tour t { play p; }");
        guide.come(5, 100, 0);
        guide.close(0, 5, 10);
        guide.visit(0, 0, 0, 20, 100);
        guide.compose(0, 0, 20, 100);
        int paper = guide.count(6);
        Check.same("teach() once more", Check.teach(guide, "room c; part q in c 9;"), 0);
        Check.same("rooms in the place of the old ones", guide.count(0), 1);
        Check.same("doors in the place of the old ones", guide.count(1), 0);
        Check.same("parts in the place of the old ones", guide.count(2), 1);
        Check.same("tours in the place of the old ones", guide.count(3), 0);
        Check.same("visitors behind teach()", guide.count(4), 1);
        Check.same("tape behind teach()", guide.count(5), 0);
        Check.same("paper behind teach()", guide.count(6), paper);
        Check.same("events behind teach()", guide.count(7), 0);
        Check.state("latest() behind teach()", () -> guide.latest(0));
        Check.same("heard() behind teach()", guide.heard(0), false);
        Check.same("share() behind teach()", guide.share(), 0.0);
        Check.same("isOpen() behind teach()", guide.isOpen(0, 7), true);
        Check.same("closings behind teach()", guide.reopen(0), 0);
        Check.same("teach() of an empty tape", guide.teach(), 0);
        Check.same("rooms of an empty tape", guide.count(0), 0);
    }

    private static void teachWithError() {
        MuseumGuide guide = Check.taught("room a; room b; door a b 3; part p in a 5 worth 7; tour t { play p; go b; }");
        guide.come(5, 100, 0);
        guide.close(1, 50, 60);
        guide.visit(0, 0, 0, 20, 100);
        guide.compose(0, 0, 20, 100);
        long before = guide.digest();
        Check.same("teach() with error 1", Check.teach(guide, "room c; room"), 1);
        Check.same("digest() behind error 1", guide.digest(), before);
        Check.same("teach() with error 2", Check.teach(guide, "room c; room c;"), 2);
        Check.same("digest() behind error 2", guide.digest(), before);
        Check.same("latest() behind an error", guide.latest(3), 7);
        Check.same("closings behind an error", guide.isOpen(1, 55), false);
        Check.same("visit() behind an error", guide.visit(0, 0, 0, 20, 100), 7);
    }

    private static void errorAt() {
        MuseumGuide guide = new MuseumGuide();
        Check.teach(guide, "  ;");
        Check.same("errorAt() of error 1", guide.errorAt(), 2);
        Check.teach(guide, "room");
        Check.same("errorAt() at the end", guide.errorAt(), 4);
        Check.teach(guide, "room a;");
        Check.same("errorAt() behind no error", guide.errorAt(), -1);
    }

    private static void count() {
        MuseumGuide guide = Check.taught("room a; room b; room c; door a b 3; door c b 4;"
            + "part p in a 5; part q in b 5; part r in c 5; part s in a 5; tour t { play p; go b; } tour u { }");
        for (int k = 0; k < 5; k++) {
            guide.come(5, 100, 0);
        }
        guide.visit(0, 0, 0, 0, 1000);
        guide.compose(0, 0, 0, 5);
        Check.feed(guide, "abc");
        int[] due = {3, 2, 4, 2, 5, 3, 12 + 15 + 2, 2};
        for (int what = 0; what < 8; what++) {
            Check.same("count(" + what + ")", guide.count(what), due[what]);
        }
        Check.index("count(-1)", () -> guide.count(-1));
        Check.index("count(8)", () -> guide.count(8));
    }

    private static void part() {
        MuseumGuide guide = Check.taught("room a; room b; part p in b 1; part q in a 900 for child worth 99;"
            + "part r in a 7 needs q, p for expert worth 0; part s in b 8 needs q, q for all; part t in a 9 needs s, p;");
        int[][] due = {{1, 1, 1, 0, 0}, {0, 900, 99, 1, 0}, {0, 7, 0, 2, 3}, {1, 8, 1, 0, 2}, {0, 9, 1, 0, 9}};
        for (int part = 0; part < 5; part++) {
            for (int what = 0; what < 5; what++) {
                Check.same("part(" + part + ", " + what + ")", guide.part(part, what), due[part][what]);
            }
        }
        Check.index("part(-1, 0)", () -> guide.part(-1, 0));
        Check.index("part(5, 0)", () -> guide.part(5, 0));
        Check.index("part(0, -1)", () -> guide.part(0, -1));
        Check.index("part(0, 5)", () -> guide.part(0, 5));
    }

    private static void tokens() {
        Check.error("room a;room b;door a b 5;part p in a 9needs p0;", 3, 44);
        Check.error("", 0, -1);
        Check.error(" \n \n", 0, -1);
        Check.error("room\na ;\n\nroom b\n;door a b\n7;", 0, -1);
        Check.error("room a1b2;tour t{if 1<=2{}if 1>=-2{}if 1<-2{}}", 0, -1);
        // Behind a number a letter begins a word of its own.
        Check.error("room a;part p in a 9for all worth 3;", 0, -1);
        Check.error("room a;part p in a 9worth 3;", 0, -1);
        Check.error("room abcdefghij;", 0, -1);
        Check.error("room a0z9; room z; room az9;", 0, -1);
        Check.errorAtMark("room @abcdefghijk;", 1);
        Check.errorAtMark("room @a123456789b;", 1);
        Check.error("tour t { if 1 = 999999 { } if 000001 = 1 { } }", 0, -1);
        Check.errorAtMark("tour t { if 1 = @0000001 { } }", 1);
        Check.errorAtMark("tour t { if 1 = @1000000 { } }", 1);
        Check.errorAtMark("room @A;", 1);
        Check.errorAtMark("room a@\t;", 1);
        Check.errorAtMark("room a;@\r", 1);
        Check.errorAtMark("room a;@\0", 1);
        Check.errorAtMark("room @1a;", 1);
        Check.errorAtMark("room a@_b;", 1);
        // The longest possible token is read: < and = are one.
        Check.errorAtMark("tour t { if 1 < @= 2 { } }", 1);
        Check.errorAtMark("tour t { if 1 <=@= 2 { } }", 1);
        Check.errorAtMark("tour t { if 1 =@< 2 { } }", 1);
        Check.errorAtMark("@rooma;", 1);
        Check.error("room rooma; room ina; room fo; room needsx;", 0, -1);
        for (String keyword : ("room door part in needs for worth all child expert tour go play rest if else repeat "
            + "call heard open time left tired pace not and or min max").split(" ")) {
            Check.errorAtMark("room @" + keyword + ";", 1);
        }
    }

    private static void grammar() {
        Check.errorAtMark("room a@", 1);
        Check.errorAtMark("room a  \n@", 1);
        Check.errorAtMark("room a@,", 1);
        Check.errorAtMark("@a", 1);
        Check.errorAtMark("room a; @; ", 1);
        Check.errorAtMark("room a; door a @5;", 1);
        Check.errorAtMark("room a; room b; door a b@;", 1);
        Check.errorAtMark("room a; part p @a 5;", 1);
        Check.errorAtMark("room a; part p in a @;", 1);
        Check.errorAtMark("room a; part p in a 5 needs@;", 1);
        Check.errorAtMark("room a; part p in a 5 needs x,@;", 1);
        Check.errorAtMark("room a; part p in a 5 needs x @y;", 1);
        Check.errorAtMark("room a; part p in a 5 for @a;", 1);
        Check.errorAtMark("room a; part p in a 5 for all @needs x;", 1);
        Check.errorAtMark("room a; part p in a 5 worth 5 @for all;", 1);
        Check.errorAtMark("room a; part p in a 5 worth @x;", 1);
        Check.errorAtMark("tour t @;", 1);
        Check.errorAtMark("tour t { }@;", 1);
        Check.errorAtMark("tour t { @", 1);
        Check.errorAtMark("tour t { @; }", 1);
        Check.errorAtMark("tour t { @{ } }", 1);
        Check.errorAtMark("tour t { go a @}", 1);
        Check.errorAtMark("tour t { rest @a; }", 1);
        Check.errorAtMark("tour t { call @5; }", 1);
        Check.errorAtMark("tour t { repeat @{ } }", 1);
        Check.errorAtMark("tour t { repeat 3 @go a; }", 1);
        Check.errorAtMark("tour t { @else { } }", 1);
        Check.errorAtMark("tour t { if @{ } }", 1);
        Check.errorAtMark("tour t { if 1 @{ } }", 1);
        Check.errorAtMark("tour t { if 1 < 2 @< 3 { } }", 1);
        Check.errorAtMark("tour t { if ( 1 @< 2 ) { } }", 1);
        Check.errorAtMark("tour t { if [ 1 @] { } }", 1);
        Check.errorAtMark("tour t { if [ 1 < 2 ] @+ 3 < 4 { } }", 1);
        Check.errorAtMark("tour t { if 1 < @heard a { } }", 1);
        Check.errorAtMark("tour t { if min ( 1 @) < 2 { } }", 1);
        Check.errorAtMark("tour t { if max @1 < 2 { } }", 1);
        Check.errorAtMark("tour t { if max ( 1 , 2 @, 3 ) < 2 { } }", 1);
        Check.errorAtMark("tour t { if 1 + @* 2 < 2 { } }", 1);
        Check.errorAtMark("tour t { if 1 < 2 and @{ } }", 1);
        Check.errorAtMark("tour t { if @a < 2 { } }", 1);
        Check.errorAtMark("tour t { if not heard @5 { } }", 1);
        Check.error("tour t { if not not 1 < 2 { } else { if 1 > - - 2 { } } } tour u { }", 0, -1);
        Check.error("tour t { if [ 1 < 2 or 2 < 3 and 3 < 4 ] and 5 < 6 { } }", 0, -1);
        Check.error("tour t { if min ( 1 , - max ( 2 , 3 ) ) * ( 4 + 5 ) / 6 - pace <= worth + left { } }", 0, -1);
    }

    private static void depth() {
        String open = "repeat 1 { ";
        Check.error("tour t { " + open.repeat(7) + "} ".repeat(8), 0, -1);
        Check.errorAtMark("tour t { " + open.repeat(7) + "repeat 1 @{ " + "} ".repeat(9), 1);
        Check.error("tour t { if " + "( ".repeat(7) + "1" + " )".repeat(7) + " < 2 { } }", 0, -1);
        Check.errorAtMark("tour t { if " + "( ".repeat(7) + "@( 1 ) " + " )".repeat(7) + " < 2 { } }", 1);
        Check.error("tour t { if " + "- ".repeat(7) + "1 < 2 { } }", 0, -1);
        Check.errorAtMark("tour t { if " + "- ".repeat(7) + "@- 1 < 2 { } }", 1);
        Check.error("tour t { if " + "not ".repeat(7) + "1 < 2 { } }", 0, -1);
        Check.errorAtMark("tour t { if " + "not ".repeat(7) + "@not 1 < 2 { } }", 1);
        Check.error("tour t { if " + "[ ".repeat(7) + "1 < 2" + " ]".repeat(7) + " { } }", 0, -1);
        Check.errorAtMark("tour t { if " + "[ ".repeat(7) + "@[ 1 < 2 ]" + " ]".repeat(7) + " { } }", 1);
        Check.errorAtMark("tour t { if " + "not [ ".repeat(3) + "- min @( 1 , 2 ) < 2" + " ]".repeat(3) + " { } }", 1);
        // What a not or - turns ends ahead of the next and, or, +: nothing adds up there.
        Check.error("tour t { if " + "not 1 < 2 and ".repeat(12) + "1 < 2 { } }", 0, -1);
        Check.error("tour t { if " + "- 1 + ".repeat(12) + "1 < 2 { } }", 0, -1);
        Check.error("tour t { if 1" + " - 1".repeat(12) + " < 2 { } }", 0, -1);
        Check.error("tour t { if not " + "( ".repeat(6) + "1" + " )".repeat(6) + " < 2 { } }", 0, -1);
        Check.errorAtMark("tour t { if not 1 < " + "( ".repeat(6) + "@( 1" + " )".repeat(7) + " { } }", 1);
        Check.error("tour t { if not 1 < 2 and " + "( ".repeat(7) + "1" + " )".repeat(7) + " < 2 { } }", 0, -1);
    }

    private static void manyTokens() {
        // tour t { } has 4 tokens, each rest 3, and a room 3: 400 tokens are no error, 401 are.
        String rests = "tour t{" + "rest 1;".repeat(132) + "}";
        Check.error(rests, 0, -1);
        Check.error(rests + " \n", 0, -1);
        Check.errorAtMark(rests + "@room a;", 1);
        Check.errorAtMark(rests + "\n @?", 1);
        // The 400 tokens are not yet a text: the end of the tape is not counted.
        String open = "tour t{" + "rest 1;".repeat(131) + "rest 1";
        Check.errorAtMark(open + " ;@", 1);
        Check.errorAtMark(open + ";}@room", 1);
    }

    private static void names() {
        Check.errorAtMark("room a; room @a;", 2);
        Check.errorAtMark("room a; part p in a 5; part @p in a 5;", 2);
        Check.errorAtMark("tour t { } tour @t { }", 2);
        Check.error("room a; part a in a 5; tour a { go a; play a; }", 0, -1);
        Check.error("room abcdefghij; room abcdefghik; room abcdefghi;", 0, -1);
        Check.errorAtMark("room a; door @b a 5; room b;", 3);
        Check.errorAtMark("room a; door a @b 5; room b;", 3);
        Check.errorAtMark("room a; part p in @b 5; room b;", 3);
        Check.errorAtMark("room a; part p in a 5 needs @p;", 3);
        Check.errorAtMark("room a; part p in a 5 needs @q; part q in a 5;", 3);
        Check.errorAtMark("room a; part q in a 5; part p in a 5 needs q, @a;", 3);
        Check.errorAtMark("tour t { go @a; } room a;", 3);
        Check.errorAtMark("room a; part p in a 5; tour t { go @p; }", 3);
        Check.errorAtMark("room a; tour t { play @p; } part p in a 5;", 3);
        Check.errorAtMark("tour t { call @t; }", 3);
        Check.errorAtMark("tour t { call @u; } tour u { }", 3);
        Check.error("tour u { } tour t { call u; }", 0, -1);
        Check.errorAtMark("room a; tour t { if heard @a { } }", 3);
        Check.errorAtMark("room a; part p in a 5; tour t { if open @p { } }", 3);
        Check.errorAtMark("room a; door a @a 5;", 6);
    }

    private static void tooMany() {
        StringBuilder rooms = new StringBuilder();
        for (int k = 0; k < 12; k++) {
            rooms.append("room r").append(k).append(';');
        }
        Check.error(rooms.toString(), 0, -1);
        Check.errorAtMark(rooms + "room @x;", 4);
        Check.errorAtMark(rooms + "room @r3;", 2);
        String doors = rooms + "door r1 r2 1;".repeat(24);
        Check.error(doors, 0, -1);
        Check.errorAtMark(doors + "door @r1 r1 1;", 4);
        Check.errorAtMark(doors + "door @x r1 1;", 3);
        StringBuilder parts = new StringBuilder("room a;");
        for (int k = 0; k < 16; k++) {
            parts.append("part p").append(k).append(" in a 1;");
        }
        Check.error(parts.toString(), 0, -1);
        Check.errorAtMark(parts + "part @x in a 1;", 4);
        Check.errorAtMark(parts + "part @p15 in a 1;", 2);
        String tours = "tour a{}tour b{}tour c{}tour d{}tour e{}tour f{}";
        Check.error(tours, 0, -1);
        Check.errorAtMark(tours + "tour @x{}", 4);
        Check.errorAtMark(tours + "tour @f{}", 2);
    }

    private static void ranges() {
        range("room a; room b; door a b ", ";", 1, 200);
        range("room a; part p in a ", ";", 1, 900);
        range("room a; part p in a 5 worth ", ";", 0, 99);
        range("tour t { rest ", "; }", 1, 900);
        range("tour t { repeat ", " { } }", 0, 9);
        Check.error("tour t { if 999999 < 0 { } }", 0, -1);
    }

    private static void range(String before, String behind, int least, int most) {
        Check.error(before + least + behind, 0, -1);
        Check.error(before + most + behind, 0, -1);
        Check.errorAtMark(before + "@" + (most + 1) + behind, 5);
        Check.errorAtMark(before + "@999999" + behind, 5);
        if (least > 0) {
            Check.errorAtMark(before + "@0" + behind, 5);
        }
    }

    private static void orderOfErrors() {
        // Error 1 is told first, wherever it is; then the first token with an error.
        Check.errorAtMark("room a; room a; door x x 999; @;", 1);
        Check.errorAtMark("room a; door @x a 999; room a;", 3);
        Check.errorAtMark("room a; room b; door a b @999; room a;", 5);
        Check.errorAtMark("room a; part p in a @901 needs p worth 100;", 5);
        Check.errorAtMark("room a; part p in a 5 needs @p worth 100;", 3);
        Check.errorAtMark("room a; part p in a 5 worth @100; part p in a 5;", 5);
        Check.errorAtMark("tour t { repeat @10 { go a; } }", 5);
        Check.errorAtMark("tour t { if open @a { rest 0; } }", 3);
    }
}
