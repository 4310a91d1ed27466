/** The edges that "Terms", "1. The language" and promises 1 to 7 name, each one under its sentence. */
public final class LanguageEdgesTest {
    private static final String[] KEYWORDS = ("room door part in needs for worth all child expert tour go play rest if "
        + "else repeat call heard open time left tired pace not and or min max").split(" ");
    // One token of each sort: a name, a number, a byte that begins none, a word and a number too long.
    private static final String[] OTHER_TOKENS = ("{ } ( ) [ ] ; , + - * / < > = <= >= x 1 ? "
        + "abcdefghijk 1234567").split(" ");
    private static final String VALUES = " 1 time left tired pace worth - ( min max ";
    private static final String SINGLES = VALUES + "not [ heard open ";
    private static final String SIGNS = " + - * / ";
    private static final String COMPARISONS = " < > = <= >= ";
    private static final String SENTENCES = " go play rest call if repeat } ";
    private static final String THINGS = " room door part tour END ";
    // 2147483647, and one more, which wraps.
    private static final String MOST = "( 65536 * 32767 + 65535 )";
    private static final String LEAST = "( 65536 * 32768 )";

    private LanguageEdgesTest() {
    }

    public static void main(String[] args) {
        wrapAround();
        division();
        positions();
        tape();
        emptyBehindTeach();
        blanks();
        neededBlanks();
        longestToken();
        words();
        numbers();
        symbols();
        keywords();
        noneOrMany();
        depthOfEach();
        depthOfMixtures();
        depthBehindEach();
        firstWrongToken();
        firstWrongTokenInTours();
        wrongBytes();
        tooLong();
        endOfTheTape();
        depthIsError1();
        token401();
        placeOfTheFirstByte();
        namesOnlyWithoutError1();
        leftToRight();
        smallestNumber();
        toldTwice();
        notTold();
        notToldAhead();
        tooMany();
        numbersOutOfRange();
        doorToItself();
        order();
        withoutForAndWorth();
        newObject();
        feed();
        fullTape();
        trim();
        wrongTrims();
        taughtInThePlace();
        taughtOften();
        taughtWithError();
        taughtBehindErrors();
        errors();
        errorAt();
        count();
        part();
        Check.finish("LanguageEdgesTest");
    }

    // ---- Terms

    /** Looks whether a test without names holds. */
    private static void holds(String test) {
        MuseumGuide guide = Check.taught("tour t { if " + test + " { rest 1; } } room a;");
        guide.come(5, 100, 0);
        guide.visit(0, 0, 0, 0, 100);
        Check.same("seconds of if " + test, guide.latest(0), 1);
    }

    private static void wrapAround() {
        Check.sentence("sums, differences and products of the language wrap around in 32 bits");
        holds(MOST + " > 0");
        holds(LEAST + " < 0");
        holds(MOST + " + 1 = " + LEAST);
        holds("1 + " + MOST + " < 0");
        holds(MOST + " + " + MOST + " = - 2");
        holds(LEAST + " + " + LEAST + " = 0");
        holds(LEAST + " - 1 = " + MOST);
        holds(LEAST + " - 1 > 0");
        holds("0 - " + LEAST + " = " + LEAST);
        holds(LEAST + " - " + MOST + " = 1");
        holds("- " + LEAST + " = " + LEAST);
        holds("- " + LEAST + " < 0");
        holds("- " + MOST + " - 1 = " + LEAST);
        holds("65536 * 65536 = 0");
        holds("65536 * 65536 + 7 = 7");
        holds(MOST + " * 2 = - 2");
        holds(MOST + " * " + MOST + " = 1");
        holds(LEAST + " * - 1 = " + LEAST);
        holds("999999 * 999999 = - ( 729 * 1000 * 1000 + 379967 )");
        // What is compared does not wrap: the least number is less than the greatest.
        holds(LEAST + " < " + MOST);
        holds(MOST + " > " + LEAST);
        holds(LEAST + " <= " + MOST);
        holds(MOST + " >= " + LEAST);
        holds("min ( " + LEAST + " , " + MOST + " ) = " + LEAST);
        holds("max ( " + LEAST + " , " + MOST + " ) = " + MOST);
    }

    private static void division() {
        Check.sentence("All numbers are whole");
        holds("7 / 2 * 2 = 6");
        holds("1 / 3 + 1 / 3 + 1 / 3 = 0");
        Check.sentence("/ is cut towards 0");
        holds("7 / 2 = 3");
        holds("- 7 / 2 = - 3");
        holds("7 / - 2 = - 3");
        holds("- 7 / - 2 = 3");
        holds("1 / 2 = 0");
        holds("- 1 / 2 = 0");
        holds("999998 / 999999 = 0");
        holds("6 / 2 = 3");
        holds("- 6 / 2 = - 3");
        holds(LEAST + " / 2 = - 32768 * 32768");
        Check.sentence("a division by 0 gives 0");
        holds("7 / 0 = 0");
        holds("- 7 / 0 = 0");
        holds("0 / 0 = 0");
        holds(LEAST + " / 0 = 0");
        holds(MOST + " / ( 5 - 5 ) = 0");
        holds("7 / ( 1 / 2 ) + 4 = 4");
        holds("7 / worth = 0");
        Check.sentence("-2147483648 / -1 gives -2147483648");
        holds(LEAST + " / - 1 = " + LEAST);
        holds(LEAST + " / - 1 < 0");
        holds(MOST + " / - 1 = " + LEAST + " + 1");
    }

    private static void positions() {
        Check.sentence("Positions are counted from 0, in bytes.");
        Check.error(";", 1, 0);
        Check.error(" ;", 1, 1);
        Check.error("\n\n\n;", 1, 3);
        Check.error("room a; room a;", 2, 13);
        Check.error("tour a{go a;}", 3, 10);
        Check.error(" ".repeat(1999) + ";", 1, 1999);
    }

    // ---- 1. The language: tokens

    private static void tape() {
        Check.sentence("The tape is a row of at most 2000 bytes, at first empty, which feed and trim fill");
        MuseumGuide guide = new MuseumGuide();
        Check.same("bytes at first", guide.count(5), 0);
        Check.same("an empty tape is a text", guide.teach(), 0);
        for (int k = 0; k < 100; k++) {
            guide.feed(-1, -1, -1, -1, -1);
        }
        Check.same("bytes at most", guide.count(5), 2000);
        Check.state("one feed() more", () -> guide.feed(-1, -1, -1, -1, -1));
        Check.error("room a;" + " ".repeat(1993), 0, -1);
        Check.error(" ".repeat(1993) + "room a;", 0, -1);
        Check.error(" ".repeat(1994) + "room a", 1, 2000);
    }

    private static void emptyBehindTeach() {
        Check.sentence("teach reads it as a text, and it is empty behind it");
        MuseumGuide guide = new MuseumGuide();
        for (int k = 0; k < 100; k++) {
            guide.feed(-1, -1, -1, -1, -1);
        }
        Check.same("teach() of a full tape", guide.teach(), 1);
        Check.same("bytes behind it", guide.count(5), 0);
        Check.argument("trim(1) behind it", () -> guide.trim(1));
        Check.same("teach() once more, of nothing", guide.teach(), 0);
        Check.same("feed() begins anew", guide.feed(0x726f6f6d, 0x20613b20, 0x20202020, 0x20202020, 0x20202020), 20);
        Check.same("teach() of what was fed behind it", guide.teach(), 0);
        Check.same("bytes behind a text without an error", guide.count(5), 0);
        Check.same("its rooms", guide.count(0), 1);
        Check.same("teach() with error 2", Check.teach(guide, "room a;room a;"), 2);
        Check.same("bytes behind error 2", guide.count(5), 0);
    }

    private static boolean isBlank(int sign) {
        return sign == 32 || sign == 10;
    }

    private static boolean isLetter(int sign) {
        return sign >= 'a' && sign <= 'z';
    }

    private static boolean isDigit(int sign) {
        return sign >= '0' && sign <= '9';
    }

    private static void blanks() {
        Check.sentence("Blanks (32) and line ends (10) can stand between tokens, at the beginning and at the end");
        for (int sign = 0; sign < 256; sign++) {
            String text = String.valueOf((char) sign);
            boolean blank = isBlank(sign);
            Check.error(text + "room a;", blank ? 0 : 1, blank ? -1 : 0);
            Check.error("room a;" + text, blank ? 0 : 1, blank ? -1 : 7);
            int wrong = isLetter(sign) || isDigit(sign) ? 0 : 4;
            Check.error("room" + text + "a;", blank ? 0 : 1, blank ? -1 : wrong);
        }
        Check.error(" \n \nroom \n\n a \n ; \n\n", 0, -1);
        Check.error("\n", 0, -1);
        Check.error(" ", 0, -1);
    }

    private static void neededBlanks() {
        Check.sentence("and have to stand between two tokens that would otherwise be read as one");
        Check.error("tour t{rest 5;}", 0, -1);
        Check.errorAtMark("tour t{@rest5;}", 1);
        Check.error("tour t{}tour u{call t;}", 0, -1);
        Check.errorAtMark("tour t{}@touru{}", 1);
        Check.errorAtMark("room a;room b;door ab @1;", 1);
        Check.errorAtMark("room a;room b;door a b1@;", 1);
        Check.errorAtMark("tour t{repeat 1 @0{}}", 1);
        Check.errorAtMark("tour t{repeat @10{}}", 5);
        Check.errorAtMark("tour t{if 1 < @= 2{}}", 1);
        Check.errorAtMark("tour t{if 1 > @= 2{}}", 1);
        // Where two tokens can't be read as one, none is needed.
        Check.errorAtMark("room a;part p in a 9needs @p0;", 3);
        Check.error("room a;part p in a 9for all worth 1;tour t{if(1)<2and[heard p]{}else{go a;}}", 0, -1);
    }

    private static void longestToken() {
        Check.sentence("The longest possible token is always read.");
        Check.error("tour t{if 1<=2{}}", 0, -1);
        Check.error("tour t{if 1>=2{}}", 0, -1);
        Check.errorAtMark("tour t{if 1<=@=2{}}", 1);
        Check.errorAtMark("tour t{if 1<@>2{}}", 1);
        Check.error("tour t{if 1<-2{}}", 0, -1);
        // A keyword with more letters or digits behind it is a name.
        Check.error("room rooms;room go1;tour t{go go1;go rooms;}", 0, -1);
        Check.errorAtMark("room a;tour t{@goa;}", 1);
        Check.errorAtMark("tour t{if @not1=2{}}", 1);
        // A number ends where a letter stands.
        Check.errorAtMark("room @1a;", 1);
        Check.errorAtMark("tour t{if 12@and3<4{}}", 1);
    }

    private static void words() {
        Check.sentence("A word: a letter a to z, followed by letters a to z and digits, at most 10 bytes.");
        for (int sign = 0; sign < 256; sign++) {
            String text = String.valueOf((char) sign);
            boolean letter = isLetter(sign);
            boolean blank = isBlank(sign);
            boolean follows = letter || isDigit(sign);
            Check.error("room " + text + ";", letter ? 0 : 1, letter ? -1 : blank ? 6 : 5);
            Check.error("room a" + text + ";", follows || blank ? 0 : 1, follows || blank ? -1 : sign == ';' ? 7 : 6);
            Check.error("room a" + text + "b;", follows ? 0 : 1, follows ? -1 : blank || sign == ';' ? 7 : 6);
        }
        Check.error("room abcdefghij;", 0, -1);
        Check.error("room a123456789;", 0, -1);
        Check.errorAtMark("room @abcdefghijk;", 1);
        Check.errorAtMark("room @a1234567890;", 1);
        Check.errorAtMark("room @" + "z".repeat(500) + ";", 1);
        // All its bytes are looked at, and no more than it has.
        Check.error("room abcdefghi0;room abcdefghi1;room abcdefghi;room bbcdefghi0;room a;room ab;", 0, -1);
    }

    private static void numbers() {
        Check.sentence("A number: 1 to 6 digits.");
        for (int sign = 0; sign < 256; sign++) {
            String text = String.valueOf((char) sign);
            boolean right = isDigit(sign) || isBlank(sign);
            Check.error("tour t{rest 1" + text + ";}", right ? 0 : 1, right ? -1 : sign == ';' ? 14 : 13);
        }
        Check.error("tour t{if 0<1{}}", 0, -1);
        Check.error("tour t{if 123456<999999{}}", 0, -1);
        Check.errorAtMark("tour t{if @1234567<1{}}", 1);
        Check.errorAtMark("tour t{if @0000000<1{}}", 1);
        Check.errorAtMark("tour t{if 1<@" + "9".repeat(500) + "{}}", 1);
        Check.error("tour t{rest 000900;}", 0, -1);
        Check.errorAtMark("tour t{rest @0000900;}", 1);
        holds("000012 = 12");
        holds("999999 - 999998 = 1");
        holds("100000 / 10 = 10000");
    }

    private static void symbols() {
        Check.sentence("Symbols: { } ( ) [ ] ; , + - * / < > = <= >=");
        Check.errorAtMark("tour t{if[(1)+-2*3/4<min(5,6)]and 1<2 and 1>2 and 1=2 and 1<=2 and 1>=2{go @a;}}", 3);
        for (String wrong : new String[] {"==", "=<", "=>", "<>", "><", "<<", ">>"}) {
            Check.error("tour t{if 1" + wrong + "2{}}", 1, 12);
        }
        for (int sign = 0; sign < 256; sign++) {
            if ("{}()[];,+-*/<>=".indexOf(sign) < 0 && !isLetter(sign) && !isDigit(sign) && !isBlank(sign)) {
                Check.error("tour t{if 1" + (char) sign + "2{}}", 1, 11);
            }
        }
        for (String sign : new String[] {"+", "-", "*", "/"}) {
            Check.error("tour t{if 1" + sign + "2<3{}}", 0, -1);
            Check.error("tour t{if 1<2" + sign + "3{}}", 0, -1);
        }
        for (String sign : new String[] {"<", ">", "=", "<=", ">="}) {
            Check.error("tour t{if 1" + sign + "2{}}", 0, -1);
        }
    }

    private static void keywords() {
        Check.sentence("All other words are names.");
        for (String keyword : KEYWORDS) {
            Check.errorAtMark("room @" + keyword + ";", 1);
            Check.errorAtMark("room a;part @" + keyword + " in a 1;", 1);
            Check.errorAtMark("tour @" + keyword + "{}", 1);
            String shorter = keyword.substring(0, keyword.length() - 1);
            for (String name : new String[] {keyword + "s", keyword + "0", "x" + keyword, shorter}) {
                Check.error("room " + name + ";part " + name + " in " + name + " 1;tour " + name + "{go " + name
                    + ";play " + name + ";}tour u{call " + name + ";}", 0, -1);
            }
        }
        Check.errorAtMark("room a;@rooms b;", 1);
    }

    // ---- 1. The language: grammar

    private static void noneOrMany() {
        Check.sentence("[ x ] outside of quotation marks means x or nothing, { x } x any number of times, also none");
        Check.error("", 0, -1);
        Check.error("tour t{}", 0, -1);
        Check.error("tour t{if 1<2{}}", 0, -1);
        Check.error("tour t{if 1<2{}else{}}", 0, -1);
        Check.errorAtMark("tour t{if 1<2{}else{}@else{}}", 1);
        Check.error("tour t{repeat 1{}}", 0, -1);
        String room = "room a;part o in a 1;";
        for (String needs : new String[] {"", " needs o", " needs o,o", " needs o,o,o"}) {
            for (String whom : new String[] {"", " for all", " for child", " for expert"}) {
                for (String worth : new String[] {"", " worth 0"}) {
                    Check.error(room + "part p in a 1" + needs + whom + worth + ";", 0, -1);
                }
            }
        }
        Check.errorAtMark(room + "part p in a 1 needs o @needs o;", 1);
        Check.errorAtMark(room + "part p in a 1 for all @for all;", 1);
        Check.errorAtMark(room + "part p in a 1 worth 0 @worth 0;", 1);
        Check.error("tour t{if 1<2 or 1<2 or 1<2 and 1<2 and 1<2 and 1<2{}}", 0, -1);
        Check.error("tour t{if 1+1-1+1-1*1/1*1/1<1{}}", 0, -1);
    }

    /** So many of an opening (and its end) are no error, with one more it is told at its sign. */
    private static void atMost(int most, String before, String word, String sign, String inner, String end, String behind) {
        Check.error(before + (word + sign).repeat(most) + inner + end.repeat(most) + behind, 0, -1);
        Check.errorAtMark(before + (word + sign).repeat(most) + word + "@" + sign + inner + end.repeat(most + 1) + behind, 1);
    }

    private static void depthOfEach() {
        Check.sentence("It is 0 at the beginning, and 1 greater between a { and its }, a ( and its ), a [ and its ], "
            + "behind a - in front (of a value) for what it turns, and behind a not for what it turns.");
        atMost(7, "tour t{", "repeat 1", "{", "", "}", "}");
        atMost(7, "tour t{", "if 1<2", "{", "", "}", "}");
        Check.error("tour t{" + "if 1<2{}else{".repeat(7) + "}".repeat(8), 0, -1);
        Check.errorAtMark("tour t{" + "if 1<2{}else{".repeat(7) + "if 1<2@{}else{}" + "}".repeat(8), 1);
        atMost(7, "tour t{if ", "", "(", "1", ")", "<2{}}");
        atMost(7, "tour t{if 1<", "", "(", "1", ")", "{}}");
        atMost(7, "tour t{if 1<2 and 1<2+3*", "", "(", "1", ")", "{}}");
        atMost(7, "tour t{if ", "", "[", "1<2", "]", "{}}");
        atMost(7, "tour t{if 1<2 or ", "", "[", "1<2", "]", "{}}");
        atMost(7, "tour t{if ", "", "-", "1", "", "<2{}}");
        atMost(7, "tour t{if 1<2-", "", "-", "1", "", "{}}");
        atMost(7, "tour t{if ", "", "not ", "1<2", "", "{}}");
        atMost(7, "tour t{if 1<2 and ", "", "not ", "1<2", "", "{}}");
        atMost(7, "tour t{if ", "min", "(", "1", ",2)", "<2{}}");
        atMost(7, "tour t{if ", "max", "(1,", "2", ")", "<2{}}");
    }

    private static void depthOfMixtures() {
        Check.sentence("It may be at most 8.");
        // In each of these blocks the depth is 7.
        String before = "tour t{if 1<2{repeat 1{if 1<2{}else{repeat 1{repeat 1{if 1<2{";
        String behind = "}}}}}}}";
        atMost(1, before + "if ", "", "(", "1", ")", "<2{}" + behind);
        atMost(1, before + "if 1<2{}if 1<", "", "-", "1", "", "{}" + behind);
        atMost(1, before + "if ", "", "[", "1<2", "]", "{}" + behind);
        atMost(1, before + "if ", "", "not ", "1<2", "", "{}" + behind);
        atMost(1, before + "if 1<", "min", "(", "1", ",1)", "{}" + behind);
        atMost(1, before, "repeat 1", "{", "", "}", behind);
        atMost(1, before, "if 1<2", "{", "", "}", behind);
        atMost(3, "tour t{if ", "not ", "[", "1<2", "]", "and 1<2{}}");
        atMost(1, "tour t{if not[not[-(", "", "-", "1", "", ")<2]]{}}");
        atMost(2, "tour t{if -min(1,-(-", "", "(", "1", ")", "))<2{}}");
        atMost(5, "tour t{if not 1<2 and[not", "", "(", "1", ")", "<2]or 1<2{}}");
    }

    private static void depthBehindEach() {
        Check.sentence("1 greater between a { and its }, a ( and its ), a [ and its ]");
        Check.error("tour t{" + "repeat 1{}".repeat(9) + "if 1<2{}else{}".repeat(9) + "}tour u{}", 0, -1);
        atMost(7, "tour s{" + "repeat 1{}".repeat(9) + "}tour t{if 1<2{}", "repeat 1", "{", "", "}", "}");
        atMost(7, "tour t{if (1)*(1)+(1)-(1)/", "", "(", "1", ")", "<2{}}");
        atMost(7, "tour t{if (1)<(1)and ", "", "(", "1", ")", "<2{}}");
        atMost(7, "tour t{if [1<2]and[1<2]or ", "", "[", "1<2", "]", "{}}");
        atMost(7, "tour t{if min(1,2)+max(1,2)<", "min", "(", "1", ",2)", "{}}");
        Check.sentence("behind a - in front (of a value) for what it turns, and behind a not for what it turns");
        atMost(7, "tour t{if -1*-1+-1--1/", "", "-", "1", "", "<2{}}");
        atMost(7, "tour t{if -(-1)+-min(-1,-1)<", "", "-", "1", "", "{}}");
        // A - between two values is none in front of one.
        Check.error("tour t{if 1" + "-1".repeat(20) + "<2{}}", 0, -1);
        atMost(7, "tour t{if not 1<2 and not[1<2]or not not 1<2 and ", "", "not ", "1<2", "", "{}}");
        // What not turns has both sides of a comparison in it, and no and or or.
        atMost(6, "tour t{if not ", "", "(", "1", ")", "<2{}}");
        atMost(6, "tour t{if not 1<", "", "(", "1", ")", "{}}");
        atMost(7, "tour t{if not 1<2 and ", "", "(", "1", ")", "<2{}}");
        atMost(7, "tour t{if not 1<2 or 1<", "", "(", "1", ")", "{}}");
        // What - turns is one value.
        atMost(7, "tour t{if -1*", "", "(", "1", ")", "<2{}}");
        atMost(7, "tour t{if -1<", "", "(", "1", ")", "{}}");
    }

    /** Looks at each token behind a beginning: those that may follow are not error 1, all others are. */
    private static void follow(String beginning, String tokens) {
        for (String token : KEYWORDS) {
            followedBy(beginning, token, tokens);
        }
        for (String token : OTHER_TOKENS) {
            followedBy(beginning, token, tokens);
        }
        MuseumGuide guide = new MuseumGuide();
        boolean ends = tokens.contains(" END ");
        Check.same("error 1 at the end of " + beginning, Check.teach(guide, beginning) == 1, !ends);
        if (!ends) {
            Check.same("its place", guide.errorAt(), beginning.length());
        }
    }

    private static void followedBy(String beginning, String token, String tokens) {
        MuseumGuide guide = new MuseumGuide();
        String text = beginning + " " + token;
        boolean follows = tokens.contains(" " + token + " ");
        boolean isWrong = Check.teach(guide, text) == 1 && guide.errorAt() != text.length();
        Check.same("error 1 ahead of the end of " + text, isWrong, !follows);
        if (!follows) {
            Check.same("its place", guide.errorAt(), text.length() - token.length());
        }
    }

    private static void firstWrongToken() {
        Check.sentence("Error 1: the first token with which the tokens so far are not the beginning of a text.");
        follow("", THINGS);
        follow("room", " x ");
        follow("room a", " ; ");
        follow("room a ;", THINGS);
        follow("door", " x ");
        follow("door a", " x ");
        follow("door a b", " 1 ");
        follow("door a b 1", " ; ");
        follow("door a b 1 ;", THINGS);
        follow("part", " x ");
        follow("part p", " in ");
        follow("part p in", " x ");
        follow("part p in a", " 1 ");
        follow("part p in a 1", " needs for worth ; ");
        follow("part p in a 1 needs", " x ");
        follow("part p in a 1 needs o", " , for worth ; ");
        follow("part p in a 1 needs o ,", " x ");
        follow("part p in a 1 needs o , o", " , for worth ; ");
        follow("part p in a 1 for", " all child expert ");
        follow("part p in a 1 for all", " worth ; ");
        follow("part p in a 1 for child", " worth ; ");
        follow("part p in a 1 for expert", " worth ; ");
        follow("part p in a 1 worth", " 1 ");
        follow("part p in a 1 needs o for all worth 1", " ; ");
        follow("part p in a 1 ;", THINGS);
        follow("tour", " x ");
        follow("tour t", " { ");
        follow("tour t { }", THINGS);
        follow("tour t {", SENTENCES);
        follow("tour t { go", " x ");
        follow("tour t { go a", " ; ");
        follow("tour t { go a ;", SENTENCES);
        follow("tour t { play", " x ");
        follow("tour t { play p", " ; ");
        follow("tour t { play p ;", SENTENCES);
        follow("tour t { rest", " 1 ");
        follow("tour t { rest 1", " ; ");
        follow("tour t { rest 1 ;", SENTENCES);
        follow("tour t { call", " x ");
        follow("tour t { call u", " ; ");
        follow("tour t { call u ;", SENTENCES);
        follow("tour t { repeat", " 1 ");
        follow("tour t { repeat 1", " { ");
        follow("tour t { repeat 1 {", SENTENCES);
        follow("tour t { repeat 1 { }", SENTENCES);
    }

    private static void firstWrongTokenInTours() {
        Check.sentence("the tokens so far are not the beginning of a text");
        String start = "tour t { if ";
        follow("tour t { if", SINGLES);
        follow(start + "not", SINGLES);
        follow(start + "[", SINGLES);
        follow(start + "1 < 2 and", SINGLES);
        follow(start + "1 < 2 or", SINGLES);
        follow(start + "heard", " x ");
        follow(start + "heard p", " and or { ");
        follow(start + "[ heard p", " and or ] ");
        follow(start + "[ heard p ]", " and or { ");
        follow(start + "not open", " x ");
        follow(start + "not open a", " and or { ");
        follow(start + "1", SIGNS + COMPARISONS);
        for (String value : new String[] {"time", "left", "tired", "pace", "worth", "( 1 )", "- 1", "min ( 1 , 1 )"}) {
            follow(start + value, SIGNS + COMPARISONS);
            follow(start + "1 < " + value, SIGNS + " and or { ");
            follow(start + "[ 1 < " + value, SIGNS + " and or ] ");
            follow(start + "( 1 * " + value, SIGNS + " ) ");
            follow(start + "max ( 1 + " + value, SIGNS + " , ");
            follow(start + "max ( 1 , " + value, SIGNS + " ) ");
        }
        for (String sign : new String[] {"<", ">", "=", "<=", ">=", "+", "-", "*", "/", "< 2 +", "< 2 *"}) {
            follow(start + "1 " + sign, VALUES);
        }
        follow(start + "-", VALUES);
        follow(start + "(", VALUES);
        follow(start + "min", " ( ");
        follow(start + "max", " ( ");
        follow(start + "min (", VALUES);
        follow(start + "min ( 1 ,", VALUES);
        follow(start + "1 < 2 {", SENTENCES);
        follow(start + "1 < 2 { }", SENTENCES + " else ");
        follow(start + "1 < 2 { } else", " { ");
        follow(start + "1 < 2 { } else {", SENTENCES);
        follow(start + "1 < 2 { } else { }", SENTENCES);
        follow(start + "1 < 2 { go a ; } go a ;", SENTENCES);
    }

    private static void wrongBytes() {
        Check.sentence("This includes a byte with which no token begins");
        for (int sign = 0; sign < 256; sign++) {
            if ("{}()[];,+-*/<>=".indexOf(sign) < 0 && !isLetter(sign) && !isDigit(sign) && !isBlank(sign)) {
                Check.error("room a; " + (char) sign, 1, 8);
                Check.error("room " + (char) sign + ";", 1, 5);
                Check.error("room a;tour t{" + (char) sign + "}", 1, 14);
            }
        }
        // The first one is told, and a wrong token ahead of it is told first.
        Check.errorAtMark("room a; @! room b; ?", 1);
        Check.errorAtMark("room @; ?", 1);
    }

    private static void tooLong() {
        Check.sentence("a word or number that is too long");
        Check.errorAtMark("room a;@roomroomroo a;", 1);
        Check.errorAtMark("room @abcdefghij0;", 1);
        Check.errorAtMark("room a;room b;door a b @0000001;", 1);
        Check.errorAtMark("room a;room b;door a b @1000000;", 1);
        Check.errorAtMark("room a @abcdefghijk", 1);
        Check.errorAtMark("room @1234567", 1);
        Check.errorAtMark("room @1 abcdefghijk;", 1);
    }

    private static void endOfTheTape() {
        Check.sentence("the end of the tape (at its length)");
        String[] tokens = ("room a ; room b ; door a b 1 ; part o in a 1 ; part p in b 2 needs o , o for expert "
            + "worth 3 ; tour t { go a ; play p ; rest 1 ; } tour u { call t ; if not [ heard p or open a ] and "
            + "1 + - ( time * left ) <= min ( tired / pace , worth ) { repeat 2 { } } else { } }").split(" ");
        StringBuilder text = new StringBuilder();
        int depth = 0;
        for (String token : tokens) {
            text.append(token);
            depth += token.equals("{") ? 1 : token.equals("}") ? -1 : 0;
            boolean ends = depth == 0 && (token.equals(";") || token.equals("}"));
            Check.error(text.toString(), ends ? 0 : 1, ends ? -1 : text.length());
            text.append(' ');
            Check.error(text.toString(), ends ? 0 : 1, ends ? -1 : text.length());
        }
        // Blanks and line ends belong to the length.
        Check.error("room\n\n", 1, 6);
        Check.error("room   ", 1, 7);
    }

    private static void depthIsError1() {
        Check.sentence("the {, (, [, - or not behind which the depth would be 9");
        String[] signs = {"(", "[", "-", "not "};
        String before = "tour t{if " + "not ".repeat(7);
        for (String sign : signs) {
            Check.error(before + sign, 1, before.length());
        }
        String blocks = "tour t{" + "repeat 1{".repeat(7) + "repeat 1";
        Check.error(blocks + "{", 1, blocks.length());
        // It is told ahead of the errors that names and numbers have.
        Check.errorAtMark("room a;room a;" + before + "@not heard x{}}", 1);
        // Without the ninth it is no error, and the tokens behind it are looked at.
        Check.errorAtMark(before + "1<2 @1", 1);
        // A sign that can't stand there is wrong for itself, at the same place.
        Check.errorAtMark(before + "1<2@(", 1);
    }

    private static void token401() {
        Check.sentence("and the token that would be the 401st (the end of the tape not counted)");
        String full = "tour t{" + "rest 1;".repeat(132) + "}";
        Check.error(full, 0, -1);
        Check.error(full + " \n ", 0, -1);
        for (String more : new String[] {"room", "tour", "x", "1", ";", "}", "?", "abcdefghijk", "1234567", "<="}) {
            Check.error(full + more, 1, full.length());
            Check.error(full + "\n " + more + " ;;;", 1, full.length() + 2);
        }
        // 400 tokens that are not a whole text: the end of the tape is told, or the 401st.
        String open = full.substring(0, full.length() - 1) + "if";
        Check.error(open, 1, open.length());
        Check.error(open + " 1", 1, open.length() + 1);
        // A token that is wrong ahead of the 401st is told first.
        Check.errorAtMark(full.substring(0, full.length() - 1) + "@; ;", 1);
        // The 401st token is told ahead of the errors of names and numbers.
        Check.errorAtMark("room a;room a;tour t{" + "rest 0;".repeat(130) + "}@room", 1);
        Check.errorAtMark("room a;room @a;tour t{" + "rest 0;".repeat(130) + "}", 2);
    }

    private static void placeOfTheFirstByte() {
        Check.sentence("The position is that of its first byte.");
        Check.errorAtMark("room a; @roomy", 1);
        Check.errorAtMark("tour t { if 1 @123456", 1);
        Check.errorAtMark("tour t { if 1 < 2 @<= 3", 1);
        Check.errorAtMark("room ab; room @ab;", 2);
        Check.errorAtMark("room ab; part p in ab @000901;", 5);
    }

    // ---- 1. The language: names and numbers

    private static void namesOnlyWithoutError1() {
        Check.sentence("Only if there is no error 1, names and numbers are looked at");
        Check.errorAtMark("room a;room a;@;", 1);
        Check.errorAtMark("door x y 1;room@", 1);
        Check.errorAtMark("room a;door a a 999;tour t{@x}", 1);
        Check.errorAtMark("tour t{rest 0;go x;}room r@", 1);
        Check.errorAtMark("room a;room a;@?", 1);
    }

    private static void leftToRight() {
        Check.sentence("from left to right, and the first error is told, at its token");
        Check.errorAtMark("room a;room @a;door x y 0;", 2);
        Check.errorAtMark("room a;door @x a 0;room a;", 3);
        Check.errorAtMark("room a;door a @x 0;room a;", 3);
        Check.errorAtMark("room a;door a @a 0;room a;", 6);
        Check.errorAtMark("room a;room b;door a b @0;room a;", 5);
        Check.errorAtMark("room a;part p in @x 0 needs p worth 100;", 3);
        Check.errorAtMark("room a;part p in a @0 needs p worth 100;", 5);
        Check.errorAtMark("room a;part p in a 1 needs @p worth 100;", 3);
        Check.errorAtMark("room a;part p in a 1 worth @100;part p in x 0;", 5);
        Check.errorAtMark("room a;part p in a 1;part @p in x 0;", 2);
        Check.errorAtMark("tour t{repeat @10{rest 0;go x;}}tour t{}", 5);
        Check.errorAtMark("tour t{repeat 9{rest @0;go x;}}tour t{}", 5);
        Check.errorAtMark("tour t{repeat 9{rest 1;go @x;}}tour t{}", 3);
        Check.errorAtMark("tour t{repeat 9{rest 1;}}tour @t{go x;}", 2);
        Check.errorAtMark("tour t{if heard @x or open y{rest 0;}}", 3);
    }

    private static String rooms(int number) {
        StringBuilder rooms = new StringBuilder();
        for (int k = 0; k < number; k++) {
            rooms.append("room r").append(k).append(';');
        }
        return rooms.toString();
    }

    private static String parts(int number) {
        StringBuilder parts = new StringBuilder("room a;");
        for (int k = 0; k < number; k++) {
            parts.append("part p").append(k).append(" in a 1;");
        }
        return parts.toString();
    }

    private static String tours(int number) {
        StringBuilder tours = new StringBuilder();
        for (int k = 0; k < number; k++) {
            tours.append("tour t").append(k).append("{}");
        }
        return tours.toString();
    }

    private static void smallestNumber() {
        Check.sentence("of errors at one token the one with the smallest number");
        Check.errorAtMark(rooms(12) + "room @r0;", 2);
        Check.errorAtMark(rooms(12) + "room @r11;", 2);
        Check.errorAtMark(parts(16) + "part @p0 in a 1;", 2);
        Check.errorAtMark(parts(16) + "part @p15 in a 1;", 2);
        Check.errorAtMark(tours(6) + "tour @t0{}", 2);
        Check.errorAtMark(tours(6) + "tour @t5{}", 2);
        String doors = rooms(2) + "door r0 r1 1;".repeat(24);
        Check.errorAtMark(doors + "door @x r1 1;", 3);
        Check.errorAtMark(doors + "door @r0 x 1;", 4);
        Check.errorAtMark(doors + "door @r0 r0 1;", 4);
    }

    private static void toldTwice() {
        Check.sentence("Error 2: the name behind room, part or tour is that of a room, a part or a tour "
            + "(of the same sort) told ahead.");
        Check.errorAtMark("room a;room @a;", 2);
        Check.errorAtMark("room a;room b;room c;room @b;", 2);
        Check.errorAtMark("room abcdefghij;room @abcdefghij;", 2);
        Check.errorAtMark("room a;part p in a 1;part q in a 1;part @p in a 1;", 2);
        Check.errorAtMark("tour t{}tour u{}tour @t{}", 2);
        Check.errorAtMark("tour t{}tour u{}tour @u{}", 2);
        // Another sort has names of its own.
        Check.error("room a;part a in a 1;tour a{go a;play a;}", 0, -1);
        Check.error("tour a{}room a;part a in a 1;", 0, -1);
        // A name that is the beginning of another, or the other way round, is another name.
        Check.error("room a;room ab;room abc;room b;", 0, -1);
        Check.error("room abc;room ab;room a;", 0, -1);
        Check.error("room a;part pp in a 1;part p in a 1;tour tt{}tour t{}", 0, -1);
        Check.error("room abcdefghij;room abcdefghi;room abcdefghii;room bbcdefghij;", 0, -1);
    }

    private static void notTold() {
        Check.sentence("Error 3: another name is none of what it has to be, told ahead: both names behind door, the one "
            + "behind in, go and open of a room, those behind needs, play and heard of a part");
        // r is a room, p a part, u a tour; x is none of them.
        String told = "room r;room s;part p in r 1;tour u{}";
        String[] notRooms = {"p", "u", "x", "rr"};
        for (String name : notRooms) {
            Check.errorAtMark(told + "door @" + name + " r 1;", 3);
            Check.errorAtMark(told + "door r @" + name + " 1;", 3);
            Check.errorAtMark(told + "part q in @" + name + " 1;", 3);
            Check.errorAtMark(told + "tour v{go @" + name + ";}", 3);
            Check.errorAtMark(told + "tour v{if open @" + name + "{}}", 3);
        }
        String[] notParts = {"r", "u", "x", "pp"};
        for (String name : notParts) {
            Check.errorAtMark(told + "part q in r 1 needs @" + name + ";", 3);
            Check.errorAtMark(told + "part q in r 1 needs p,@" + name + ",p;", 3);
            Check.errorAtMark(told + "tour v{play @" + name + ";}", 3);
            Check.errorAtMark(told + "tour v{if heard @" + name + "{}}", 3);
        }
        String[] notTours = {"r", "p", "x", "uu"};
        for (String name : notTours) {
            Check.errorAtMark(told + "tour v{call @" + name + ";}", 3);
        }
        Check.error(told + "door r s 1;door s r 1;part q in s 1 needs p;tour v{go r;go s;play p;play q;call u;"
            + "if open s and heard q{}}", 0, -1);
    }

    private static void notToldAhead() {
        Check.sentence("(behind needs: ahead of its own one), the one behind call of a tour (ahead of its own one)");
        Check.errorAtMark("room r;part p in r 1 needs @p;", 3);
        Check.errorAtMark("room r;part o in r 1;part p in r 1 needs o,@p;", 3);
        Check.errorAtMark("room r;part p in r 1 needs @q;part q in r 1;", 3);
        Check.error("room r;part o in r 1;part p in r 1 needs o;part q in r 1 needs p,o;", 0, -1);
        Check.errorAtMark("tour t{call @t;}", 3);
        Check.errorAtMark("tour s{}tour t{call s;repeat 1{call @t;}}", 3);
        Check.errorAtMark("tour t{call @u;}tour u{}", 3);
        Check.error("tour s{}tour t{call s;}tour u{call t;call s;}", 0, -1);
        // What is told behind is not told ahead.
        Check.errorAtMark("room r;door r @s 1;room s;", 3);
        Check.errorAtMark("part p in @r 1;room r;", 3);
        Check.errorAtMark("tour t{go @r;}room r;", 3);
        Check.errorAtMark("tour t{if open @r{}}room r;", 3);
        Check.errorAtMark("room r;tour t{play @p;}part p in r 1;", 3);
        Check.errorAtMark("room r;tour t{if heard @p{}}part p in r 1;", 3);
    }

    private static void tooMany() {
        Check.sentence("Error 4: the name behind room of the 13th room, the first name behind door of the 25th door, "
            + "the name behind part of the 17th part, or behind tour of the 7th tour.");
        Check.error(rooms(12), 0, -1);
        Check.errorAtMark(rooms(12) + "room @r12;", 4);
        Check.errorAtMark(rooms(12) + "room @r12;room r13;", 4);
        String doors = rooms(2) + "door r0 r1 1;".repeat(24);
        Check.error(doors, 0, -1);
        Check.errorAtMark(doors + "door @r0 r1 1;", 4);
        Check.error(parts(16), 0, -1);
        Check.errorAtMark(parts(16) + "part @p16 in a 1;", 4);
        Check.error(tours(6), 0, -1);
        Check.errorAtMark(tours(6) + "tour @t6{}", 4);
        // All of them at once.
        String all = rooms(12) + "door r0 r11 1;".repeat(24) + parts(16).substring(7).replace("in a", "in r11") + tours(6);
        MuseumGuide guide = Check.taught(all);
        int[] due = {12, 24, 16, 6};
        for (int what = 0; what < 4; what++) {
            Check.same("count(" + what + ") at most", guide.count(what), due[what]);
        }
    }

    private static void range(String before, String behind, int least, int most) {
        for (int number : new int[] {least, least + 1, most - 1, most}) {
            Check.error(before + number + behind, 0, -1);
        }
        Check.error(before + "00" + most + behind, 0, -1);
        for (int number : new int[] {least - 1, most + 1, most + 256, 65536 + most, 999999}) {
            if (number >= 0) {
                Check.errorAtMark(before + "@" + number + behind, 5);
            }
        }
    }

    private static void numbersOutOfRange() {
        Check.sentence("Error 5: a number is out of its range: behind the names of a door (its steps) 1 to 200, of a part "
            + "(its length) 1 to 900, behind worth 0 to 99, behind rest 1 to 900, behind repeat 0 to 9.");
        range("room a;room b;door a b ", ";", 1, 200);
        range("room a;part p in a ", ";", 1, 900);
        range("room a;part p in a 1 worth ", ";", 0, 99);
        range("tour t{rest ", ";}", 1, 900);
        range("tour t{repeat ", "{}}", 0, 9);
        // A number in a sum has no range of its own.
        Check.error("tour t{if 0<999999 and worth<999999 and worth+0<100{}}", 0, -1);
    }

    private static void doorToItself() {
        Check.sentence("Error 6: the second name behind door is the first one.");
        Check.errorAtMark("room a;door a @a 1;", 6);
        Check.errorAtMark("room a;room b;door a b 1;door b @b 1;", 6);
        Check.errorAtMark("room a;room b;door a @a 0;", 6);
        Check.error("room a;room aa;door a aa 1;door aa a 1;", 0, -1);
    }

    private static void order() {
        Check.sentence("Rooms, doors, parts and tours are numbered from 0 in the order in which they are told.");
        MuseumGuide guide = Check.taught("tour t{rest 1;}room z;part y in z 1;room a;tour s{rest 2;}part b in a 2;"
            + "door z a 7;part c in z 3 needs b;tour r{call t;}");
        guide.come(5, 100, 0);
        int[][] parts = {{0, 1, 1, 0, 0}, {1, 2, 1, 0, 0}, {0, 3, 1, 0, 2}};
        for (int part = 0; part < 3; part++) {
            for (int what = 0; what < 5; what++) {
                Check.same("part(" + part + ", " + what + ")", guide.part(part, what), parts[part][what]);
            }
        }
        int[] seconds = {1, 2, 1};
        for (int tour = 0; tour < 3; tour++) {
            guide.visit(0, tour, 0, 0, 100);
            Check.same("second behind tour " + tour, guide.latest(0), seconds[tour]);
        }
        guide.close(0, 0, 10);
        Check.same("way to the first room", guide.way(1, 0, 0), -1);
        Check.same("way to the second room", guide.way(0, 1, 0), 7);
    }

    private static void withoutForAndWorth() {
        Check.sentence("A part without for is for all, without worth it has the worth 1.");
        MuseumGuide guide = Check.taught("room a;part p in a 1;part q in a 1 for all;part r in a 1 worth 0;"
            + "part s in a 1 for child;part t in a 1 for expert worth 99;part u in a 1 needs p;");
        int[] worths = {1, 1, 0, 1, 99, 1};
        int[] kinds = {0, 0, 0, 1, 2, 0};
        for (int part = 0; part < 6; part++) {
            Check.same("worth of part " + part, guide.part(part, 2), worths[part]);
            Check.same("whom part " + part + " is for", guide.part(part, 3), kinds[part]);
        }
        // Nothing stays of the parts that were told before.
        Check.same("teach() once more", Check.teach(guide, "room a;part p in a 1;part q in a 1;part r in a 1;"
            + "part s in a 1;part t in a 1;part u in a 1;"), 0);
        for (int part = 0; part < 6; part++) {
            Check.same("worth of part " + part + " once more", guide.part(part, 2), 1);
            Check.same("whom part " + part + " is for once more", guide.part(part, 3), 0);
            Check.same("needs of part " + part + " once more", guide.part(part, 4), 0);
        }
    }

    // ---- promises 1 to 7

    private static void newObject() {
        Check.sentence("Creates a composer without rooms and visitors.");
        MuseumGuide guide = new MuseumGuide();
        for (int what = 0; what < 8; what++) {
            Check.same("count(" + what + ")", guide.count(what), 0);
        }
        Check.same("errorAt()", guide.errorAt(), -1);
        Check.same("share()", guide.share(), 0.0);
        Check.index("part(0, 0)", () -> guide.part(0, 0));
        Check.index("close(0, 0, 1)", () -> guide.close(0, 0, 1));
        Check.index("reopen(0)", () -> guide.reopen(0));
        Check.index("isOpen(0, 0)", () -> guide.isOpen(0, 0));
        Check.index("way(0, 0, 0)", () -> guide.way(0, 0, 0));
        Check.index("visitor(0, 0)", () -> guide.visitor(0, 0));
        Check.index("visit(0, 0, 0, 0, 1)", () -> guide.visit(0, 0, 0, 0, 1));
        Check.state("latest(0)", () -> guide.latest(0));
        Check.index("event(0, 0)", () -> guide.event(0, 0));
        Check.index("heard(0)", () -> guide.heard(0));
        Check.index("begins(0, 0, 0, 0, 1)", () -> guide.begins(0, 0, 0, 0, 1));
        Check.index("needs(0, 0, 0, 0, 0)", () -> guide.needs(0, 0, 0, 0, 0));
        Check.index("compose(0, 0, 0, 1)", () -> guide.compose(0, 0, 0, 1));
        Check.index("byteAt(0)", () -> guide.byteAt(0));
        Check.index("best(0, 0, 0, 1)", () -> guide.best(0, 0, 0, 1));
        Check.argument("trim(1)", () -> guide.trim(1));
        // 691 * 31^8, with nothing added.
        Check.same("digest()", guide.digest(), 691 * 852891037441L);
        MuseumGuide other = new MuseumGuide();
        other.feed(1, 2, 3, 4, 5);
        other.come(1, 10, 0);
        Check.same("bytes of the one, behind a feed() of another", guide.count(5), 0);
        Check.same("visitors of the one, behind a come() of another", guide.count(4), 0);
    }

    private static void feed() {
        Check.sentence("Appends twenty bytes to the tape: the four bytes of each number, the highest one first.");
        // Of twenty blanks one is another byte, and told where it is.
        for (int place = 0; place < 20; place++) {
            for (int sign : new int[] {'?', 0, 127, 128, 255}) {
                MuseumGuide guide = new MuseumGuide();
                Check.feed(guide, " ".repeat(place) + (char) sign + " ".repeat(19 - place));
                Check.same("teach() with the byte " + sign + " at " + place, guide.teach(), 1);
                Check.same("its place", guide.errorAt(), place);
            }
        }
        Check.sentence("Returns the number of bytes of the tape.");
        MuseumGuide guide = new MuseumGuide();
        Check.is("feed() of zeros", () -> guide.feed(0, 0, 0, 0, 0), 20);
        Check.is("feed() of the greatest numbers", () -> guide.feed(2147483647, 2147483647, 2147483647, 2147483647,
            2147483647), 40);
        Check.is("feed() of the least numbers", () -> guide.feed(-2147483648, -2147483648, -2147483648, -2147483648,
            -2147483648), 60);
        guide.trim(1);
        Check.is("feed() behind trim(1)", () -> guide.feed(0, 0, 0, 0, 0), 21);
    }

    private static void fullTape() {
        Check.sentence("if there would be more than 2000");
        MuseumGuide guide = new MuseumGuide();
        for (int k = 1; k <= 100; k++) {
            Check.same("feed() the " + k + "th time", guide.feed(0x20202020, 0x20202020, 0x20202020, 0x20202020,
                0x20202020), 20 * k);
        }
        Check.state("feed() behind 2000", () -> guide.feed(0, 0, 0, 0, 0));
        for (int bytes : new int[] {1999, 1990, 1981}) {
            guide.trim(bytes);
            Check.state("feed() behind " + bytes, () -> guide.feed(0, 0, 0, 0, 0));
            Check.same("bytes behind it", guide.count(5), bytes);
        }
        guide.trim(1980);
        Check.is("feed() behind 1980", () -> guide.feed(0x20202020, 0x20202020, 0x20202020, 0x20202020, 0x20202020), 2000);
        Check.state("feed() behind 2000 once more", () -> guide.feed(0, 0, 0, 0, 0));
        Check.same("teach() of blanks alone: nothing else was fed", guide.teach(), 0);
        guide.feed(0, 0, 0, 0, 0);
        guide.trim(0);
        Check.is("feed() behind trim(0)", () -> guide.feed(0, 0, 0, 0, 0), 20);
    }

    private static void trim() {
        Check.sentence("Shortens the tape to its first bytes.");
        String text = "room a;room b;room c;room d;room e;room f;";
        for (int bytes = 0; bytes <= text.length(); bytes++) {
            MuseumGuide guide = new MuseumGuide();
            Check.feed(guide, text);
            int kept = bytes;
            Check.is("trim(" + kept + ")", () -> guide.trim(kept), kept);
            Check.same("bytes behind trim(" + kept + ")", guide.count(5), kept);
            Check.same("teach() of " + kept + " bytes", guide.teach(), kept % 7 == 0 ? 0 : 1);
            Check.same("rooms of " + kept + " bytes", guide.count(0), kept % 7 == 0 ? kept / 7 : 0);
        }
        // What is cut is gone, also behind a feed().
        MuseumGuide guide = new MuseumGuide();
        Check.feed(guide, text);
        guide.trim(7);
        guide.feed(0x20202020, 0x20202020, 0x20202020, 0x20202020, 0x20202020);
        Check.same("teach() of the first bytes and blanks", guide.teach(), 0);
        Check.same("rooms of the first bytes", guide.count(0), 1);
    }

    private static void wrongTrims() {
        Check.sentence("if n is not 0 to the number of bytes of the tape");
        MuseumGuide guide = new MuseumGuide();
        Check.is("trim(0) of none", () -> guide.trim(0), 0);
        Check.argument("trim(1) of none", () -> guide.trim(1));
        Check.argument("trim(-1) of none", () -> guide.trim(-1));
        guide.feed(0x726f6f6d, 0x20613b20, 0x20202020, 0x20202020, 0x20202020);
        for (int n : new int[] {-2147483648, -20, -1, 21, 40, 2000, 2147483647}) {
            Check.argument("trim(" + n + ") of 20", () -> guide.trim(n));
            Check.same("bytes behind it", guide.count(5), 20);
        }
        Check.is("trim(20) of 20", () -> guide.trim(20), 20);
        Check.is("trim(19) of 20", () -> guide.trim(19), 19);
        Check.argument("trim(20) of 19", () -> guide.trim(20));
        Check.same("teach() behind them", guide.teach(), 0);
        Check.same("rooms behind them", guide.count(0), 1);
    }

    /** A guide that has been asked for everything: its latest visit heard a part, its paper has a line. */
    private static MuseumGuide used() {
        MuseumGuide guide = Check.taught("room a;room b;door a b 3;part p in a 5 worth 7;tour t{play p;go b;}");
        guide.come(5, 100, 0);
        guide.close(1, 50, 60);
        guide.visit(0, 0, 0, 20, 100);
        guide.compose(0, 0, 20, 100);
        return guide;
    }

    private static void taughtInThePlace() {
        Check.sentence("Reads the tape as a text, in the place of what was told before; "
            + "the latest visit is as if there was none, the paper stays.");
        String[] texts = {"room c;part q in c 9;", "", "room a;room b;door a b 3;part p in a 5 worth 7;tour t{play p;go b;}"};
        int[][] due = {{1, 0, 1, 0}, {0, 0, 0, 0}, {2, 1, 1, 1}};
        for (int k = 0; k < texts.length; k++) {
            MuseumGuide guide = used();
            String paper = Check.paper(guide);
            Check.same("teach() of " + texts[k], Check.teach(guide, texts[k]), 0);
            for (int what = 0; what < 4; what++) {
                Check.same("count(" + what + ")", guide.count(what), due[k][what]);
            }
            Check.same("visitors", guide.count(4), 1);
            Check.same("events", guide.count(7), 0);
            Check.state("latest(0)", () -> guide.latest(0));
            Check.index("event(0, 0)", () -> guide.event(0, 0));
            Check.same("share()", guide.share(), 0.0);
            for (int part = 0; part < due[k][2]; part++) {
                Check.same("heard(" + part + ")", guide.heard(part), false);
            }
            Check.same("paper", Check.paper(guide), paper);
            for (int room = 0; room < due[k][0]; room++) {
                Check.same("isOpen(" + room + ", 55)", guide.isOpen(room, 55), true);
                Check.same("closings of room " + room, guide.reopen(room), 0);
            }
        }
    }

    // Each of these texts has the same names, and tells everything else in another way.
    private static final String[] TEXTS = {
        "room a;room b;door a b 3;part p in a 5 worth 7;part q in b 6 needs p for child;tour t{play p;go b;play q;}",
        "room b;room a;room c;door c b 9;door a b 4;door c a 2;part q in a 8 for expert worth 0;part p in b 2;"
            + "tour s{rest 2;}tour t{if not heard p and 1<2{repeat 2{call s;}}else{rest 1;}go a;go c;}",
        "room c;part p in c 9 for child;tour t{rest 7;}",
        "",
        "room a;room b;room c;door a c 1;door b c 1;part p in c 3;part q in c 4;part r in a 1 needs p,q worth 9;"
            + "tour t{go c;play q;play p;go a;play r;}tour s{call t;}"};

    /** What a guide that was just taught tells of its text. */
    private static String told(MuseumGuide guide) {
        StringBuilder told = new StringBuilder().append(guide.digest());
        for (int tour = 0; tour < guide.count(3); tour++) {
            for (int visitor = 0; visitor < 2; visitor++) {
                told.append(' ').append(guide.visit(visitor, tour, 0, 0, 1000)).append(", ").append(Check.events(guide));
            }
        }
        for (int room = 0; room < guide.count(0); room++) {
            told.append(' ').append(guide.compose(0, room, 0, 1000)).append(Check.paper(guide));
        }
        return told.toString();
    }

    private static MuseumGuide withTwo() {
        MuseumGuide guide = new MuseumGuide();
        guide.come(5, 100, 0);
        guide.come(9, 10, 1);
        return guide;
    }

    private static void taughtOften() {
        Check.sentence("in the place of what was told before");
        for (int first = 0; first < TEXTS.length; first++) {
            for (int step = 0; step < TEXTS.length; step++) {
                MuseumGuide guide = withTwo();
                for (int k = 0; k < 4; k++) {
                    String text = TEXTS[(first + k * step) % TEXTS.length];
                    Check.same("teach() of " + text, Check.teach(guide, text), 0);
                }
                MuseumGuide fresh = withTwo();
                Check.teach(fresh, TEXTS[(first + 3 * step) % TEXTS.length]);
                Check.same("all behind four texts", told(guide), told(fresh));
            }
        }
    }

    private static void taughtBehindErrors() {
        Check.sentence("Reads the tape as a text");
        // Wherever a text has its error, the next one is read from its beginning.
        String deep = "tour d{" + "repeat 1{".repeat(6) + "if -1<2{}}}}}}}}";
        for (String text : TEXTS) {
            for (int cut = 0; cut < text.length(); cut += 3) {
                MuseumGuide guide = withTwo();
                Check.teach(guide, TEXTS[1]);
                Check.same("teach() with an error", Check.teach(guide, text.substring(0, cut) + "?" + text.substring(cut)), 1);
                Check.teach(guide, text.substring(0, cut) + " x0 ");
                Check.teach(guide, "tour t{if not[[(-(min(1,2");
                Check.teach(guide, TEXTS[0] + "tour u{go x;}");
                Check.same("teach() behind errors", Check.teach(guide, TEXTS[4] + deep), 0);
                MuseumGuide fresh = withTwo();
                Check.teach(fresh, TEXTS[4] + deep);
                Check.same("all behind errors", told(guide), told(fresh));
            }
        }
        // However many errors there were in the deepest blocks.
        MuseumGuide guide = withTwo();
        for (int k = 0; k < 50; k++) {
            Check.same("teach() with an error", Check.teach(guide, "tour t{" + "if 1<2{".repeat(1 + k % 7)), 1);
        }
        Check.same("teach() behind 50 errors", Check.teach(guide, TEXTS[1] + deep), 0);
        MuseumGuide fresh = withTwo();
        Check.teach(fresh, TEXTS[1] + deep);
        Check.same("all behind 50 errors", told(guide), told(fresh));
    }

    private static void taughtWithError() {
        Check.sentence("If it has an error, all stays (but the tape is empty).");
        String[] texts = {"room c;?", "room c;room c;", "room c;door c x 1;", rooms(13), "room c;part q in c 901;",
            "room c;door c c 1;"};
        for (int error = 1; error <= 6; error++) {
            MuseumGuide guide = used();
            long digest = guide.digest();
            String latest = Check.latest(guide);
            String events = Check.events(guide);
            Check.same("teach() with error " + error, Check.teach(guide, texts[error - 1]), error);
            Check.same("tape", guide.count(5), 0);
            Check.same("digest()", guide.digest(), digest);
            Check.same("latest", Check.latest(guide), latest);
            Check.same("events", Check.events(guide), events);
            Check.same("heard(0)", guide.heard(0), true);
            Check.same("share()", guide.share(), 1.0);
            Check.same("isOpen(1, 55)", guide.isOpen(1, 55), false);
            Check.same("isOpen(1, 60)", guide.isOpen(1, 60), true);
            Check.same("visit() of the tour that stays", guide.visit(0, 0, 0, 20, 100), 7);
            Check.same("latest of it", Check.latest(guide), latest);
            Check.same("compose() behind it", guide.compose(0, 0, 20, 100), 7);
            Check.same("digest() behind it", guide.digest(), digest);
        }
    }

    private static void errors() {
        Check.sentence("Returns 0, or the error, 1 to 6.");
        String[] texts = {"room a;", "room", "room a;room a;", "part p in a 1;", tours(7), "tour t{rest 0;}",
            "room a;door a a 1;"};
        int[] places = {-1, 4, 12, 10, 59, 12, 14};
        for (int error = 0; error <= 6; error++) {
            Check.error(texts[error], error, places[error]);
        }
    }

    private static void errorAt() {
        Check.sentence("Returns the position of the error of the latest teach(); -1 if it had none, or there was none.");
        MuseumGuide guide = new MuseumGuide();
        Check.same("errorAt() without a teach()", guide.errorAt(), -1);
        Check.teach(guide, "  ;");
        Check.same("errorAt() of error 1", guide.errorAt(), 2);
        Check.feed(guide, "room a;");
        Check.same("errorAt() behind a feed()", guide.errorAt(), 2);
        Check.argument("a call that is refused", () -> guide.trim(99));
        Check.same("errorAt() behind it", guide.errorAt(), 2);
        guide.teach();
        Check.same("errorAt() of no error", guide.errorAt(), -1);
        Check.teach(guide, "room a;room a;");
        Check.same("errorAt() of error 2", guide.errorAt(), 12);
        Check.teach(guide, ";");
        Check.same("errorAt() of an error at 0", guide.errorAt(), 0);
        guide.teach();
        Check.same("errorAt() of an empty tape", guide.errorAt(), -1);
    }

    private static void count() {
        Check.sentence("if what is not 0 to 7");
        MuseumGuide guide = used();
        Check.feed(guide, "xyz");
        int[] due = {2, 1, 1, 1, 1, 3, 12 + 15 + 2, 2};
        for (int what = 0; what < 8; what++) {
            Check.same("count(" + what + ")", guide.count(what), due[what]);
        }
        for (int what : new int[] {-2147483648, -1, 8, 256, 2147483647}) {
            Check.index("count(" + what + ")", () -> guide.count(what));
        }
    }

    private static void part() {
        Check.sentence("if there is no such part, or what is not 0 to 4");
        MuseumGuide guide = Check.taught(parts(15) + "part last in a 900 needs p0,p1,p2,p3,p4,p5,p6,p7,p8,p9,p10,p11,p12,"
            + "p13,p14 for expert worth 99;");
        int[] due = {0, 900, 99, 2, 32767};
        for (int what = 0; what < 5; what++) {
            Check.same("part(15, " + what + ")", guide.part(15, what), due[what]);
        }
        for (int part : new int[] {-2147483648, -1, 16, 2147483647}) {
            Check.index("part(" + part + ", 0)", () -> guide.part(part, 0));
            Check.index("part(" + part + ", 5)", () -> guide.part(part, 5));
        }
        for (int what : new int[] {-2147483648, -1, 5, 2147483647}) {
            Check.index("part(0, " + what + ")", () -> guide.part(0, what));
            Check.index("part(15, " + what + ")", () -> guide.part(15, what));
        }
    }
}
