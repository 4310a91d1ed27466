import java.util.Objects;

/** What the tests share: comparing answers, counting the wrong ones, and feeding texts. */
final class Check {
    private static int checks = 0;
    private static int wrong = 0;
    // The sentence of the document that is looked at, and how many answers were when it began.
    private static String sentence = "";
    private static int checksBefore = 0;

    private Check() {
    }

    /** A call that may throw. */
    interface Call {
        Object run();
    }

    /** From here on wrong answers are told with this sentence of the document. */
    static void sentence(String words) {
        endSentence();
        sentence = words;
        checksBefore = checks;
    }

    private static void endSentence() {
        if (!sentence.isEmpty() && checks == checksBefore) {
            wrong++;
            System.out.println("no answer looked at for: " + sentence);
        }
    }

    static void same(String what, Object got, Object due) {
        checks++;
        if (!Objects.equals(got, due)) {
            wrong++;
            System.out.println(what + " answered " + got + ", due is " + due
                + (sentence.isEmpty() ? "" : " (" + sentence + ")"));
        }
    }

    static void is(String what, Call call, Object due) {
        same(what, answer(call), due);
    }

    static void index(String what, Call call) {
        same(what, answer(call), "throws.IndexOutOfBoundsException");
    }

    static void argument(String what, Call call) {
        same(what, answer(call), "throws.IllegalArgumentException");
    }

    static void state(String what, Call call) {
        same(what, answer(call), "throws.IllegalStateException");
    }

    /** Returns the answer, or the name of the exception that was thrown. */
    static Object answer(Call call) {
        try {
            return call.run();
        } catch (RuntimeException e) {
            return "throws." + e.getClass().getSimpleName();
        }
    }

    /** Puts the text on the empty tape, with bytes 0 behind it cut away. */
    static void feed(MuseumGuide guide, String text) {
        guide.trim(0);
        for (int at = 0; at < text.length(); at += 20) {
            guide.feed(four(text, at), four(text, at + 4), four(text, at + 8), four(text, at + 12), four(text, at + 16));
        }
        guide.trim(text.length());
    }

    static int four(String text, int at) {
        int number = 0;
        for (int index = at; index < at + 4; index++) {
            number = number << 8 | (index < text.length() ? text.charAt(index) & 255 : 0);
        }
        return number;
    }

    static int teach(MuseumGuide guide, String text) {
        feed(guide, text);
        return guide.teach();
    }

    static MuseumGuide taught(String text) {
        MuseumGuide guide = new MuseumGuide();
        same("teach() of " + text, teach(guide, text), 0);
        return guide;
    }

    /** The error of a text, and where it is; tells whether a later part of it changed anything. */
    static void error(String text, int error, int place) {
        MuseumGuide guide = taught("room kept;");
        same("teach() of " + text, teach(guide, text), error);
        same("errorAt() behind " + text, guide.errorAt(), place);
        if (error != 0) {
            same("rooms behind " + text, guide.count(0), 1);
            same("parts behind " + text, guide.count(2), 0);
        }
        same("tape behind " + text, guide.count(5), 0);
    }

    /** An error whose place is where the mark @ stands in the text. */
    static void errorAtMark(String marked, int error) {
        int place = marked.indexOf('@');
        error(marked.substring(0, place) + marked.substring(place + 1), error, place);
    }

    static String paper(MuseumGuide guide) {
        StringBuilder paper = new StringBuilder();
        for (int index = 0; index < guide.count(6); index++) {
            paper.append((char) guide.byteAt(index));
        }
        return paper.toString();
    }

    /** "what second subject" of each event of the latest visit, with commas between. */
    static String events(MuseumGuide guide) {
        StringBuilder events = new StringBuilder();
        for (int index = 0; index < guide.count(7); index++) {
            events.append(index == 0 ? "" : ", ");
            events.append(guide.event(index, 0)).append(' ');
            events.append(guide.event(index, 1)).append(' ').append(guide.event(index, 2));
        }
        return events.toString();
    }

    /** What latest() tells, 0 to 9, with blanks between. */
    static String latest(MuseumGuide guide) {
        StringBuilder latest = new StringBuilder();
        for (int what = 0; what < 10; what++) {
            latest.append(what == 0 ? "" : " ").append(guide.latest(what));
        }
        return latest.toString();
    }

    static void finish(String test) {
        endSentence();
        System.out.println(test + ": " + checks + " answers, " + wrong + " wrong");
        if (wrong > 0 || checks == 0) {
            System.exit(1);
        }
    }
}
