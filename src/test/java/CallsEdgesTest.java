import java.util.ArrayList;
import java.util.List;

/** What the document says of all calls: those that are refused, those with several faults, and how many there are. */
public final class CallsEdgesTest {
    private static final String TEXT = "room a;room b;room c;door a b 10;door b c 4;part p in a 30 worth 5;"
        + "part q in b 20 needs p worth 7;part r in c 9 for child;part s in a 8;tour t{play p;go b;play q;go c;rest 30;}"
        + "tour u{repeat 9{repeat 9{repeat 9{go a;go b;go c;}}}}";
    private static final String MORE_PARTS = "part v in a 1;part w in b 2;part x in c 3;";
    private static final String INDEX = "throws.IndexOutOfBoundsException";
    private static final String ARGUMENT = "throws.IllegalArgumentException";
    private static final String STATE = "throws.IllegalStateException";

    private CallsEdgesTest() {
    }

    public static void main(String[] args) {
        refused();
        refusedWithoutVisit();
        firstNamed();
        manyCalls();
        dearCalls();
        Check.finish("CallsEdgesTest");
    }

    /** A call on a guide. */
    private interface Ask {
        Object of(MuseumGuide guide);
    }

    /** A guide with a visit, a paper, an error, closed rooms and 4 parts. */
    private static MuseumGuide used() {
        MuseumGuide guide = Check.taught(TEXT);
        Check.teach(guide, "room a; ?");
        guide.come(5, 30, 0);
        guide.come(9, 100, 1);
        guide.close(1, 100, 200);
        guide.close(2, 0, 50);
        guide.visit(0, 0, 0, 30, 1000);
        guide.compose(1, 0, 0, 100);
        Check.feed(guide, "room e;room f;");
        return guide;
    }

    /** One whose tape is full, with 8 visitors, a room that is closed 4 times, and 7 parts. */
    private static MuseumGuide full() {
        MuseumGuide guide = Check.taught(TEXT + MORE_PARTS);
        Check.teach(guide, "room a;room a;");
        for (int kind = 0; kind < 8; kind++) {
            guide.come(5, 30 + kind, kind % 3);
        }
        for (int times = 0; times < 4; times++) {
            guide.close(0, 500 * times + 40, 500 * times + 90);
        }
        guide.visit(0, 0, 0, 0, 50);
        guide.compose(1, 0, 0, 100);
        Check.feed(guide, "room e;room f;" + " ".repeat(1986));
        return guide;
    }

    /** One without a visit, a paper, a tape and an error. */
    private static MuseumGuide fresh() {
        MuseumGuide guide = Check.taught(TEXT);
        guide.come(5, 30, 0);
        return guide;
    }

    /** All that a guide answers, also behind more visits, and what its tape tells. */
    private static String told(MuseumGuide guide) {
        List<Object> told = new ArrayList<>();
        for (int what = 0; what < 8; what++) {
            told.add(guide.count(what));
        }
        told.add(guide.errorAt());
        told.add(guide.digest());
        told.add(guide.share());
        told.add(Check.paper(guide));
        told.add(Check.events(guide));
        for (int part = 0; part < guide.count(2); part++) {
            told.add(guide.heard(part));
        }
        for (int room = 0; room < guide.count(0); room++) {
            for (int second : new int[] {0, 5, 40, 49, 50, 89, 90, 99, 100, 199, 200, 540, 1040, 1540, 2040}) {
                told.add(guide.isOpen(room, second));
                told.add(guide.way(room, 2, second));
            }
        }
        told.add(guide.begins(0, 0, 0, 0, 1000));
        told.add(guide.needs(0, 0, 0, 90, 12));
        told.add(Check.answer(() -> guide.best(0, 0, 90, 1000)));
        told.add(guide.visit(0, 0, 0, 90, 1000));
        told.add(Check.latest(guide));
        told.add(guide.compose(0, 0, 90, 1000));
        told.add(guide.digest());
        for (int room = 0; room < guide.count(0); room++) {
            told.add(guide.reopen(room));
        }
        told.add(Check.answer(() -> guide.come(9, 10, 0)));
        told.add(guide.teach());
        told.add(guide.errorAt());
        told.add(guide.digest());
        return told.toString();
    }

    private static void refuse(String what, Object due, Ask call) {
        MuseumGuide used = used();
        Check.same(what, Check.answer(() -> call.of(used)), due);
        Check.same("all behind " + what, told(used), told(used()));
    }

    private static void refuseFull(String what, Object due, Ask call) {
        MuseumGuide full = full();
        Check.same(what + " of a full guide", Check.answer(() -> call.of(full)), due);
        Check.same("all behind " + what + " of a full guide", told(full), told(full()));
    }

    private static void refused() {
        Check.sentence("A method that throws an exception changes nothing.");
        refuseFull("feed()", STATE, g -> g.feed(-1, 2, 3, 4, 5));
        refuse("trim(-1)", ARGUMENT, g -> g.trim(-1));
        refuse("trim(15)", ARGUMENT, g -> g.trim(15));
        refuseFull("trim(2001)", ARGUMENT, g -> g.trim(2001));
        refuse("count(8)", INDEX, g -> g.count(8));
        refuse("part(4, 0)", INDEX, g -> g.part(4, 0));
        refuse("part(0, 5)", INDEX, g -> g.part(0, 5));
        refuse("close(3, 0, 1)", INDEX, g -> g.close(3, 0, 1));
        refuse("close(-1, 0, 1)", INDEX, g -> g.close(-1, 0, 1));
        refuse("close(0, -1, 1)", ARGUMENT, g -> g.close(0, -1, 1));
        refuse("close(0, 5, 5)", ARGUMENT, g -> g.close(0, 5, 5));
        refuse("close(0, 5, 100001)", ARGUMENT, g -> g.close(0, 5, 100001));
        refuseFull("close(0, 5, 6)", STATE, g -> g.close(0, 5, 6));
        refuse("reopen(3)", INDEX, g -> g.reopen(3));
        refuse("reopen(-1)", INDEX, g -> g.reopen(-1));
        refuse("isOpen(3, 0)", INDEX, g -> g.isOpen(3, 0));
        refuse("isOpen(0, -1)", ARGUMENT, g -> g.isOpen(0, -1));
        refuse("way(0, 3, 0)", INDEX, g -> g.way(0, 3, 0));
        refuse("way(0, 1, 200001)", ARGUMENT, g -> g.way(0, 1, 200001));
        refuse("come(0, 100, 0)", ARGUMENT, g -> g.come(0, 100, 0));
        refuse("come(5, 9, 0)", ARGUMENT, g -> g.come(5, 9, 0));
        refuse("come(5, 100, 3)", ARGUMENT, g -> g.come(5, 100, 3));
        refuseFull("come(5, 100, 0)", STATE, g -> g.come(5, 100, 0));
        refuse("visitor(2, 0)", INDEX, g -> g.visitor(2, 0));
        refuse("latest(10)", INDEX, g -> g.latest(10));
        refuse("event(99, 0)", INDEX, g -> g.event(99, 0));
        refuse("event(0, 3)", INDEX, g -> g.event(0, 3));
        refuse("heard(4)", INDEX, g -> g.heard(4));
        refuse("byteAt(-1)", INDEX, g -> g.byteAt(-1));
        refuse("byteAt(999)", INDEX, g -> g.byteAt(999));
        refuseVisits();
    }

    private static void refuseVisits() {
        refuse("visit(2, ..)", INDEX, g -> g.visit(2, 0, 0, 0, 100));
        refuse("visit(0, 2, ..)", INDEX, g -> g.visit(0, 2, 0, 0, 100));
        refuse("visit(0, 0, 3, ..)", INDEX, g -> g.visit(0, 0, 3, 0, 100));
        refuse("visit(0, 0, 0, 90001, 100)", ARGUMENT, g -> g.visit(0, 0, 0, 90001, 100));
        refuse("visit(0, 0, 0, 0, 0)", ARGUMENT, g -> g.visit(0, 0, 0, 0, 0));
        refuse("visit(0, 0, 0, 0, 20001)", ARGUMENT, g -> g.visit(0, 0, 0, 0, 20001));
        refuse("begins(2, ..)", INDEX, g -> g.begins(2, 0, 0, 0, 100));
        refuse("begins(0, 2, ..)", INDEX, g -> g.begins(0, 2, 0, 0, 100));
        refuse("begins(0, 0, 3, ..)", INDEX, g -> g.begins(0, 0, 3, 0, 100));
        refuse("begins(0, 0, 0, -1, 100)", ARGUMENT, g -> g.begins(0, 0, 0, -1, 100));
        refuse("begins(0, 0, 0, 0, 20001)", ARGUMENT, g -> g.begins(0, 0, 0, 0, 20001));
        refuse("needs(2, ..)", INDEX, g -> g.needs(2, 0, 0, 0, 100));
        refuse("needs(0, 2, ..)", INDEX, g -> g.needs(0, 2, 0, 0, 100));
        refuse("needs(0, 0, 3, ..)", INDEX, g -> g.needs(0, 0, 3, 0, 100));
        refuse("needs(0, 0, 0, 90001, 100)", ARGUMENT, g -> g.needs(0, 0, 0, 90001, 100));
        refuse("needs(0, 0, 0, 0, 2001)", ARGUMENT, g -> g.needs(0, 0, 0, 0, 2001));
        refuse("compose(2, ..)", INDEX, g -> g.compose(2, 0, 0, 100));
        refuse("compose(0, 3, ..)", INDEX, g -> g.compose(0, 3, 0, 100));
        refuse("compose(0, 0, 90001, 100)", ARGUMENT, g -> g.compose(0, 0, 90001, 100));
        refuse("compose(0, 0, 0, 0)", ARGUMENT, g -> g.compose(0, 0, 0, 0));
        refuse("best(2, ..)", INDEX, g -> g.best(2, 0, 0, 100));
        refuse("best(0, 3, ..)", INDEX, g -> g.best(0, 3, 0, 100));
        refuse("best(0, 0, -1, 100)", ARGUMENT, g -> g.best(0, 0, -1, 100));
        refuse("best(0, 0, 0, 20001)", ARGUMENT, g -> g.best(0, 0, 0, 20001));
        refuseFull("best(0, 0, 0, 100)", STATE, g -> g.best(0, 0, 0, 100));
    }

    private static void refusedWithoutVisit() {
        Check.sentence("changes nothing");
        Ask[] calls = {g -> g.latest(0), g -> g.latest(9), g -> g.event(0, 0), g -> g.byteAt(0), g -> g.trim(1),
            g -> g.visit(0, 0, 0, 0, 0), g -> g.visit(0, 0, 9, 0, 5), g -> g.compose(0, 0, 0, 0)};
        Object[] due = {STATE, STATE, INDEX, INDEX, ARGUMENT, ARGUMENT, INDEX, ARGUMENT};
        for (int k = 0; k < calls.length; k++) {
            MuseumGuide fresh = fresh();
            Ask call = calls[k];
            Check.same("call " + k + " without a visit", Check.answer(() -> call.of(fresh)), due[k]);
            Check.state("latest(0) behind call " + k, () -> fresh.latest(0));
            Check.same("all behind call " + k, told(fresh), told(fresh()));
        }
    }

    private static void firstNamed() {
        Check.sentence("If several exceptions apply, the one that is named first is thrown.");
        MuseumGuide guide = full();
        Check.index("close() of no room, with wrong seconds", () -> guide.close(3, 6, 5));
        Check.argument("close() with wrong seconds the 5th time", () -> guide.close(0, 6, 5));
        Check.state("close() the 5th time", () -> guide.close(0, 5, 6));
        Check.index("isOpen() of no room, in no second", () -> guide.isOpen(3, -1));
        Check.index("way() from no room, in no second", () -> guide.way(3, 0, -1));
        Check.index("way() to no room, in no second", () -> guide.way(0, 3, -1));
        Check.argument("come() of a wrong ninth", () -> guide.come(0, 30, 0));
        Check.state("come() of a ninth", () -> guide.come(5, 30, 0));
        Check.index("visit() of no visitor, in no second", () -> guide.visit(8, 0, 0, -1, 0));
        Check.index("visit() of no tour, in no second", () -> guide.visit(0, 2, 0, -1, 0));
        Check.index("visit() from no room, in no second", () -> guide.visit(0, 0, 3, -1, 0));
        Check.index("begins() of no visitor, in no time", () -> guide.begins(8, 0, 0, 0, 0));
        Check.index("begins() of no tour, in no time", () -> guide.begins(0, 2, 0, 0, 0));
        Check.index("begins() from no room, in no time", () -> guide.begins(0, 0, 3, 0, 0));
        Check.index("needs() of no visitor, of no worth", () -> guide.needs(8, 0, 0, 0, -1));
        Check.index("needs() of no tour, of no worth", () -> guide.needs(0, 2, 0, 0, -1));
        Check.index("needs() from no room, of no worth", () -> guide.needs(0, 0, 3, 0, -1));
        Check.index("compose() of no visitor, in no time", () -> guide.compose(8, 0, 0, 0));
        Check.index("compose() from no room, in no time", () -> guide.compose(0, 3, 0, 0));
        Check.index("best() of no visitor, in no time, of too many parts", () -> guide.best(8, 0, 0, 0));
        Check.index("best() from no room, of too many parts", () -> guide.best(0, 3, 0, 100));
        Check.argument("best() in no time, of too many parts", () -> guide.best(0, 0, 0, 0));
        Check.argument("best() in no second, of too many parts", () -> guide.best(0, 0, -1, 100));
        Check.state("best() of too many parts", () -> guide.best(0, 0, 0, 100));
        MuseumGuide fresh = fresh();
        Check.index("latest(10) without a visit", () -> fresh.latest(10));
        Check.state("latest(9) without a visit", () -> fresh.latest(9));
    }

    private static void manyCalls() {
        Check.sentence("An object is used for at most 512 calls after it has been made");
        MuseumGuide guide = new MuseumGuide();
        // Each turn takes 8 calls: the text of 20 bytes is told, and asked for, 64 times.
        for (int turn = 0; turn < 64; turn++) {
            String name = String.valueOf((char) ('a' + turn % 26));
            String text = "room " + name + "; tour t { }   ";
            Check.same("feed() in turn " + turn, guide.feed(Check.four(text, 0), Check.four(text, 4), Check.four(text, 8),
                Check.four(text, 12), Check.four(text, 16)), 20);
            Check.same("teach() in turn " + turn, guide.teach(), 0);
            Check.same("come() in turn " + turn, Check.answer(() -> guide.come(5, 100, 0)), turn < 8 ? turn : STATE);
            Check.same("close() in turn " + turn, guide.close(0, 5, 6), 1);
            Check.same("visit() in turn " + turn, guide.visit(0, 0, 0, turn, 5), 0);
            Check.same("latest(0) in turn " + turn, guide.latest(0), turn);
            Check.same("compose() in turn " + turn, guide.compose(0, 0, 0, 5), 0);
            Check.same("count(6) in turn " + turn, guide.count(6), 14);
        }
        MuseumGuide refusals = new MuseumGuide();
        for (int call = 0; call < 512; call++) {
            Check.index("part(0, 0), call " + call, () -> refusals.part(0, 0));
        }
    }

    private static void dearCalls() {
        Check.sentence("An object is used for at most 512 calls");
        MuseumGuide guide = Check.taught(TEXT);
        guide.come(9, 10, 0);
        int before = (TEXT.length() + 19) / 20 + 4;
        long digest = 0;
        for (int call = before; call + 6 <= 512; call += 6) {
            Check.same("begins(), call " + call, guide.begins(0, 1, 0, 90000, 20000), 90000);
            Check.same("needs(), call " + call, guide.needs(0, 1, 0, 90000, 2000), -1);
            Check.same("visit(), call " + call, guide.visit(0, 1, 0, 90000, 20000), 0);
            Check.same("best(), call " + call, guide.best(0, 0, 90000, 20000), 13);
            Check.same("compose(), call " + call, guide.compose(0, 0, 90000, 20000), 13);
            long now = guide.digest();
            Check.same("digest(), call " + call, now, call == before ? now : digest);
            digest = now;
        }
    }
}
