import java.util.ArrayList;
import java.util.Arrays;
import java.util.HashMap;
import java.util.List;
import java.util.Map;
import java.util.Set;
import java.util.function.IntSupplier;
import java.util.function.Predicate;
import java.util.function.ToIntFunction;

/**
 * The document once more, written in another way than the program (with the whole Java library:
 * recursive descent, trees of functions, lists of orders), for comparing answers.
 */
final class Oracle {
    private static final Set<String> KEYWORDS = Set.of("room", "door", "part", "in", "needs", "for",
        "worth", "all", "child", "expert", "tour", "go", "play", "rest", "if", "else", "repeat", "call",
        "heard", "open", "time", "left", "tired", "pace", "not", "and", "or", "min", "max");

    private record Token(char kind, String text, int at) {
    }

    private record Door(int from, int to, int steps) {
    }

    private static final class Part {
        int room;
        int length;
        int worth = 1;
        int kind;
        int needs;
    }

    private record Event(int what, int second, int subject) {
    }

    private record Visitor(int pace, int stamina, int kind) {
    }

    private interface Sentence {
        void run(Visit visit);
    }

    private static final class World {
        final List<String> rooms = new ArrayList<>();
        final List<Door> doors = new ArrayList<>();
        final List<String> partNames = new ArrayList<>();
        final List<Part> parts = new ArrayList<>();
        final List<String> tourNames = new ArrayList<>();
        final List<List<Sentence>> tours = new ArrayList<>();
        final Map<Integer, List<int[]>> closed = new HashMap<>();

        boolean open(int room, int second) {
            return closed.getOrDefault(room, List.of()).stream().noneMatch(c -> c[0] <= second && second < c[1]);
        }

        int way(int from, int to, int second) {
            int far = 1 << 20;
            int[] best = new int[rooms.size()];
            boolean[] done = new boolean[rooms.size()];
            Arrays.fill(best, far);
            best[from] = 0;
            while (true) {
                int here = -1;
                for (int r = 0; r < best.length; r++) {
                    if (!done[r] && best[r] < far && (here < 0 || best[r] < best[here])) {
                        here = r;
                    }
                }
                if (here < 0) {
                    return best[to] == far ? -1 : best[to];
                }
                done[here] = true;
                for (Door d : doors) {
                    if (d.from == here && open(d.to, second)) {
                        best[d.to] = Math.min(best[d.to], best[here] + d.steps);
                    }
                    if (d.to == here && open(d.from, second)) {
                        best[d.from] = Math.min(best[d.from], best[here] + d.steps);
                    }
                }
            }
        }
    }

    private static final class Early extends RuntimeException {
        private static final long serialVersionUID = 1L;
    }

    private static final class Visit implements Cloneable {
        World world;
        Visitor visitor;
        int end;
        int now;
        int room;
        int tired;
        long steps;
        int rests;
        int misses;
        int sentences;
        boolean early;
        List<Integer> heard = new ArrayList<>();
        List<Event> events = new ArrayList<>();

        Visit copy() {
            Visit v = new Visit();
            v.world = world;
            v.visitor = visitor;
            v.end = end;
            v.now = now;
            v.room = room;
            v.tired = tired;
            v.heard = new ArrayList<>(heard);
            return v;
        }

        int worth() {
            return heard.stream().mapToInt(p -> world.parts.get(p).worth).sum();
        }

        void check() {
            if (now >= end || sentences == 300) {
                throw new Early();
            }
            sentences++;
        }

        void go(int to) {
            if (to == room) {
                return;
            }
            int way = world.way(room, to, now);
            if (way == -1) {
                misses++;
                events.add(new Event(4, now, to));
                return;
            }
            now += way * 12 / visitor.pace;
            tired += way;
            steps += way;
            room = to;
            events.add(new Event(0, now, to));
            if (tired > visitor.stamina) {
                now += 60;
                tired = visitor.stamina / 2;
                rests++;
                events.add(new Event(3, now, 60));
            }
        }

        void play(int number) {
            Part p = world.parts.get(number);
            boolean missed = room != p.room || !world.open(p.room, now) || heard.contains(number)
                || p.kind == 1 && visitor.kind != 1 || p.kind == 2 && visitor.kind != 2;
            for (int k = 0; k < 16; k++) {
                missed |= (p.needs & 1 << k) != 0 && !heard.contains(k);
            }
            if (missed) {
                misses++;
                events.add(new Event(4, now, number));
            } else {
                now += p.length;
                heard.add(number);
                events.add(new Event(1, now, number));
            }
        }

        void rest(int seconds) {
            now += seconds;
            tired -= seconds / 10;
            if (tired < 0) {
                tired = 0;
            }
            events.add(new Event(2, now, seconds));
        }

        /** The visit behind going to the part and hearing it, or null. */
        Visit with(int number) {
            Visit v = copy();
            v.go(world.parts.get(number).room);
            v.play(number);
            return v.misses > 0 || v.now > end ? null : v;
        }
    }

    // ---- reading

    private static final class Wrong extends RuntimeException {
        private static final long serialVersionUID = 1L;
        final int place;

        Wrong(int place) {
            this.place = place;
        }
    }

    private record NameCheck(Token token, IntSupplier check) {
    }

    private static final class Reader {
        final String tape;
        final World world = new World();
        final List<NameCheck> checks = new ArrayList<>();
        int at;
        int tokens;
        int depth;
        Token next;

        Reader(String tape) {
            this.tape = tape;
            advance();
        }

        void advance() {
            while (at < tape.length() && " \n".indexOf(tape.charAt(at)) >= 0) {
                at++;
            }
            if (at == tape.length()) {
                next = new Token('$', "", at);
                return;
            }
            tokens++;
            String rest = tape.substring(at);
            String word = rest.replaceFirst("(?s)^([a-z][a-z0-9]*|[0-9]+|<=|>=|[{}()\\[\\];,+*/<>=-])?.*$", "$1");
            char kind = word.isEmpty() || tokens > 400 ? '?'
                : word.matches("[a-z].*") ? word.length() > 10 ? '?' : KEYWORDS.contains(word) ? 'k' : 'n'
                : word.matches("[0-9]+") ? word.length() > 6 ? '?' : '0' : 's';
            next = new Token(kind, word, at);
            at += word.length();
        }

        boolean sees(String word) {
            return (next.kind == 'k' || next.kind == 's') && next.text.equals(word);
        }

        boolean accept(String word) {
            if (!sees(word)) {
                return false;
            }
            advance();
            return true;
        }

        void expect(String word) {
            if (!accept(word)) {
                throw new Wrong(next.at);
            }
        }

        void deeper(String word) {
            if (!sees(word) || ++depth > 8) {
                throw new Wrong(next.at);
            }
            advance();
        }

        Token token(char kind) {
            if (next.kind != kind) {
                throw new Wrong(next.at);
            }
            Token token = next;
            advance();
            return token;
        }

        /** A number that has to be in a range. */
        int number(int least, int most) {
            Token token = token('0');
            int number = Integer.parseInt(token.text);
            checks.add(new NameCheck(token, () -> number < least || number > most ? 5 : 0));
            return number;
        }

        int[] use(List<String> names, boolean aheadOfOwn) {
            Token token = token('n');
            int[] found = {-1};
            checks.add(new NameCheck(token, () -> {
                found[0] = names.subList(0, names.size() - (aheadOfOwn ? 1 : 0)).indexOf(token.text);
                return found[0] < 0 ? 3 : 0;
            }));
            return found;
        }

        void tell(List<String> names, int most) {
            Token token = token('n');
            checks.add(new NameCheck(token, () -> {
                if (names.contains(token.text)) {
                    return 2;
                }
                names.add(token.text);
                return names.size() > most ? 4 : 0;
            }));
        }

        void text() {
            while (next.kind != '$') {
                if (accept("room")) {
                    tell(world.rooms, 12);
                    expect(";");
                } else if (accept("door")) {
                    door();
                } else if (accept("part")) {
                    part();
                } else {
                    expect("tour");
                    tell(world.tourNames, 6);
                    world.tours.add(block());
                }
            }
        }

        void door() {
            int[] doors = {0};
            Token first = token('n');
            int[] from = {-1};
            checks.add(new NameCheck(first, () -> {
                from[0] = world.rooms.indexOf(first.text);
                doors[0] = world.doors.size();
                return from[0] < 0 ? 3 : doors[0] == 24 ? 4 : 0;
            }));
            Token second = token('n');
            int[] to = {-1};
            checks.add(new NameCheck(second, () -> {
                to[0] = world.rooms.indexOf(second.text);
                return to[0] < 0 ? 3 : to[0] == from[0] ? 6 : 0;
            }));
            Token last = next;
            int steps = number(1, 200);
            checks.add(new NameCheck(last, () -> {
                world.doors.add(new Door(from[0], to[0], steps));
                return 0;
            }));
            expect(";");
        }

        void part() {
            Part part = new Part();
            tell(world.partNames, 16);
            expect("in");
            Token place = next;
            int[] room = use(world.rooms, false);
            checks.add(new NameCheck(place, () -> {
                part.room = room[0];
                return 0;
            }));
            part.length = number(1, 900);
            if (accept("needs")) {
                do {
                    Token token = next;
                    int[] need = use(world.partNames, true);
                    checks.add(new NameCheck(token, () -> {
                        part.needs |= 1 << need[0];
                        return 0;
                    }));
                } while (accept(","));
            }
            if (accept("for")) {
                part.kind = accept("all") ? 0 : accept("child") ? 1 : 2;
                if (part.kind == 2) {
                    expect("expert");
                }
            }
            if (accept("worth")) {
                part.worth = number(0, 99);
            }
            expect(";");
            world.parts.add(part);
        }

        List<Sentence> block() {
            List<Sentence> block = new ArrayList<>();
            deeper("{");
            while (!sees("}")) {
                Sentence sentence = sentence();
                block.add(v -> {
                    v.check();
                    sentence.run(v);
                });
            }
            expect("}");
            depth--;
            return block;
        }

        static void run(List<Sentence> block, Visit visit) {
            for (Sentence sentence : block) {
                sentence.run(visit);
            }
        }

        Sentence sentence() {
            if (accept("if")) {
                Predicate<Visit> test = test();
                List<Sentence> yes = block();
                List<Sentence> no = accept("else") ? block() : List.of();
                return v -> run(test.test(v) ? yes : no, v);
            }
            if (accept("repeat")) {
                int times = number(0, 9);
                List<Sentence> block = block();
                return v -> {
                    for (int k = 0; k < times; k++) {
                        run(block, v);
                    }
                };
            }
            Sentence sentence;
            if (accept("go")) {
                int[] room = use(world.rooms, false);
                sentence = v -> v.go(room[0]);
            } else if (accept("play")) {
                int[] part = use(world.partNames, false);
                sentence = v -> v.play(part[0]);
            } else if (accept("call")) {
                int[] tour = use(world.tourNames, true);
                sentence = v -> run(world.tours.get(tour[0]), v);
            } else {
                expect("rest");
                int seconds = number(1, 900);
                sentence = v -> v.rest(seconds);
            }
            expect(";");
            return sentence;
        }

        Predicate<Visit> test() {
            Predicate<Visit> test = both();
            while (accept("or")) {
                test = test.or(both());
            }
            return test;
        }

        Predicate<Visit> both() {
            Predicate<Visit> test = single();
            while (accept("and")) {
                test = test.and(single());
            }
            return test;
        }

        Predicate<Visit> single() {
            if (sees("not")) {
                deeper("not");
                Predicate<Visit> turned = single();
                depth--;
                return turned.negate();
            }
            if (sees("[")) {
                deeper("[");
                Predicate<Visit> test = test();
                expect("]");
                depth--;
                return test;
            }
            if (accept("heard")) {
                int[] part = use(world.partNames, false);
                return v -> v.heard.contains(part[0]);
            }
            if (accept("open")) {
                int[] room = use(world.rooms, false);
                return v -> world.open(room[0], v.now);
            }
            ToIntFunction<Visit> left = sum();
            String sign = next.text;
            if (next.kind != 's' || !List.of("<", ">", "=", "<=", ">=").contains(sign)) {
                throw new Wrong(next.at);
            }
            advance();
            ToIntFunction<Visit> right = sum();
            return v -> {
                int order = Integer.compare(left.applyAsInt(v), right.applyAsInt(v));
                return order < 0 && sign.contains("<") || order > 0 && sign.contains(">")
                    || order == 0 && sign.contains("=");
            };
        }

        ToIntFunction<Visit> sum() {
            ToIntFunction<Visit> sum = product();
            while (sees("+") || sees("-")) {
                boolean plus = sees("+");
                advance();
                ToIntFunction<Visit> left = sum;
                ToIntFunction<Visit> right = product();
                sum = v -> (int) (left.applyAsInt(v) + (plus ? 1L : -1L) * right.applyAsInt(v));
            }
            return sum;
        }

        ToIntFunction<Visit> product() {
            ToIntFunction<Visit> product = value();
            while (sees("*") || sees("/")) {
                boolean times = sees("*");
                advance();
                ToIntFunction<Visit> left = product;
                ToIntFunction<Visit> right = value();
                product = v -> {
                    long a = left.applyAsInt(v);
                    long b = right.applyAsInt(v);
                    return (int) (times ? a * b : b == 0 ? 0 : a / b);
                };
            }
            return product;
        }

        ToIntFunction<Visit> value() {
            if (next.kind == '0') {
                int number = Integer.parseInt(token('0').text);
                return v -> number;
            }
            if (sees("-")) {
                deeper("-");
                ToIntFunction<Visit> value = value();
                depth--;
                return v -> (int) -(long) value.applyAsInt(v);
            }
            if (sees("(")) {
                deeper("(");
                ToIntFunction<Visit> sum = sum();
                expect(")");
                depth--;
                return sum;
            }
            if (sees("min") || sees("max")) {
                boolean min = sees("min");
                advance();
                deeper("(");
                ToIntFunction<Visit> a = sum();
                expect(",");
                ToIntFunction<Visit> b = sum();
                expect(")");
                depth--;
                return v -> min ? Math.min(a.applyAsInt(v), b.applyAsInt(v)) : Math.max(a.applyAsInt(v), b.applyAsInt(v));
            }
            String word = next.kind == 'k' ? next.text : "";
            if (!List.of("time", "left", "tired", "pace", "worth").contains(word)) {
                throw new Wrong(next.at);
            }
            advance();
            return v -> switch (word) {
                case "time" -> v.now;
                case "left" -> v.end - v.now;
                case "tired" -> v.tired;
                case "pace" -> v.visitor.pace;
                default -> v.worth();
            };
        }
    }

    // ---- the calls

    private String tape = "";
    private String paper = "";
    private World world = new World();
    private int errorAt = -1;
    private final List<Visitor> visitors = new ArrayList<>();
    private Visit latest;

    private static void index(boolean fits) {
        if (!fits) {
            throw new IndexOutOfBoundsException();
        }
    }

    private static void argument(boolean fits) {
        if (!fits) {
            throw new IllegalArgumentException();
        }
    }

    private static void state(boolean fits) {
        if (!fits) {
            throw new IllegalStateException();
        }
    }

    private static boolean in(int index, List<?> list) {
        return index >= 0 && index < list.size();
    }

    private static boolean between(int value, int least, int most) {
        return value >= least && value <= most;
    }

    int feed(int... numbers) {
        state(tape.length() <= 1980);
        StringBuilder bytes = new StringBuilder(tape);
        for (int number : numbers) {
            bytes.append((char) (number >> 24 & 255)).append((char) (number >> 16 & 255));
            bytes.append((char) (number >> 8 & 255)).append((char) (number & 255));
        }
        tape = bytes.toString();
        return tape.length();
    }

    int trim(int n) {
        argument(between(n, 0, tape.length()));
        tape = tape.substring(0, n);
        return n;
    }

    int teach() {
        String text = tape;
        tape = "";
        Reader reader = new Reader(text);
        try {
            reader.text();
        } catch (Wrong wrong) {
            errorAt = wrong.place;
            return 1;
        }
        for (NameCheck check : reader.checks) {
            int error = check.check.getAsInt();
            if (error != 0) {
                errorAt = check.token.at;
                return error;
            }
        }
        errorAt = -1;
        world = reader.world;
        latest = null;
        return 0;
    }

    int errorAt() {
        return errorAt;
    }

    int count(int what) {
        index(between(what, 0, 7));
        return List.of(world.rooms.size(), world.doors.size(), world.parts.size(), world.tours.size(), visitors.size(),
            tape.length(), paper.length(), latest == null ? 0 : latest.events.size()).get(what);
    }

    int part(int part, int what) {
        index(in(part, world.parts) && between(what, 0, 4));
        Part p = world.parts.get(part);
        return List.of(p.room, p.length, p.worth, p.kind, p.needs).get(what);
    }

    int close(int room, int from, int to) {
        index(in(room, world.rooms));
        argument(from >= 0 && to > from && to <= 100000);
        List<int[]> closed = world.closed.computeIfAbsent(room, r -> new ArrayList<>());
        state(closed.size() < 4);
        closed.add(new int[] {from, to});
        return closed.size();
    }

    int reopen(int room) {
        index(in(room, world.rooms));
        List<int[]> closed = world.closed.remove(room);
        return closed == null ? 0 : closed.size();
    }

    boolean isOpen(int room, int second) {
        index(in(room, world.rooms));
        argument(between(second, 0, 200000));
        return world.open(room, second);
    }

    int way(int from, int to, int second) {
        index(in(from, world.rooms) && in(to, world.rooms));
        argument(between(second, 0, 200000));
        return world.way(from, to, second);
    }

    int come(int pace, int stamina, int kind) {
        argument(between(pace, 1, 9) && between(stamina, 10, 500) && between(kind, 0, 2));
        state(visitors.size() < 8);
        visitors.add(new Visitor(pace, stamina, kind));
        return visitors.size() - 1;
    }

    int visitor(int visitor, int what) {
        index(in(visitor, visitors) && between(what, 0, 2));
        Visitor v = visitors.get(visitor);
        return what == 0 ? v.pace : what == 1 ? v.stamina : v.kind;
    }

    private Visit start(int visitor, int room, int second, int time) {
        Visit visit = new Visit();
        visit.world = world;
        visit.visitor = visitors.get(visitor);
        visit.room = room;
        visit.now = second;
        visit.end = second + time;
        return visit;
    }

    private Visit walked(int visitor, int tour, int room, int second, int time) {
        Visit visit = start(visitor, room, second, time);
        try {
            Reader.run(world.tours.get(tour), visit);
        } catch (Early early) {
            visit.early = true;
        }
        return visit;
    }

    private void checkVisit(int visitor, int tour, int room, int second, boolean last) {
        index(in(visitor, visitors) && in(tour, world.tours) && in(room, world.rooms));
        argument(between(second, 0, 90000) && last);
    }

    int visit(int visitor, int tour, int room, int second, int time) {
        checkVisit(visitor, tour, room, second, between(time, 1, 20000));
        latest = walked(visitor, tour, room, second, time);
        return latest.worth();
    }

    int latest(int what) {
        index(between(what, 0, 9));
        state(latest != null);
        return List.of(latest.now, latest.room, latest.heard.size(), latest.worth(), (int) latest.steps, latest.rests,
            latest.misses, latest.early ? 1 : 0, latest.tired, latest.sentences).get(what);
    }

    int event(int index, int what) {
        index(latest != null && in(index, latest.events) && between(what, 0, 2));
        Event event = latest.events.get(index);
        return what == 0 ? event.what : what == 1 ? event.second : event.subject;
    }

    boolean heard(int part) {
        index(in(part, world.parts));
        return latest != null && latest.heard.contains(part);
    }

    int begins(int visitor, int tour, int room, int second, int time) {
        checkVisit(visitor, tour, room, second, between(time, 1, 20000));
        int best = 0;
        for (int k = 1; k < 20; k++) {
            if (walked(visitor, tour, room, second + 300 * k, time).worth()
                > walked(visitor, tour, room, second + 300 * best, time).worth()) {
                best = k;
            }
        }
        return second + 300 * best;
    }

    int needs(int visitor, int tour, int room, int second, int worth) {
        checkVisit(visitor, tour, room, second, between(worth, 0, 2000));
        for (int k = 1; k <= 60; k++) {
            if (walked(visitor, tour, room, second, 100 * k).worth() >= worth) {
                return 100 * k;
            }
        }
        return -1;
    }

    private void checkComposing(int visitor, int room, int second, int time) {
        index(in(visitor, visitors) && in(room, world.rooms));
        argument(between(second, 0, 90000) && between(time, 1, 20000));
    }

    int compose(int visitor, int room, int second, int time) {
        checkComposing(visitor, room, second, time);
        StringBuilder made = new StringBuilder("tour made {\n");
        Visit visit = start(visitor, room, second, time);
        while (true) {
            int chosen = -1;
            int most = -1;
            for (int part = 0; part < world.parts.size(); part++) {
                Visit with = visit.with(part);
                if (with != null && world.parts.get(part).worth * 1000 / (with.now - visit.now) > most) {
                    most = world.parts.get(part).worth * 1000 / (with.now - visit.now);
                    chosen = part;
                }
            }
            if (chosen < 0) {
                paper = made.append("}\n").toString();
                return visit.worth();
            }
            visit = visit.with(chosen);
            made.append(" go ").append(world.rooms.get(visit.room)).append("; play ");
            made.append(world.partNames.get(chosen)).append(";\n");
        }
    }

    int byteAt(int index) {
        index(index >= 0 && index < paper.length());
        return paper.charAt(index);
    }

    int best(int visitor, int room, int second, int time) {
        checkComposing(visitor, room, second, time);
        state(world.parts.size() <= 6);
        int best = 0;
        List<Visit> open = new ArrayList<>(List.of(start(visitor, room, second, time)));
        while (!open.isEmpty()) {
            Visit visit = open.remove(open.size() - 1);
            best = Math.max(best, visit.worth());
            for (int part = 0; part < world.parts.size(); part++) {
                Visit with = visit.with(part);
                if (with != null) {
                    open.add(with);
                }
            }
        }
        return best;
    }

    double share() {
        return latest == null || world.parts.isEmpty() ? 0 : latest.heard.size() / (double) world.parts.size();
    }

    long digest() {
        List<Integer> numbers = new ArrayList<>();
        for (int what = 0; what < 8; what++) {
            numbers.add(count(what));
        }
        for (int from = 0; from < world.rooms.size(); from++) {
            numbers.add(world.closed.getOrDefault(from, List.of()).size());
            for (int to = 0; to < world.rooms.size(); to++) {
                numbers.add(way(from, to, 0));
            }
        }
        for (Part p : world.parts) {
            numbers.addAll(List.of(p.room, p.length, p.worth, p.kind, p.needs));
        }
        for (Visitor v : visitors) {
            numbers.addAll(List.of(v.pace, v.stamina, v.kind));
        }
        if (latest != null) {
            for (int what = 0; what < 10; what++) {
                numbers.add(latest(what));
            }
            for (Event e : latest.events) {
                numbers.addAll(List.of(e.what, e.second, e.subject));
            }
        }
        paper.chars().forEach(numbers::add);
        long d = 691;
        for (int x : numbers) {
            d = d * 31 + x;
        }
        return d;
    }
}
