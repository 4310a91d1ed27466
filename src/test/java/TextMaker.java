import java.util.ArrayList;
import java.util.List;
import java.util.Random;

/** Makes texts by chance: most are right, some a little wrong. */
final class TextMaker {
    private static final String[] ANY = {"room", "door", "part", "in", "needs", "for", "worth", "all", "child",
        "expert", "tour", "go", "play", "rest", "if", "else", "repeat", "call", "heard", "open", "time", "left",
        "tired", "pace", "not", "and", "or", "min", "max", "{", "}", "(", ")", "[", "]", ";", ",", "+", "-", "*",
        "/", "<", ">", "=", "<=", ">=", "0", "7", "201", "999999", "1234567", "aaaaaaaaaa", "aaaaaaaaaaa", "r0",
        "p1", "t1", "?", "A", "\t", "\u00e9"};

    private final Random random;
    private final List<String> tokens = new ArrayList<>();
    private final List<String> rooms = new ArrayList<>();
    private final List<String> parts = new ArrayList<>();
    private final List<String> partRooms = new ArrayList<>();
    private final List<String> tours = new ArrayList<>();
    private int depth;

    TextMaker(Random random) {
        this.random = random;
    }

    private int below(int n) {
        return random.nextInt(n);
    }

    private boolean chance(int percent) {
        return below(100) < percent;
    }

    private void put(Object... words) {
        for (Object word : words) {
            tokens.add(word.toString());
        }
    }

    private String one(List<String> names) {
        return names.isEmpty() || below(300) == 0 ? "zz" : names.get(below(names.size()));
    }

    private String fresh(String letter, List<String> names) {
        String name = below(200) == 0 && !names.isEmpty() ? one(names) : letter + names.size()
            + (chance(20) ? "abcdefgh".substring(0, 8 - String.valueOf(names.size()).length()) : "");
        names.add(name);
        return name;
    }

    private int range(int least, int most) {
        int turn = below(400);
        return turn == 0 ? most + 1 : turn == 1 ? Math.max(0, least - 1) : chance(5) ? most : least + below(most - least + 1);
    }

    String text(int mostParts) {
        int roomCount = chance(5) ? 12 + below(2) : 1 + below(8);
        for (int k = 0; k < roomCount; k++) {
            put("room", fresh("r", rooms), ";");
            if (chance(30)) {
                door();
            }
        }
        int doors = chance(4) ? 20 + below(8) : roomCount / 2 + below(8);
        for (int k = 0; k < doors; k++) {
            door();
        }
        int partCount = chance(5) ? 15 + below(3) : below(mostParts + 1);
        int tourCount = chance(5) ? 6 + below(2) : 1 + below(4);
        for (int k = 0; k < partCount; k++) {
            part();
            if (chance(10) && tourCount > 1) {
                tourCount--;
                tour();
            }
        }
        for (int k = 0; k < tourCount; k++) {
            tour();
        }
        if (chance(8)) {
            spoil();
        }
        String text = joined();
        if (chance(5)) {
            int at = below(text.length() + 1);
            String sign = chance(50) ? String.valueOf((char) below(256)) : ANY[below(ANY.length)];
            text = text.substring(0, at) + sign + text.substring(Math.min(text.length(), at + below(2)));
        }
        if (chance(3)) {
            text = text.substring(0, below(text.length() + 1));
        }
        return text.length() > 2000 ? text.substring(0, 2000) : text;
    }

    private void spoil() {
        int at = below(tokens.size());
        switch (below(4)) {
            case 0 -> tokens.remove(at);
            case 1 -> tokens.set(at, ANY[below(ANY.length)]);
            case 2 -> tokens.add(at, ANY[below(ANY.length)]);
            default -> tokens.add(at, tokens.get(below(tokens.size())));
        }
    }

    private String joined() {
        StringBuilder text = new StringBuilder();
        int loose = below(4);
        String before = "";
        for (String token : tokens) {
            boolean merges = before.matches("[a-z].*") && token.matches("[a-z0-9].*")
                || before.matches("[0-9]+") && token.matches("[0-9].*")
                || before.matches("[<>]") && token.startsWith("=");
            int blanks = loose == 0 || chance(70) ? 0 : 1 + below(2);
            if (merges && blanks == 0 && below(500) > 0) {
                blanks = 1;
            }
            for (int k = 0; k < blanks; k++) {
                text.append(chance(90) ? ' ' : '\n');
            }
            text.append(token);
            before = token;
        }
        return chance(20) ? text.append(chance(50) ? " " : "\n").toString() : text.toString();
    }

    private void door() {
        if (rooms.size() < 2) {
            return;
        }
        String from = one(rooms);
        String to = one(rooms);
        for (int k = 0; k < 20 && to.equals(from) && below(300) > 0; k++) {
            to = one(rooms);
        }
        put("door", from, to, chance(60) ? 1 + below(40) : range(1, 200), ";");
    }

    private void part() {
        String name = fresh("p", parts);
        partRooms.add(one(rooms));
        put("part", name, "in", partRooms.get(partRooms.size() - 1), chance(70) ? 1 + below(200) : range(1, 900));
        if (parts.size() > 1 && chance(30)) {
            put("needs");
            for (boolean more = false; !more || chance(30); more = true) {
                if (more) {
                    put(",");
                }
                put(below(200) == 0 ? name : parts.get(below(parts.size() - 1)));
            }
        }
        if (chance(30)) {
            put("for", chance(40) ? "all" : new String[] {"all", "child", "expert"}[below(3)]);
        }
        if (chance(70)) {
            put("worth", range(0, 99));
        }
        put(";");
    }

    private void tour() {
        put("tour", fresh("t", tours));
        depth = 0;
        block(2 + below(6));
    }

    private void block(int most) {
        put("{");
        depth++;
        int count = below(most + 1);
        for (int k = 0; k < count; k++) {
            sentence();
        }
        depth--;
        put("}");
    }

    private boolean deep() {
        return depth >= 8 && below(60) > 0;
    }

    private void sentence() {
        int kind = below(deep() ? 60 : 100);
        if (kind < 15) {
            put("go", one(rooms), ";");
        } else if (kind < 35) {
            if (parts.isEmpty()) {
                return;
            }
            int part = below(parts.size());
            put("go", partRooms.get(part), ";", "play", parts.get(part), ";");
        } else if (kind < 45) {
            if (parts.isEmpty()) {
                return;
            }
            put("play", one(parts), ";");
        } else if (kind < 55) {
            put("rest", range(1, 900), ";");
        } else if (kind < 65) {
            if (tours.size() > 1) {
                put("call", below(100) == 0 ? one(tours) : tours.get(below(tours.size() - 1)), ";");
            }
        } else if (kind < 82) {
            put("if");
            test();
            block(2);
            if (chance(50)) {
                put("else");
                block(2);
            }
        } else {
            put("repeat", range(0, 9));
            block(3);
        }
    }

    private void test() {
        single();
        while (chance(25)) {
            put(chance(50) ? "and" : "or");
            single();
        }
    }

    private void single() {
        int kind = below(100);
        if (kind < 12 && !deep()) {
            put("not");
            depth++;
            single();
            depth--;
        } else if (kind < 24 && !deep()) {
            put("[");
            depth++;
            test();
            depth--;
            put("]");
        } else if (kind < 36 && !parts.isEmpty()) {
            put("heard", one(parts));
        } else if (kind < 50) {
            put("open", one(rooms));
        } else {
            sum();
            put(new String[] {"<", ">", "=", "<=", ">="}[below(5)]);
            sum();
        }
    }

    private void sum() {
        product();
        while (chance(20)) {
            put(chance(50) ? "+" : "-");
            product();
        }
    }

    private void product() {
        value();
        while (chance(15)) {
            put(chance(50) ? "*" : "/");
            value();
        }
    }

    private void value() {
        int kind = below(deep() ? 70 : 100);
        if (kind < 30) {
            put(chance(50) ? below(1000) : chance(50) ? below(4) : below(1000000));
        } else if (kind < 70) {
            put(new String[] {"time", "left", "tired", "pace", "worth"}[below(5)]);
        } else if (kind < 80) {
            put("-");
            depth++;
            value();
            depth--;
        } else {
            boolean pair = kind < 92;
            if (pair) {
                put(chance(50) ? "min" : "max");
            }
            put("(");
            depth++;
            sum();
            if (pair) {
                put(",");
                sum();
            }
            depth--;
            put(")");
        }
    }
}
