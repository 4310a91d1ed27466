import java.util.ArrayList;
import java.util.HashMap;
import java.util.LinkedHashSet;
import java.util.List;
import java.util.Map;
import java.util.Random;
import java.util.Set;
import java.util.TreeSet;
import java.util.regex.Matcher;
import java.util.regex.Pattern;

/**
 * The grammar, in the document's own words, followed by Earley's method, which knows all readings
 * of a row of tokens at once: behind texts by chance each possible token is tried, and error 1 has to
 * be at the first one behind which no reading is left.
 */
public final class GrammarTest {
    private static final String GRAMMAR = """
          text = { room | door | part | tour }
          room = "room" name ";"        door = "door" name name number ";"
          part = "part" name "in" name number [ "needs" name { "," name } ] [ "for" ( "all" | "child" | "expert" ) ] [ "worth" number ] ";"
          tour = "tour" name block        block = "{" { sentence } "}"
          sentence = "go" name ";" | "play" name ";" | "rest" number ";" | "call" name ";" | "if" test block [ "else" block ] | "repeat" number block
          test = both { "or" both }        both = single { "and" single }        single = "not" single | "[" test "]" | "heard" name | "open" name | sum ( "<" | ">" | "=" | "<=" | ">=" ) sum
          sum = product { ( "+" | "-" ) product }        product = value { ( "*" | "/" ) value }        value = number | "time" | "left" | "tired" | "pace" | "worth" | "-" value | "(" sum ")" | ( "min" | "max" ) "(" sum "," sum ")"
        """;
    private static final int DEEPEST = 8;
    private static final int MOST_TOKENS = 400;
    // So many bytes, and the longest keyword behind them, stand on the tape.
    private static final int LONGEST = 1990;
    private static final List<String> CLOSING = List.of("\"}\"", "\")\"", "\"]\"", "\";\"", "\"room\"", "\"door\"");

    /** A row of symbols that a sort of words can be; the sorts in it stand with their depths. */
    private record Rule(String sort, List<String> symbols) {
    }

    /** A rule that is met up to the dot, from this token on. */
    private record Item(Rule rule, int dot, int origin) {
        String due() {
            return dot < rule.symbols.size() ? rule.symbols.get(dot) : "";
        }

        Item met() {
            return new Item(rule, dot + 1, origin);
        }
    }

    // Each sort's rows of symbols, as the document has them; sorts made for [ ], { } and ( ) too.
    private final Map<String, List<List<String>>> rows = new HashMap<>();
    private final Map<String, List<Rule>> rules = new HashMap<>();
    private final Set<String> terminals = new TreeSet<>();
    private final List<String> words = new ArrayList<>();
    private int at;

    public static void main(String[] args) {
        GrammarTest test = new GrammarTest();
        int texts = args.length > 0 ? Integer.parseInt(args[0]) : 30;
        for (int seed = 0; seed < texts; seed++) {
            test.tryEachToken(test.made(new Random(seed)));
        }
        Check.finish("GrammarTest");
    }

    private GrammarTest() {
        Matcher word = Pattern.compile("\"[^\"]+\"|\\w+|\\S").matcher(GRAMMAR);
        while (word.find()) {
            words.add(word.group());
        }
        while (at < words.size()) {
            String sort = words.get(at);
            at += 2;
            rows.put(sort, alternatives());
        }
        terminals.addAll(List.of("name", "number", "?"));
    }

    // ---- the grammar

    private boolean ends() {
        return at >= words.size() || "|])}".contains(words.get(at))
            || at + 1 < words.size() && words.get(at + 1).equals("=");
    }

    private List<List<String>> alternatives() {
        List<List<String>> found = new ArrayList<>();
        do {
            at += found.isEmpty() ? 0 : 1;
            List<String> row = new ArrayList<>();
            while (!ends()) {
                row.add(symbol());
            }
            found.add(row);
        } while (at < words.size() && words.get(at).equals("|"));
        return found;
    }

    private String symbol() {
        String word = words.get(at++);
        if (!"[{(".contains(word)) {
            if (word.startsWith("\"")) {
                terminals.add(word);
            }
            return word;
        }
        String sort = "made" + at;
        List<List<String>> found = alternatives();
        at++;
        if (word.equals("{")) {
            found.forEach(row -> row.add(sort));
        }
        if (!word.equals("(")) {
            found.add(new ArrayList<>());
        }
        rows.put(sort, found);
        return sort;
    }

    /** The rules of a sort at a depth, written "sort@depth"; what would be too deep is written "!". */
    private List<Rule> rulesOf(String sort) {
        return rules.computeIfAbsent(sort, key -> {
            String[] name = key.split("@");
            List<Rule> found = new ArrayList<>();
            for (List<String> row : rows.get(name[0])) {
                found.add(new Rule(key, withDepths(row, Integer.parseInt(name[1]))));
            }
            return found;
        });
    }

    private List<String> withDepths(List<String> row, int outside) {
        int depth = outside;
        List<String> symbols = new ArrayList<>();
        for (int index = 0; index < row.size(); index++) {
            String symbol = row.get(index);
            boolean turns = List.of("\"-\"", "\"not\"").contains(symbol) && index + 1 < row.size();
            if (turns || List.of("\"{\"", "\"(\"", "\"[\"").contains(symbol)) {
                depth++;
                symbols.add(depth > DEEPEST ? "!" : symbol);
            } else if (rows.containsKey(symbol)) {
                symbols.add(symbol + "@" + Math.min(depth, DEEPEST));
            } else {
                depth -= List.of("\"}\"", "\")\"", "\"]\"").contains(symbol) ? 1 : 0;
                symbols.add(symbol);
            }
        }
        return symbols;
    }

    private static boolean isSort(String symbol) {
        return symbol.contains("@");
    }

    // ---- Earley's method

    /** Adds what follows from the items: the rules that they await, and the ones behind those that are met. */
    private Set<Item> closed(List<Set<Item>> chart, Set<Item> first) {
        List<Item> open = new ArrayList<>(first);
        Set<Item> known = new LinkedHashSet<>(first);
        for (int index = 0; index < open.size(); index++) {
            Item item = open.get(index);
            List<Item> more = new ArrayList<>();
            if (item.due().isEmpty()) {
                Set<Item> before = item.origin == chart.size() ? known : chart.get(item.origin);
                for (Item waiting : before) {
                    if (waiting.due().equals(item.rule.sort)) {
                        more.add(waiting.met());
                    }
                }
            } else if (isSort(item.due())) {
                for (Rule rule : rulesOf(item.due())) {
                    more.add(new Item(rule, 0, chart.size()));
                }
                // A sort that can be nothing may have been met here already.
                if (canBeNothing(item.due())) {
                    more.add(item.met());
                }
            }
            for (Item next : more) {
                if (known.add(next)) {
                    open.add(next);
                }
            }
        }
        return known;
    }

    // No sort of the document's grammar is nothing but by an empty row of its own.
    private boolean canBeNothing(String sort) {
        return sort.startsWith("text@") || rulesOf(sort).stream().anyMatch(rule -> rule.symbols.isEmpty());
    }

    private Set<Item> begun() {
        Set<Item> first = new LinkedHashSet<>();
        for (Rule rule : rulesOf("text@0")) {
            first.add(new Item(rule, 0, 0));
        }
        return closed(new ArrayList<>(), first);
    }

    /** The readings behind one more token; none if it may not stand there. */
    private Set<Item> behind(List<Set<Item>> chart, String terminal) {
        Set<Item> first = new LinkedHashSet<>();
        if (chart.size() > MOST_TOKENS) {
            return first;
        }
        for (Item item : chart.get(chart.size() - 1)) {
            if (item.due().equals(terminal)) {
                first.add(item.met());
            }
        }
        return closed(chart, first);
    }

    private static boolean isWhole(Set<Item> readings) {
        return readings.stream().anyMatch(item -> item.rule.sort.equals("text@0") && item.origin == 0
            && item.due().isEmpty());
    }

    // ---- texts

    /** The terminals of a text by chance, made from the grammar. */
    private List<String> made(Random random) {
        List<String> made = new ArrayList<>();
        int most = random.nextInt(5) == 0 ? MOST_TOKENS : 1 + random.nextInt(120);
        List<Set<Item>> chart = new ArrayList<>(List.of(begun()));
        while (made.size() < most) {
            Set<String> due = new TreeSet<>();
            chart.get(chart.size() - 1).forEach(item -> due.add(item.due()));
            due.retainAll(terminals);
            List<String> choice = new ArrayList<>(due);
            if (choice.isEmpty()) {
                // Nothing but what would be too deep: another way from a few tokens ahead.
                int kept = Math.max(0, made.size() - 1 - random.nextInt(4));
                made.subList(kept, made.size()).clear();
                chart.subList(kept + 1, chart.size()).clear();
                continue;
            }
            String terminal = choice.get(random.nextInt(choice.size()));
            // What closes is liked less: so it goes deeper.
            for (int turn = 0; turn < 2 && CLOSING.contains(terminal); turn++) {
                terminal = choice.get(random.nextInt(choice.size()));
            }
            made.add(terminal);
            chart.add(behind(chart, terminal));
        }
        return made;
    }

    private static String written(String terminal) {
        return switch (terminal) {
            case "name" -> "a";
            case "number" -> "1";
            default -> terminal.replace("\"", "");
        };
    }

    /** Tells whether the token could be read as a longer one with the next one. */
    private static boolean mayGrow(String terminal) {
        return terminal.matches("\\w+|\"\\w+\"|\"[<>]\"");
    }

    private void tryEachToken(List<String> made) {
        StringBuilder text = new StringBuilder();
        List<Set<Item>> chart = new ArrayList<>(List.of(begun()));
        for (int size = 0; size <= made.size() && text.length() <= LONGEST; size++) {
            tryEachBehind(text.toString(), chart);
            if (size < made.size()) {
                String terminal = made.get(size);
                chart.add(behind(chart, terminal));
                text.append(written(terminal)).append(mayGrow(terminal) ? " " : "");
            }
        }
    }

    private void tryEachBehind(String text, List<Set<Item>> chart) {
        for (String terminal : terminals) {
            Set<Item> readings = behind(chart, terminal);
            String longer = text + written(terminal);
            MuseumGuide guide = new MuseumGuide();
            boolean isError = Check.teach(guide, longer) == 1;
            Check.same("error 1 of " + longer, isError, !isWhole(readings));
            if (isError) {
                int place = readings.isEmpty() ? text.length() : longer.length();
                Check.same("the place of the error of " + longer, guide.errorAt(), place);
            }
        }
    }
}
