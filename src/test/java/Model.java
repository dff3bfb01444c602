import java.util.ArrayList;
import java.util.LinkedHashSet;
import java.util.List;
import java.util.Set;
import java.util.function.BooleanSupplier;
import java.util.function.IntSupplier;

/**
 * The document once more, written in another way and without care for cost: error 1 is found by following every
 * derivation of the grammar at once, orders are functions, and everything is counted anew whenever it is asked for.
 */
final class Model {
    private static final Set<String> KEYWORDS = Set.of("colour", "rank", "cord", "of", "under", "main", "count", "top",
            "over", "keeper", "care", "tie", "by", "as", "tally", "when", "month", "value", "sum", "knots", "record",
            "tired", "wrong", "not", "and", "or", "min", "max");

    private record Token(String kind, String text, int at) {
    }

    /** What still has to come: a symbol of the grammar, and what comes behind it. */
    private record Rest(String symbol, Rest behind) {
    }

    private static final class Colour {
        String name;
        int rank;
    }

    private static final class Cord {
        String name;
        int colour;
        Cord under;
        int value;
        int at;
    }

    private static final class Top {
        String name;
        List<Cord> cords = new ArrayList<>();
        int record;
    }

    private static final class Keeper {
        String name;
        int care;
        int tired;
        int carried;
    }

    private static final class Order {
        Cord tie;
        Top tally;
        Keeper by;
        IntSupplier sum;
        BooleanSupplier test = () -> true;
    }

    private static final class Province {
        List<Colour> colours = new ArrayList<>();
        List<Cord> cords = new ArrayList<>();
        List<Top> tops = new ArrayList<>();
        List<Keeper> keepers = new ArrayList<>();
        List<Order> orders = new ArrayList<>();
        int carried;
        int eaten;
    }

    private static final class Fault extends Exception {
        final int error;
        final int at;

        Fault(int error, int at) {
            this.error = error;
            this.at = at;
        }
    }

    private final StringBuilder tape = new StringBuilder();
    private Province p = new Province();
    private int month;
    private int errorAt = -1;

    // ---- the language

    int feed(int a, int b, int c, int d, int e) {
        if (tape.length() > 1980) {
            throw new IllegalStateException();
        }
        for (int n : new int[] {a, b, c, d, e}) {
            tape.append((char) (n >>> 24)).append((char) (n >> 16 & 255)).append((char) (n >> 8 & 255))
                    .append((char) (n & 255));
        }
        return tape.length();
    }

    int trim(int n) {
        if (n < 0 || n > tape.length()) {
            throw new IllegalArgumentException();
        }
        tape.setLength(n);
        return n;
    }

    int teach() {
        String text = tape.toString();
        tape.setLength(0);
        try {
            List<Token> tokens = tokens(text);
            checkGrammar(tokens);
            p = new Reader(tokens).read();
            errorAt = -1;
            return 0;
        } catch (Fault fault) {
            errorAt = fault.at;
            return fault.error;
        }
    }

    int errorAt() {
        return errorAt;
    }

    private static List<Token> tokens(String text) {
        List<Token> tokens = new ArrayList<>();
        int at = 0;
        while (true) {
            while (at < text.length() && " \n".indexOf(text.charAt(at)) >= 0) {
                at++;
            }
            if (at == text.length()) {
                tokens.add(new Token("end", "", at));
                return tokens;
            }
            int to = at;
            String rest = text.substring(at);
            String kind = "bad";
            if (rest.matches("(?s)[a-z].*")) {
                while (to < text.length() && text.substring(to, to + 1).matches("[a-z0-9]")) {
                    to++;
                }
                String word = text.substring(at, to);
                kind = to - at > 10 ? "bad" : KEYWORDS.contains(word) ? word : "name";
            } else if (rest.matches("(?s)[0-9].*")) {
                while (to < text.length() && text.substring(to, to + 1).matches("[0-9]")) {
                    to++;
                }
                kind = to - at > 6 ? "bad" : "number";
            } else if (rest.startsWith("<=") || rest.startsWith(">=")) {
                to = at + 2;
                kind = text.substring(at, to);
            } else {
                to = at + 1;
                String sign = text.substring(at, to);
                kind = "()[];,+-*/<>=".contains(sign) ? sign : "bad";
            }
            if (tokens.size() == 400) {
                kind = "bad";
            }
            tokens.add(new Token(kind, text.substring(at, to), at));
            at = to;
        }
    }

    private static void checkGrammar(List<Token> tokens) throws Fault {
        Set<Rest> ways = new LinkedHashSet<>();
        ways.add(new Rest("list", new Rest("end", null)));
        for (Token token : tokens) {
            Set<Rest> after = new LinkedHashSet<>();
            List<Rest> open = new ArrayList<>(ways);
            Set<Rest> seen = new LinkedHashSet<>(ways);
            while (!open.isEmpty()) {
                Rest way = open.remove(open.size() - 1);
                if (way == null) {
                    continue;
                }
                String[] alternatives = alternatives(way.symbol);
                if (alternatives == null) {
                    if (way.symbol.equals(token.kind)) {
                        after.add(way.behind);
                    }
                    continue;
                }
                for (String alternative : alternatives) {
                    Rest next = way.behind;
                    String[] symbols = alternative.isBlank() ? new String[0] : alternative.trim().split(" ");
                    for (int n = symbols.length - 1; n >= 0; n--) {
                        next = new Rest(symbols[n], next);
                    }
                    if (next == null || seen.add(next)) {
                        open.add(next);
                    }
                }
            }
            if (after.isEmpty()) {
                throw new Fault(1, token.at);
            }
            if (token.kind.equals("end")) {
                return;
            }
            ways = after;
        }
    }

    /** Returns what a symbol (with a depth behind a colon) can be, null if it is a token. */
    private static String[] alternatives(String symbol) {
        int colon = symbol.indexOf(':');
        String name = colon < 0 ? symbol : symbol.substring(0, colon);
        int depth = colon < 0 ? 0 : Integer.parseInt(symbol.substring(colon + 1));
        String d = ":" + depth + " ";
        String in = ":" + (depth + 1) + " ";
        boolean deeper = depth < 8;
        switch (name) {
            case "list":
                return new String[] {"", "line ; list"};
            case "line":
                return new String[] {"colour name rank number", "cord name of name under where", "top name over name name "
                        + "names", "keeper name care number", "tie name by name as S:0 condition",
                    "tally name by name condition"};
            case "where":
                return new String[] {"main", "name", "main count number", "name count number"};
            case "names":
                return new String[] {"", "name names"};
            case "condition":
                return new String[] {"", "when T:0"};
            case "T":
                return new String[] {"B" + d + "T2" + d};
            case "T2":
                return new String[] {"", "or B" + d + "T2" + d};
            case "B":
                return new String[] {"I" + d + "B2" + d};
            case "B2":
                return new String[] {"", "and I" + d + "B2" + d};
            case "I":
                return deeper ? new String[] {"wrong name", "S" + d + "relation S" + d, "not I" + in, "[ T" + in + "]"}
                        : new String[] {"wrong name", "S" + d + "relation S" + d};
            case "relation":
                return new String[] {"<", ">", "=", "<=", ">="};
            case "S":
                return new String[] {"P" + d + "S2" + d};
            case "S2":
                return new String[] {"", "+ P" + d + "S2" + d, "- P" + d + "S2" + d};
            case "P":
                return new String[] {"V" + d + "P2" + d};
            case "P2":
                return new String[] {"", "* V" + d + "P2" + d, "/ V" + d + "P2" + d};
            case "V":
                return new String[] {"number", "month", "value name", "sum name", "knots name", "record name",
                    "tired name", "M" + d, "min O" + d, "max O" + d, "E" + d};
            case "M":
                return deeper ? new String[] {"- V" + in} : new String[0];
            case "O":
                return deeper ? new String[] {"( S" + in + ", S" + in + ")"} : new String[0];
            case "E":
                return deeper ? new String[] {"( S" + in + ")"} : new String[0];
            default:
                return null;
        }
    }

    /** Reads tokens that are a list: makes a province of them, or tells the first of the errors 2 to 5. */
    private final class Reader {
        private final List<Token> tokens;
        private final Province q = new Province();
        private int at;

        Reader(List<Token> tokens) {
            this.tokens = tokens;
        }

        Province read() throws Fault {
            while (!peek().equals("end")) {
                line();
                next();
            }
            return q;
        }

        private String peek() {
            return tokens.get(at).kind;
        }

        private Token next() {
            return tokens.get(at++);
        }

        private boolean skip(String kind) {
            if (peek().equals(kind)) {
                at++;
                return true;
            }
            return false;
        }

        private void fail(int error, Token token, boolean when) throws Fault {
            if (when) {
                throw new Fault(error, token.at);
            }
        }

        private int number(int least, int most) throws Fault {
            Token token = next();
            int number = Integer.parseInt(token.text);
            fail(5, token, number < least || number > most);
            return number;
        }

        private Cord cordNamed() throws Fault {
            Token token = next();
            Cord found = q.cords.stream().filter(c -> c.name.equals(token.text)).findAny().orElse(null);
            fail(3, token, found == null);
            return found;
        }

        private Top topNamed() throws Fault {
            Token token = next();
            Top found = q.tops.stream().filter(t -> t.name.equals(token.text)).findAny().orElse(null);
            fail(3, token, found == null);
            return found;
        }

        private Keeper keeperNamed() throws Fault {
            Token token = next();
            Keeper found = q.keepers.stream().filter(k -> k.name.equals(token.text)).findAny().orElse(null);
            fail(3, token, found == null);
            return found;
        }

        private void line() throws Fault {
            Token begin = next();
            Token name = tokens.get(at);
            switch (begin.kind) {
                case "colour" -> {
                    at++;
                    fail(2, name, q.colours.stream().anyMatch(c -> c.name.equals(name.text)));
                    fail(4, name, q.colours.size() == 6);
                    Colour colour = new Colour();
                    colour.name = name.text;
                    next();
                    colour.rank = number(0, 99);
                    q.colours.add(colour);
                }
                case "cord" -> cord(name);
                case "top" -> top(name);
                case "keeper" -> {
                    at++;
                    fail(2, name, q.keepers.stream().anyMatch(k -> k.name.equals(name.text)));
                    fail(4, name, q.keepers.size() == 5);
                    Keeper keeper = new Keeper();
                    keeper.name = name.text;
                    next();
                    keeper.care = number(1, 9);
                    q.keepers.add(keeper);
                }
                default -> order(begin);
            }
        }

        private void cord(Token name) throws Fault {
            at++;
            fail(2, name, q.cords.stream().anyMatch(c -> c.name.equals(name.text)));
            fail(4, name, q.cords.size() == 16);
            Cord cord = new Cord();
            cord.name = name.text;
            cord.at = q.cords.size();
            next();
            Token colour = next();
            cord.colour = -1;
            for (int n = 0; n < q.colours.size(); n++) {
                if (q.colours.get(n).name.equals(colour.text)) {
                    cord.colour = n;
                }
            }
            fail(3, colour, cord.colour < 0);
            next();
            if (!skip("main")) {
                Token under = tokens.get(at);
                cord.under = cordNamed();
                fail(5, under, depth(cord.under) == 4);
            }
            if (skip("count")) {
                cord.value = number(0, 9999);
            }
            q.cords.add(cord);
        }

        private void top(Token name) throws Fault {
            at++;
            fail(2, name, q.tops.stream().anyMatch(t -> t.name.equals(name.text)));
            fail(4, name, q.tops.size() == 6);
            Top top = new Top();
            top.name = name.text;
            next();
            while (peek().equals("name")) {
                Token token = tokens.get(at);
                Cord cord = cordNamed();
                fail(4, token, top.cords.size() == 8);
                fail(5, token, top.cords.contains(cord));
                top.cords.add(cord);
            }
            q.tops.add(top);
        }

        private void order(Token begin) throws Fault {
            fail(4, begin, q.orders.size() == 20);
            Order order = new Order();
            if (begin.kind.equals("tie")) {
                order.tie = cordNamed();
            } else {
                order.tally = topNamed();
            }
            next();
            order.by = keeperNamed();
            if (skip("as")) {
                order.sum = sum();
            }
            if (skip("when")) {
                order.test = test();
            }
            q.orders.add(order);
        }

        private BooleanSupplier test() throws Fault {
            BooleanSupplier left = both();
            while (skip("or")) {
                BooleanSupplier a = left;
                BooleanSupplier b = both();
                left = () -> a.getAsBoolean() | b.getAsBoolean();
            }
            return left;
        }

        private BooleanSupplier both() throws Fault {
            BooleanSupplier left = single();
            while (skip("and")) {
                BooleanSupplier a = left;
                BooleanSupplier b = single();
                left = () -> a.getAsBoolean() & b.getAsBoolean();
            }
            return left;
        }

        private BooleanSupplier single() throws Fault {
            if (skip("not")) {
                BooleanSupplier turned = single();
                return () -> !turned.getAsBoolean();
            }
            if (skip("[")) {
                BooleanSupplier inner = test();
                next();
                return inner;
            }
            if (skip("wrong")) {
                Top top = topNamed();
                return () -> wrong(top);
            }
            IntSupplier a = sum();
            String sign = next().kind;
            IntSupplier b = sum();
            return switch (sign) {
                case "<" -> () -> a.getAsInt() < b.getAsInt();
                case ">" -> () -> a.getAsInt() > b.getAsInt();
                case "=" -> () -> a.getAsInt() == b.getAsInt();
                case "<=" -> () -> a.getAsInt() <= b.getAsInt();
                default -> () -> a.getAsInt() >= b.getAsInt();
            };
        }

        private IntSupplier sum() throws Fault {
            IntSupplier left = product();
            while (peek().equals("+") || peek().equals("-")) {
                boolean plus = next().kind.equals("+");
                IntSupplier a = left;
                IntSupplier b = product();
                left = () -> plus ? a.getAsInt() + b.getAsInt() : a.getAsInt() - b.getAsInt();
            }
            return left;
        }

        private IntSupplier product() throws Fault {
            IntSupplier left = value();
            while (peek().equals("*") || peek().equals("/")) {
                boolean times = next().kind.equals("*");
                IntSupplier a = left;
                IntSupplier b = value();
                left = () -> times ? a.getAsInt() * b.getAsInt() : cut(a.getAsInt(), b.getAsInt());
            }
            return left;
        }

        private int cut(int a, int b) {
            return b == 0 ? 0 : (int) ((long) a / (long) b);
        }

        private IntSupplier value() throws Fault {
            Token token = next();
            switch (token.kind) {
                case "number":
                    int number = Integer.parseInt(token.text);
                    return () -> number;
                case "month":
                    return () -> month;
                case "value":
                    Cord valued = cordNamed();
                    return () -> valued.value;
                case "sum":
                    Cord summed = cordNamed();
                    return () -> sumOf(summed);
                case "knots":
                    Cord knotted = cordNamed();
                    return () -> knots(knotted.value);
                case "record":
                    Top recorded = topNamed();
                    return () -> recorded.record;
                case "tired":
                    Keeper tired = keeperNamed();
                    return () -> tired.tired;
                case "-":
                    IntSupplier turned = value();
                    return () -> -turned.getAsInt();
                case "(":
                    IntSupplier inner = sum();
                    next();
                    return inner;
                default:
                    next();
                    IntSupplier a = sum();
                    next();
                    IntSupplier b = sum();
                    next();
                    boolean least = token.kind.equals("min");
                    return () -> least == a.getAsInt() < b.getAsInt() ? a.getAsInt() : b.getAsInt();
            }
        }
    }

    // ---- the quipu

    private static int depth(Cord cord) {
        return cord == null ? 0 : 1 + depth(cord.under);
    }

    private int sumOf(Cord cord) {
        return cord.value + p.cords.stream().filter(c -> c.under == cord).mapToInt(this::sumOf).sum();
    }

    private int counted(Top top) {
        return top.cords.stream().mapToInt(this::sumOf).sum();
    }

    private boolean wrong(Top top) {
        return top.record != counted(top);
    }

    private static int knots(int number) {
        String digits = Integer.toString(number);
        int knots = digits.endsWith("0") ? 0 : 1;
        for (char digit : digits.substring(0, digits.length() - 1).toCharArray()) {
            knots += digit - '0';
        }
        return knots;
    }

    private static int turns(int number) {
        String digits = Integer.toString(number);
        int turns = digits.endsWith("1") ? 1 : 0;
        for (char digit : digits.toCharArray()) {
            turns += digit - '0';
        }
        return turns;
    }

    private void oneMonth() {
        for (Order order : p.orders) {
            if (!order.test.getAsBoolean()) {
                continue;
            }
            boolean tooTired = order.by.tired > 5 * order.by.care;
            int tied = order.tie == null ? counted(order.tally) : order.sum.getAsInt();
            if (order.tie != null) {
                tied = tied < 0 ? 0 : tied > 9999 ? 9999 : tied;
            }
            tied = tooTired ? tied / 10 * 10 : tied;
            if (order.tie != null) {
                order.tie.value = tied;
            } else {
                order.tally.record = tied;
            }
            order.by.tired += 1 + knots(tied) / 4;
            order.by.carried++;
            p.carried++;
        }
        for (Keeper keeper : p.keepers) {
            keeper.tired = keeper.tired < keeper.care ? 0 : keeper.tired - keeper.care;
        }
        if (month % 6 == 0) {
            moths();
        }
        month++;
    }

    private void moths() {
        Cord most = null;
        for (Cord cord : p.cords) {
            if (cord.value != 0 && (most == null || turns(cord.value) > turns(most.value))) {
                most = cord;
            }
        }
        if (most == null) {
            return;
        }
        String digits = Integer.toString(most.value);
        String rest = (char) (digits.charAt(0) - 1) + digits.substring(1);
        most.value = digits.length() == 1 ? 0 : Integer.parseInt(rest);
        p.eaten++;
    }

    private void check(boolean good) {
        if (!good) {
            throw new IndexOutOfBoundsException();
        }
    }

    private void checkArgument(boolean good) {
        if (!good) {
            throw new IllegalArgumentException();
        }
    }

    private static boolean in(int index, List<?> list) {
        return index >= 0 && index < list.size();
    }

    // ---- what there is

    int count(int what) {
        check(what >= 0 && what <= 12);
        int[] all = {month, p.colours.size(), p.cords.size(), p.tops.size(), p.keepers.size(), p.orders.size(),
            p.cords.stream().mapToInt(c -> c.value).sum(), p.cords.stream().mapToInt(c -> knots(c.value)).sum(),
            p.cords.stream().mapToInt(c -> turns(c.value)).sum(), (int) p.tops.stream().filter(this::wrong).count(),
            p.carried, p.eaten, tape.length()};
        return all[what];
    }

    int colour(int colour, int what) {
        check(in(colour, p.colours) && what >= 0 && what <= 2);
        List<Cord> cords = p.cords.stream().filter(c -> c.colour == colour).toList();
        return what == 0 ? p.colours.get(colour).rank
                : what == 1 ? cords.size() : cords.stream().mapToInt(c -> c.value).sum();
    }

    int cord(int cord, int what) {
        check(in(cord, p.cords) && what >= 0 && what <= 8);
        Cord c = p.cords.get(cord);
        int[] all = {c.colour, c.under == null ? -1 : c.under.at, depth(c), c.value, sumOf(c), knots(c.value),
            turns(c.value), (int) p.cords.stream().filter(o -> o.under == c).count(),
            (int) p.tops.stream().filter(t -> t.cords.contains(c)).count()};
        return all[what];
    }

    int digit(int cord, int place) {
        check(in(cord, p.cords) && place >= 0 && place <= 3);
        return String.format("%04d", p.cords.get(cord).value).charAt(3 - place) - '0';
    }

    int top(int top, int what) {
        check(in(top, p.tops) && what >= 0 && what <= 3);
        Top t = p.tops.get(top);
        return new int[] {t.cords.size(), t.record, counted(t), wrong(t) ? 1 : 0}[what];
    }

    int keeper(int keeper, int what) {
        check(in(keeper, p.keepers) && what >= 0 && what <= 3);
        Keeper k = p.keepers.get(keeper);
        return new int[] {k.care, k.tired, k.carried, k.tired > 5 * k.care ? 1 : 0}[what];
    }

    int apart(int a, int b) {
        check(in(a, p.cords) && in(b, p.cords));
        List<Cord> ways = new ArrayList<>();
        for (Cord c = p.cords.get(a); c != null; c = c.under) {
            ways.add(c);
        }
        ways.add(null);
        int steps = 0;
        Cord c = p.cords.get(b);
        while (!ways.contains(c)) {
            c = c.under;
            steps++;
        }
        return steps + ways.indexOf(c);
    }

    int order(int place) {
        check(in(place, p.cords));
        List<Cord> cords = new ArrayList<>(p.cords);
        cords.sort((x, y) -> {
            int ranks = Integer.compare(p.colours.get(x.colour).rank, p.colours.get(y.colour).rank);
            return ranks != 0 ? ranks : Integer.compare(sumOf(y), sumOf(x));
        });
        return cords.get(place).at;
    }

    int find(int sum) {
        return p.cords.stream().filter(c -> sumOf(c) == sum).mapToInt(c -> c.at).findFirst().orElse(-1);
    }

    int disorder() {
        int cords = 0;
        for (Cord cord : p.cords) {
            Cord ahead = p.cords.stream().filter(c -> c.at < cord.at && c.under == cord.under)
                    .reduce((x, y) -> y).orElse(null);
            if (ahead != null && p.colours.get(cord.colour).rank < p.colours.get(ahead.colour).rank) {
                cords++;
            }
        }
        return cords;
    }

    // ---- by hand

    int set(int cord, int value) {
        check(in(cord, p.cords));
        checkArgument(value >= 0 && value <= 9999);
        int before = p.cords.get(cord).value;
        p.cords.get(cord).value = value;
        return before;
    }

    int rest(int keeper) {
        check(in(keeper, p.keepers));
        int before = p.keepers.get(keeper).tired;
        p.keepers.get(keeper).tired = 0;
        return before;
    }

    int dye(int cord, int colour) {
        check(in(cord, p.cords) && in(colour, p.colours));
        int before = p.cords.get(cord).colour;
        p.cords.get(cord).colour = colour;
        return before;
    }

    int hang(int cord, int under) {
        check(in(cord, p.cords) && (under == -1 || in(under, p.cords)));
        Cord hung = p.cords.get(cord);
        Cord other = under == -1 ? null : p.cords.get(under);
        for (Cord c = other; c != null; c = c.under) {
            if (c == hung) {
                throw new IllegalStateException();
            }
        }
        Cord before = hung.under;
        hung.under = other;
        if (p.cords.stream().anyMatch(c -> depth(c) > 4)) {
            hung.under = before;
            throw new IllegalStateException();
        }
        return depth(hung);
    }

    // ---- months

    int pass(int months) {
        checkArgument(months >= 1 && months <= 120);
        int before = p.carried;
        for (int n = 0; n < months; n++) {
            oneMonth();
        }
        return p.carried - before;
    }

    // ---- what would be

    /** Reckons something that changes the province, and puts all back. */
    private int trial(IntSupplier what) {
        List<Integer> kept = new ArrayList<>(List.of(month, p.carried, p.eaten));
        p.cords.forEach(c -> kept.add(c.value));
        p.tops.forEach(t -> kept.add(t.record));
        p.keepers.forEach(k -> kept.add(k.tired));
        p.keepers.forEach(k -> kept.add(k.carried));
        int answer = what.getAsInt();
        month = kept.remove(0);
        p.carried = kept.remove(0);
        p.eaten = kept.remove(0);
        p.cords.forEach(c -> c.value = kept.remove(0));
        p.tops.forEach(t -> t.record = kept.remove(0));
        p.keepers.forEach(k -> k.tired = kept.remove(0));
        p.keepers.forEach(k -> k.carried = kept.remove(0));
        return answer;
    }

    int until(int top) {
        check(in(top, p.tops));
        return trial(() -> {
            for (int n = 0; n <= 150; n++) {
                if (wrong(p.tops.get(top))) {
                    return n;
                }
                oneMonth();
            }
            return -1;
        });
    }

    int foresee(int months, int what) {
        checkArgument(months >= 1 && months <= 120);
        check(what >= 6 && what <= 11);
        return trial(() -> {
            pass(months);
            return count(what);
        });
    }

    int advise(int months) {
        checkArgument(months >= 1 && months <= 90);
        int best = -1;
        int least = foresee(months, 9);
        for (int k = 0; k < p.keepers.size(); k++) {
            int keeper = k;
            int wrong = trial(() -> {
                rest(keeper);
                pass(months);
                return count(9);
            });
            if (wrong < least) {
                least = wrong;
                best = k;
            }
        }
        return best;
    }

    double mean() {
        List<Cord> hanging = p.cords.stream().filter(c -> c.under == null).toList();
        return hanging.stream().mapToInt(this::sumOf).average().orElse(0);
    }

    long digest() {
        List<Integer> told = new ArrayList<>();
        for (int what = 0; what <= 12; what++) {
            told.add(count(what));
        }
        for (int n = 0; n < p.colours.size(); n++) {
            told.addAll(List.of(colour(n, 0), colour(n, 1), colour(n, 2)));
        }
        for (int n = 0; n < p.cords.size(); n++) {
            for (int what = 0; what <= 8; what++) {
                told.add(cord(n, what));
            }
        }
        for (int n = 0; n < p.tops.size(); n++) {
            told.addAll(List.of(top(n, 0), top(n, 1), top(n, 2), top(n, 3)));
        }
        for (int n = 0; n < p.keepers.size(); n++) {
            told.addAll(List.of(keeper(n, 0), keeper(n, 1), keeper(n, 2), keeper(n, 3)));
        }
        told.add(disorder());
        long d = 877;
        for (int x : told) {
            d = d * 31 + x;
        }
        return d;
    }
}
