import java.util.ArrayList;
import java.util.List;
import java.util.Random;
import java.util.function.LongSupplier;

/** Plays made-up lists and calls on the class and on the model, and compares all answers. */
public final class ModelTest {
    private static final int RUNS = 400;
    private static final int CALLS = 500;

    private final Random random;
    private final int run;
    private final QuipuKeepers real = new QuipuKeepers();
    private final Model model = new Model();
    private int calls = 0;
    private int cords;
    private int tops;
    private int keepers;
    private int colours;
    private static int wrong = 0;
    private static final int[] taught = new int[6];
    private static int advised = 0;
    private static int surprised = 0;

    private ModelTest(int run) {
        this.run = run;
        this.random = new Random(run);
    }

    public static void main(String[] args) {
        int runs = args.length > 0 ? Integer.parseInt(args[0]) : RUNS;
        for (int run = 0; run < runs && wrong < 20; run++) {
            new ModelTest(run).play();
        }
        boolean poor = false;
        for (int error = 0; error <= 5; error++) {
            poor |= taught[error] == 0;
        }
        System.out.println("lists without error and with errors 1 to 5: " + java.util.Arrays.toString(taught)
                + ", keepers advised: " + advised + ", top cords that go wrong later: " + surprised);
        if (wrong > 0 || poor || advised == 0 || surprised == 0) {
            System.out.println(wrong + " answers are not those of the model");
            System.exit(1);
        }
    }

    private void play() {
        while (calls < CALLS && wrong < 20) {
            int choice = random.nextInt(30);
            if (choice == 0 || cords == 0 && choice < 20) {
                teach();
            } else {
                ask();
            }
        }
    }

    private static long answer(LongSupplier call) {
        try {
            return call.getAsLong();
        } catch (IllegalStateException e) {
            return Long.MIN_VALUE + 1;
        } catch (IllegalArgumentException e) {
            return Long.MIN_VALUE + 2;
        } catch (IndexOutOfBoundsException e) {
            return e.getClass() == IndexOutOfBoundsException.class ? Long.MIN_VALUE + 3 : Long.MIN_VALUE + 4;
        } catch (RuntimeException e) {
            return Long.MIN_VALUE + 5;
        }
    }

    private long compare(String call, LongSupplier got, LongSupplier due) {
        calls++;
        long g = answer(got);
        long d = answer(due);
        if (g != d) {
            wrong++;
            System.out.println("run " + run + ", call " + calls + ": " + call + " answered " + g + ", the model " + d);
        }
        return d;
    }

    private void teach() {
        String text = random.nextInt(40) == 0 ? noise() : new Maker().list();
        if (text.length() > 2000) {
            text = text.substring(0, 2000);
        }
        List<int[]> feeds = new ArrayList<>();
        for (int from = 0; from < text.length(); from += 20) {
            int[] numbers = new int[5];
            for (int n = 0; n < 20; n++) {
                int sign = from + n < text.length() ? text.charAt(from + n) : 'z';
                numbers[n / 4] = numbers[n / 4] << 8 | sign;
            }
            feeds.add(numbers);
        }
        answer(() -> real.trim(0));
        answer(() -> model.trim(0));
        for (int[] f : feeds) {
            compare("feed", () -> real.feed(f[0], f[1], f[2], f[3], f[4]),
                    () -> model.feed(f[0], f[1], f[2], f[3], f[4]));
        }
        int length = text.length();
        compare("trim(" + length + ")", () -> real.trim(length), () -> model.trim(length));
        int before = wrong;
        int error = (int) compare("teach()", real::teach, model::teach);
        taught[error]++;
        compare("errorAt()", real::errorAt, model::errorAt);
        if (wrong != before) {
            System.out.println(text);
        }
        colours = model.count(1);
        cords = model.count(2);
        tops = model.count(3);
        keepers = model.count(4);
    }

    private String noise() {
        StringBuilder text = new StringBuilder();
        for (int n = random.nextInt(40); n >= 0; n--) {
            text.append((char) random.nextInt(256));
        }
        return text.toString();
    }

    private int index(int size) {
        return random.nextInt(25) == 0 ? new int[] {-1, size, -2, Integer.MIN_VALUE, Integer.MAX_VALUE}[random.nextInt(5)]
                : random.nextInt(Math.max(1, size));
    }

    private void ask() {
        int a = index(cords);
        int b = index(cords);
        int t = index(tops);
        int k = index(keepers);
        int c = index(colours);
        switch (random.nextInt(26)) {
            case 0, 1 -> {
                int what = index(13);
                compare("count(" + what + ")", () -> real.count(what), () -> model.count(what));
            }
            case 2 -> {
                int what = index(3);
                compare("colour(" + c + ", " + what + ")", () -> real.colour(c, what), () -> model.colour(c, what));
            }
            case 3, 4 -> {
                int what = index(9);
                compare("cord(" + a + ", " + what + ")", () -> real.cord(a, what), () -> model.cord(a, what));
            }
            case 5 -> {
                int place = index(4);
                compare("digit(" + a + ", " + place + ")", () -> real.digit(a, place), () -> model.digit(a, place));
            }
            case 6 -> {
                int what = index(4);
                compare("top(" + t + ", " + what + ")", () -> real.top(t, what), () -> model.top(t, what));
            }
            case 7 -> {
                int what = index(4);
                compare("keeper(" + k + ", " + what + ")", () -> real.keeper(k, what), () -> model.keeper(k, what));
            }
            case 8 -> compare("apart(" + a + ", " + b + ")", () -> real.apart(a, b), () -> model.apart(a, b));
            case 9 -> compare("order(" + a + ")", () -> real.order(a), () -> model.order(a));
            case 10 -> {
                int sum = cords == 0 ? 0 : model.cord(random.nextInt(cords), 4) + random.nextInt(8) / 7;
                compare("find(" + sum + ")", () -> real.find(sum), () -> model.find(sum));
            }
            case 11 -> compare("disorder()", real::disorder, model::disorder);
            case 12 -> {
                int value = random.nextInt(10) == 0 ? random.nextInt() : random.nextInt(10001);
                compare("set(" + a + ", " + value + ")", () -> real.set(a, value), () -> model.set(a, value));
            }
            case 13 -> compare("rest(" + k + ")", () -> real.rest(k), () -> model.rest(k));
            case 14 -> compare("dye(" + a + ", " + c + ")", () -> real.dye(a, c), () -> model.dye(a, c));
            case 15, 16 -> {
                int under = random.nextInt(4) == 0 ? -1 : b;
                compare("hang(" + a + ", " + under + ")", () -> real.hang(a, under), () -> model.hang(a, under));
            }
            case 17, 18 -> {
                int months = random.nextInt(10) == 0 ? new int[] {0, 1, 120, 121, -3}[random.nextInt(5)]
                        : 1 + random.nextInt(12);
                compare("pass(" + months + ")", () -> real.pass(months), () -> model.pass(months));
            }
            case 19, 20 -> {
                long until = compare("until(" + t + ")", () -> real.until(t), () -> model.until(t));
                surprised += until > 0 ? 1 : 0;
            }
            case 21 -> {
                int months = random.nextInt(10) == 0 ? new int[] {0, 1, 120, 121, -3}[random.nextInt(5)]
                        : 1 + random.nextInt(40);
                int what = 5 + random.nextInt(8);
                compare("foresee(" + months + ", " + what + ")", () -> real.foresee(months, what),
                        () -> model.foresee(months, what));
            }
            case 22, 23 -> {
                int months = random.nextInt(10) == 0 ? new int[] {0, 1, 90, 91, -3}[random.nextInt(5)]
                        : 1 + random.nextInt(20);
                long keeper = compare("advise(" + months + ")", () -> real.advise(months), () -> model.advise(months));
                advised += keeper >= 0 ? 1 : 0;
            }
            case 24 -> compare("mean()", () -> Double.doubleToLongBits(real.mean()),
                    () -> Double.doubleToLongBits(model.mean()));
            default -> compare("digest()", real::digest, model::digest);
        }
    }

    /** Makes up lists, most of them good ones. */
    private final class Maker {
        private final StringBuilder text = new StringBuilder();
        private int madeColours;
        private int madeCords;
        private int madeTops;
        private int madeKeepers;
        private boolean lastIsNumber;
        private final int[] depth = new int[30];
        private final boolean careless = random.nextInt(4) == 0;
        private final boolean crowded = random.nextInt(6) == 0;

        String list() {
            madeColours = 1 + random.nextInt(careless ? 7 : 6);
            for (int n = 0; n < madeColours; n++) {
                put("colour", "c" + n, "rank", oddly(100, random.nextInt(random.nextBoolean() ? 100 : 4)), ";");
            }
            int cordsToMake = crowded ? 14 + random.nextInt(careless ? 4 : 3) : 1 + random.nextInt(12);
            for (int n = 0; n < cordsToMake; n++) {
                cord(n);
            }
            madeTops = crowded ? 4 + random.nextInt(careless ? 4 : 3) : random.nextInt(5);
            for (int n = 0; n < madeTops; n++) {
                top(n);
            }
            madeKeepers = crowded ? 3 + random.nextInt(careless ? 4 : 3) : random.nextInt(6);
            for (int n = 0; n < madeKeepers; n++) {
                put("keeper", "k" + n, "care", oddly(10, 1 + random.nextInt(random.nextBoolean() ? 9 : 2)), ";");
            }
            int orders = crowded ? random.nextInt(careless ? 23 : 21) : random.nextInt(9);
            for (int n = 0; n < orders && madeKeepers > 0; n++) {
                order();
            }
            return random.nextInt(3) == 0 ? spoiled(text.toString()) : text.toString();
        }

        /** Now and then another number, or one that is out of range. */
        private String oddly(int beyond, int number) {
            if (random.nextInt(60) == 0) {
                return "" + (beyond - 1);
            }
            return "" + (careless && random.nextInt(40) == 0 ? random.nextBoolean() ? beyond : 0 : number);
        }

        private void put(String... words) {
            for (String word : words) {
                boolean joins = text.length() > 0 && !word.isEmpty()
                        && Character.isLetterOrDigit(text.charAt(text.length() - 1))
                        && Character.isLetterOrDigit(word.charAt(0));
                boolean digits = joins && lastIsNumber && Character.isLetter(word.charAt(0)) && random.nextInt(4) == 0;
                boolean signs = text.length() > 0 && word.equals("=");
                if (joins && !digits || signs || random.nextInt(30) == 0) {
                    text.append(random.nextInt(10) == 0 ? "\n" : random.nextInt(20) == 0 ? "  " : " ");
                }
                text.append(word);
                lastIsNumber = Character.isDigit(word.charAt(0));
            }
        }

        private String some(String sort, int made) {
            return sort + random.nextInt(made + (careless && random.nextInt(60) == 0 ? 1 : 0));
        }

        private void cord(int n) {
            int under = n == 0 || random.nextInt(3) == 0 ? -1 : random.nextInt(n);
            if (under >= 0 && depth[under] >= 4 && !(careless && random.nextInt(10) == 0)) {
                under = -1;
            }
            depth[n] = under < 0 ? 1 : depth[under] + 1;
            int named = careless && random.nextInt(80) == 0 && n > 0 ? n - 1 : n;
            put("cord", "d" + named, "of", some("c", madeColours), "under", under < 0 ? "main" : "d" + under);
            if (random.nextInt(3) > 0) {
                put("count", oddly(10000, random.nextInt(random.nextBoolean() ? 10000 : 30)));
            }
            put(";");
            madeCords = n + 1;
        }

        private void top(int n) {
            put("top", "t" + (careless && random.nextInt(40) == 0 && n > 0 ? n - 1 : n), "over");
            int most = 2 + random.nextInt(crowded ? careless ? 8 : 7 : 4);
            List<Integer> used = new ArrayList<>();
            for (int tries = 0; tries < 60 && used.size() < most; tries++) {
                int cord = random.nextInt(madeCords);
                if (!used.contains(cord) || careless && random.nextInt(40) == 0) {
                    used.add(cord);
                    put("d" + cord);
                }
            }
            put(";");
        }

        private void order() {
            if (madeTops > 0 && random.nextBoolean()) {
                put("tally", some("t", madeTops), "by", some("k", madeKeepers));
            } else {
                put("tie", some("d", madeCords), "by", some("k", madeKeepers), "as");
                sum(crowded ? 1 : random.nextInt(3));
            }
            if (random.nextInt(3) > 0) {
                put("when");
                test(crowded ? 1 : random.nextInt(3));
            }
            put(";");
        }

        private void test(int size) {
            for (int n = random.nextInt(size + 1); n > 0; n--) {
                single(size - 1);
                put(random.nextBoolean() ? "and" : "or");
            }
            single(size - 1);
        }

        private void single(int size) {
            int choice = random.nextInt(8);
            if (choice == 0) {
                put("not");
                single(size);
            } else if (choice == 1 && size > 0) {
                put("[");
                test(size);
                put("]");
            } else if (choice <= 3 && madeTops > 0) {
                put("wrong", some("t", madeTops));
            } else if (choice == 4) {
                put("month", "/", "3", "*", "3", "=", "month");
            } else {
                sum(size);
                put(new String[] {"<", ">", "=", "<=", ">="}[random.nextInt(5)]);
                sum(size);
            }
        }

        private void sum(int size) {
            for (int n = random.nextInt(Math.max(1, size + 1)); n > 0; n--) {
                value(size - 1);
                put(new String[] {"+", "-", "*", "/"}[random.nextInt(4)]);
            }
            value(size - 1);
        }

        private void value(int size) {
            switch (random.nextInt(12)) {
                case 0 -> put("month");
                case 1, 2 -> put("value", some("d", madeCords));
                case 3 -> put("sum", some("d", madeCords));
                case 4 -> put("knots", some("d", madeCords));
                case 5 -> put(madeTops > 0 ? new String[] {"record", some("t", madeTops)} : new String[] {"7"});
                case 6 -> put("tired", some("k", madeKeepers));
                case 7 -> {
                    put("-");
                    value(size - 1);
                }
                case 8 -> deeper(size, "(");
                case 9 -> deeper(size, random.nextBoolean() ? "min" : "max");
                default -> put("" + random.nextInt(new int[] {3, 10, 100, 10000, 1000000}[random.nextInt(5)]));
            }
        }

        private void deeper(int size, String begin) {
            if (size <= -12) {
                put("1");
                return;
            }
            put(begin);
            if (!begin.equals("(")) {
                put("(");
                sum(size - 1);
                put(",");
            }
            sum(size - 1);
            put(")");
        }

        /** Does something to the text that most likely makes it a faulty list. */
        private String spoiled(String good) {
            StringBuilder bad = new StringBuilder(good);
            int at = random.nextInt(bad.length());
            switch (random.nextInt(6)) {
                case 0 -> bad.deleteCharAt(at);
                case 1 -> bad.insert(at, (char) random.nextInt(256));
                case 2 -> bad.setCharAt(at, "()[];,+-*/<>= \nab019".charAt(random.nextInt(20)));
                case 3 -> bad.setLength(at);
                case 4 -> bad.insert(at, new String[] {"-", "not ", "(", "((((((((", "[[[[[[[[[", "- - - - - - - - - ",
                    " not not not not not not not not not ", "min(", "9999999", "abcdefghijk"}[random.nextInt(10)]);
                default -> {
                    String[] words = good.split(" ");
                    int n = random.nextInt(words.length);
                    words[n] = words[random.nextInt(words.length)];
                    return String.join(" ", words);
                }
            }
            return bad.toString();
        }
    }
}
