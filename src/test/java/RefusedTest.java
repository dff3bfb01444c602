import java.util.function.Supplier;
import java.util.function.ToLongFunction;

/**
 * Calls that are refused, each with a number just too small, just too large, and far off.
 * "A method that throws an exception changes nothing": behind each of them all later calls
 * answer as they do of a twin of the province that was not asked.
 */
public final class RefusedTest extends Cases {
    private static final Class<?> INDEX = IndexOutOfBoundsException.class;
    private static final Class<?> ARGUMENT = IllegalArgumentException.class;
    private static final Class<?> STATE = IllegalStateException.class;
    private static final int LEAST = Integer.MIN_VALUE;
    private static final int GREATEST = Integer.MAX_VALUE;
    private static final String ON_THE_TAPE = "colour new rank 3; cord n of new under main count 8;";

    private RefusedTest() {
    }

    public static void main(String[] args) {
        feedBeyond2000();
        trimToWhatIsNot();
        countOfNothing();
        colourOfNone();
        cordOfNone();
        digitOfNone();
        topOfNone();
        keeperOfNone();
        apartOfNone();
        orderOfNoPlace();
        setOfNoCord();
        setToNoValue();
        restOfNone();
        dyeOfNone();
        hangOfNone();
        hangFromItself();
        hangTooDeep();
        passNoMonths();
        untilOfNone();
        foreseeNoMonths();
        foreseeNothing();
        adviseForNoMonths();
        theExceptionNamedFirst();
        end();
    }

    // ---- provinces to be asked

    /** Six cords, hands on some, tired keepers, an error behind and a good list on the tape. */
    private static QuipuKeepers lively() {
        QuipuKeepers x = taught(QUIPU + "tie e by k as value e + 11; tally t by l when month / 2 * 2 = month;"
                + "tie b by k as 999 - value b when wrong u;");
        x.pass(4);
        x.set(2, 71);
        x.dye(5, 1);
        x.hang(4, 2);
        due("a faulty list", Listing.teach(x, "colour a rank 1; colour a rank 2;"), "2@24");
        Listing.put(x, ON_THE_TAPE);
        return x;
    }

    /** Two chains of four cords, and two more: a cord from each depth is at hand. */
    private static QuipuKeepers deep() {
        QuipuKeepers x = taught("colour r rank 1; cord a of r under main count 1; cord b of r under a count 20;"
                + "cord c of r under b count 300; cord d of r under c count 4000; cord e of r under main count 5;"
                + "cord f of r under e count 60; cord g of r under f count 700; cord h of r under g count 8000;"
                + "keeper k care 2; tie a by k as sum e;");
        Listing.put(x, ON_THE_TAPE);
        return x;
    }

    private static QuipuKeepers withTape(int bytes) {
        QuipuKeepers x = new QuipuKeepers();
        Listing.put(x, ON_THE_TAPE + " ".repeat(bytes - ON_THE_TAPE.length()));
        return x;
    }

    // ---- how it is asked

    private static void refused(String what, Class<?> exception, Supplier<QuipuKeepers> made, ToLongFunction<QuipuKeepers> call) {
        QuipuKeepers x = made.get();
        QuipuKeepers twin = made.get();
        due(what, thrown(() -> call.applyAsLong(x)), exception.getName());
        due("what is there behind " + what, Portrait.of(x), Portrait.of(twin));
        due("what is later behind " + what, Portrait.ofLater(x), Portrait.ofLater(twin));
    }

    /** The call is answered for the first and the last number, and refused for all below and above. */
    private static void allowed(String what, Class<?> exception, Supplier<QuipuKeepers> made, int first, int last,
            Asked call) {
        for (int good = first; good <= last; good += Math.max(1, last - first)) {
            int number = good;
            String answer = thrown(() -> call.of(made.get(), number));
            due(what + " for " + number + " answers", answer.startsWith("answer"), true);
        }
        for (int bad : new int[] {first - 1, last + 1, first - 1000, last + 1000, LEAST, GREATEST}) {
            refused(what + " for " + bad, exception, made, x -> call.of(x, bad));
        }
    }

    private interface Asked {
        long of(QuipuKeepers x, int number);
    }

    // ---- the language

    /** "Throws IllegalStateException if there would be more than 2000" */
    private static void feedBeyond2000() {
        for (int bytes : new int[] {2000, 1999, 1990, 1981}) {
            refused("feed onto " + bytes + " bytes", STATE, () -> withTape(bytes), x -> x.feed(-1, 0x61616161, 0, 1, 2));
        }
        due("feed onto 1980 bytes", withTape(1980).feed(1, 2, 3, 4, 5), 2000);
        QuipuKeepers x = withTape(1981);
        for (int n = 0; n < 3; n++) {
            throwsState("feed onto 1981 bytes once more", () -> x.feed(1, 2, 3, 4, 5));
        }
        due("the bytes behind feeds that are refused", x.count(12), 1981);
        due("a byte less", x.trim(1980), 1980);
        due("room for twenty at last", x.feed(0x20202020, 0x20202020, 0x20202020, 0x20202020, 0x20202020), 2000);
        due("the list behind all this", x.teach(), 0);
        due("what it tells", x.cord(0, 3), 8);
    }

    /** "Throws IllegalArgumentException if n is not 0 to the number of bytes of the tape" */
    private static void trimToWhatIsNot() {
        allowed("trim", ARGUMENT, RefusedTest::lively, 0, ON_THE_TAPE.length(), QuipuKeepers::trim);
        allowed("trim of an empty tape", ARGUMENT, QuipuKeepers::new, 0, 0, QuipuKeepers::trim);
        allowed("trim of a full tape", ARGUMENT, () -> withTape(2000), 0, 2000, QuipuKeepers::trim);
        QuipuKeepers x = withTape(100);
        x.trim(60);
        throwsArgument("trim to what is cut off already", () -> x.trim(61));
        x.teach();
        throwsArgument("trim to 1 behind teach", () -> x.trim(1));
    }

    /** "Throws IndexOutOfBoundsException if what is not 0 to 12" */
    private static void countOfNothing() {
        allowed("count", INDEX, RefusedTest::lively, 0, 12, QuipuKeepers::count);
        allowed("count of a new object", INDEX, QuipuKeepers::new, 0, 12, QuipuKeepers::count);
    }

    // ---- what there is

    /** "Throws IndexOutOfBoundsException if there is no such colour, or what is not 0 to 2" */
    private static void colourOfNone() {
        allowed("colour(.., 0)", INDEX, RefusedTest::lively, 0, 2, (x, n) -> x.colour(n, 0));
        allowed("colour(0, ..)", INDEX, RefusedTest::lively, 0, 2, (x, n) -> x.colour(0, n));
        refused("colour(3, 3)", INDEX, RefusedTest::lively, x -> x.colour(3, 3));
        refused("colour(0, 0) of a new object", INDEX, QuipuKeepers::new, x -> x.colour(0, 0));
    }

    /** "Throws IndexOutOfBoundsException if there is no such cord, or what is not 0 to 8" */
    private static void cordOfNone() {
        allowed("cord(.., 3)", INDEX, RefusedTest::lively, 0, 5, (x, n) -> x.cord(n, 3));
        allowed("cord(5, ..)", INDEX, RefusedTest::lively, 0, 8, (x, n) -> x.cord(5, n));
        refused("cord(6, 9)", INDEX, RefusedTest::lively, x -> x.cord(6, 9));
        refused("cord(0, 0) of a new object", INDEX, QuipuKeepers::new, x -> x.cord(0, 0));
    }

    /** "Throws IndexOutOfBoundsException if there is no such cord, or place is not 0 to 3" */
    private static void digitOfNone() {
        allowed("digit(.., 0)", INDEX, RefusedTest::lively, 0, 5, (x, n) -> x.digit(n, 0));
        allowed("digit(5, ..)", INDEX, RefusedTest::lively, 0, 3, (x, n) -> x.digit(5, n));
        refused("digit(6, 4)", INDEX, RefusedTest::lively, x -> x.digit(6, 4));
        refused("digit(0, 0) of a new object", INDEX, QuipuKeepers::new, x -> x.digit(0, 0));
    }

    /** "Throws IndexOutOfBoundsException if there is no such top cord, or what is not 0 to 3" */
    private static void topOfNone() {
        allowed("top(.., 2)", INDEX, RefusedTest::lively, 0, 1, (x, n) -> x.top(n, 2));
        allowed("top(1, ..)", INDEX, RefusedTest::lively, 0, 3, (x, n) -> x.top(1, n));
        refused("top(2, 4)", INDEX, RefusedTest::lively, x -> x.top(2, 4));
        refused("top(0, 0) of a new object", INDEX, QuipuKeepers::new, x -> x.top(0, 0));
    }

    /** "Throws IndexOutOfBoundsException if there is no such keeper, or what is not 0 to 3" */
    private static void keeperOfNone() {
        allowed("keeper(.., 1)", INDEX, RefusedTest::lively, 0, 1, (x, n) -> x.keeper(n, 1));
        allowed("keeper(1, ..)", INDEX, RefusedTest::lively, 0, 3, (x, n) -> x.keeper(1, n));
        refused("keeper(2, 4)", INDEX, RefusedTest::lively, x -> x.keeper(2, 4));
        refused("keeper(0, 0) of a new object", INDEX, QuipuKeepers::new, x -> x.keeper(0, 0));
    }

    /** "Throws IndexOutOfBoundsException if there is no such cord": -1, the main cord, is none either. */
    private static void apartOfNone() {
        allowed("apart(.., 0)", INDEX, RefusedTest::lively, 0, 5, (x, n) -> x.apart(n, 0));
        allowed("apart(0, ..)", INDEX, RefusedTest::lively, 0, 5, (x, n) -> x.apart(0, n));
        refused("apart(6, 6)", INDEX, RefusedTest::lively, x -> x.apart(6, 6));
        refused("apart(-1, -1)", INDEX, RefusedTest::lively, x -> x.apart(-1, -1));
        refused("apart(0, 0) of a new object", INDEX, QuipuKeepers::new, x -> x.apart(0, 0));
    }

    /** "Throws IndexOutOfBoundsException if there is no such place" */
    private static void orderOfNoPlace() {
        allowed("order", INDEX, RefusedTest::lively, 0, 5, QuipuKeepers::order);
        refused("order(0) of a new object", INDEX, QuipuKeepers::new, x -> x.order(0));
    }

    // ---- by hand

    /** "Throws IndexOutOfBoundsException if there is no such cord" */
    private static void setOfNoCord() {
        allowed("set(.., 0)", INDEX, RefusedTest::lively, 0, 5, (x, n) -> x.set(n, 0));
        refused("set(0, 0) of a new object", INDEX, QuipuKeepers::new, x -> x.set(0, 0));
    }

    /** "Throws IllegalArgumentException if value is not 0 to 9999" */
    private static void setToNoValue() {
        allowed("set(5, ..)", ARGUMENT, RefusedTest::lively, 0, 9999, (x, n) -> x.set(5, n));
    }

    /** "Throws IndexOutOfBoundsException if there is no such keeper" */
    private static void restOfNone() {
        allowed("rest", INDEX, RefusedTest::lively, 0, 1, QuipuKeepers::rest);
        refused("rest(0) of a new object", INDEX, QuipuKeepers::new, x -> x.rest(0));
    }

    /** "Throws IndexOutOfBoundsException if there is no such cord, or no such colour" */
    private static void dyeOfNone() {
        allowed("dye(.., 2)", INDEX, RefusedTest::lively, 0, 5, (x, n) -> x.dye(n, 2));
        allowed("dye(5, ..)", INDEX, RefusedTest::lively, 0, 2, (x, n) -> x.dye(5, n));
        refused("dye(6, 3)", INDEX, RefusedTest::lively, x -> x.dye(6, 3));
        refused("dye(0, 0) of a new object", INDEX, QuipuKeepers::new, x -> x.dye(0, 0));
    }

    /** "Throws IndexOutOfBoundsException if there is no such cord, or under is neither a cord nor -1" */
    private static void hangOfNone() {
        allowed("hang(.., -1)", INDEX, RefusedTest::lively, 0, 5, (x, n) -> x.hang(n, -1));
        refused("hang(5, -2)", INDEX, RefusedTest::lively, x -> x.hang(5, -2));
        refused("hang(5, 6)", INDEX, RefusedTest::lively, x -> x.hang(5, 6));
        refused("hang(5, least)", INDEX, RefusedTest::lively, x -> x.hang(5, LEAST));
        refused("hang(5, greatest)", INDEX, RefusedTest::lively, x -> x.hang(5, GREATEST));
        refused("hang(0, -1) of a new object", INDEX, QuipuKeepers::new, x -> x.hang(0, -1));
        due("hang(5, -1)", lively().hang(5, -1), 1);
    }

    /** "Throws IllegalStateException if under is the cord itself, or hangs from it (also by way of others)" */
    private static void hangFromItself() {
        for (int cord = 0; cord < 4; cord++) {
            for (int under = cord; under < 4; under++) {
                int from = cord;
                int to = under;
                refused("hang(" + from + ", " + to + ")", STATE, RefusedTest::deep, x -> x.hang(from, to));
            }
        }
        refused("hang(4, 4) of a cord at the main cord", STATE, RefusedTest::deep, x -> x.hang(4, 4));
    }

    /** "or some cord would be more than 4 deep" */
    private static void hangTooDeep() {
        for (int cord = 4; cord < 8; cord++) {
            for (int under = 0; under < 4; under++) {
                int from = cord;
                int to = under;
                // Below it hang 7 - from cords, one below the other; the other one is to + 1 deep.
                if (to + 1 + 1 + 7 - from > 4) {
                    refused("hang(" + from + ", " + to + ")", STATE, RefusedTest::deep, x -> x.hang(from, to));
                } else {
                    due("hang(" + from + ", " + to + ")", deep().hang(from, to), to + 2);
                }
            }
        }
        refused("hang of one alone from one 4 deep", STATE, RefusedTest::firstAlone, x -> x.hang(0, 7));
        due("hang of one alone from one 3 deep", firstAlone().hang(0, 6), 4);
    }

    private static QuipuKeepers firstAlone() {
        QuipuKeepers x = deep();
        x.hang(1, -1);
        return x;
    }

    // ---- months

    /** "Throws IllegalArgumentException if months is not 1 to 120" */
    private static void passNoMonths() {
        allowed("pass", ARGUMENT, RefusedTest::lively, 1, 120, QuipuKeepers::pass);
        allowed("pass of a new object", ARGUMENT, QuipuKeepers::new, 1, 120, QuipuKeepers::pass);
    }

    // ---- what would be

    /** "Throws IndexOutOfBoundsException if there is no such top cord" */
    private static void untilOfNone() {
        allowed("until", INDEX, RefusedTest::lively, 0, 1, QuipuKeepers::until);
        refused("until(0) of a new object", INDEX, QuipuKeepers::new, x -> x.until(0));
    }

    /** "Throws IllegalArgumentException if months is not 1 to 120" */
    private static void foreseeNoMonths() {
        allowed("foresee(.., 6)", ARGUMENT, RefusedTest::lively, 1, 120, (x, n) -> x.foresee(n, 6));
    }

    /** "Throws IndexOutOfBoundsException if what is none of these": 6 to 11 */
    private static void foreseeNothing() {
        allowed("foresee(2, ..)", INDEX, RefusedTest::lively, 6, 11, (x, n) -> x.foresee(2, n));
        refused("foresee(1, 0)", INDEX, RefusedTest::lively, x -> x.foresee(1, 0));
        refused("foresee(120, 12)", INDEX, RefusedTest::lively, x -> x.foresee(120, 12));
    }

    /** "Throws IllegalArgumentException if months is not 1 to 90" */
    private static void adviseForNoMonths() {
        allowed("advise", ARGUMENT, RefusedTest::lively, 1, 90, QuipuKeepers::advise);
        allowed("advise without keepers", ARGUMENT, QuipuKeepers::new, 1, 90, QuipuKeepers::advise);
    }

    /** "If several exceptions apply, the one that is named first is thrown." */
    private static void theExceptionNamedFirst() {
        refused("set of no cord to no value", INDEX, RefusedTest::lively, x -> x.set(6, 10000));
        refused("set of no cord to no value", INDEX, RefusedTest::lively, x -> x.set(-1, -1));
        refused("hang of no cord from itself", INDEX, RefusedTest::lively, x -> x.hang(6, 6));
        refused("hang of the main cord from itself", INDEX, RefusedTest::lively, x -> x.hang(-1, -1));
        refused("hang of the main cord from one that is 4 deep", INDEX, RefusedTest::deep, x -> x.hang(-1, 3));
        refused("foresee of no months and of nothing", ARGUMENT, RefusedTest::lively, x -> x.foresee(0, 12));
        refused("foresee of no months and of nothing", ARGUMENT, RefusedTest::lively, x -> x.foresee(121, 5));
    }
}
