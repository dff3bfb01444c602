import java.math.BigInteger;
import java.util.function.ToLongFunction;

/**
 * The edges of calls that are answered, promise by promise: empty and full provinces, the first and
 * the last number that is allowed, and what is told where there is none. RefusedTest has the others.
 */
public final class CallEdgesTest extends Cases {
    private static final String CHAINS = "colour r rank 1; cord a of r under main count 1; cord b of r under a count 20;"
            + "cord c of r under b count 300; cord d of r under c count 4000; cord e of r under main count 5;"
            + "cord f of r under e count 60; cord g of r under f count 700; cord h of r under g count 8000;";
    private static final String PAIR = "colour c rank 1; cord a of c under main; cord b of c under main; top t over a b;"
            + "keeper k care 9;";

    private CallEdgesTest() {
    }

    public static void main(String[] args) {
        calls512();
        newObject();
        feedBytes();
        feedUpTo2000();
        trimToEachLength();
        fullProvince();
        colourWithoutCords();
        cordWithNoneAndAll();
        digitsOfEachPlace();
        topRightAndWrong();
        keeperAtFirst();
        apartOfEachPair();
        orderOfAsMuch();
        findOfNone();
        disorderOfAsMuch();
        setFirstAndLast();
        restOfOneNotTired();
        dyeTheSame();
        hangAtFourDeep();
        hangWhereItHangs();
        passOneAnd120();
        untilAtEachEdge();
        untilOfOneMonthAlone();
        foreseeOneAnd120();
        adviseNobody();
        adviseTheSmallestNumber();
        adviseTheLast();
        adviseFromNone();
        adviseOneAnd90();
        nothingIsChanged();
        meanOfNone();
        meanOfThirds();
        digestWrapsAround();
        end();
    }

    /** "An object is used for at most 512 calls after it has been made": the last one is answered as the first. */
    private static void calls512() {
        QuipuKeepers x = new QuipuKeepers();
        for (int n = 0; n < 511; n++) {
            x.pass(120);
        }
        due("the month at the 512th call", x.count(0), 511 * 120);
        QuipuKeepers y = new QuipuKeepers();
        for (int n = 0; n < 511; n += 7) {
            Listing.teach(y, "colour c rank 1; ?");
        }
        due("errorAt behind many lists", y.errorAt(), 17);
        QuipuKeepers z = full();
        for (int n = 0; n < 400; n++) {
            z.advise(90);
        }
        due("count behind many calls", z.count(2), 16);
    }

    // ---- promises 1 to 5

    /** "Creates a province without cords, in the month 0." */
    private static void newObject() {
        QuipuKeepers x = new QuipuKeepers();
        due("the month of a new object", x.count(0), 0);
        due("cords of a new object", x.count(2), 0);
        for (int what = 0; what <= 12; what++) {
            due("count(" + what + ") of a new object", x.count(what), 0);
        }
        QuipuKeepers taught = new QuipuKeepers();
        taught.teach();
        due("a new object is as one that was taught nothing", Portrait.of(x), Portrait.of(taught));
    }

    /** "the four bytes of each number, the highest one first" */
    private static void feedBytes() {
        String signs = "colour abc rank 0012";
        for (int at = 0; at < 20; at++) {
            for (int sign : new int[] {0, 1, 127, 128, 255}) {
                QuipuKeepers x = new QuipuKeepers();
                Listing.put(x, " ".repeat(at) + (char) sign + " ".repeat(19 - at));
                due("teach of " + sign + " at " + at, x.teach(), 1);
                due("where it is", x.errorAt(), at);
            }
        }
        QuipuKeepers x = new QuipuKeepers();
        x.feed(0x636f6c6f, 0x75722061, 0x62632072, 0x616e6b20, 0x30303132);
        x.feed(0x3b202020, 0x20202020, 0x20202020, 0x20202020, 0x2020200a);
        due("teach of " + signs, x.teach(), 0);
        due("the rank", x.colour(0, 0), 12);
        QuipuKeepers y = new QuipuKeepers();
        y.feed(-1, -1, -1, -1, -1);
        y.trim(1);
        due("a byte of a number below 0", y.teach() * 100 + y.errorAt(), 100);
    }

    /** "Returns the number of bytes of the tape.", at most 2000 */
    private static void feedUpTo2000() {
        QuipuKeepers x = new QuipuKeepers();
        for (int n = 1; n <= 100; n++) {
            due("feed", x.feed(n, 0, 0, 0, -n), 20 * n);
            due("bytes behind it", x.count(12), 20 * n);
        }
        QuipuKeepers y = new QuipuKeepers();
        y.feed(0, 0, 0, 0, 0);
        y.trim(1);
        for (int n = 1; n <= 99; n++) {
            due("feed onto 1 byte", y.feed(0, 0, 0, 0, 0), 20 * n + 1);
        }
        throwsState("feed onto 1981 bytes", () -> y.feed(0, 0, 0, 0, 0));
    }

    /** "Shortens the tape to its first bytes." */
    private static void trimToEachLength() {
        String text = "colour abcd rank 99;";
        // Where there is no list, for each number of bytes that are kept: at their end, or at a keyword cut to a name.
        int[] fault = {-1, 0, 0, 0, 0, 0, 6, 7, 8, 9, 10, 11, 12, 12, 12, 12, 16, 17, 18, 19, -1};
        for (int length = 0; length <= 20; length++) {
            QuipuKeepers x = new QuipuKeepers();
            Listing.put(x, text);
            due("trim", x.trim(length), length);
            due("trim to as many", x.trim(length), length);
            due("bytes", x.count(12), length);
            due("teach of what is kept", x.teach(), fault[length] < 0 ? 0 : 1);
            due("where it ends", x.errorAt(), fault[length]);
        }
    }

    // ---- promises 6 to 15

    /** As much as there can be of each. */
    private static QuipuKeepers full() {
        return taught(many(6, "colour c# rank 9#;") + many(15, "cord d# of c5 under main count 9999;")
                + "cord x of c5 under d0 count 9999;" + many(6, "top t# over d0 d1 d2 x;") + many(5, "keeper k# care 9;")
                + many(20, "tally t5 by k4;"));
    }

    private static void fullProvince() {
        QuipuKeepers x = full();
        int[] want = {0, 6, 16, 6, 5, 20, 16 * 9999, 16 * 28, 16 * 36, 6, 0, 0, 0};
        for (int what = 0; what <= 12; what++) {
            due("count(" + what + ") of a full province", x.count(what), want[what]);
        }
        due("the last colour", x.colour(5, 0), 95);
        due("its cords", x.colour(5, 1), 16);
        due("their values", x.colour(5, 2), 16 * 9999);
        due("the last cord", x.cord(15, 1), 0);
        due("the last top cord", x.top(5, 2), 5 * 9999);
        due("the last keeper", x.keeper(4, 0), 9);
        due("the last place", x.order(15), 15);
        throwsIndex("a 7th colour", () -> x.colour(6, 0));
        throwsIndex("a 17th cord", () -> x.cord(16, 0));
        throwsIndex("a 7th top cord", () -> x.top(6, 0));
        throwsIndex("a 6th keeper", () -> x.keeper(5, 0));
        throwsIndex("a 17th place", () -> x.order(16));
        throwsIndex("digit of a 17th cord", () -> x.digit(16, 0));
        throwsIndex("from a 17th cord", () -> x.apart(16, 0));
        throwsIndex("to a 17th cord", () -> x.apart(0, 16));
        throwsIndex("set of a 17th cord", () -> x.set(16, 0));
        throwsIndex("rest of a 6th keeper", () -> x.rest(5));
        throwsIndex("dye in a 7th colour", () -> x.dye(0, 6));
        throwsIndex("hang of a 17th cord", () -> x.hang(16, -1));
        throwsIndex("hang from a 17th cord", () -> x.hang(0, 16));
        throwsIndex("until of a 7th top cord", () -> x.until(6));
        due("the 20 orders of a month", x.pass(1), 20);
        due("those of 120 months", x.pass(120), 2400);
        due("all of them", x.count(10), 2420);
        due("the keeper's own", x.keeper(4, 2), 2420);
    }

    private static void colourWithoutCords() {
        QuipuKeepers x = full();
        due("cords of a colour without any", x.colour(0, 1), 0);
        due("their values", x.colour(0, 2), 0);
        x.dye(15, 0);
        due("cords behind dye", x.colour(0, 1) * 100 + x.colour(5, 1), 115);
        x.set(15, 0);
        due("the value of the only one", x.colour(0, 2), 0);
    }

    /** "7 cords that hang from it, 8 top cords that are over it" */
    private static void cordWithNoneAndAll() {
        QuipuKeepers x = full();
        due("cords that hang from the first", x.cord(0, 7), 1);
        due("cords that hang from one without any", x.cord(15, 7), 0);
        due("top cords over the last", x.cord(15, 8), 6);
        due("top cords over one without any", x.cord(14, 8), 0);
        for (int cord = 1; cord < 15; cord++) {
            x.hang(cord, 0);
        }
        due("all others hang from the first", x.cord(0, 7), 15);
        QuipuKeepers y = taught(CHAINS);
        due("what hangs from it by way of others is not counted", y.cord(0, 7), 1);
        due("the main cord is told as -1", y.cord(0, 1), -1);
    }

    /** "0 for the last one, 1 to 3 for those ahead of it" */
    private static void digitsOfEachPlace() {
        QuipuKeepers x = taught(CHAINS);
        int[] values = {0, 9, 10, 1000, 9999, 1234};
        int[] want = {0, 9, 10, 1000, 9999, 1234};
        for (int n = 0; n < values.length; n++) {
            x.set(7, values[n]);
            due("digits of " + values[n], x.digit(7, 3) * 1000 + x.digit(7, 2) * 100 + x.digit(7, 1) * 10 + x.digit(7, 0), want[n]);
        }
        due("the place ahead of all of 1234", x.digit(7, 3), 1);
    }

    private static void topRightAndWrong() {
        QuipuKeepers x = taught(PAIR);
        due("right over nothing", x.top(0, 3), 0);
        due("wrong top cords", x.count(9), 0);
        x.set(1, 1);
        due("wrong over 1", x.top(0, 3), 1);
        due("wrong top cords", x.count(9), 1);
        due("the record is not changed by hand", x.top(0, 1), 0);
    }

    private static void keeperAtFirst() {
        QuipuKeepers x = taught(PAIR);
        due("care, tired, orders, too tired", x.keeper(0, 0) * 1000 + x.keeper(0, 1) * 100 + x.keeper(0, 2) * 10 + x.keeper(0, 3),
                9000);
    }

    /** "the fewest steps from the one to the other one ... the main cord is one as well" */
    private static void apartOfEachPair() {
        QuipuKeepers x = taught(CHAINS);
        for (int a = 0; a < 8; a++) {
            for (int b = 0; b < 8; b++) {
                int steps = a / 4 == b / 4 ? Math.abs(a - b) : a % 4 + 1 + b % 4 + 1;
                due("from " + a + " to " + b, x.apart(a, b), steps);
            }
        }
        x.hang(4, -1);
        x.hang(6, 0);
        due("behind hang", x.apart(7, 3), 2 + 3);
        due("behind hang", x.apart(5, 7), 2 + 3);
    }

    /** "by the ranks of their colours, the least first, of as much by their sums, the greatest first, of as much by
     * their numbers" */
    private static void orderOfAsMuch() {
        QuipuKeepers x = taught("colour c rank 7; colour d rank 7; colour e rank 0;" + many(8, "cord m# of c under main;")
                + many(8, "cord n# of d under main;"));
        for (int place = 0; place < 16; place++) {
            due("the place of as much", x.order(place), place);
        }
        x.set(15, 1);
        due("the greater sum", x.order(0) * 100 + x.order(15), 1514);
        x.set(7, 2);
        due("the greatest sum", x.order(0) * 100 + x.order(1), 715);
        x.dye(4, 2);
        due("the least rank", x.order(0) * 100 + x.order(1), 407);
        due("the place of a cord alone", taught("colour c rank 0; cord a of c under main;").order(0), 0);
    }

    /** "of several the one with the smallest number; -1 if none has it" */
    private static void findOfNone() {
        QuipuKeepers x = taught(CHAINS);
        due("the sum of the first", x.find(4321), 0);
        due("the sum of the last", x.find(8000), 7);
        due("1 more", x.find(8001), -1);
        due("1 less", x.find(7999), -1);
        due("0 where none has it", x.find(0), -1);
        for (int sum : new int[] {-1, Integer.MIN_VALUE, Integer.MAX_VALUE, 12345}) {
            due("find(" + sum + ")", x.find(sum), -1);
        }
        due("without cords", new QuipuKeepers().find(0), -1);
        for (int cord = 0; cord < 8; cord++) {
            x.set(cord, 0);
        }
        due("0 where all have it", x.find(0), 0);
        x.set(3, 5);
        due("of four the smallest number", x.find(5), 0);
        due("of others with 0", x.find(0), 4);
    }

    /** "a colour of a lesser rank than the nearest one ahead of them, by numbers, that hangs from the same cord" */
    private static void disorderOfAsMuch() {
        String colours = "colour c rank 0; colour d rank 1; colour e rank 99; colour f rank 1;";
        due("of none", new QuipuKeepers().disorder(), 0);
        due("of one", taught(colours + "cord a of c under main;").disorder(), 0);
        due("of a greater rank", taught(colours + "cord a of c under main; cord b of d under main;").disorder(), 0);
        due("of a lesser rank", taught(colours + "cord a of d under main; cord b of c under main;").disorder(), 1);
        due("of as much", taught(colours + "cord a of d under main; cord b of f under main;").disorder(), 0);
        due("the nearest alone", taught(colours + "cord a of e under main; cord b of c under main; cord g of d under main;").disorder(), 1);
        due("below each other", taught(colours + "cord a of e under main; cord b of c under a; cord g of c under b;").disorder(), 0);
        due("below the same, others between", taught(colours + "cord a of c under main; cord b of e under a; cord g of c under main;"
                + "cord h of d under a;").disorder(), 1);
        due("half of the full", taught(colours + many(8, "cord m# of e under main; cord n# of d under main;")).disorder(), 8);
    }

    // ---- promises 16 to 19

    private static void setFirstAndLast() {
        QuipuKeepers x = taught(CHAINS);
        due("set to 0", x.set(3, 0), 4000);
        due("set to 0 again", x.set(3, 0), 0);
        due("set to 9999", x.set(3, 9999), 0);
        due("set to 9999 again", x.set(3, 9999), 9999);
        due("sums above", x.cord(0, 4) - x.cord(3, 4), 321);
        due("the value", x.cord(3, 3), 9999);
    }

    private static void restOfOneNotTired() {
        QuipuKeepers x = taught(PAIR + "tie a by k as 9999; tie b by k as 9999;");
        due("rest at first", x.rest(0), 0);
        x.pass(1);
        due("rest behind 16 - 9", x.rest(0), 7);
        due("rest again", x.rest(0), 0);
        due("orders carried out stay", x.keeper(0, 2), 2);
    }

    private static void dyeTheSame() {
        QuipuKeepers x = full();
        due("dye in the same colour", x.dye(15, 5), 5);
        due("its cords", x.colour(5, 1), 16);
        due("dye in the first", x.dye(15, 0), 5);
        due("dye in the last", x.dye(15, 5), 0);
    }

    /** "or some cord would be more than 4 deep": 4 is not. */
    private static void hangAtFourDeep() {
        QuipuKeepers x = taught(CHAINS);
        x.hang(7, -1);
        due("one alone from one 3 deep", x.hang(7, 2), 4);
        x.hang(6, -1);
        due("one alone from one 2 deep", x.hang(6, 1), 3);
        due("two from one 1 deep", x.hang(2, 4), 2);
        due("the deepest of them", x.cord(3, 2), 3);
        throwsState("one from one 4 deep", () -> {
            QuipuKeepers y = taught(CHAINS);
            y.hang(7, -1);
            return y.hang(7, 3);
        });
    }

    private static void hangWhereItHangs() {
        QuipuKeepers x = taught(CHAINS);
        String before = Portrait.of(x);
        due("hang from the main cord, as before", x.hang(0, -1), 1);
        due("hang 4 deep, as before", x.hang(3, 2), 4);
        due("all is as before", Portrait.of(x), before);
        due("hang from the main cord", x.hang(3, -1), 1);
        due("the sum without it", x.cord(0, 4), 321);
        due("the top of it alone", x.cord(3, 1), -1);
        due("and back", x.hang(3, 2), 4);
        due("the sum with it", x.cord(0, 4), 4321);
    }

    // ---- promise 20

    private static void passOneAnd120() {
        QuipuKeepers x = taught(PAIR + "tie a by k as 1; tie b by k as 2 when month = 119;");
        QuipuKeepers y = taught(PAIR + "tie a by k as 1; tie b by k as 2 when month = 119;");
        due("orders in 120 months", x.pass(120), 121);
        for (int month = 0; month < 120; month++) {
            due("orders in month " + month, y.pass(1), month == 119 ? 2 : 1);
        }
        due("120 months at once and one by one", Portrait.of(x), Portrait.of(y));
        due("only those of these months", x.pass(1), 1);
        due("month", x.count(0), 121);
    }

    // ---- promises 21 to 25

    /** "0 if it is now, at most 150; -1 if not by then" */
    private static void untilAtEachEdge() {
        for (int behind : new int[] {1, 2, 119, 120, 121, 149, 150, 151, 152}) {
            QuipuKeepers x = taughtInMonth1(PAIR + "tie a by k as 55 when month >= " + behind + ";");
            due("wrong behind " + behind, x.until(0), behind <= 150 ? behind : -1);
            x.pass(1);
            due("wrong behind 1 less", x.until(0), behind <= 151 ? behind - 1 : -1);
        }
        QuipuKeepers y = taught(PAIR);
        due("never wrong", y.until(0), -1);
        y.set(0, 1);
        due("wrong now", y.until(0), 0);
        QuipuKeepers z = taughtInMonth1(PAIR + "tally t by k;");
        z.set(0, 1);
        due("wrong now, though not in a month", z.until(0), 0);
    }

    /** The first month in which it is wrong is told, also if it is not wrong behind the next one. */
    private static void untilOfOneMonthAlone() {
        QuipuKeepers x = taughtInMonth1(PAIR + "tie a by k as 5 when month = 40; tie a by k as 0 when month = 41;"
                + "tie a by k as 5 when month = 61;");
        due("the first time", x.until(0), 40);
        x.pass(40);
        due("now", x.until(0), 0);
        x.pass(1);
        due("the second time", x.until(0), 20);
    }

    /** "Returns this, behind so many months": as count() tells it then. */
    private static void foreseeOneAnd120() {
        String text = QUIPU + "tie e by k as value e + 11; tie b by k as 97 * month; tally t by l when month / 2 * 2 = month;";
        for (int months : new int[] {1, 2, 5, 6, 7, 119, 120}) {
            QuipuKeepers x = taught(text);
            x.pass(3);
            QuipuKeepers y = taught(text);
            y.pass(3);
            y.pass(months);
            for (int what = 6; what <= 11; what++) {
                due("foresee(" + months + ", " + what + ")", x.foresee(months, what), y.count(what));
            }
        }
        QuipuKeepers none = new QuipuKeepers();
        for (int what = 6; what <= 11; what++) {
            due("foresee of a new object", none.foresee(120, what), 0);
        }
    }

    /** Two top cords over 15 each, and three keepers of care 1 of whom the two last ones tally them. */
    private static QuipuKeepers tiredKeepers(int tired, int by) {
        QuipuKeepers x = taught("colour c rank 1; cord a of c under main; cord b of c under main; cord d of c under main;"
                + "top t over a d; top u over b d; keeper k care 1; keeper l care 1; keeper m care 1;"
                + many(tired, "tie d by l as 0 when month = 0;") + many(by, "tie d by m as 0 when month = 0;")
                + "tally t by m when month > 0; tally u by l when month > 0;");
        x.pass(1);
        x.set(0, 15);
        x.set(1, 15);
        return x;
    }

    /** "-1 if there are no keepers, or by none fewer are wrong than without" */
    private static void adviseNobody() {
        due("of a new object", new QuipuKeepers().advise(90), -1);
        due("without keepers", taught(CORDS + "top t over a b;").advise(1), -1);
        due("without top cords", taught("keeper k care 1;").advise(1), -1);
        due("where none is too tired", tiredKeepers(6, 6).advise(1), -1);
        QuipuKeepers x = taught(CORDS + "top t over a b; keeper k care 1;");
        due("where it is wrong by any", x.foresee(1, 9) * 10 + x.advise(1), 9);
    }

    /** "of several the one with the smallest number" */
    private static void adviseTheSmallestNumber() {
        QuipuKeepers x = tiredKeepers(8, 8);
        due("both are too tired", x.keeper(1, 3) * 10 + x.keeper(2, 3), 11);
        due("wrong without rest", x.foresee(1, 9), 2);
        due("the smaller number", x.advise(1), 1);
        x.set(0, 20);
        due("the one by whom fewer are wrong", x.advise(1), 1);
        x.set(0, 15);
        x.set(1, 20);
        due("the other one by whom fewer are wrong", x.advise(1), 2);
        x.set(1, 15);
        x.rest(1);
        due("the one who is still tired", x.advise(1), 2);
        x.rest(2);
        due("none who is still tired", x.advise(1), -1);
        due("too tired by 1 alone", tiredKeepers(7, 6).advise(1), 1);
    }

    /** The last keeper, by whom fewer are wrong than by the first one, by whom fewer are wrong than without. */
    private static void adviseTheLast() {
        QuipuKeepers x = taught("colour c rank 1; cord a of c under main; cord b of c under main; cord d of c under main;"
                + "top t over a d; top u over b d; top v over a b; keeper k care 1; keeper l care 9; keeper m care 9; keeper n care 9;"
                + "keeper o care 1;" + many(8, "tie d by k as 0 when month = 0;") + many(9, "tie d by o as 0 when month = 0;")
                + "tally t by o when month > 0; tally u by o when month > 0; tally v by k when month > 0;");
        x.pass(1);
        x.set(0, 11);
        x.set(1, 14);
        due("wrong without rest", x.foresee(1, 9), 3);
        due("the last keeper", x.advise(1), 4);
        x.rest(4);
        due("then the first keeper", x.advise(1), 0);
    }

    /** Who rests "is not tired then": by 0, and so is at 5 times the care behind five orders, and beyond it behind six. */
    private static void adviseFromNone() {
        for (int orders = 4; orders <= 7; orders++) {
            QuipuKeepers x = taught("colour c rank 1; cord a of c under main; cord b of c under main; top t over a b; keeper k care 1;"
                    + many(9, "tie b by k as 0 when month = 0;") + many(orders, "tie b by k as 0 when month = 1;")
                    + "tally t by k when month = 1;");
            x.pass(1);
            x.set(0, 15);
            due("wrong without rest", x.foresee(1, 9), 1);
            due("advise ahead of " + orders + " orders", x.advise(1), orders <= 5 ? 0 : -1);
        }
    }

    /** "Throws IllegalArgumentException if months is not 1 to 90", and is answered for both. */
    private static void adviseOneAnd90() {
        // Who is tired by far too much stays too tired until the last month, in which the top cord is tallied.
        for (int months : new int[] {1, 2, 88, 90}) {
            String inTheLast = " when month = " + (months + 1) + ";";
            QuipuKeepers x = taught(PAIR + "keeper l care 1;" + many(14, "tie b by l as 9990 when month < 2;")
                    + "tie a by k as 15" + inTheLast + "tally t by l" + inTheLast);
            x.pass(2);
            x.set(1, 0);
            due("too tired in all these months", x.keeper(1, 1) - months > 5, true);
            due("wrong behind " + months + " without rest", x.foresee(months, 9), 1);
            due("wrong behind 1 less without rest", months == 1 ? 0 : x.foresee(months - 1, 9), 0);
            due("advise(" + months + ")", x.advise(months), 1);
        }
        QuipuKeepers y = tiredKeepers(8, 6);
        due("advise for 1 month", y.advise(1), 1);
        due("advise where it is better by time", y.advise(90), -1);
    }

    /** "(nothing is changed)" of until, foresee and advise */
    private static void nothingIsChanged() {
        changesNothing("until", x -> x.until(0) + x.until(1));
        changesNothing("foresee", x -> x.foresee(1, 6) + x.foresee(120, 11));
        changesNothing("advise", x -> x.advise(1) + x.advise(90));
    }

    private static void changesNothing(String what, ToLongFunction<QuipuKeepers> call) {
        QuipuKeepers x = tiredKeepers(8, 8);
        QuipuKeepers twin = tiredKeepers(8, 8);
        due(what + " asked twice", call.applyAsLong(x), call.applyAsLong(x));
        due("what is there behind " + what, Portrait.of(x), Portrait.of(twin));
        due("what is later behind " + what, Portrait.ofLater(x), Portrait.ofLater(twin));
    }

    /** "0 without any" */
    private static void meanOfNone() {
        due("of a new object", new QuipuKeepers().mean(), 0.0);
        QuipuKeepers x = taught(CHAINS);
        x.teach();
        due("behind teach of nothing", x.mean(), 0.0);
        due("of cords without values", taught("colour c rank 1; cord a of c under main;").mean(), 0.0);
    }

    private static void meanOfThirds() {
        QuipuKeepers x = taught(CHAINS);
        due("of two", x.mean(), (4321 + 8765) / 2.0);
        x.hang(7, -1);
        due("of three", x.mean(), (4321 + 765 + 8000) / 3.0);
        x.hang(4, 0);
        x.hang(7, 0);
        due("of one", x.mean(), 13086.0);
        due("of all", full().mean(), 16 * 9999 / 15.0);
    }

    /** "d becomes d * 31 + x, which wraps around as a 64-bit integer" */
    private static void digestWrapsAround() {
        digestIsDue(new QuipuKeepers());
        digestIsDue(taught("colour c rank 99;"));
        digestIsDue(taught("keeper k care 9;"));
        digestIsDue(taught(CHAINS));
        QuipuKeepers x = taught(QUIPU + "tie e by k as 1; tally t by l;");
        x.pass(7);
        x.feed(1, 2, 3, 4, 5);
        digestIsDue(x);
    }

    private static void digestIsDue(QuipuKeepers x) {
        BigInteger d = BigInteger.valueOf(877);
        for (int what = 0; what <= 12; what++) {
            d = next(d, x.count(what));
        }
        for (int n = 0; n < 3 * x.count(1); n++) {
            d = next(d, x.colour(n / 3, n % 3));
        }
        for (int n = 0; n < 9 * x.count(2); n++) {
            d = next(d, x.cord(n / 9, n % 9));
        }
        for (int n = 0; n < 4 * x.count(3); n++) {
            d = next(d, x.top(n / 4, n % 4));
        }
        for (int n = 0; n < 4 * x.count(4); n++) {
            d = next(d, x.keeper(n / 4, n % 4));
        }
        d = next(d, x.disorder());
        due("the digest goes beyond 64 bits", d.bitLength() > 64, true);
        BigInteger most = BigInteger.ONE.shiftLeft(63);
        BigInteger wrapped = d.add(most).mod(most.shiftLeft(1)).subtract(most);
        due("digest", BigInteger.valueOf(x.digest()), wrapped);
    }

    private static BigInteger next(BigInteger d, int x) {
        return d.multiply(BigInteger.valueOf(31)).add(BigInteger.valueOf(x));
    }
}
