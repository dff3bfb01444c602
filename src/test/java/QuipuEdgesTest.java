/**
 * The edges of cords, knots, top cords, keepers, and of how a month goes, a case for each sentence
 * that names one. What is due of a number is found in its digits as a text.
 */
public final class QuipuEdgesTest extends Cases {
    private static final String ONE = "colour c rank 1; cord a of c under main";
    private static final String TWO = ONE + "; cord b of c under main; top t over a b;";
    /** Numbers of 24, 20, .. 0 knots, 4 fewer each time, all with a last digit of 0. */
    private static final int[] KNOTTED = {9960, 9920, 9700, 9300, 8000, 4000, 0};

    private QuipuEdgesTest() {
    }

    public static void main(String[] args) {
        valueAtFirst();
        fourDeep();
        sumsOfAll();
        knotsOfEachDigit();
        knotsOfEachValue();
        recordAtFirst();
        wrongByOne();
        countsForBoth();
        tiredAtFirst();
        noOrders();
        inTheOrderTold();
        tieHeldAt0And9999();
        tallyNotHeld();
        tooTiredBeyondFiveTimes();
        heldAlready();
        lastDigitOfARecord();
        tiredByEachFourKnots();
        tiredByKnotsTiedNow();
        tiredByKnotsOfALargeRecord();
        notCarriedOutTiresNot();
        recoversToNone();
        mothsInMonthsDividedBySix();
        mothsEatTheMostTurns();
        mothsEatTheSmallestNumber();
        mothsFindNothing();
        mothsAtEachValue();
        mothsBehindOrders();
        monthOneGreater();
        boundBy();
        end();
    }

    // ---- cords

    /** "has a value, 0 to 9999: that behind count, or 0 at first" */
    private static void valueAtFirst() {
        due("without count", taught(ONE + ";").cord(0, 3), 0);
        due("count 0", taught(ONE + " count 0;").cord(0, 3), 0);
        due("count 1", taught(ONE + " count 1;").cord(0, 3), 1);
        due("count 9999", taught(ONE + " count 9999;").cord(0, 3), 9999);
        due("without count behind one with it", taught(ONE + " count 7; cord b of c under main;").cord(1, 3), 0);
        QuipuKeepers x = taught(ONE + " count 7;");
        for (int n = 0; n < 4; n++) {
            due("teach once more", Listing.teach(x, n % 2 == 0 ? ONE + " count 9;" : ONE + " count 8; ?").charAt(0), n % 2 == 0 ? '0' : '1');
        }
        due("teach without count", Listing.teach(x, ONE + ";"), "0@-1");
        due("without count behind lists with it", x.cord(0, 3), 0);
    }

    /** "A cord that hangs from the main cord is 1 deep, one that hangs from another one 1 deeper than this." */
    private static void fourDeep() {
        QuipuKeepers x = taught(ONE + "; cord b of c under a; cord d of c under b; cord e of c under d;");
        for (int cord = 0; cord < 4; cord++) {
            due("how deep " + cord + " is", x.cord(cord, 2), cord + 1);
        }
    }

    /** "Its sum: its value and the sums of all cords that hang from it, added." */
    private static void sumsOfAll() {
        due("the sum of a cord alone", taught(ONE + " count 5;").cord(0, 4), 5);
        QuipuKeepers x = taught(fullChain());
        int[] want = {16 * 9999, 15 * 9999, 14 * 9999, 9999, 9999};
        for (int cord = 0; cord < want.length; cord++) {
            due("the sum of " + cord, x.cord(cord, 4), want[cord]);
        }
        due("the last sum", x.cord(15, 4), 9999);
        due("all values", x.count(6), 16 * 9999);
        x.set(15, 0);
        due("the greatest sum behind set", x.cord(0, 4), 15 * 9999);
        x.hang(1, -1);
        due("the sum of one alone behind hang", x.cord(0, 4), 9999);
    }

    /** Sixteen cords of 9999: three below each other, and all others below the third. */
    private static String fullChain() {
        return "colour c rank 1; cord d0 of c under main count 9999; cord d1 of c under d0 count 9999;"
                + "cord d2 of c under d1 count 9999;" + many(13, "cord e# of c under d2 count 9999;");
    }

    // ---- "Knots of a value: ..."

    /** "for the last one none, if it is 0, a figure eight, if it is 1, otherwise one long knot" */
    private static void knotsOfEachDigit() {
        int[] turns = {0, 2, 2, 3, 4, 5, 6, 7, 8, 9};
        for (int digit = 0; digit <= 9; digit++) {
            QuipuKeepers x = taught(ONE + ";");
            x.set(0, digit);
            due("knots of " + digit, x.cord(0, 5), digit == 0 ? 0 : 1);
            due("turns of " + digit, x.cord(0, 6), turns[digit]);
            for (int times = 10; times <= 1000; times *= 10) {
                x.set(0, digit * times);
                due("knots of " + digit * times, x.cord(0, 5), digit);
                due("turns of " + digit * times, x.cord(0, 6), digit);
            }
        }
    }

    private static void knotsOfEachValue() {
        QuipuKeepers x = null;
        for (int value = 0; value <= 9999; value++) {
            x = value % 50 == 0 ? taught(ONE + ";") : x;
            x.set(0, value);
            String text = String.format("%04d", value);
            int last = text.charAt(3) - '0';
            int single = 0;
            for (int place = 0; place < 4; place++) {
                int digit = text.charAt(3 - place) - '0';
                single += place > 0 ? digit : 0;
                due("digit " + place + " of " + value, x.digit(0, place), digit);
            }
            due("knots of " + value, x.cord(0, 5), single + (last > 0 ? 1 : 0));
            due("turns of " + value, x.cord(0, 6), single + (last == 1 ? 2 : last));
        }
    }

    // ---- top cords and keepers at first

    /** "A top cord has a record, 0 (at first) or more" */
    private static void recordAtFirst() {
        QuipuKeepers x = taughtInMonth1(TWO + "keeper k care 9; tally t by k when month > 1;");
        due("the record at first", x.top(0, 1), 0);
        due("not wrong over nothing", x.top(0, 3), 0);
        x.set(0, 5);
        due("wrong over something", x.top(0, 3), 1);
        x.pass(2);
        due("the record of a tally", x.top(0, 1), 5);
        x.set(0, 0);
        x.pass(1);
        due("the record of nothing", x.top(0, 1), 0);
    }

    /** "it is wrong, if this is not the sums of its cords, added" */
    private static void wrongByOne() {
        QuipuKeepers x = taughtInMonth1(TWO + "keeper k care 9; tally t by k when month = 1;");
        x.set(0, 10);
        x.set(1, 20);
        x.pass(1);
        due("as much", x.top(0, 3), 0);
        x.set(1, 21);
        due("1 more", x.top(0, 3), 1);
        x.set(1, 19);
        due("1 less", x.top(0, 3), 1);
        x.set(0, 11);
        due("as much by other values", x.top(0, 3), 0);
    }

    /** "(a cord below another one of them counts for both)" */
    private static void countsForBoth() {
        QuipuKeepers x = taught("colour c rank 1; cord a of c under main count 1; cord b of c under a count 20;"
                + "cord d of c under b count 300; cord e of c under d count 4000; top t over a b d e; top u over d a;");
        due("all four below each other", x.top(0, 2), 4321 + 4320 + 4300 + 4000);
        due("two below each other", x.top(1, 2), 4300 + 4321);
        due("top cords over the last one", x.cord(3, 8), 1);
    }

    /** "A keeper is tired by so much, 0 at first." */
    private static void tiredAtFirst() {
        QuipuKeepers x = taught(TWO + "keeper k care 1; tie a by k as 9999;");
        due("tired at first", x.keeper(0, 1), 0);
        due("not too tired at first", x.keeper(0, 3), 0);
        x.pass(3);
        due("tired behind orders", x.keeper(0, 1) > 0, true);
        Listing.teach(x, "keeper k care 1;");
        due("tired at first of a new list", x.keeper(0, 1), 0);
    }

    // ---- 1. orders

    private static void noOrders() {
        QuipuKeepers x = taught(TWO + "keeper k care 1;");
        due("orders carried out of none", x.pass(120), 0);
        due("months without orders", x.count(0), 120);
    }

    /** "Orders, in the order in which they are told: if the test holds as it comes to its turn" */
    private static void inTheOrderTold() {
        QuipuKeepers x = taughtInMonth1(TWO + "keeper k care 9; tie a by k as value a + 1; tie b by k as value a * 10;"
                + "tie a by k as value a + 1 when value b = 10; tie a by k as 0 when value a = 1; tally t by k when wrong t;"
                + "tally t by k when wrong t;");
        due("those whose tests hold", x.pass(1), 4);
        due("the cord tied twice", x.cord(0, 3), 2);
        due("the cord tied once", x.cord(1, 3), 10);
        due("the tally behind all", x.top(0, 1), 12);
    }

    /** "tie: the cord has the value of the sum, held at 0 and 9999" */
    private static void tieHeldAt0And9999() {
        due("9998", tied("9998"), 9998);
        due("9999", tied("9999"), 9999);
        due("10000", tied("10000"), 9999);
        due("999999", tied("999999"), 9999);
        due("the greatest", tied("32767*65536+65535"), 9999);
        due("1 more than the greatest", tied("32767*65536+65536"), 0);
        due("1", tied("1"), 1);
        due("0", tied("0"), 0);
        due("-1", tied("-1"), 0);
        due("-999999", tied("-999999"), 0);
        due("the least", tied("-(32767*65536)-65536"), 0);
        due("1 less than the least", tied("-(32767*65536)-65537"), 9999);
    }

    /** "tally: the top cord has the sums of its cords, added, as its record", which no 9999 holds. */
    private static void tallyNotHeld() {
        QuipuKeepers x = taughtInMonth1(fullChain() + "top t over d0 d1 d2 e0 e1 e2 e3 e4; keeper k care 9; tally t by k;");
        x.pass(1);
        due("the greatest record", x.top(0, 1), (16 + 15 + 14 + 5) * 9999);
        due("it is right", x.top(0, 3), 0);
    }

    /** Returns orders by which keeper k is tired by so much, if this one was not before. */
    private static String tiring(int howMuch) {
        StringBuilder orders = new StringBuilder();
        // By at most 7 each time: what is tied then ends with 0 already, and stays for one who is too tired.
        for (int rest = howMuch; rest > 0; rest -= Math.min(rest, 7)) {
            orders.append("tie b by k as ").append(KNOTTED[7 - Math.min(rest, 7)]).append(" when month = 1;");
        }
        return orders.toString();
    }

    /** "If the keeper is tired by more than 5 times the care as the order comes to its turn" */
    private static void tooTiredBeyondFiveTimes() {
        for (int care = 1; care <= 9; care++) {
            for (int beyond = -1; beyond <= 1; beyond++) {
                int tired = 5 * care + beyond;
                QuipuKeepers x = taughtInMonth1(TWO + "keeper k care " + care + ";" + tiring(tired) + "tie a by k as 17;");
                x.pass(1);
                due("tied by one tired by " + tired + " with care " + care, x.cord(0, 3), beyond > 0 ? 10 : 17);
                due("tired behind it", x.keeper(0, 1), tired + 1 - care);
                QuipuKeepers y = taughtInMonth1(TWO + "keeper k care " + care + ";" + tiring(tired + care));
                y.pass(1);
                due("tired behind the month", y.keeper(0, 1), tired);
                due("too tired behind the month", y.keeper(0, 3), beyond > 0 ? 1 : 0);
            }
        }
    }

    /** "the last digit of it (held already) is 0 instead" */
    private static void heldAlready() {
        String begin = TWO + "keeper k care 1; " + many(6, "tie b by k as 0;") + "tie a by k as ";
        String[] sums = {"10000", "10005", "9999", "9990", "9", "1", "0", "-1", "-15", "19", "1001", "65536*32768"};
        int[] want = {9990, 9990, 9990, 9990, 0, 0, 0, 0, 0, 10, 1000, 0};
        for (int n = 0; n < sums.length; n++) {
            QuipuKeepers x = taughtInMonth1(begin + sums[n] + ";");
            x.pass(1);
            due(sums[n] + " tied by one who is too tired", x.cord(0, 3), want[n]);
        }
    }

    private static void lastDigitOfARecord() {
        int[] values = {9999, 9, 1, 10, 0, 5005};
        int[] want = {19990, 10000, 10000, 10000, 9990, 15000};
        for (int n = 0; n < values.length; n++) {
            QuipuKeepers x = taughtInMonth1(TWO + "keeper k care 1; " + many(6, "tie b by k as 0;") + "keeper l care 9;"
                    + "tie b by l as 9999; tally t by k;");
            x.set(0, values[n]);
            x.pass(1);
            due("the record by one who is too tired of 9999 and " + values[n], x.top(0, 1), want[n]);
            due("wrong by the last digit", x.top(0, 3), want[n] == 9999 + values[n] ? 0 : 1);
        }
    }

    /** "Then the keeper is tired by 1 more, and by 1 for each 4 knots of what is tied now (all its knots / 4, cut" */
    private static void tiredByEachFourKnots() {
        int[] knots = {0, 1, 3, 4, 5, 7, 8, 11, 12, 27, 28};
        int[] values = {0, 1, 300, 301, 5000, 6009, 8000, 9101, 9300, 9990, 9999};
        for (int n = 0; n < knots.length; n++) {
            QuipuKeepers x = taughtInMonth1(TWO + "keeper k care 1; keeper l care 9; tie a by k as " + values[n]
                    + "; tie b by l as tired k;");
            x.pass(1);
            due("knots of " + values[n], x.cord(0, 5), knots[n]);
            due("tired by " + values[n], x.cord(1, 3), 1 + knots[n] / 4);
        }
    }

    /** What one who is too tired leaves away is not tied, and tires by nothing. */
    private static void tiredByKnotsTiedNow() {
        String begin = TWO + "keeper k care 1; keeper l care 9; " + many(6, "tie a by k as 0;") + "tie a by k as ";
        int[][] tied = {{3001, 6 + 1}, {4001, 6 + 2}, {9999, 6 + 1 + 6}, {7, 6 + 1}, {10000, 6 + 1 + 6}};
        for (int[] t : tied) {
            QuipuKeepers x = taughtInMonth1(begin + t[0] + "; tie b by l as tired k;");
            x.pass(1);
            due("tired by " + t[0] + " with the last digit 0", x.cord(1, 3), t[1]);
        }
    }

    /** "of the record of a top cord as of a value)" */
    private static void tiredByKnotsOfALargeRecord() {
        QuipuKeepers x = taughtInMonth1(fullChain() + "top t over d0 d1 d2 e0 e1 e2 e3 e4; keeper k care 1; keeper l care 9;"
                + "tally t by k; tie e12 by l as tired k;");
        x.pass(1);
        // 499950 has 4 + 9 + 9 + 9 + 5 knots
        due("tired by 499950", x.cord(15, 3), 1 + 36 / 4);
        QuipuKeepers y = taughtInMonth1("colour c rank 1; cord d0 of c under main count 9999; cord d1 of c under d0 count 9999;"
                + "cord d2 of c under d1 count 1; top t over d0 d1; keeper k care 1; keeper l care 9; tally t by k;"
                + "tie d2 by l as tired k;");
        y.pass(1);
        // 19999 + 10000 = 29999 has 2 + 27 + 1 knots
        due("tired by 29999", y.cord(2, 3), 1 + 30 / 4);
    }

    private static void notCarriedOutTiresNot() {
        QuipuKeepers x = taughtInMonth1(TWO + "keeper k care 1; keeper l care 9; tie a by k as 9999 when 1 = 2;"
                + "tally t by k when wrong t; tie b by l as tired k + 50;");
        due("orders that are carried out", x.pass(1), 1);
        due("tired by orders that are not", x.cord(1, 3), 50);
        due("those of this one", x.keeper(0, 2), 0);
        due("what is not tied", x.cord(0, 3), 0);
    }

    // ---- 2. keepers

    /** "each is tired by as much less as the care, at least by 0" */
    private static void recoversToNone() {
        for (int tired = 0; tired <= 11; tired++) {
            QuipuKeepers x = taughtInMonth1(TWO + "keeper k care 9; keeper l care 1;" + tiring(tired));
            x.pass(1);
            due("tired by " + tired + " and recovered by 9", x.keeper(0, 1), Math.max(0, tired - 9));
            due("never tired", x.keeper(1, 1), 0);
            x.pass(1);
            due("recovered again", x.keeper(0, 1), 0);
        }
    }

    // ---- 3. moths

    /** "In months that can be divided by 6 moths come" */
    private static void mothsInMonthsDividedBySix() {
        QuipuKeepers x = taught(ONE + " count 9999;");
        for (int month = 0; month <= 30; month++) {
            due("the month", x.count(0), month);
            due("eaten ahead of month " + month, x.count(11), (month + 5) / 6);
            x.pass(1);
        }
        QuipuKeepers y = taughtInMonth1(ONE + " count 9999;");
        y.pass(5);
        due("eaten in months 1 to 5", y.count(11), 0);
        y.pass(1);
        due("eaten in month 6", y.count(11), 1);
    }

    /** "of the cords whose value is not 0 that with the most turns" */
    private static void mothsEatTheMostTurns() {
        // 9 has as many turns as 9000, 11 more than 2, 8999 more than 9000
        int[][] values = {{8, 9}, {9000, 8999}, {2, 11}, {10, 1}, {0, 1}, {9998, 9999}, {5000, 6}};
        for (int[] v : values) {
            due("the second of " + v[0] + " and " + v[1] + " is eaten", eatenOf(v[0], v[1]), 1);
            due("the first of " + v[1] + " and " + v[0] + " is eaten", eatenOf(v[1], v[0]), 0);
        }
    }

    /** "of several that with the smallest number" */
    private static void mothsEatTheSmallestNumber() {
        int[][] values = {{1, 2}, {2, 1}, {9, 9000}, {9000, 9}, {5, 5}, {10, 1000}, {11, 3}, {9999, 9999}};
        for (int[] v : values) {
            due("the first of " + v[0] + " and " + v[1] + " is eaten", eatenOf(v[0], v[1]), 0);
        }
    }

    /** Returns which of two cords with these values loses a knot. */
    private static int eatenOf(int first, int second) {
        QuipuKeepers x = taught(TWO);
        x.set(0, first);
        x.set(1, second);
        x.pass(1);
        due("eaten of " + first + " and " + second, x.count(11), 1);
        return x.cord(0, 3) != first ? 0 : x.cord(1, 3) != second ? 1 : -1;
    }

    private static void mothsFindNothing() {
        QuipuKeepers x = taught(TWO);
        x.pass(120);
        due("eaten where all values are 0", x.count(11), 0);
        due("values behind moths", x.count(6), 0);
        QuipuKeepers y = new QuipuKeepers();
        y.pass(120);
        due("eaten where there are no cords", y.count(11), 0);
        QuipuKeepers z = taught(ONE + " count 3;");
        z.pass(120);
        due("eaten until nothing is left", z.count(11), 1);
    }

    /** "the first digit of its value is 1 less; a value of one digit is 0 then" */
    private static void mothsAtEachValue() {
        QuipuKeepers x = null;
        for (int value = 1; value <= 9999; value++) {
            if (value % 100 == 1) {
                x = taughtInMonth1(ONE + ";");
                x.pass(5);
            }
            x.set(0, value);
            x.pass(1);
            String text = "" + value;
            int want = value < 10 ? 0 : Integer.parseInt((char) (text.charAt(0) - 1) + text.substring(1));
            due("what moths leave of " + value, x.cord(0, 3), want);
            due("the sum of it", x.cord(0, 4), want);
            x.pass(5);
        }
    }

    private static void mothsBehindOrders() {
        QuipuKeepers x = taught(TWO + "keeper k care 9; tie a by k as 50; tie b by k as 70; tally t by k;");
        x.pass(1);
        due("eaten of what was tied in the month", x.cord(1, 3), 60);
        due("tallied ahead of it", x.top(0, 1), 120);
        due("wrong behind it", x.top(0, 3), 1);
    }

    // ---- 4. the month

    private static void monthOneGreater() {
        QuipuKeepers x = taught(TWO + "keeper k care 9; tie a by k as month * 10;");
        x.pass(1);
        due("month 0 in its orders", x.cord(0, 3), 0);
        due("the month is 1 greater", x.count(0), 1);
        x.pass(3);
        due("month 3 in its orders", x.cord(0, 3), 30);
    }

    /** "and binds more than or, not more than and": all tests of three that hold or do not. */
    private static void boundBy() {
        String[] single = {"1=2", "1=1"};
        for (int n = 0; n < 8; n++) {
            boolean a = n / 4 == 1;
            boolean b = n / 2 % 2 == 1;
            boolean c = n % 2 == 1;
            String first = single[n / 4];
            String second = single[n / 2 % 2];
            String third = single[n % 2];
            due("a or b or c of " + n, holds(first + " or " + second + " or " + third), a || b || c);
            due("a and b and c of " + n, holds(first + " and " + second + " and " + third), a && b && c);
            due("a and b or c of " + n, holds(first + " and " + second + " or " + third), a && b || c);
            due("a or b and c of " + n, holds(first + " or " + second + " and " + third), a || b && c);
            due("not a and b or c of " + n, holds("not " + first + " and " + second + " or " + third), !a && b || c);
            due("not a or b and c of " + n, holds("not " + first + " or " + second + " and " + third), !a || b && c);
            due("not [a or b] and c of " + n, holds("not [" + first + " or " + second + "] and " + third), !(a || b) && c);
            due("[a or b] and not not c of " + n, holds("[" + first + " or " + second + "] and not not " + third), (a || b) && c);
        }
    }
}
