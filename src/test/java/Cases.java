import java.util.function.LongSupplier;

/** What the tests of single cases use: provinces to begin with, and what is printed of wrong answers. */
abstract class Cases {
    static final String CORDS = "colour red rank 5; colour blue rank 2; colour tan rank 5;"
            + "cord a of red under main count 1210; cord b of blue under a count 34; cord c of tan under b count 5;"
            + "cord d of red under c count 1; cord e of blue under main; cord f of red under a count 9999;";
    static final String QUIPU = CORDS
            + "top t over a e; top u over b c d; keeper k care 1; keeper l care 9;";

    private static int wrong = 0;
    private static int asked = 0;

    /** Ends with 1, if an answer was not as due. */
    static void end() {
        System.out.println(wrong == 0 ? "all " + asked + " answers are as due" : wrong + " answers are not as due");
        if (wrong != 0) {
            System.exit(1);
        }
    }

    static void due(String what, Object got, Object want) {
        asked++;
        if (!got.equals(want)) {
            wrong++;
            System.out.println(what + ": " + got + ", due is " + want);
        }
    }

    static void throwsIndex(String what, LongSupplier call) {
        due(what, thrown(call), "java.lang.IndexOutOfBoundsException");
    }

    static void throwsArgument(String what, LongSupplier call) {
        due(what, thrown(call), "java.lang.IllegalArgumentException");
    }

    static void throwsState(String what, LongSupplier call) {
        due(what, thrown(call), "java.lang.IllegalStateException");
    }

    static String thrown(LongSupplier call) {
        try {
            return "answer " + call.getAsLong();
        } catch (RuntimeException e) {
            return e.getClass().getName();
        }
    }

    static QuipuKeepers taught(String text) {
        QuipuKeepers x = new QuipuKeepers();
        due("teach of " + text, Listing.teach(x, text), "0@-1");
        return x;
    }

    /** Without moths in the first month. */
    static QuipuKeepers taughtInMonth1(String text) {
        QuipuKeepers x = new QuipuKeepers();
        x.pass(1);
        due("teach of " + text, Listing.teach(x, text), "0@-1");
        return x;
    }

    static void good(String text) {
        faulty(text, 0, -1);
    }

    static void faulty(String text, int error, int at) {
        due("teach of " + text, Listing.teach(new QuipuKeepers(), text), error + "@" + at);
    }

    /** The list is faulty at the first place where the mark stands in it, which is then left out. */
    static void faultyAtMark(int error, String text) {
        int at = text.indexOf('~');
        faulty(text.replace("~", ""), error, at);
    }

    /** Returns the text so many times, each time with its number, from 0, in the place of #. */
    static String many(int times, String text) {
        StringBuilder all = new StringBuilder();
        for (int n = 0; n < times; n++) {
            all.append(text.replace("#", "" + n));
        }
        return all.toString();
    }

    /** Returns what a sum comes to that a keeper who is never too tired ties, held at 0 and 9999. */
    static int tied(String sum) {
        QuipuKeepers x = taughtInMonth1(QUIPU + "tie e by l as " + sum + ";");
        x.pass(1);
        return x.cord(4, 3);
    }

    static boolean holds(String test) {
        return taught(QUIPU + "tally t by l when " + test + ";").pass(1) == 1;
    }
}
