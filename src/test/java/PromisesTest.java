/** Cases for each of the promises 1 to 25: ordinary ones, the edges that the document names, and wrong ones. */
public final class PromisesTest extends Cases {
    private PromisesTest() {
    }

    public static void main(String[] args) {
        newObject();
        feedAndTrim();
        teachTokens();
        teachGrammar();
        teachDepth();
        teachTokenLimit();
        teachErrors2And3();
        teachErrors4();
        teachErrors5();
        teachBeginsAnew();
        teachAgain();
        counts();
        colours();
        cordsAndDigits();
        topsAndKeepers();
        apart();
        orderAndFind();
        disorder();
        setAndRest();
        dye();
        hang();
        passTies();
        passTired();
        passMoths();
        sums();
        tests();
        until();
        foresee();
        advise();
        mean();
        digest();
        end();
    }

    // ---- promises 1 to 5

    private static void newObject() {
        QuipuKeepers x = new QuipuKeepers();
        for (int what = 0; what <= 12; what++) {
            due("count of a new object", x.count(what), 0);
        }
        due("errorAt of a new object", x.errorAt(), -1);
        due("disorder of a new object", x.disorder(), 0);
        due("find in a new object", x.find(0), -1);
        due("mean of a new object", x.mean(), 0.0);
        due("advise of a new object", x.advise(1), -1);
        due("pass in a new object", x.pass(120), 0);
        due("the month behind it", x.count(0), 120);
        throwsIndex("cord of a new object", () -> x.cord(0, 0));
        throwsIndex("order of a new object", () -> x.order(0));
        throwsIndex("until of a new object", () -> x.until(0));
    }

    private static void feedAndTrim() {
        QuipuKeepers x = new QuipuKeepers();
        due("first feed", x.feed(1, 2, 3, 4, 5), 20);
        due("second feed", x.feed(-1, -2, -3, -4, -5), 40);
        due("trim", x.trim(39), 39);
        due("bytes", x.count(12), 39);
        throwsArgument("trim to more", () -> x.trim(40));
        throwsArgument("trim to -1", () -> x.trim(-1));
        due("trim to all", x.trim(39), 39);
        due("trim to none", x.trim(0), 0);
        for (int n = 1; n <= 100; n++) {
            due("feed", x.feed(n, n, n, n, n), n * 20);
        }
        throwsState("feed of a full tape", () -> x.feed(0, 0, 0, 0, 0));
        due("bytes of a full tape", x.count(12), 2000);
        x.trim(1981);
        throwsState("feed of 20 where 19 have room", () -> x.feed(0, 0, 0, 0, 0));
        x.trim(1980);
        due("feed of 20 where 20 have room", x.feed(0, 0, 0, 0, 0), 2000);
        x.trim(0);
        // "colour a rank 7;   " in bytes, the highest one of each number first
        x.feed(0x636f6c6f, 0x75722061, 0x2072616e, 0x6b20373b, 0x20202020);
        due("teach of bytes", x.teach(), 0);
        due("the rank of them", x.colour(0, 0), 7);
        due("the tape behind teach", x.count(12), 0);
        Listing.put(x, "colour \u00e9");
        due("teach of a high byte", x.teach(), 1);
        due("where it is", x.errorAt(), 7);
    }

    private static void teachTokens() {
        due("blanks and line ends", Listing.teach(new QuipuKeepers(), " \n colour\na  rank 1\n;\n "), "0@-1");
        due("no blanks where none must be", Listing.teach(new QuipuKeepers(), "colour a rank 1;colour b9 rank 2;"), "0@-1");
        due("a number ahead of a word", Listing.teach(new QuipuKeepers(), CORDS + "keeper k care 1;tie a by k as 1when 2<3;"),
                "0@-1");
        faulty("", 0, -1);
        faulty(" \n", 0, -1);
        faulty("colour abcdefghij rank 000099;", 0, -1);
        faultyAtMark(1, "colour ~abcdefghijk rank 1;");
        faultyAtMark(1, "colour a rank ~0000001;");
        faultyAtMark(1, "colour ~9a rank 1;");
        faultyAtMark(1, "colour ~A rank 1;");
        faultyAtMark(1, "colour a\n~\trank 1;");
        faultyAtMark(1, "colour a ~\rrank 1;");
        faultyAtMark(1, "colour ~_ rank 1;");
        faultyAtMark(1, "colour a rank 1;~\0");
        faultyAtMark(1, "~\0");
        faulty(QUIPU + "tally t by k when 1<=2 and 1>=-2;", 0, -1);
        faultyAtMark(1, "colour a ~rank1;");
        faultyAtMark(1, "colour ~rank rank 1;");
        faultyAtMark(1, "colour a1 rank ~-1;");
        due("names that begin like keywords", Listing.teach(new QuipuKeepers(), "colour mains rank 1;colour mai rank 1;"), "0@-1");
        for (String keyword : ("colour rank cord of under main count top over keeper care tie by as tally when month value sum "
                + "knots record tired wrong not and or min max").split(" ")) {
            faultyAtMark(1, "colour ~" + keyword + " rank 1;");
        }
        faultyAtMark(1, QUIPU + "tally t by k when 1 < ~= 2;");
        faultyAtMark(1, QUIPU + "tally t by k when 1 =~< 2;");
        faultyAtMark(1, QUIPU + "tally t by k when 1 <~> 2;");
    }

    private static void teachGrammar() {
        faultyAtMark(1, "~rank");
        faultyAtMark(1, "~;");
        faultyAtMark(1, "colour a rank 1~");
        faultyAtMark(1, "colour a rank 1 \n~");
        faultyAtMark(1, "colour a rank 1;~x");
        faultyAtMark(1, "colour a rank ~b;");
        faultyAtMark(1, "colour a ~1;");
        faultyAtMark(1, "cord a of b under main count~;");
        faultyAtMark(1, "cord a of b under main ~5;");
        faultyAtMark(1, "cord a of b ~count 5;");
        faultyAtMark(1, "cord a of ~main under main;");
        faultyAtMark(1, "top t over a~;");
        faultyAtMark(1, "top t over a b ~5;");
        faultyAtMark(1, "top t over ~main b;");
        faultyAtMark(1, "keeper k care ~k;");
        faultyAtMark(1, "tie a by k~;");
        faultyAtMark(1, "tie a by k ~when 1 = 1;");
        faultyAtMark(1, "tie a by k as 1 when~;");
        faultyAtMark(1, "tie a by k as 1 when 1~;");
        faultyAtMark(1, "tie a by k as 1 when 1 = 2 ~= 3;");
        faultyAtMark(1, "tie a by k as 1 when (1 ~= 2);");
        faultyAtMark(1, "tie a by k as 1 when [1 = 2~;");
        faultyAtMark(1, "tie a by k as 1 when [1 = 2]~];");
        faultyAtMark(1, "tie a by k as 1 when 1 = ~[2];");
        faultyAtMark(1, "tie a by k as 1 when wrong ~1;");
        faultyAtMark(1, "tie a by k as 1 when wrong t ~= 1;");
        faultyAtMark(1, "tie a by k as 1 when not~;");
        faultyAtMark(1, "tie a by k as ~not 1;");
        faultyAtMark(1, "tie a by k as 1 ~2;");
        faultyAtMark(1, "tie a by k as 1 + ~* 2;");
        faultyAtMark(1, "tie a by k as ~+ 2;");
        faultyAtMark(1, "tie a by k as value ~5;");
        faultyAtMark(1, "tie a by k as ~a;");
        faultyAtMark(1, "tie a by k as (1~;");
        faultyAtMark(1, "tie a by k as min ~1;");
        faultyAtMark(1, "tie a by k as min(1~);");
        faultyAtMark(1, "tie a by k as max(1, 2~, 3);");
        faultyAtMark(1, "tally t by k ~as 1;");
        faultyAtMark(1, "tally t by k when 1 = 1 and~;");
        faultyAtMark(1, "tally t by k when 1 = 1 or ~and 1 = 1;");
        // error 1 is told, although other errors stand ahead of it
        faultyAtMark(1, "colour a rank 100; cord x of y under z; ~.");
    }

    private static void teachDepth() {
        String tie = QUIPU + "tie a by k as ";
        String tally = QUIPU + "tally t by k when ";
        faulty(tie + "((((((((1))))))));", 0, -1);
        faultyAtMark(1, tie + "((((((((~(1)))))))));");
        faulty(tie + "--------1;", 0, -1);
        faultyAtMark(1, tie + "--------~-1;");
        faulty(tie + "(-(-(-(-1 - 2 - 3))) - 4) - 5;", 0, -1);
        faultyAtMark(1, tie + "(-(-(-(-~(1)))));");
        faulty(tie + "-min(1, -(-(-max(1, 2))));", 0, -1);
        faulty(tie + "max((((((((1))))))), (((((((2))))))));", 0, -1);
        faultyAtMark(1, tie + "max((((((((~(1)))))))), 2);");
        faultyAtMark(1, tie + "max(1, (((((((~(1)))))))));");
        faultyAtMark(1, tie + "-min(1, -(-(-(max~(1, 2)))));");
        faultyAtMark(1, tie + "-min(1, -(-(-(~-1))));");
        faulty(tally + "not not not not not not not not wrong t;", 0, -1);
        faultyAtMark(1, tally + "not not not not not not not not ~not wrong t;");
        faulty(tally + "[[[[[[[[wrong t]]]]]]]];", 0, -1);
        faultyAtMark(1, tally + "[[[[[[[[~[wrong t]]]]]]]]];");
        faulty(tie + "1 when [[[[[[[[wrong t]]]]]]]];", 0, -1);
        faultyAtMark(1, tie + "1 when [[[[[[[[~[wrong t]]]]]]]]];");
        faultyAtMark(1, tally + "[not [not [not [not ~(1) = 1]]]];");
        faultyAtMark(1, tally + "[not [not [not [not 1 = ~-1]]]];");
        faulty(tally + "not wrong t and not wrong t or [not [wrong t]] and -1 < (2);", 0, -1);
    }

    private static void teachTokenLimit() {
        // 23 tokens, to which each + 1 adds 2
        String begin = "colour a rank 1; keeper k care 9; cord a of a under main; tie a by k as 1";
        String of399 = begin + many(188, "+1");
        faulty(of399 + ";", 0, -1);
        faulty(of399 + "  ; \n", 0, -1);
        faultyAtMark(1, of399 + "~");
        faultyAtMark(1, of399 + " +~1;");
        faultyAtMark(1, of399 + "; ~colour b rank 1;");
        faultyAtMark(1, of399 + "; ~?");
        faultyAtMark(1, begin + many(187, "+1") + "+-1 ~;");
        faultyAtMark(1, begin + many(187, "+1") + "+-1 ~");
    }

    private static void teachErrors2And3() {
        faultyAtMark(2, "colour a rank 1; colour ~a rank 1;");
        faultyAtMark(2, "colour a rank 1; cord a of a under main; cord ~a of b under main;");
        faultyAtMark(2, CORDS + "top t over a b; top ~t over x y;");
        faultyAtMark(2, "keeper a care 1; keeper ~a care 10;");
        faulty("colour a rank 1; cord a of a under main; cord b of a under main; top a over a b; keeper a care 1;", 0, -1);
        faultyAtMark(3, "cord a of ~b under main; colour b rank 1;");
        faultyAtMark(3, "colour a rank 1; cord b of ~b under main;");
        faultyAtMark(3, "colour a rank 1; cord b of a under ~b;");
        faultyAtMark(3, "colour a rank 1; cord b of a under ~a count 10000;");
        faultyAtMark(3, CORDS + "top t over a ~red;");
        faultyAtMark(3, CORDS + "top t over ~t a;");
        faultyAtMark(3, QUIPU + "tie ~t by k as 1;");
        faultyAtMark(3, QUIPU + "tie a by ~a as 1;");
        faultyAtMark(3, QUIPU + "tie a by k as value ~t;");
        faultyAtMark(3, QUIPU + "tie a by k as sum ~k;");
        faultyAtMark(3, QUIPU + "tie a by k as knots ~red;");
        faultyAtMark(3, QUIPU + "tie a by k as record ~a;");
        faultyAtMark(3, QUIPU + "tie a by k as tired ~t;");
        faultyAtMark(3, QUIPU + "tie a by k as 1 when wrong ~a;");
        faultyAtMark(3, QUIPU + "tally ~a by k;");
        faultyAtMark(3, QUIPU + "tally t by ~t;");
        // the first one from left to right is told
        faultyAtMark(3, "cord a of ~b under main; colour c rank 100;");
        faultyAtMark(5, "colour c rank ~100; cord a of b under main;");
    }

    private static void teachErrors4() {
        String colours = many(6, "colour c# rank 1;");
        faulty(colours, 0, -1);
        faultyAtMark(4, colours + "colour ~x rank 100;");
        faultyAtMark(2, colours + "colour ~c3 rank 1;");
        String cords = colours + many(16, "cord d# of c0 under main;");
        faulty(cords, 0, -1);
        faultyAtMark(4, cords + "cord ~x of y under main;");
        faultyAtMark(2, cords + "cord ~d15 of y under main;");
        String tops = cords + many(6, "top t# over d0 d1;");
        faulty(tops, 0, -1);
        faultyAtMark(4, tops + "top ~x over y z;");
        faultyAtMark(2, tops + "top ~t0 over y z;");
        String eight = cords + "top t over d0 d1 d2 d3 d4 d5 d6 d7";
        faulty(eight + ";", 0, -1);
        faultyAtMark(4, eight + " ~d8;");
        faultyAtMark(4, eight + " ~d0;");
        faultyAtMark(3, eight + " ~x;");
        String keepers = tops + many(5, "keeper k# care 9;");
        faulty(keepers, 0, -1);
        faultyAtMark(4, keepers + "keeper ~x care 0;");
        faultyAtMark(2, keepers + "keeper ~k4 care 0;");
        String orders = QUIPU + many(10, "tie a by k as 1; tally t by l;");
        faulty(orders, 0, -1);
        faultyAtMark(4, orders + "~tie x by y as 1;");
        faultyAtMark(4, orders + "~tally x by y;");
    }

    private static void teachErrors5() {
        faulty("colour a rank 0; colour b rank 99;", 0, -1);
        faultyAtMark(5, "colour a rank ~100;");
        faultyAtMark(5, "colour a rank 1; cord b of a under main count ~10000;");
        faultyAtMark(5, "keeper k care ~0;");
        faultyAtMark(5, "keeper k care ~10;");
        faulty("keeper k care 1; keeper l care 9;", 0, -1);
        faulty(QUIPU + "tie a by k as 999999 when 100 < 999999;", 0, -1);
        faultyAtMark(5, CORDS + "cord g of red under ~d count 10000;");
        faulty(CORDS + "cord g of red under c;", 0, -1);
        faultyAtMark(5, CORDS + "top t over a b ~a x;");
        faulty(CORDS + "top t over a b; top u over a b;", 0, -1);
    }

    private static void teachBeginsAnew() {
        QuipuKeepers x = taught(QUIPU + "tie e by k as 77; tally t by k;");
        x.pass(3);
        x.hang(1, -1);
        long before = x.digest();
        due("teach of an error", Listing.teach(x, "colour a rank 1; colour a rank 2;"), "2@24");
        due("digest behind an error", x.digest(), before);
        due("bytes behind an error", x.count(12), 0);
        due("carried out ahead of teach", x.count(10), 6);
        due("eaten ahead of teach", x.count(11), 1);
        due("teach again", Listing.teach(x, QUIPU + "tally u by l;"), "0@-1");
        due("month behind teach", x.count(0), 3);
        due("carried out behind teach", x.count(10), 0);
        due("eaten behind teach", x.count(11), 0);
        due("record behind teach", x.top(0, 1), 0);
        due("tired behind teach", x.keeper(0, 1), 0);
        due("carried out by a keeper behind teach", x.keeper(0, 2), 0);
        due("value behind teach", x.cord(4, 3), 0);
        due("value behind teach", x.cord(5, 3), 9999);
        due("hanging behind teach", x.cord(1, 1), 0);
        due("orders behind teach", x.count(5), 1);
        due("teach of nothing", x.teach(), 0);
        due("cords behind teach of nothing", x.count(2), 0);
        due("month behind teach of nothing", x.count(0), 3);
    }

    /** What was told ahead leaves nothing behind. */
    private static void teachAgain() {
        String[] lists = {QUIPU + "tie e by k as 7; tally t by k;", "colour b rank 1; cord x of b under main; bad",
            "colour red rank 3; colour x rank 1; cord a of x under main; cord b of x under a; top t over b a; keeper k care 2;",
            CORDS + "cord g of red under a; cord a of red under main;", CORDS, "keeper k care 3;",
            QUIPU + "tally u by l when wrong t and value a > 0;", "colour a rank 100;"};
        QuipuKeepers x = new QuipuKeepers();
        for (int n = 0; n < 3 * lists.length; n++) {
            String list = lists[n * 5 % lists.length];
            QuipuKeepers fresh = new QuipuKeepers();
            String due = Listing.teach(fresh, list);
            due("teach again of " + list, Listing.teach(x, list), due);
            if (due.equals("0@-1")) {
                fresh.pass(24);
                for (int month = x.count(0); month % 6 != 0; month++) {
                    x.pass(1);
                }
                Listing.teach(x, list);
                x.pass(24);
                for (int what = 1; what <= 12; what++) {
                    due("count(" + what + ") behind teach again of " + list, x.count(what), fresh.count(what));
                }
                for (int cord = 0; cord < x.count(2); cord++) {
                    due("sum behind teach again of " + list, x.cord(cord, 4), fresh.cord(cord, 4));
                }
            }
        }
    }

    // ---- promises 6 to 15

    private static void counts() {
        QuipuKeepers x = taught(QUIPU + "tally t by k; tie e by l as 5;");
        x.feed(0, 0, 0, 0, 0);
        x.trim(7);
        int[] want = {0, 3, 6, 2, 2, 2, 11249, 38, 54, 2, 0, 0, 7};
        for (int what = 0; what <= 12; what++) {
            due("count(" + what + ")", x.count(what), want[what]);
        }
        x.pass(1);
        due("month", x.count(0), 1);
        due("carried out", x.count(10), 2);
        due("eaten", x.count(11), 1);
        throwsIndex("count(-1)", () -> x.count(-1));
        throwsIndex("count(13)", () -> x.count(13));
    }

    private static void colours() {
        QuipuKeepers x = taught(CORDS);
        due("rank", x.colour(1, 0), 2);
        due("cords", x.colour(0, 1), 3);
        due("values", x.colour(0, 2), 11210);
        due("values", x.colour(1, 2), 34);
        throwsIndex("colour(-1, 0)", () -> x.colour(-1, 0));
        throwsIndex("colour(3, 0)", () -> x.colour(3, 0));
        throwsIndex("colour(0, -1)", () -> x.colour(0, -1));
        throwsIndex("colour(0, 3)", () -> x.colour(0, 3));
    }

    private static void cordsAndDigits() {
        QuipuKeepers x = taught(QUIPU);
        int[][] want = {{0, -1, 1, 1210, 11249, 4, 4, 2, 1}, {1, 0, 2, 34, 40, 4, 7, 1, 1}, {2, 1, 3, 5, 6, 1, 5, 1, 1},
            {0, 2, 4, 1, 1, 1, 2, 0, 1}, {1, -1, 1, 0, 0, 0, 0, 0, 1}, {0, 0, 2, 9999, 9999, 28, 36, 0, 0}};
        for (int cord = 0; cord < 6; cord++) {
            for (int what = 0; what <= 8; what++) {
                due("cord(" + cord + ", " + what + ")", x.cord(cord, what), want[cord][what]);
            }
        }
        throwsIndex("cord(-1, 0)", () -> x.cord(-1, 0));
        throwsIndex("cord(6, 0)", () -> x.cord(6, 0));
        throwsIndex("cord(0, -1)", () -> x.cord(0, -1));
        throwsIndex("cord(0, 9)", () -> x.cord(0, 9));
        due("digit", x.digit(0, 0), 0);
        due("digit", x.digit(0, 1), 1);
        due("digit", x.digit(0, 2), 2);
        due("digit", x.digit(0, 3), 1);
        due("digit beyond", x.digit(1, 3), 0);
        throwsIndex("digit(6, 0)", () -> x.digit(6, 0));
        throwsIndex("digit(-1, 0)", () -> x.digit(-1, 0));
        throwsIndex("digit(0, 4)", () -> x.digit(0, 4));
        throwsIndex("digit(0, -1)", () -> x.digit(0, -1));
        int[][] knots = {{0, 0, 0}, {1, 1, 2}, {2, 1, 2}, {9, 1, 9}, {10, 1, 1}, {11, 2, 3}, {1000, 1, 1}, {1001, 2, 3}};
        for (int[] k : knots) {
            x.set(4, k[0]);
            due("knots of " + k[0], x.cord(4, 5), k[1]);
            due("turns of " + k[0], x.cord(4, 6), k[2]);
        }
    }

    private static void topsAndKeepers() {
        QuipuKeepers x = taught(CORDS + "top t over a b; top u over e d f; keeper k care 3; tally t by k; tally t by k;");
        due("cords of a top cord", x.top(1, 0), 3);
        due("record at first", x.top(0, 1), 0);
        due("sums, one below the other", x.top(0, 2), 11289);
        due("wrong", x.top(0, 3), 1);
        x.set(3, 0);
        x.set(5, 0);
        due("sums of nothing", x.top(1, 2), 0);
        due("not wrong", x.top(1, 3), 0);
        due("care", x.keeper(0, 0), 3);
        due("not tired", x.keeper(0, 1), 0);
        due("pass", x.pass(1), 2);
        // 1210 + 34 + 5 = 1249, and 39 of b: 1288 has 1 + 2 + 8 + 1 knots
        due("record", x.top(0, 1), 1288);
        due("tired", x.keeper(0, 1), 2 * (1 + 12 / 4) - 3);
        due("carried out by this one", x.keeper(0, 2), 2);
        due("not too tired", x.keeper(0, 3), 0);
        throwsIndex("top(-1, 0)", () -> x.top(-1, 0));
        throwsIndex("top(2, 0)", () -> x.top(2, 0));
        throwsIndex("top(0, -1)", () -> x.top(0, -1));
        throwsIndex("top(0, 4)", () -> x.top(0, 4));
        throwsIndex("keeper(-1, 0)", () -> x.keeper(-1, 0));
        throwsIndex("keeper(1, 0)", () -> x.keeper(1, 0));
        throwsIndex("keeper(0, -1)", () -> x.keeper(0, -1));
        throwsIndex("keeper(0, 4)", () -> x.keeper(0, 4));
    }

    private static void apart() {
        QuipuKeepers x = taught(CORDS);
        due("a cord from itself", x.apart(2, 2), 0);
        due("a cord from that above", x.apart(2, 1), 1);
        due("that above from it", x.apart(0, 3), 3);
        due("by the main cord", x.apart(3, 4), 5);
        due("by the main cord", x.apart(4, 0), 2);
        due("by another cord", x.apart(5, 2), 3);
        QuipuKeepers y = taught("colour r rank 1; cord a of r under main; cord b of r under a; cord c of r under b;"
                + "cord d of r under c; cord e of r under main; cord f of r under e; cord g of r under f; cord h of r under g;");
        due("the farthest", y.apart(3, 7), 8);
        due("the farthest", y.apart(7, 2), 7);
        throwsIndex("apart(-1, 0)", () -> x.apart(-1, 0));
        throwsIndex("apart(0, -1)", () -> x.apart(0, -1));
        throwsIndex("apart(6, 0)", () -> x.apart(6, 0));
        throwsIndex("apart(0, 6)", () -> x.apart(0, 6));
    }

    private static void orderAndFind() {
        QuipuKeepers x = taught(CORDS);
        int[] want = {1, 4, 0, 5, 2, 3};
        for (int place = 0; place < 6; place++) {
            due("order(" + place + ")", x.order(place), want[place]);
        }
        x.set(4, 40);
        due("of as much the smaller number", x.order(0), 1);
        x.set(4, 41);
        due("the greater sum", x.order(0), 4);
        throwsIndex("order(-1)", () -> x.order(-1));
        throwsIndex("order(6)", () -> x.order(6));
        due("find", x.find(9999), 5);
        due("find of a value", x.find(34), -1);
        due("find of the first", x.find(11249), 0);
        due("find of a sum", x.find(40), 1);
        x.set(4, 40);
        due("find of two", x.find(40), 1);
        due("find below 0", x.find(-1), -1);
    }

    private static void disorder() {
        due("disorder", taught(CORDS).disorder(), 1);
        QuipuKeepers x = taught("colour a rank 1; colour b rank 2; colour c rank 3; cord d of c under main;"
                + "cord e of b under main; cord f of c under d; cord g of a under main; cord h of b under d; cord i of b under d;"
                + "cord j of c under e; cord k of a under f;");
        due("disorder", x.disorder(), 3);
        x.dye(1, 2);
        due("disorder of as much", x.disorder(), 2);
        x.hang(3, 0);
        due("disorder behind hang", x.disorder(), 1);
    }

    // ---- promises 16 to 19

    private static void setAndRest() {
        QuipuKeepers x = taught(QUIPU + "tally t by k;");
        due("set", x.set(2, 9999), 5);
        due("sum above", x.cord(0, 4), 11249 + 9994);
        due("sum of itself", x.cord(2, 4), 10000);
        due("set again", x.set(2, 0), 9999);
        throwsIndex("set(-1, 0)", () -> x.set(-1, 0));
        throwsIndex("set(6, -1)", () -> x.set(6, -1));
        throwsArgument("set(0, -1)", () -> x.set(0, -1));
        throwsArgument("set(0, 10000)", () -> x.set(0, 10000));
        due("set changed nothing", x.cord(0, 3), 1210);
        due("no knots by a keeper", x.keeper(0, 1), 0);
        x.pass(1);
        int tired = x.keeper(0, 1);
        due("tired at all", tired > 0, true);
        due("rest", x.rest(0), tired);
        due("rested", x.rest(0), 0);
        throwsIndex("rest(-1)", () -> x.rest(-1));
        throwsIndex("rest(2)", () -> x.rest(2));
    }

    private static void dye() {
        QuipuKeepers x = taught(CORDS);
        due("dye", x.dye(4, 2), 1);
        due("dyed", x.cord(4, 0), 2);
        due("dye again", x.dye(4, 0), 2);
        due("cords of the colour", x.colour(0, 1), 4);
        throwsIndex("dye(-1, 0)", () -> x.dye(-1, 0));
        throwsIndex("dye(6, 0)", () -> x.dye(6, 0));
        throwsIndex("dye(0, -1)", () -> x.dye(0, -1));
        throwsIndex("dye(0, 3)", () -> x.dye(0, 3));
    }

    private static void hang() {
        QuipuKeepers x = taught(QUIPU);
        throwsIndex("hang(-1, 0)", () -> x.hang(-1, 0));
        throwsIndex("hang(6, 0)", () -> x.hang(6, 0));
        throwsIndex("hang(0, -2)", () -> x.hang(0, -2));
        throwsIndex("hang(0, 6)", () -> x.hang(0, 6));
        throwsState("hang from itself", () -> x.hang(4, 4));
        throwsState("hang from one below", () -> x.hang(0, 1));
        throwsState("hang from one far below", () -> x.hang(0, 3));
        throwsState("hang too deep", () -> x.hang(4, 3));
        throwsState("hang what has some too deep", () -> x.hang(0, 4));
        due("hanging as before", x.cord(0, 1), -1);
        due("hang", x.hang(1, 4), 2);
        due("deep below", x.cord(3, 2), 4);
        due("sum of the new one", x.cord(4, 4), 40);
        due("sum of the old one", x.cord(0, 4), 11209);
        due("hang where it hangs", x.hang(1, 4), 2);
        due("hang from the main cord", x.hang(2, -1), 1);
        due("cords of the main cord", x.mean(), 11249 / 3.0);
        due("steps behind hang", x.apart(3, 1), 4);
        due("hang 4 deep", x.hang(0, 2) + x.hang(5, 3), 2 + 3);
    }

    // ---- promise 20

    private static void passTies() {
        QuipuKeepers x = taught(CORDS + "keeper k care 9; top t over e c; tie e by k as value a + 1 when month = 1;"
                + "tally t by k when wrong t; tie e by k as 10000 when month = 2; tie e by k as 0 - 1 when month = 3;"
                + "tally t by k when wrong t;");
        due("pass", x.pass(1), 1);
        due("record of the first month", x.top(0, 1), 6);
        due("pass", x.pass(1), 2);
        due("tied", x.cord(4, 3), 1211);
        due("record of the second month", x.top(0, 1), 1217);
        due("pass", x.pass(1), 2);
        due("held at 9999", x.cord(4, 3), 9999);
        due("tallied behind it", x.top(0, 1), 10005);
        due("pass", x.pass(1), 2);
        due("held at 0", x.cord(4, 3), 0);
        due("carried out in all", x.count(10), 7);
        due("carried out by the keeper", x.keeper(0, 2), 7);
        due("pass of many", x.pass(120), 0);
        due("month", x.count(0), 124);
        throwsArgument("pass(0)", () -> x.pass(0));
        throwsArgument("pass(121)", () -> x.pass(121));
        throwsArgument("pass(-1)", () -> x.pass(-1));
        due("month behind throws", x.count(0), 124);
    }

    private static void passTired() {
        // 9999 has 28 knots, by which a keeper is tired by 8 more; 9990 and 19980 have 27, for 7 more.
        QuipuKeepers x = taught("colour c rank 1; cord a of c under main; cord b of c under main; cord d of c under main;"
                + "keeper k care 1; keeper l care 3; top t over a b;"
                + "tie a by k as 9999; tie b by k as 10999; tie d by l as 123; tally t by k;");
        x.pass(1);
        due("a value by one who is too tired, held already", x.cord(1, 3), 9990);
        due("a record by one who is too tired", x.top(0, 1), 19980);
        due("tired", x.keeper(0, 1), 8 + 7 + 7 - 1);
        due("too tired", x.keeper(0, 3), 1);
        // 123 has 4 knots
        due("tired to none", x.keeper(1, 1), 0);
        due("moths come behind the orders", x.cord(0, 3), 8999);
        x.pass(1);
        due("a value by one who is too tired", x.cord(0, 3), 9990);
        due("tired by what is tied then", x.keeper(0, 1), 21 + 7 + 7 + 7 - 1);
        due("another one is not", x.cord(2, 3), 123);
        QuipuKeepers y = taughtInMonth1("colour c rank 1; cord a of c under main; cord b of c under main; keeper k care 1;"
                + many(5, "tie a by k as 1;") + "tie b by k as 17; tie a by k as 17; tie a by k as value a + tired k;");
        y.pass(1);
        due("at 5 times the care", y.cord(1, 3), 17);
        // 10 at 6, and then 17 at 7
        due("beyond it", y.cord(0, 3), 10);
        due("tired at last", y.keeper(0, 1), 7);
        QuipuKeepers z = taught("colour c rank 1; cord a of c under main; keeper k care 1; keeper l care 9;"
                + "tie a by k as 3111 when month = 1; tie a by k as 2101 when month = 2; tie a by k as 2100 when month = 3;");
        z.pass(2);
        due("6 knots tire by 1 + 1", z.keeper(0, 1), 1);
        z.pass(1);
        due("4 knots tire by 1 + 1", z.keeper(0, 1), 2);
        z.pass(1);
        due("3 knots tire by 1", z.keeper(0, 1), 2);
    }

    private static void passMoths() {
        QuipuKeepers x = taught("colour c rank 1; cord a of c under main count 1; cord b of c under main count 101;"
                + "cord d of c under b count 3; cord e of c under main;");
        // the turns are 2, 3, 3 and none
        x.pass(1);
        due("of two the first one", x.cord(1, 3), 1);
        due("the sum as well", x.cord(1, 4), 4);
        due("eaten", x.count(11), 1);
        x.pass(5);
        due("none in other months", x.count(11), 1);
        due("none in other months", x.count(0), 6);
        x.pass(1);
        due("a value of one digit", x.cord(2, 3), 0);
        x.pass(6);
        due("of two the first one", x.cord(0, 3), 0);
        x.pass(6);
        due("the last one", x.cord(1, 3), 0);
        due("eaten", x.count(11), 4);
        x.pass(6);
        due("nothing is left", x.count(11), 4);
        x.set(3, 2050);
        x.pass(6);
        due("the first digit", x.cord(3, 3), 1050);
        x.pass(6);
        due("the first digit", x.cord(3, 3), 50);
        due("orders", x.count(10), 0);
    }

    private static void sums() {
        due("number", tied("123"), 123);
        due("month", tied("month + 2"), 3);
        due("value", tied("value b"), 34);
        due("sum", tied("sum b"), 40);
        due("knots", tied("knots f"), 28);
        due("record", tied("record t"), 0);
        due("tired", tied("tired k + 3"), 3);
        due("- and -", tied("10 - 3 - 2"), 5);
        due("/ and /", tied("100 / 5 / 2"), 10);
        due("+ and *", tied("2 + 3 * 4 + 1"), 15);
        due("- and *", tied("20 - 3 * 4 - 1"), 7);
        due("* and +", tied("2 * 3 + 4 * 5"), 26);
        due("brackets", tied("(2 + 3) * (4 + 1)"), 25);
        due("- in front", tied("-3 + 10"), 7);
        due("- in front, of a value alone", tied("-2 * 3 + 10"), 4);
        due("- in front of -", tied("5 - -3"), 8);
        due("- in front of - in front", tied("--3"), 3);
        due("min", tied("min(3, 7) + min(9, 2)"), 5);
        due("max", tied("max(3, 7) + max(9, 2)"), 16);
        due("min of sums", tied("min(1 + 2 * 3, 8)"), 7);
        due("/ by 0", tied("5 / 0 + 1"), 1);
        due("/ cut towards 0", tied("-7 / 2 + 10"), 7);
        due("/ cut towards 0", tied("7 / -2 + 10"), 7);
        due("* wraps around", tied("65536 * 65536 + 4"), 4);
        due("+ wraps around", tied("(65536 * 32767 + 65535 + 2) / 65536 + 32770"), 3);
        due("the least by -1", tied("(65536 * 32768 / -1) / 65536 + 32770"), 2);
        due("- of the least", tied("(-(65536 * 32768)) / 65536 + 32770"), 2);
        due("held at 9999", tied("10000"), 9999);
        due("held at 0", tied("-1"), 0);
    }

    private static void tests() {
        due("<", holds("1 < 2") && !holds("2 < 2") && !holds("3 < 2"), true);
        due(">", !holds("1 > 2") && !holds("2 > 2") && holds("3 > 2"), true);
        due("=", !holds("1 = 2") && holds("2 = 2") && !holds("3 = 2"), true);
        due("<=", holds("1 <= 2") && holds("2 <= 2") && !holds("3 <= 2"), true);
        due(">=", !holds("1 >= 2") && holds("2 >= 2") && holds("3 >= 2"), true);
        due("wrong", holds("wrong t") && !holds("not wrong t"), true);
        due("and", holds("1 = 1 and 2 = 2") && !holds("1 = 1 and 1 = 2") && !holds("1 = 2 and 1 = 1"), true);
        due("or", holds("1 = 1 or 1 = 2") && holds("1 = 2 or 1 = 1") && !holds("1 = 2 or 1 = 2"), true);
        due("or and or", holds("1 = 2 or 1 = 1 or 1 = 2") && holds("1 = 1 or 1 = 2 or 1 = 2")
                && holds("1 = 2 or 1 = 2 or 1 = 1") && !holds("1 = 2 or 1 = 2 or 1 = 2"), true);
        due("wrong of two", taught(QUIPU + "tally t by l; tally t by l when wrong t; tally u by l when wrong u;").pass(1), 2);
        due("and binds more than or", holds("1 = 1 or 1 = 1 and 1 = 2"), true);
        due("and binds more than or", holds("1 = 2 and 1 = 2 or 1 = 1"), true);
        due("[ ]", holds("[1 = 1 or 1 = 1] and 1 = 2"), false);
        due("not more than and", holds("not 1 = 1 and 1 = 2"), false);
        due("not more than or", holds("not 1 = 1 or 1 = 1"), true);
        due("not of [ ]", holds("not [1 = 1 and 1 = 2]"), true);
        due("not not", holds("not not 1 = 1"), true);
        due("sums in tests", holds("(1 + 2) * 3 = 9 and -1 < 0 or 1 = 2"), true);
        due("tests of what is", holds("value a = 1210 and sum a = 11249 and knots a = 4 and record t = 0 and tired k = 0"), true);
    }

    // ---- promises 21 to 25

    private static void until() {
        String begin = "colour c rank 1; cord a of c under main; cord b of c under main; top t over a b; keeper k care 9;";
        QuipuKeepers x = taught(begin + "tie a by k as 1 when month >= 149;");
        due("at most 150", x.until(0), 150);
        due("nothing is changed", x.count(0), 0);
        due("nothing is changed", x.count(10), 0);
        x.pass(9);
        due("in between", x.until(0), 141);
        x.set(1, 5);
        due("now", x.until(0), 0);
        due("not by then", taught(begin + "tie a by k as 21 when month >= 150;").until(0), -1);
        due("never", taught(begin).until(0), -1);
        QuipuKeepers y = taught(begin + "tie a by k as 21 when month = 0; tally t by k when month = 0;"
                + "tie b by k as 5 when record t = 21 and month = 3;");
        y.pass(1);
        y.set(0, 21);
        due("with a record", y.until(0), 3);
        y.hang(1, 0);
        due("with one below the other", y.until(0), 3);
        throwsIndex("until(-1)", () -> x.until(-1));
        throwsIndex("until(1)", () -> x.until(1));
    }

    private static void foresee() {
        QuipuKeepers x = taught(QUIPU + "tie e by k as value e + 11; tally t by l when month / 2 * 2 = month;");
        x.pass(3);
        long before = x.digest();
        int[] foreseen = new int[12];
        for (int what = 6; what <= 11; what++) {
            foreseen[what] = x.foresee(120, what);
        }
        due("nothing is changed", x.digest(), before);
        throwsArgument("foresee(0, 6)", () -> x.foresee(0, 6));
        throwsArgument("foresee(121, 6)", () -> x.foresee(121, 6));
        throwsArgument("foresee(0, 5)", () -> x.foresee(0, 5));
        throwsIndex("foresee(1, 5)", () -> x.foresee(1, 5));
        throwsIndex("foresee(1, 12)", () -> x.foresee(1, 12));
        due("foresee of one", x.foresee(1, 10), x.count(10) + 1);
        x.pass(120);
        for (int what = 6; what <= 11; what++) {
            due("foresee(120, " + what + ")", foreseen[what], x.count(what));
        }
    }

    private static void advise() {
        // Two top cords over 15 are wrong behind a month, if the one who tallies them is too tired to write the 5.
        String begin = "colour c rank 1; cord a of c under main count 11; cord b of c under main count 14;"
                + "cord d of c under main; top t over a d; top u over b d; keeper k care 9; keeper l care 1; keeper m care 1;";
        String tire = many(6, "tie d by l as 0 when month = 0;") + many(6, "tie d by m as 0 when month = 0;");
        QuipuKeepers x = taught(begin + tire + "tally t by m when month > 0; tally u by l when month > 0;");
        x.pass(1);
        x.set(0, 11);
        x.set(1, 14);
        long before = x.digest();
        due("without rest none is too tired", x.keeper(1, 3) + x.keeper(2, 3), 0);
        due("advise when none is wrong", x.advise(1), -1);
        QuipuKeepers y = taught(begin + tire + many(3, "tie d by l as 0 when month = 0;")
                + "tally t by m when month > 0; tally u by l when month > 0;");
        y.pass(1);
        y.set(0, 11);
        y.set(1, 14);
        due("one is too tired", y.keeper(1, 3) * 10 + y.keeper(2, 3), 10);
        due("advise of this one", y.advise(1), 1);
        due("nothing is changed", x.digest(), before);
        QuipuKeepers z = taught(begin + tire + many(3, "tie d by m as 0 when month = 0; tie d by l as 0 when month = 0;")
                + "tally t by m when month > 0; tally u by l when month > 0;");
        z.pass(1);
        z.set(0, 11);
        z.set(1, 14);
        due("both are too tired", z.keeper(1, 3) + z.keeper(2, 3), 2);
        due("of several the smallest number", z.advise(1), 1);
        z.set(1, 30);
        due("where rest does not help the one", z.advise(1), 2);
        due("where time helps as well", z.advise(90), -1);
        due("still tired", z.keeper(2, 3), 1);
        QuipuKeepers first = taught(begin + many(10, "tie d by k as 9999 when month = 0;")
                + "tally t by k when month > 0;");
        first.pass(1);
        first.set(0, 11);
        first.set(1, 0);
        first.set(2, 4);
        due("the first one is too tired", first.keeper(0, 3), 1);
        due("one is wrong as it is", first.foresee(1, 9), 2);
        due("advise of the first one", first.advise(1), 0);
        due("nothing is changed", first.keeper(0, 3) + first.count(0), 2);
        due("without keepers", taught(CORDS + "top t over a b;").advise(9), -1);
        throwsArgument("advise(0)", () -> z.advise(0));
        throwsArgument("advise(91)", () -> z.advise(91));
    }

    private static void mean() {
        QuipuKeepers x = taught(CORDS);
        due("mean of two", x.mean(), 11249 / 2.0);
        x.hang(4, 0);
        due("mean of one", x.mean(), 11249.0);
        x.hang(5, -1);
        x.hang(4, -1);
        due("mean of three", x.mean(), 11249 / 3.0);
    }

    private static void digest() {
        long d = 877;
        for (int n = 0; n < 13; n++) {
            d = d * 31;
        }
        due("digest of a new object", new QuipuKeepers().digest(), d * 31);
        QuipuKeepers x = taught(QUIPU + "tie e by k as 1; tally t by l;");
        x.pass(2);
        x.feed(1, 2, 3, 4, 5);
        d = 877;
        for (int what = 0; what <= 12; what++) {
            d = d * 31 + x.count(what);
        }
        for (int n = 0; n < 3 * 3; n++) {
            d = d * 31 + x.colour(n / 3, n % 3);
        }
        for (int n = 0; n < 6 * 9; n++) {
            d = d * 31 + x.cord(n / 9, n % 9);
        }
        for (int n = 0; n < 2 * 4; n++) {
            d = d * 31 + x.top(n / 4, n % 4);
        }
        for (int n = 0; n < 2 * 4; n++) {
            d = d * 31 + x.keeper(n / 4, n % 4);
        }
        due("digest", x.digest(), d * 31 + x.disorder());
    }
}
