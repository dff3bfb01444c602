/**
 * The edges of the language, a case for each sentence that names one: the numbers of sums and tests,
 * the tape, tokens, lists, depth, and errors 1 to 5. In a text ~ marks where the error is due.
 */
public final class LanguageEdgesTest extends Cases {
    /** 2147483647 and -2147483648, reckoned without going beyond either. */
    private static final String GREATEST = "(32767*65536+65535)";
    private static final String LEAST = "(-(32767*65536)-65536)";
    private static final String RANK = "colour a rank 1;";
    private static final String TIE = QUIPU + "tie a by k as ";
    private static final String TALLY = QUIPU + "tally t by k when ";
    private static final String KEYWORDS = "colour rank cord of under main count top over keeper care tie by as tally when "
            + "month value sum knots record tired wrong not and or min max";

    private LanguageEdgesTest() {
    }

    public static void main(String[] args) {
        sumsWrapAround();
        differencesWrapAround();
        productsWrapAround();
        turnedWrapsAround();
        divisionIsCut();
        divisionByNothing();
        leastDividedByMinusOne();
        comparedAcrossTheWhole();
        positionsFromZero();
        tapeAtFirstEmpty();
        tapeOf2000();
        tapeEmptyBehindTeach();
        blanksAndLineEndsAlone();
        blanksAtBeginningAndEnd();
        blanksWhereTokensWouldJoin();
        longestTokenIsRead();
        wordsOfSignsAlone();
        wordsThatDifferInOneSign();
        wordsOfTenBytes();
        numbersOfSixDigits();
        symbols();
        keywordsAreNoNames();
        otherWordsAreNames();
        listOfNoLines();
        topOverTwoAtLeast();
        anyNumberOfTimes();
        partsThatMayLack();
        eightDeep();
        eightDeepInEachMix();
        depthGoesBack();
        depthOfNotAndMinus();
        error1AtTheEnd();
        error1AtBadTokens();
        error1AtThe401stToken();
        error1AheadOfAll();
        error2OfTheSameSort();
        error3NotToldAhead();
        error4TooMany();
        error4OfOrders();
        error5OutOfRange();
        error5FourDeep();
        error5CordToldAhead();
        firstErrorIsTold();
        smallestErrorOfOneToken();
        numberedFromZero();
        errorChangesNothing();
        emptyListBeginsAnew();
        errorAtOfTheLatest();
        end();
    }

    private static void comes(String sum, String to) {
        due(sum + " comes to " + to, holds(sum + " = " + to), true);
    }

    // ---- "All numbers are whole; sums, differences and products of the language wrap around in 32 bits"

    private static void sumsWrapAround() {
        comes(GREATEST + "+0", "2147*1000*1000+483647");
        comes(GREATEST + "+1", LEAST);
        comes("1+" + GREATEST, LEAST);
        comes(GREATEST + "+" + GREATEST, "-2");
        comes(LEAST + "+" + LEAST, "0");
        comes(LEAST + "+-1", GREATEST);
        comes("(" + GREATEST + "+1)/2", "-(16384*65536)");
    }

    private static void differencesWrapAround() {
        comes(LEAST + "-1", GREATEST);
        comes(GREATEST + "--1", LEAST);
        comes("0-" + LEAST, LEAST);
        comes("-2-" + GREATEST, GREATEST);
        comes(LEAST + "-" + GREATEST, "1");
        comes("(" + LEAST + "-1)/2", "32767*32768+32767");
    }

    private static void productsWrapAround() {
        comes("65536*32768", LEAST);
        comes("65536*65536", "0");
        comes("65535*65537", "-1");
        comes(GREATEST + "*" + GREATEST, "1");
        comes(LEAST + "*" + LEAST, "0");
        comes(LEAST + "*-1", LEAST);
        comes("999999*999999", "-(729*1000*1000+379967)");
        comes("999999*999999/1000", "-729379");
    }

    /** - in front turns a value, as the difference from 0 does. */
    private static void turnedWrapsAround() {
        comes("-" + LEAST, LEAST);
        comes("-" + GREATEST, LEAST + "+1");
        comes("-0", "0");
    }

    // ---- "/ is cut towards 0, gives 0 with 0 on the right side, and -2147483648 / -1 gives -2147483648."

    private static void divisionIsCut() {
        comes("7/2", "3");
        comes("-7/2", "-3");
        comes("7/-2", "-3");
        comes("-7/-2", "3");
        comes("1/2", "0");
        comes("-1/2", "0");
        comes("-1/" + GREATEST, "0");
        comes(GREATEST + "/" + LEAST, "0");
        comes(LEAST + "/" + GREATEST, "-1");
        comes(LEAST + "/" + LEAST, "1");
        comes("9/10*10", "0");
    }

    private static void divisionByNothing() {
        comes("5/0", "0");
        comes("-5/0", "0");
        comes("0/0", "0");
        comes(LEAST + "/0", "0");
        comes("7+5/(2-2)", "7");
        comes("5/value e+5/record t+5/tired k", "0");
        due("a cord tied by a division by 0", tied("5/0"), 0);
    }

    private static void leastDividedByMinusOne() {
        comes(LEAST + "/-1", LEAST);
        comes(LEAST + "/1", LEAST);
        comes(GREATEST + "/-1", LEAST + "+1");
        comes("(" + LEAST + "/-1)/2", "-(16384*65536)");
        due("the least is held at 0", tied(LEAST + "/-1"), 0);
    }

    private static void comparedAcrossTheWhole() {
        due("the least < the greatest", holds(LEAST + "<" + GREATEST), true);
        due("the greatest > the least", holds(GREATEST + ">" + LEAST), true);
        due("the least <= the greatest", holds(LEAST + "<=" + GREATEST), true);
        due("the least >= the greatest", holds(LEAST + ">=" + GREATEST), false);
        comes("min(" + LEAST + "," + GREATEST + ")", LEAST);
        comes("max(" + LEAST + "," + GREATEST + ")", GREATEST);
        comes("min(3,3)+max(4,4)", "7");
    }

    // ---- the tape

    /** "Positions of the tape are counted from 0, in bytes." */
    private static void positionsFromZero() {
        faultyAtMark(1, "~?");
        faultyAtMark(1, "~rank");
        faultyAtMark(1, " ~rank");
        faultyAtMark(1, "\n\n~rank");
        faultyAtMark(1, "colour ~\u00e9\u00e9 rank 1;");
        faultyAtMark(1, RANK + "~\u00ff");
    }

    /** "The tape is ... at first empty" */
    private static void tapeAtFirstEmpty() {
        QuipuKeepers x = new QuipuKeepers();
        due("bytes at first", x.count(12), 0);
        due("trim of none at first", x.trim(0), 0);
        due("teach of the empty tape", x.teach(), 0);
        due("errorAt of the empty tape", x.errorAt(), -1);
    }

    /** "The tape is a row of at most 2000 bytes": all of a full one are read. */
    private static void tapeOf2000() {
        good(padded("", RANK));
        good(padded(RANK, ""));
        good(" ".repeat(2000));
        good("\n".repeat(2000));
        faulty(padded("colour a rank 1", ""), 1, 2000);
        faulty(padded("", "colour a rank 1"), 1, 2000);
        faulty(padded(RANK, "colour"), 1, 2000);
        faulty(padded(RANK, "?"), 1, 1999);
        faulty(padded(RANK, "1"), 1, 1999);
        faulty(padded(TALLY + "1", "<"), 1, 2000);
        faulty(padded(TALLY + "1", ">="), 1, 2000);
        faulty("a".repeat(2000), 1, 0);
        faulty("colour " + "a".repeat(1993), 1, 7);
        faulty("colour a rank " + "1".repeat(1986), 1, 14);
        faulty("\0".repeat(2000), 1, 0);
        faulty("(".repeat(2000), 1, 0);
        faulty("colour a" + " ".repeat(1991) + ";", 1, 1999);
    }

    /** Returns a text of 2000 bytes, blanks in its middle. */
    private static String padded(String begin, String end) {
        return begin + " ".repeat(2000 - begin.length() - end.length()) + end;
    }

    /** "it is empty behind it" */
    private static void tapeEmptyBehindTeach() {
        QuipuKeepers x = new QuipuKeepers();
        for (String text : new String[] {QUIPU, "colour a rank 1; ?", "colour a rank 1; colour a rank 1;", padded(RANK, "?"), ""}) {
            Listing.teach(x, text);
            due("bytes behind teach of " + text, x.count(12), 0);
            throwsArgument("trim to 1 behind teach of " + text, () -> x.trim(1));
            due("teach of nothing behind " + text, x.teach() + x.count(2), 0);
        }
        Listing.teach(x, padded(RANK, ""));
        due("a full tape takes all again behind teach", Listing.teach(x, padded("colour b rank 7;", "")), "0@-1");
        due("what it tells", x.colour(0, 0), 7);
        Listing.put(x, "colour long rank 12;");
        x.trim(18);
        Listing.put(x, ";");
        due("only what is kept is read", x.teach() + x.colour(0, 0), 1);
    }

    // ---- tokens

    /** "Blanks (32) and line ends (10) can stand between tokens", and no other byte can. */
    private static void blanksAndLineEndsAlone() {
        for (int sign = 0; sign < 256; sign++) {
            String text = "colour" + (char) sign + "a rank 1;";
            boolean inWord = sign >= 'a' && sign <= 'z' || sign >= '0' && sign <= '9';
            faulty(text, sign == 32 || sign == 10 ? 0 : 1, sign == 32 || sign == 10 ? -1 : inWord ? 0 : 6);
        }
    }

    /** "at the beginning and at the end" */
    private static void blanksAtBeginningAndEnd() {
        good(" " + RANK + " ");
        good("\n" + RANK + "\n");
        good(" \n \n" + RANK + "\n\n  ");
        good(" ");
        good("\n");
        faultyAtMark(1, " \n colour a rank 1 \n ~");
    }

    /** "and have to stand between two tokens that would otherwise be read as one" */
    private static void blanksWhereTokensWouldJoin() {
        good("colour a rank 1;colour b rank 2;");
        good(QUIPU + "tie a by k as-(1+2)*3when not[1<2]and 1>2or wrong t;");
        good(TIE + "1when 1=1and 1=1;");
        good(TIE + "min(1,2)when 2>1;");
        faultyAtMark(1, "~coloura rank 1;");
        faultyAtMark(1, "colour arank1~;");
        faultyAtMark(1, "colour a ~rank1;");
        faultyAtMark(1, TIE + "1 when 1 = 1 ~and1 = 1;");
        faultyAtMark(1, TIE + "~value1;");
    }

    /** "The longest possible token is always read." */
    private static void longestTokenIsRead() {
        good(TALLY + "1<=1;");
        good(TALLY + "1>=1;");
        good(TALLY + "1<-1 and 1=-1;");
        due("<= holds for as much", holds("1<=1") && holds("1>=1") && !holds("1<1") && !holds("1>1"), true);
        faultyAtMark(1, TALLY + "1< ~=1;");
        faultyAtMark(1, TALLY + "1>\n~=1;");
        faultyAtMark(1, TALLY + "1<=~=1;");
        faultyAtMark(1, TALLY + "1<~>1;");
        faultyAtMark(1, TALLY + "1<~<=1;");
        faultyAtMark(1, TALLY + "1=~<1;");
        faultyAtMark(1, TALLY + "1=~=1;");
        faultyAtMark(1, "colour a rank 12~a;");
        faultyAtMark(1, "~colours a rank 1;");
        faultyAtMark(1, "~colour1 rank 1;");
    }

    /** "A word: a letter a to z, followed by letters a to z and digits" */
    private static void wordsOfSignsAlone() {
        for (int sign = 0; sign < 256; sign++) {
            boolean letter = sign >= 'a' && sign <= 'z';
            boolean digit = sign >= '0' && sign <= '9';
            boolean blank = sign == ' ' || sign == '\n';
            faulty("colour " + (char) sign + " rank 1;", letter ? 0 : 1, letter ? -1 : blank ? 9 : 7);
            boolean goes = letter || digit || blank;
            faulty("colour q" + (char) sign + " rank 1;", goes ? 0 : 1, goes ? -1 : 8);
        }
        good("colour a0z9 rank 1;");
        faultyAtMark(1, "colour ~9a rank 1;");
    }

    /** Names are the same, if all their signs are. */
    private static void wordsThatDifferInOneSign() {
        String signs = "abcdefghijklmnopqrstuvwxyz0123456789";
        for (int n = 0; n < 36 * 36; n++) {
            char one = signs.charAt(n / 36);
            char other = signs.charAt(n % 36);
            int error = one == other ? 2 : 0;
            faulty("colour q" + one + " rank 1; colour q" + other + " rank 1;", error, error == 0 ? -1 : 25);
            faulty("colour q" + one + "z rank 1; colour q" + other + "z rank 1;", error, error == 0 ? -1 : 26);
        }
        good("colour q rank 1; colour qq rank 1; colour qqq rank 1; colour q0 rank 1; colour q00 rank 1; colour zq rank 1;");
    }

    /** "at most 10 bytes" */
    private static void wordsOfTenBytes() {
        good("colour a rank 1;");
        good("colour abcdefghij rank 1;");
        good("colour a123456789 rank 1;");
        good("colour zzzzzzzzzz rank 1;");
        faultyAtMark(1, "colour ~abcdefghijk rank 1;");
        faultyAtMark(1, "colour ~a1234567890 rank 1;");
        faultyAtMark(1, "colour ~colourcolour rank 1;");
        faultyAtMark(1, "colour a ~abcdefghijk 1;");
        faultyAtMark(1, "colour a rank 1;~abcdefghijk");
        good("colour abcdefghij rank 1; colour abcdefghik rank 1; colour abcdefghi rank 1; colour bbcdefghij rank 1;");
        faultyAtMark(2, "colour abcdefghij rank 1; colour ~abcdefghij rank 1;");
    }

    /** "A number: 1 to 6 digits." */
    private static void numbersOfSixDigits() {
        good("colour a rank 9;");
        good("colour a rank 000099;");
        good(TIE + "999999;");
        faultyAtMark(1, "colour a rank ~0000001;");
        faultyAtMark(1, TIE + "~1000000;");
        faultyAtMark(1, TIE + "~0000000;");
        faultyAtMark(1, TIE + "~99999999999999999999;");
        faultyAtMark(1, "colour a rank ~;");
        for (int sign = 0; sign < 256; sign++) {
            boolean goes = sign >= '0' && sign <= '9' || sign == ' ' || sign == '\n';
            faulty("colour a rank 1" + (char) sign + ";", goes ? 0 : 1, goes ? -1 : sign == ';' ? 16 : 15);
        }
        comes("999999", "1000*1000-1");
        comes("000000", "0");
        comes("000010", "10");
    }

    /** "Symbols: ( ) [ ] ; , + - * / < > = <= >=" */
    private static void symbols() {
        good(TIE + "(1+2-3*4/5)+min(1,2) when [1<2]and[1>2]and[1=2]and[1<=2]and[1>=2];");
        String others = "!\"#$%&'.:?@\\^_`{|}" + (char) 127;
        for (int n = 0; n < others.length(); n++) {
            faultyAtMark(1, TIE + "1~" + others.charAt(n) + "2;");
        }
        faultyAtMark(1, TALLY + "1~!=2;");
        faultyAtMark(1, TIE + "1 / ~/ 2;");
    }

    /** "The keywords are: ..." */
    private static void keywordsAreNoNames() {
        String[] keywords = KEYWORDS.split(" ");
        due("keywords", keywords.length, 28);
        for (String keyword : keywords) {
            faultyAtMark(1, "colour ~" + keyword + " rank 1;");
            faultyAtMark(1, "keeper ~" + keyword + " care 1;");
            faultyAtMark(1, QUIPU + "tally t by ~" + keyword + ";");
        }
    }

    /** "All other words are names." */
    private static void otherWordsAreNames() {
        for (String keyword : KEYWORDS.split(" ")) {
            good("colour " + keyword + "x rank 1;");
            good("colour " + keyword + "0 rank 1;");
            good("colour x" + keyword + " rank 1;");
            good("colour " + keyword.substring(0, keyword.length() - 1) + " rank 1;");
        }
        good("colour all rank 1; colour if rank 2; colour minus rank 3; colour months rank 4;");
    }

    // ---- the grammar

    /** "list = { line ";" }": "any number of times, also none" */
    private static void listOfNoLines() {
        good("");
        good(" \n ");
        good(RANK);
        faultyAtMark(1, "~;");
        faultyAtMark(1, RANK + "~;");
        faultyAtMark(1, "colour a rank 1~");
        faultyAtMark(1, RANK + " colour b rank 1 ~");
    }

    /** "top" name "over" name name { name } */
    private static void topOverTwoAtLeast() {
        faultyAtMark(1, CORDS + "top t over ~;");
        faultyAtMark(1, CORDS + "top t over a~;");
        good(CORDS + "top t over a b;");
        good(CORDS + "top t over a b c;");
        good(CORDS + "top t over a b c d e f;");
    }

    /** Sums and tests go on any number of times, also none. */
    private static void anyNumberOfTimes() {
        good(TIE + "1;");
        good(TIE + "1+1;");
        good(TIE + "1" + many(100, "+1") + ";");
        good(TIE + "1" + many(100, "*1") + ";");
        good(TALLY + "wrong t;");
        good(TALLY + "wrong t" + many(100, " or wrong t") + ";");
        good(TALLY + "wrong t" + many(100, " and wrong t") + ";");
        comes("1" + many(100, "+1"), "101");
        comes("1" + many(20, "*2"), "1024*1024");
        faultyAtMark(1, TIE + "1+~;");
        faultyAtMark(1, TIE + "1*~;");
        faultyAtMark(1, TALLY + "wrong t and~;");
        faultyAtMark(1, TALLY + "wrong t or~;");
    }

    /** "[ x ] outside of quotation marks means x or nothing" */
    private static void partsThatMayLack() {
        String[] cords = {"cord a of a under main", "cord b of a under a"};
        good(RANK + cords[0] + ";" + cords[1] + ";");
        good(RANK + cords[0] + " count 0;" + cords[1] + " count 5;");
        faultyAtMark(1, RANK + cords[0] + " count~;");
        faultyAtMark(1, RANK + cords[0] + " count 5 ~count 5;");
        good(TIE + "1;" + "tally t by k;");
        good(TIE + "1 when wrong t; tally t by k when wrong t;");
        faultyAtMark(1, TIE + "1 when~;");
        faultyAtMark(1, TIE + "1 when wrong t ~when wrong t;");
    }

    // ---- "Depth. It is 0 at the beginning, and 1 greater between a ( and its ), a [ and its ], behind a - in
    // ---- front (of a value) for what it turns, and behind a not for what it turns. It may be at most 8."

    private static void eightDeep() {
        good(TIE + "((((((((1))))))));");
        faultyAtMark(1, TIE + "((((((((~(1)))))))));");
        good(TIE + "--------1;");
        faultyAtMark(1, TIE + "--------~-1;");
        good(TALLY + "not not not not not not not not wrong t;");
        faultyAtMark(1, TALLY + "not not not not not not not not ~not wrong t;");
        good(TALLY + "[[[[[[[[wrong t]]]]]]]];");
        faultyAtMark(1, TALLY + "[[[[[[[[~[wrong t]]]]]]]]];");
        good(TIE + "min(1,min(1,min(1,min(1,min(1,min(1,min(1,min(1,2))))))));");
        faultyAtMark(1, TIE + "min(1,min(1,min(1,min(1,min(1,min(1,min(1,min(1,min~(1,2)))))))));");
        good(TIE + "max(max(max(max(max(max(max(max(1,2),2),2),2),2),2),2),2);");
        faultyAtMark(1, TIE + "max(max(max(max(max(max(max(max(max~(1,2),2),2),2),2),2),2),2),2);");
    }

    /** Each row of eight out of [ and not, and behind them ( and -. */
    private static void eightDeepInEachMix() {
        String begin = RANK + "cord a of a under main;cord b of a under a;top t over a b;keeper k care 1;tally t by k when ";
        for (int n = 0; n < 9 * 256; n++) {
            int tests = n / 256;
            StringBuilder opened = new StringBuilder();
            StringBuilder round = new StringBuilder();
            StringBuilder square = new StringBuilder();
            for (int depth = 0; depth < 8; depth++) {
                boolean closes = (n >> depth & 1) == 1;
                boolean test = depth < tests;
                opened.append(test ? closes ? "[" : "not " : closes ? "(" : "-");
                round.append(closes && !test ? ")" : "");
                square.append(closes && test ? "]" : "");
            }
            String ahead = begin + opened;
            String behind = round + "=1" + square + ";";
            good(ahead + "1" + behind);
            faultyAtMark(1, ahead + "~(1)" + behind);
            faultyAtMark(1, ahead + "~-1" + behind);
            faultyAtMark(1, ahead + "max~(1,2)" + behind);
            if (tests == 8) {
                faultyAtMark(1, ahead + "~[1=1]" + square + ";");
                faultyAtMark(1, ahead + "~not 1=1" + square + ";");
            }
        }
    }

    private static void depthGoesBack() {
        String eight = "((((((((1))))))))";
        good(TIE + eight + "+" + eight + "*--------1;");
        faultyAtMark(1, TIE + eight + "+((((((((~(1)))))))));");
        good(TIE + "max(" + eight.substring(1, 16) + "," + eight.substring(1, 16) + ")+" + eight + ";");
        faultyAtMark(1, TIE + "max(1,(((((((~(1)))))))));");
        faultyAtMark(1, TIE + "max((((((((~(1)))))))),1);");
        good(TALLY + "[[[[[[[[wrong t]]]]]]]] and [[[[[[[[wrong t]]]]]]]] or " + eight + "<" + eight + ";");
        good(TIE + eight + " when [[[[[[[[wrong t]]]]]]]];" + "tie a by k as --------1 when " + eight + "=--------1;");
        faultyAtMark(1, TALLY + "[1=(((((((~(1))))))))];");
        faultyAtMark(1, TIE + eight + " when [[[[[[[[~[wrong t]]]]]]]]];");
        faultyAtMark(1, TIE + "1 when ((((((((~(1)))))))))=1;");
    }

    /** The - and the not go deeper for what they turn alone, the - between two values for nothing. */
    private static void depthOfNotAndMinus() {
        String eight = "((((((((1))))))))";
        good(TIE + "-1-" + eight + ";");
        good(TIE + "-1*" + eight + ";");
        good(TIE + "1-1-1-1-1-1-1-1-1-1-" + eight + ";");
        good(TIE + "1 - --------1;");
        faultyAtMark(1, TIE + "1 - --------~-1;");
        faultyAtMark(1, TIE + "-(((((((~(1))))))));");
        good(TALLY + "not 1=1 and 1=" + eight + ";");
        good(TALLY + "not 1=1 or [[[[[[[[wrong t]]]]]]]];");
        faultyAtMark(1, TALLY + "not 1=(((((((~(1))))))));");
        faultyAtMark(1, TALLY + "not (((((((~(1))))))))=1;");
        good(TALLY + many(30, "not wrong t and ") + "wrong t;");
        good(TIE + many(30, "-1-") + "-1;");
    }

    // ---- "Error 1: the first token with which the tokens so far are not the beginning of a list."

    /** "the end of the tape (at its length)" */
    private static void error1AtTheEnd() {
        String[] tokens = "cord a of b under main count 5 ;".split(" ");
        String text = "";
        for (int n = 0; n < tokens.length - 1; n++) {
            text += tokens[n];
            faulty(text, 1, text.length());
            text += " ";
            faulty(text + "\n", 1, text.length() + 1);
        }
        faultyAtMark(1, "tie a by k as 1 when 1 ~");
        faultyAtMark(1, "tie a by k as (1 ~");
        faultyAtMark(1, "tie a by k as 1 when [1 = 1 ~");
        faultyAtMark(1, "tie a by k as -~");
    }

    /** "This includes a byte with which no token begins, a word or number that is too long" */
    private static void error1AtBadTokens() {
        String[] bad = {"?", "\0", "\t", "A", "\u00e9", "abcdefghijk", "1234567", "\u00ff"};
        String[] tokens = "cord a of b under main count 5 ;".split(" ");
        for (String token : bad) {
            String text = "";
            for (String next : tokens) {
                faulty(text + token, 1, text.length());
                faulty(text + token + " " + next, 1, text.length());
                text += next + " ";
            }
            faulty(text + token, 1, text.length());
        }
    }

    /** "and the token that would be the 401st (the end of the tape not counted)" */
    private static void error1AtThe401stToken() {
        // 23 tokens, to which each +1 adds 2, and 25, to which each and 1<=1 adds 4
        String sum = "colour a rank 1; keeper k care 9; cord a of a under main; tie a by k as 1" + many(188, "+1");
        good(sum + ";");
        good(sum + ";\n ");
        faultyAtMark(1, sum + "~");
        faultyAtMark(1, sum + " ~");
        faultyAtMark(1, sum + "+~1;");
        faultyAtMark(1, sum + "+~?;");
        faultyAtMark(1, sum + ";~colour b rank 1;");
        faultyAtMark(1, sum + "; ~;");
        faultyAtMark(1, sum + ";~abcdefghijk");
        faultyAtMark(1, sum + " ~1;");
        faultyAtMark(1, sum.replace("as 1+1", "as 1+~?"));
        // Words, keywords, symbols of one and of two bytes are one token each.
        String test = "colour abcdefghij rank 000001; keeper k care 9; cord a of abcdefghij under main; cord b of abcdefghij under a;"
                + "top t over a b; tally t by k when 1<=1" + many(89, " and 1<=1");
        int tokens = 5 + 5 + 7 + 7 + 6 + 5 + 3 + 89 * 4;
        due("tokens ahead", tokens, 394);
        good(test + " and 1<1;");
        good(test + " and-1<1;");
        faultyAtMark(1, test + " and--1<1~;");
        faultyAtMark(1, test + " and--1<1~");
    }

    /** "Only if there is no error 1 ... are looked at" for the others. */
    private static void error1AheadOfAll() {
        faultyAtMark(1, "colour a rank 100; colour a rank 1; cord x of y under z; ~.");
        faultyAtMark(1, "cord x of y under z count 10000; keeper k care 0; keeper k care 0~");
        faultyAtMark(1, many(8, "colour c# rank 1;") + many(22, "tie a by k as 1;") + "tie a by k as (((((((( ~(1;");
    }

    // ---- "Error 2: the name behind colour, cord, top or keeper (at the beginning of a line) is that of one of
    // ---- the same sort told ahead."

    private static void error2OfTheSameSort() {
        faultyAtMark(2, "colour x rank 1; colour ~x rank 1;");
        faultyAtMark(2, "colour x rank 1; colour y rank 1; colour ~x rank 1;");
        faultyAtMark(2, "colour x rank 1; cord x of x under main; cord ~x of x under main;");
        faultyAtMark(2, CORDS + "top x over a b; top ~x over a b;");
        faultyAtMark(2, "keeper x care 1; keeper ~x care 1;");
        good("keeper x care 1; colour x rank 1; cord x of x under main; cord y of x under main; top x over x y;");
    }

    // ---- "Error 3: another name is none of what it has to be, told ahead"

    private static void error3NotToldAhead() {
        String all = "colour r rank 1; cord c of r under main; cord d of r under c; top t over c d; keeper k care 1;";
        String[] lines = {"cord x of # under main;", "cord x of r under #;", "top x over # d;", "top x over c #;", "top x over c d #;",
            "tie # by k as 1;", "tie c by k as value #;", "tie c by k as sum #;", "tie c by k as knots #;", "tally # by k;",
            "tie c by k as record #;", "tally t by k when wrong #;", "tie c by # as 1;", "tally t by #;", "tie c by k as tired #;"};
        String wanted = "rcccccccctttkkk";
        for (int n = 0; n < lines.length; n++) {
            for (String name : new String[] {"r", "c", "t", "k", "z"}) {
                String text = all + lines[n].replace("#", "~" + name);
                boolean right = name.charAt(0) == wanted.charAt(n);
                boolean twice = right && lines[n].startsWith("top x over c");
                faulty(text.replace("~", ""), twice ? 5 : right ? 0 : 3, right && !twice ? -1 : text.indexOf('~'));
            }
            faultyAtMark(3, all + lines[n].replace("#", "~z")
                    + "colour z rank 1; cord z of r under main; top z over c d; keeper z care 1;");
        }
        faultyAtMark(3, all + "cord x of r under ~x;");
        faultyAtMark(3, all + "top x over ~x c;");
    }

    // ---- "Error 4: the name of the 7th colour, of the 17th cord, of the 7th top cord or of the 6th keeper, the
    // ---- name of the 9th cord of a top cord, or the tie or tally of the 21st order (of both together)."

    private static void error4TooMany() {
        String colours = many(6, "colour c# rank 1;");
        good(colours);
        faultyAtMark(4, colours + "colour ~c6 rank 1;");
        String cords = colours + many(16, "cord d# of c0 under main;");
        good(cords);
        faultyAtMark(4, cords + "cord ~d16 of c0 under main;");
        String tops = cords + many(6, "top t# over d0 d1;");
        good(tops);
        faultyAtMark(4, tops + "top ~t6 over d0 d1;");
        String keepers = tops + many(5, "keeper k# care 1;");
        good(keepers);
        faultyAtMark(4, keepers + "keeper ~k5 care 1;");
        String over = cords + "top t over";
        good(over + many(8, " d#") + ";");
        faultyAtMark(4, over + many(8, " d#") + " ~d8;");
        good(over + many(8, " d#") + "; top u over" + many(8, " d#") + ";");
    }

    private static void error4OfOrders() {
        String tie = "tie a by k as 1;";
        String tally = "tally t by k;";
        for (int ties = 0; ties <= 20; ties += 5) {
            String orders = QUIPU + many(ties, tie) + many(20 - ties, tally);
            good(orders);
            faultyAtMark(4, orders + "~" + tie);
            faultyAtMark(4, orders + "~" + tally);
            faultyAtMark(4, orders + "~tie nothing by nobody as 1;");
        }
    }

    // ---- "Error 5: a number is out of its range: rank 0 to 99, count 0 to 9999, care 1 to 9"

    private static void error5OutOfRange() {
        good("colour a rank 0;");
        good("colour a rank 99;");
        faultyAtMark(5, "colour a rank ~100;");
        faultyAtMark(5, "colour a rank ~999999;");
        String cord = RANK + "cord c of a under main count ";
        good(cord + "0;");
        good(cord + "9999;");
        faultyAtMark(5, cord + "~10000;");
        faultyAtMark(5, cord + "~999999;");
        faultyAtMark(5, "keeper k care ~0;");
        good("keeper k care 1;");
        good("keeper k care 9;");
        faultyAtMark(5, "keeper k care ~10;");
        faultyAtMark(5, "keeper k care ~000010;");
        good(TIE + "999999 when 999999=100000;");
        due("rank 0 and 99", taught("colour a rank 99; colour b rank 0;").colour(0, 0), 99);
        due("count 9999", taught(cord + "9999;").cord(0, 3), 9999);
        due("count 0", taught(cord + "0;").cord(0, 3), 0);
        due("care 9", taught("keeper k care 9;").keeper(0, 0), 9);
    }

    /** "or the cord behind under is 4 deep already (at its name)" */
    private static void error5FourDeep() {
        String four = RANK + "cord a of a under main; cord b of a under a; cord c of a under b; cord d of a under c;";
        good(four + "cord e of a under c; cord f of a under b; cord g of a under main;");
        due("a cord 4 deep", taught(four).cord(3, 2), 4);
        faultyAtMark(5, four + "cord e of a under ~d;");
        faultyAtMark(5, four + "cord e of a under c; cord f of a under ~e count 5;");
    }

    /** "or a cord is one of the same top cord told ahead (at its name)" */
    private static void error5CordToldAhead() {
        faultyAtMark(5, CORDS + "top t over a ~a;");
        faultyAtMark(5, CORDS + "top t over a b c ~a d;");
        faultyAtMark(5, CORDS + "top t over a b c d e f ~f;");
        good(CORDS + "top t over a b; top u over b a; top v over a b;");
    }

    /** "from left to right, and the first error is told, at its token" */
    private static void firstErrorIsTold() {
        faultyAtMark(2, "colour a rank 1; colour ~a rank 100; cord c of z under main;");
        faultyAtMark(5, "colour a rank ~100; colour a rank 1; cord c of z under main;");
        faultyAtMark(3, "colour a rank 1; cord c of ~z under y count 10000; colour a rank 1;");
        faultyAtMark(5, "colour a rank 1; cord c of a under main count ~10000; cord c of a under main;");
        faultyAtMark(4, many(6, "colour c# rank 1;") + "colour ~x rank 100; colour c0 rank 1;");
        faultyAtMark(3, QUIPU + many(20, "tally t by k;").replaceFirst("by k", "by ~z") + "tally t by k;");
    }

    /** "of errors at one token the one with the smallest number" */
    private static void smallestErrorOfOneToken() {
        String colours = many(6, "colour c# rank 1;");
        String cords = colours + many(16, "cord d# of c0 under main;");
        String tops = cords + many(6, "top t# over d0 d1;");
        faultyAtMark(2, colours + "colour ~c5 rank 1;");
        faultyAtMark(2, cords + "cord ~d0 of c0 under main;");
        faultyAtMark(2, tops + "top ~t5 over d0 d1;");
        faultyAtMark(2, many(5, "keeper k# care 1;") + "keeper ~k0 care 1;");
        faultyAtMark(3, cords + "top t over" + many(8, " d#") + " ~x;");
        faultyAtMark(4, cords + "top t over" + many(8, " d#") + " ~d7;");
    }

    /** "Colours, cords, top cords, keepers and orders ... are numbered from 0 in the order in which they are told." */
    private static void numberedFromZero() {
        QuipuKeepers x = taught("keeper z care 9; colour z rank 7; keeper y care 8; cord z of z under main count 70; colour y rank 6;"
                + "tie z by z as 5; cord y of y under z count 60; top z over z y; top y over y z;");
        due("the first colour", x.colour(0, 0) * 100 + x.colour(1, 0), 706);
        due("the first cord", x.cord(0, 3) * 100 + x.cord(1, 3), 7060);
        due("the first top cord", x.top(0, 2) * 1000 + x.top(1, 0), 190002);
        due("the first keeper", x.keeper(0, 0) * 10 + x.keeper(1, 0), 98);
    }

    // ---- teach() and errorAt()

    /** "If it has an error, all stays (but the tape is empty)." */
    private static void errorChangesNothing() {
        String[] faults = {"colour new rank 1; ?", "colour new rank 1; colour new rank 2;", "colour new rank 1; cord x of y under main;",
            many(7, "colour c# rank 1;"), "colour new rank 3; cord a of new under main count 10000;", CORDS.replace("9999", "10000"),
            QUIPU + many(20, "tie e by l as 5000;") + "tie a by k as 1;"};
        for (String fault : faults) {
            QuipuKeepers x = inUse();
            QuipuKeepers twin = inUse();
            due("teach of a fault", Listing.teach(x, fault).startsWith("0"), false);
            due("all but errorAt behind " + fault, withoutErrorAt(Portrait.of(x)), withoutErrorAt(Portrait.of(twin)));
            due("all later behind " + fault, Portrait.ofLater(x), Portrait.ofLater(twin));
        }
    }

    private static QuipuKeepers inUse() {
        QuipuKeepers x = taught(QUIPU + "tie e by k as value e + 11; tally t by l when month / 2 * 2 = month;");
        x.pass(5);
        x.hang(4, 2);
        x.dye(0, 2);
        return x;
    }

    private static String withoutErrorAt(String portrait) {
        return portrait.replaceFirst("errorAt -?[0-9]+", "");
    }

    /** "all begins anew, but the month, which stays": behind an empty list there is nothing at all. */
    private static void emptyListBeginsAnew() {
        QuipuKeepers x = inUse();
        due("teach of nothing", x.teach(), 0);
        QuipuKeepers twin = new QuipuKeepers();
        twin.pass(5);
        due("what is there behind teach of nothing", Portrait.of(x), Portrait.of(twin));
        due("what is later behind teach of nothing", Portrait.ofLater(x), Portrait.ofLater(twin));
        QuipuKeepers y = inUse();
        due("teach of the same again", Listing.teach(y, QUIPU + "tally t by k;"), "0@-1");
        QuipuKeepers other = new QuipuKeepers();
        other.pass(5);
        Listing.teach(other, QUIPU + "tally t by k;");
        due("what is there behind the same again", Portrait.of(y), Portrait.of(other));
        due("what is later behind the same again", Portrait.ofLater(y), Portrait.ofLater(other));
    }

    /** "the position of the error of the latest teach(); -1 if it had none, or there was none" */
    private static void errorAtOfTheLatest() {
        QuipuKeepers x = new QuipuKeepers();
        due("errorAt ahead of teach", x.errorAt(), -1);
        x.feed(-1, -1, -1, -1, -1);
        due("errorAt behind feed", x.errorAt(), -1);
        due("teach", x.teach(), 1);
        due("errorAt at the first byte", x.errorAt(), 0);
        Listing.put(x, "colour a rank 100; ");
        x.pass(1);
        throwsArgument("trim", () -> x.trim(-1));
        due("errorAt behind other calls", x.errorAt(), 0);
        due("teach", x.teach(), 5);
        due("errorAt of the second teach", x.errorAt(), 14);
        due("errorAt asked again", x.errorAt(), 14);
        due("teach of a full tape without end", Listing.teach(x, padded("colour", "")), "1@2000");
        due("teach of nothing", x.teach(), 0);
        due("errorAt behind a good list", x.errorAt(), -1);
    }
}
