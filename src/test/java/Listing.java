/** Puts texts on the tape of a province. */
final class Listing {
    private Listing() {
    }

    /** Appends the text to the tape, sign by sign a byte. */
    static void put(QuipuKeepers province, String text) {
        int before = province.count(12);
        for (int from = 0; from < text.length(); from += 20) {
            province.feed(number(text, from), number(text, from + 4), number(text, from + 8), number(text, from + 12),
                    number(text, from + 16));
        }
        province.trim(before + text.length());
    }

    /** Returns what teach() says of the text, and where, as error@position. */
    static String teach(QuipuKeepers province, String text) {
        put(province, text);
        int error = province.teach();
        return error + "@" + province.errorAt();
    }

    private static int number(String text, int from) {
        int number = 0;
        for (int at = from; at < from + 4; at++) {
            number = number << 8 | (at < text.length() ? text.charAt(at) & 255 : 0);
        }
        return number;
    }
}
