/** The example of README.md: a list is taught, months go by, and questions are asked. */
public final class Village {
    private static final String LIST = "colour red rank 5; colour blue rank 2;"
            + "cord men of red under main count 12;"
            + "cord sons of blue under men count 30;"
            + "top all over men sons;"
            + "keeper ana care 2;"
            + "tie men by ana as value men + 1 when month > 2;"
            + "tally all by ana when wrong all;";

    private Village() {
    }

    public static void main(String[] args) {
        QuipuKeepers province = new QuipuKeepers();
        put(province, LIST);
        System.out.println("error " + province.teach() + " at " + province.errorAt());
        System.out.println("the men's sum: " + province.cord(0, 4));
        System.out.println("orders carried out in half a year: " + province.pass(6));
        System.out.println("the men now: " + province.cord(0, 3));
        System.out.println("ana is tired by: " + province.keeper(0, 1));
        System.out.println("the men set by hand, before: " + province.set(0, 50));
        System.out.println("is the top cord wrong: " + province.top(0, 3));
        System.out.println("values behind a year: " + province.foresee(12, 6));
        put(province, "colour red rank 100;");
        System.out.println("error " + province.teach() + " at " + province.errorAt());
        try {
            province.cord(2, 3);
        } catch (IndexOutOfBoundsException e) {
            System.out.println("there is no cord 2");
        }
    }

    /** Appends a text to the tape, a byte for each sign, without what fills up the last twenty. */
    private static void put(QuipuKeepers province, String text) {
        int length = province.count(12) + text.length();
        int[] n = new int[5];
        for (int from = 0; from < text.length(); from += 20) {
            for (int at = from; at < from + 20; at++) {
                int sign = at < text.length() ? text.charAt(at) : 0;
                n[(at - from) / 4] = n[(at - from) / 4] << 8 | sign;
            }
            province.feed(n[0], n[1], n[2], n[3], n[4]);
        }
        province.trim(length);
    }
}
