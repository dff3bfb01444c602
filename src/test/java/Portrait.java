/** All that later calls tell of a province, as a text to compare. */
final class Portrait {
    private final QuipuKeepers x;
    private final StringBuilder text = new StringBuilder();

    private Portrait(QuipuKeepers x) {
        this.x = x;
    }

    /** What is told without changing it; some 150 calls of a province of six cords. */
    static String of(QuipuKeepers x) {
        Portrait p = new Portrait(x);
        p.put("errorAt", x.errorAt());
        for (int what = 0; what <= 12; what++) {
            p.put("count", x.count(what));
        }
        p.cords();
        p.others();
        p.put("disorder", x.disorder());
        p.put("find", x.find(0));
        p.put("digest", x.digest());
        p.text.append(" mean ").append(x.mean());
        return p.text.toString();
    }

    /** What would be, and what is behind more months and behind the tape is read; this changes the province. */
    static String ofLater(QuipuKeepers x) {
        Portrait p = new Portrait(x);
        for (int top = 0; top < x.count(3); top++) {
            p.put("until", x.until(top));
        }
        for (int what = 6; what <= 11; what++) {
            p.put("foresee", x.foresee(5, what));
        }
        p.put("advise", x.advise(5));
        p.put("pass", x.pass(7));
        p.put("digest", x.digest());
        p.put("teach", x.teach());
        p.put("errorAt", x.errorAt());
        p.put("digest", x.digest());
        return p.text.toString();
    }

    private void put(String call, long answer) {
        text.append(' ').append(call).append(' ').append(answer);
    }

    private void cords() {
        int cords = x.count(2);
        for (int cord = 0; cord < cords; cord++) {
            for (int what = 0; what <= 8; what++) {
                put("cord", x.cord(cord, what));
            }
            for (int place = 0; place <= 3; place++) {
                put("digit", x.digit(cord, place));
            }
            for (int other = 0; other < cord; other++) {
                put("apart", x.apart(cord, other));
            }
            put("order", x.order(cord));
        }
    }

    private void others() {
        for (int n = 0; n < 3 * x.count(1); n++) {
            put("colour", x.colour(n / 3, n % 3));
        }
        for (int n = 0; n < 4 * x.count(3); n++) {
            put("top", x.top(n / 4, n % 4));
        }
        for (int n = 0; n < 4 * x.count(4); n++) {
            put("keeper", x.keeper(n / 4, n % 4));
        }
    }
}
