/** Promise 18. */
public final class CountTest {
    public static void main(String[] args) {
        wrongNumbers();
        allCounts(3);
        allCounts(4);
        Due.end();
    }

    private static void wrongNumbers() {
        AsOneHouse h = Due.house(0);
        Due.is("9", Due.ARGUMENT, () -> h.count(9));
        Due.is("-1", Due.ARGUMENT, () -> h.count(-1));
    }

    private static void counts(AsOneHouse h, String what, int... due) {
        for (int i = 0; i < due.length; i++) {
            int w = i;
            Due.is(what + ": count " + w, due[i], () -> h.count(w));
        }
    }

    private static void allCounts(int way) {
        AsOneHouse h = Due.house(way);
        Due.tell(h, 0, "say 1; x = 2; atom { x = 3; y = 3; A = z; }");
        Due.tell(h, 1, "atom { if (x == 2) { retry; } }");
        h.feed(1, 2, 3, 4, 5);
        counts(h, "at first", 20, way, 0, 0, 0, 0, 0, 0, 0);
        Due.turns(h, "say, write", "0:0 0:0 2:2");
        counts(h, "outside", 20, way, 1, 3, 1, 1, 0, 0, 0);
        Due.turns(h, "sleep", "1:0 1:0 1:3");
        counts(h, "asleep", 20, way, 1, 6, 1, 1, 0, 1, 0);
        Due.turns(h, "within", "0:0 0:0 0:0");
        counts(h, "within", 20, way, 1, 9, 1, 1, 1, 1, 2);
        Due.is("throws", Due.ARGUMENT, () -> h.turn(9));
        h.end(3);
        Due.is("round", 1, () -> h.round(1));
        counts(h, "a turn more", 3, way, 1, 10, 1, 1, 1, 1, 2);
        Due.turns(h, "end", "0:0");
        counts(h, "ended", 3, way, 2, 11, 1, 2, 0, 1, 0);
        Due.turns(h, "wakes", "1:6");
        counts(h, "within", 3, way, 2, 12, 1, 2, 1, 0, 0);
    }
}
