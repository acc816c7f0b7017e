/** Promise 4. */
public final class StartTest {
    public static void main(String[] args) {
        wrongWays();
        allIsAsAtFirst();
        programsStay();
        Due.end();
    }

    private static void wrongWays() {
        AsOneHouse h = new AsOneHouse();
        h.start(2);
        h.put(3, 9);
        Due.is("no way 5", Due.ARGUMENT, () -> started(h, 5));
        Due.is("no way -1", Due.ARGUMENT, () -> started(h, -1));
        Due.is("the way stays", 2, () -> h.count(1));
        Due.is("and the places", 9, () -> h.has(3));
        for (int way = 0; way <= 4; way++) {
            int w = way;
            Due.is("way " + w, 0, () -> started(h, w));
            Due.is("is told", w, () -> h.count(1));
        }
    }

    private static int started(AsOneHouse h, int way) {
        h.start(way);
        return 0;
    }

    private static void allIsAsAtFirst() {
        for (int way = 0; way <= 4; way++) {
            AsOneHouse h = Due.house(way);
            Due.tell(h, 0, "A = 3; say 4; x = 5; atom { z = 1; B = 1; x = x + 1; say 9; }");
            Due.tell(h, 1, "atom { if (w == 0) { retry; } }");
            Due.tell(h, 2, "fail 3;");
            h.put(0, 8);
            Due.turns(h, "before start", "0:0 0:0 1:0 1:0 1:3 2:5 0:0 0:0");
            Due.type(h, "x = ;");
            Due.is("broken", Due.UNSUPPORTED, () -> h.program(3));
            Due.is("judge", 1, h::judge);
            Due.is("a tape", 20, () -> h.feed(0, 0, 0, 0, 0));
            h.start(way);
            Due.is("the tape stays", 20, () -> h.count(0));
            for (int what = 2; what <= 8; what++) {
                int w = what;
                Due.is("count " + w, 0, () -> h.count(w));
            }
            Due.is("place", -1, h::place);
            Due.is("order", Due.INDEX, () -> h.order(0));
            Due.is("said", Due.INDEX, () -> h.said(0, false));
            Due.is("records", Due.INDEX, () -> h.record(0, 0));
            Due.is("x", 0, () -> h.has(23));
            Due.is("z", 0, () -> h.has(25));
            Due.is("a", 0, () -> h.has(0));
            Due.is("had", 0, () -> h.had(0, 0));
            Due.is("no later clock", Due.ARGUMENT, () -> h.had(0, 1));
            Due.is("A", 0, () -> h.register(0, 0));
            Due.is("B", 0, () -> h.register(0, 1));
            for (int t = 0; t < 3; t++) {
                int thread = t;
                Due.is("ready " + t, 1, () -> h.look(thread, 0));
                for (int what = 1; what <= 7; what++) {
                    int w = what;
                    Due.is("look " + t + ", " + w, 0, () -> h.look(thread, w));
                }
            }
            Due.is("no program", 0, () -> h.look(3, 0));
        }
    }

    private static void programsStay() {
        AsOneHouse h = Due.house(0);
        Due.tell(h, 4, "x = 7;");
        Due.turns(h, "once", "4:0 4:2");
        h.start(4);
        Due.turns(h, "again", "4:0 4:2");
        Due.is("x", 7, () -> h.has(23));
        Due.is("turns", 2, () -> h.count(3));
    }
}
