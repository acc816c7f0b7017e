/** Promises 2 and 3, and what reads the tape. */
public final class TapeTest {
    public static void main(String[] args) {
        feedAddsTwentyBytes();
        endCuts();
        programEmptiesTheTape();
        Due.end();
    }

    private static void feedAddsTwentyBytes() {
        AsOneHouse h = new AsOneHouse();
        for (int i = 1; i <= 50; i++) {
            int due = 20 * i;
            Due.is("feed " + i, due, () -> h.feed(1, 2, 3, 4, 5));
        }
        Due.is("a tape of 1000 is full", Due.INDEX, () -> h.feed(1, 2, 3, 4, 5));
        Due.is("the full tape stays", 1000, () -> h.count(0));
        Due.is("end", 981, () -> h.end(981));
        Due.is("981 and 20 are too many", Due.INDEX, () -> h.feed(1, 2, 3, 4, 5));
        Due.is("end", 980, () -> h.end(980));
        Due.is("980 and 20 are not", 1000, () -> h.feed(1, 2, 3, 4, 5));
        h.end(0);
        // "x=7;" and "say " tell that the highest byte comes first.
        h.feed(('x' << 24) | ('=' << 16) | ('7' << 8) | ';', ('s' << 24) | ('a' << 16) | ('y' << 8) | ' ',
                ('-' << 24) | ('1' << 16) | (';' << 8) | 10, 0x20202020, 0x0a0a0a0a);
        Due.is("blanks are 10 and 32", 2, () -> h.program(0));
        Due.is("turn", 0, () -> h.turn(0));
        Due.is("x", 7, () -> h.has(23));
    }

    private static void endCuts() {
        AsOneHouse h = new AsOneHouse();
        Due.is("end of an empty tape", 0, () -> h.end(0));
        Due.is("beyond", Due.ARGUMENT, () -> h.end(1));
        Due.is("below", Due.ARGUMENT, () -> h.end(-1));
        h.feed(0, 0, 0, 0, 0);
        Due.is("beyond", Due.ARGUMENT, () -> h.end(21));
        Due.is("nothing changed", 20, () -> h.count(0));
        Due.is("all", 20, () -> h.end(20));
        Due.is("some", 7, () -> h.end(7));
        Due.is("goes on behind", 27, () -> h.feed(0, 0, 0, 0, 0));
        h.start(3);
        Due.is("start leaves the tape", 27, () -> h.count(0));
    }

    private static void programEmptiesTheTape() {
        AsOneHouse h = new AsOneHouse();
        Due.type(h, "x = 1;");
        Due.is("program", 1, () -> h.program(0));
        Due.is("empty", 0, () -> h.count(0));
        Due.type(h, "x = 1;");
        Due.is("no thread", Due.ARGUMENT, () -> h.program(6));
        Due.is("empty, whatever comes of it", 0, () -> h.count(0));
        Due.type(h, "x = ;");
        Due.is("broken", Due.UNSUPPORTED, () -> h.program(0));
        Due.is("empty, whatever comes of it", 0, () -> h.count(0));
        Due.tell(h, 1, "atom { x = 1; }");
        h.turn(1);
        Due.type(h, "x = 1;");
        Due.is("within", Due.STATE, () -> h.program(1));
        Due.is("empty, whatever comes of it", 0, () -> h.count(0));
    }
}
