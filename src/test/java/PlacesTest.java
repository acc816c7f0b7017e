/** Promises 7, 10 and 11. */
public final class PlacesTest {
    public static void main(String[] args) {
        wrongNumbers();
        putInAllWays();
        putOnWhatIsTaken();
        hadOfBlocks();
        hadOfWhatWasTakenBack();
        hadOfWhatOneOutsideWroteOverIt();
        manyPasts();
        Due.end();
    }

    private static void wrongNumbers() {
        AsOneHouse h = Due.house(0);
        Due.is("put", Due.ARGUMENT, () -> h.put(26, 1));
        Due.is("put", Due.ARGUMENT, () -> h.put(-1, 1));
        Due.is("nothing changed", 0, () -> h.count(2));
        Due.is("has", Due.ARGUMENT, () -> h.has(26));
        Due.is("has", Due.ARGUMENT, () -> h.has(-1));
        Due.is("had", Due.ARGUMENT, () -> h.had(26, 0));
        Due.is("had", Due.ARGUMENT, () -> h.had(-1, 0));
        Due.is("had", Due.ARGUMENT, () -> h.had(0, 1));
        Due.is("had", Due.ARGUMENT, () -> h.had(0, -1));
    }

    private static void putInAllWays() {
        for (int way = 0; way <= 4; way++) {
            AsOneHouse h = Due.house(way);
            Due.is("put", 1, () -> h.put(0, 7));
            Due.is("put", 2, () -> h.put(25, Integer.MIN_VALUE));
            Due.is("the same again is a change too", 3, () -> h.put(0, 7));
            Due.is("put", 4, () -> h.put(0, 8));
            Due.is("has", 8, () -> h.has(0));
            Due.is("has", Integer.MIN_VALUE, () -> h.has(25));
            int[] first = {0, 7, 7, 7, 8};
            int[] last = {0, 0, Integer.MIN_VALUE, Integer.MIN_VALUE, Integer.MIN_VALUE};
            for (int c = 0; c <= 4; c++) {
                int clock = c;
                Due.is("had a at " + c, first[c], () -> h.had(0, clock));
                Due.is("had z at " + c, last[c], () -> h.had(25, clock));
                Due.is("had b at " + c, 0, () -> h.had(1, clock));
            }
            Due.is("no record", 0, () -> h.count(5));
            Due.is("no turn", 0, () -> h.count(3));
        }
    }

    private static void putOnWhatIsTaken() {
        for (int way = 3; way <= 4; way++) {
            AsOneHouse h = Due.house(way);
            Due.tell(h, 0, "atom { x = 1; part { y = 2; quit; } }");
            Due.turns(h, "take", "0:0 0:0");
            Due.is("x is taken", Due.STATE, () -> h.put(23, 5));
            Due.is("nothing changed", 0, () -> h.count(2));
            Due.is("it has what the block wrote", 1, () -> h.has(23));
            Due.turns(h, "the part", "0:0");
            Due.is("y is taken", Due.STATE, () -> h.put(24, 5));
            Due.turns(h, "quit", "0:0");
            Due.is("y has what it had", 0, () -> h.has(24));
            Due.is("y stays taken", Due.STATE, () -> h.put(24, 5));
            Due.is("z is not", 1, () -> h.put(25, 5));
            Due.is("2 are taken", 2, () -> h.count(8));
            Due.turns(h, "end", "0:0");
            Due.is("none is taken", 0, () -> h.count(8));
            Due.is("x is free", 3, () -> h.put(23, 5));
        }
        for (int way = 0; way <= 2; way++) {
            AsOneHouse h = Due.house(way);
            Due.tell(h, 0, "atom { x = 1; }");
            Due.turns(h, "write", "0:0 0:0");
            Due.is("not yet", 0, () -> h.has(23));
            Due.is("nothing is taken", 0, () -> h.count(8));
            Due.is("put", 1, () -> h.put(23, 5));
            Due.turns(h, "end", "0:0");
            Due.is("has", 1, () -> h.has(23));
            Due.is("had", 5, () -> h.had(23, 1));
            Due.is("had", 1, () -> h.had(23, 2));
        }
    }

    private static void hadOfBlocks() {
        for (int way = 0; way <= 4; way++) {
            AsOneHouse h = Due.house(way);
            Due.tell(h, 0, "atom { x = 1; x = 2; y = 3; } x = 4;");
            Due.turns(h, "within", "0:0 0:0 0:0 0:0");
            Due.is("has x", way < 3 ? 0 : 2, () -> h.has(23));
            Due.is("what is only taken is not told", 0, () -> h.had(23, 0));
            h.put(0, 1);
            Due.is("nor at a later clock", 0, () -> h.had(23, 1));
            Due.turns(h, "end", "0:0");
            Due.is("the clock goes on by one", 2, () -> h.count(2));
            Due.is("had x", 0, () -> h.had(23, 1));
            Due.is("had x", 2, () -> h.had(23, 2));
            Due.is("had y", 3, () -> h.had(24, 2));
            Due.turns(h, "outside", "0:0");
            Due.is("had x", 2, () -> h.had(23, 2));
            Due.is("had x", 4, () -> h.had(23, 3));
        }
    }

    private static void hadOfWhatWasTakenBack() {
        for (int way = 0; way <= 4; way++) {
            AsOneHouse h = Due.house(way);
            h.put(23, 6);
            Due.tell(h, 0, "atom { x = 1; quit; }");
            Due.turns(h, "quit", "0:0 0:0 0:0 0:2");
            int clock = way < 3 ? 1 : 2;
            Due.is("the clock, if something was taken", clock, () -> h.count(2));
            Due.is("had", 6, () -> h.had(23, clock));
            Due.is("has", 6, () -> h.has(23));
        }
    }

    private static void hadOfWhatOneOutsideWroteOverIt() {
        AsOneHouse h = Due.house(3);
        Due.tell(h, 0, "atom { x = 1; quit; }");
        Due.tell(h, 1, "x = 5; y = x;");
        Due.turns(h, "take, write over it", "0:0 0:0 1:0");
        Due.is("has", 5, () -> h.has(23));
        Due.is("had", 5, () -> h.had(23, 1));
        Due.turns(h, "taken back", "0:0");
        Due.is("has again what was kept", 0, () -> h.has(23));
        Due.is("had", 5, () -> h.had(23, 1));
        Due.is("had", 0, () -> h.had(23, 2));
    }

    private static void manyPasts() {
        AsOneHouse h = Due.house(2);
        Due.tell(h, 0, "while (1) { A = A + 1; x = A; }");
        Due.tell(h, 1, "atom { while (A < 500) { A = A + 1; } say x; say y; }");
        Due.turns(h, "begins at clock 0", "1:0");
        // Thread 1 takes 500 turns of while, 5 to its end, 1 to be over; the other ones are of thread 0.
        Due.is("round", 1990, () -> h.round(1990));
        Due.is("over", 4, () -> h.look(1, 0));
        int clock = h.count(2);
        Due.is("every second one writes", (1990 - 506) / 2, clock);
        for (int c = 0; c <= clock; c += 7) {
            int when = c;
            Due.is("had at " + c, c, () -> h.had(23, when));
        }
        Due.is("said what x had at its start", 0, () -> h.said(0, false));
    }
}
