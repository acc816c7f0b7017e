/** Promises 8, 12, 13 and 14: parts, retry with or, quit and fail within blocks, and sleep. */
public final class LevelsTest {
    public static void main(String[] args) {
        for (int way = 0; way <= 4; way++) {
            aPartEnds(way);
            quitLeavesThePart(way);
            quitOfAnAtomWithin(way);
            quitOfTheBlock(way);
            retryGoesToOr(way);
            retryLooksFurtherOut(way);
            retryOfAnAtomWithOrWithin(way);
            sleepAndWake(way);
            sleepsWithAllReads(way);
            failLeavesLevels(way);
            failWithinALevel(way);
            failKills(way);
            tenLevels(way);
        }
        aRestartGoesToTheFirstBlock();
        readsOfAPartGoOut();
        Due.end();
    }

    private static void look(AsOneHouse h, String what, int... due) {
        for (int i = 0; i < due.length; i++) {
            int w = i;
            if (due[i] >= 0) {
                Due.is(what + ": look " + w, due[i], () -> h.look(0, w));
            }
        }
    }

    private static void aPartEnds(int way) {
        AsOneHouse h = Due.house(way);
        Due.tell(h, 0, "atom { x = 1; part { x = 2; part { x = 3; y = 1; } A = 1; quit; } B = x; part { x = 4; } C = x; }");
        Due.turns(h, "parts", "0:0 0:0 0:0 0:0 0:0");
        look(h, "three levels", 2, 3, 0, 2);
        Due.turns(h, "the inner one ended, the outer one quits", "0:0");
        look(h, "one level", 2, 1, 0, 1);
        Due.is("A went", 0, () -> h.register(0, 0));
        Due.turns(h, "x as before the parts", "0:0 0:0 0:0 0:0 0:2");
        Due.is("B", 1, () -> h.register(0, 1));
        Due.is("C", 4, () -> h.register(0, 2));
        Due.is("x", 4, () -> h.has(23));
        Due.is("y", 0, () -> h.has(24));
        Due.is("written", 1, () -> h.record(0, 2));
        Due.is("clock", 1, () -> h.count(2));
    }

    private static void quitLeavesThePart(int way) {
        AsOneHouse h = Due.house(way);
        Due.tell(h, 0, "atom { A = 1; part { A = 2; x = 5; B = y; say 1; if (1) { quit; } A = 3; } C = A + 10; z = x; }");
        Due.turns(h, "quit is an act", "0:0 0:0 0:0 0:0 0:0");
        Due.is("A is as it was", 1, () -> h.register(0, 0));
        Due.is("B too", 0, () -> h.register(0, 1));
        Due.is("not yet", 0, () -> h.register(0, 2));
        // By kept and one, x stays taken, and a look at it is no read.
        look(h, "the read of y comes to the block", 2, 1, 1, 0);
        Due.turns(h, "x, z, end", "0:0 0:0 0:0 0:2");
        Due.is("C", 11, () -> h.register(0, 2));
        Due.is("reads", way < 3 ? 2 : 1, () -> h.record(0, 1));
        Due.is("nothing said", 0, () -> h.count(4));
        Due.is("x", 0, () -> h.has(23));
    }

    private static void quitOfAnAtomWithin(int way) {
        AsOneHouse h = Due.house(way);
        Due.tell(h, 0, "atom { part { x = 1; atom { y = 1; quit; } z = 1; } z = 2; atom { x = 3; } quit; }");
        Due.turns(h, "x, y", "0:0 0:0 0:0");
        look(h, "the atom is no level", 2, 2, 0, 2);
        Due.turns(h, "quit leaves the part", "0:0");
        look(h, "the block", 2, 1, 0, 0);
        Due.turns(h, "z, x, quit of the block", "0:0 0:0 0:0 0:2");
        Due.is("x", 0, () -> h.has(23));
        Due.is("z", 0, () -> h.has(25));
        Due.is("no record", 0, () -> h.count(5));
    }

    private static void quitOfTheBlock(int way) {
        AsOneHouse h = Due.house(way);
        Due.tell(h, 0, "A = 1; part { A = 2; x = y; say 1; quit; } say A; atom { } or { quit; }");
        Due.turns(h, "quit", "0:0 0:0 0:0 0:0 0:0");
        look(h, "outside", 1, 0, 0, 0, 0, 0, 0, 0);
        Due.is("clock, if something was taken", way < 3 ? 0 : 1, () -> h.count(2));
        Due.is("nothing is taken", 0, () -> h.count(8));
        Due.turns(h, "say", "0:0");
        Due.is("said", 1, () -> h.count(4));
        Due.is("said", 1, () -> h.said(0, false));
        Due.is("no record", 0, () -> h.count(5));
        Due.turns(h, "an empty block", "0:0 0:0 0:2");
        Due.is("a record", 1, () -> h.count(5));
        Due.is("no reads", 0, () -> h.record(0, 1));
        Due.is("no writes", 0, () -> h.record(0, 2));
        Due.is("from", 6, () -> h.record(0, 3));
        Due.is("to", 7, () -> h.record(0, 4));
    }

    private static void retryGoesToOr(int way) {
        AsOneHouse h = Due.house(way);
        Due.tell(h, 0, "A = 1; atom { A = 2; x = 1; B = y; say 1; retry; } or { C = A; say 2; z = x; }");
        Due.turns(h, "retry is an act", "0:0 0:0 0:0 0:0 0:0");
        look(h, "the reads of the block stay", 2, 1, 1, 0, 0, 0);
        Due.is("taken", way < 3 ? 0 : 1, () -> h.count(8));
        Due.is("clock", 0, () -> h.count(2));
        Due.is("A", 1, () -> h.register(0, 0));
        Due.is("x", 0, () -> h.has(23));
        Due.turns(h, "or", "0:0 0:0 0:0 0:0 0:2");
        Due.is("C", 1, () -> h.register(0, 2));
        Due.is("said", 1, () -> h.count(4));
        Due.is("said", 2, () -> h.said(0, false));
        Due.is("reads", way < 3 ? 2 : 1, () -> h.record(0, 1));
        Due.is("writes", 1, () -> h.record(0, 2));
        Due.is("clock", 1, () -> h.count(2));
    }

    private static void retryLooksFurtherOut(int way) {
        AsOneHouse h = Due.house(way);
        Due.tell(h, 0, "atom { x = 1; part { y = 1; part { z = 1; part { w = 1; retry; } } or { say 1; retry; } }"
                + " or { say 2; retry; } } or { say 3; }");
        Due.turns(h, "four deep", "0:0 0:0 0:0 0:0 0:0");
        look(h, "four", 2, 4, 0, 4);
        Due.turns(h, "to the innermost or", "0:0");
        look(h, "three", 2, 3, 0, 2);
        Due.turns(h, "say, and further out", "0:0 0:0");
        look(h, "two", 2, 2, 0, 1);
        Due.turns(h, "say, and further out", "0:0 0:0");
        look(h, "one", 2, 1, 0, 0);
        Due.turns(h, "say, end", "0:0 0:0 0:2");
        Due.is("said", 1, () -> h.count(4));
        Due.is("said", 3, () -> h.said(0, false));
        Due.is("x", 0, () -> h.has(23));
    }

    private static void retryOfAnAtomWithOrWithin(int way) {
        AsOneHouse h = Due.house(way);
        Due.tell(h, 0, "atom { x = 1; atom { y = 1; atom { retry; } } or { z = 1; quit; } A = x; }");
        Due.turns(h, "an atom with or is a part", "0:0 0:0 0:0 0:0 0:0");
        look(h, "in its or", 2, 2, 0, 2);
        Due.turns(h, "quit leaves it", "0:0");
        look(h, "behind it", 2, 1, 0, 1);
        Due.turns(h, "end", "0:0 0:0 0:2");
        Due.is("x", 1, () -> h.has(23));
        Due.is("y", 0, () -> h.has(24));
        Due.is("z", 0, () -> h.has(25));
        Due.is("A", 1, () -> h.register(0, 0));
    }

    private static void sleepAndWake(int way) {
        AsOneHouse h = Due.house(way);
        h.put(24, 1);
        Due.tell(h, 0, "A = 1; atom { A = 2; z = 1; B = x; say 5; if (y == 1) { retry; } } or { say 6; retry; }");
        Due.turns(h, "or", "0:0 0:0 0:0 0:0 0:0 0:0 0:0");
        Due.turns(h, "asleep", "0:3");
        look(h, "asleep", 3, 0, 2, 0, 0, 0, 0, 0);
        Due.is("A", 1, () -> h.register(0, 0));
        Due.is("B", 0, () -> h.register(0, 1));
        Due.is("none within", 0, () -> h.count(6));
        Due.is("one asleep", 1, () -> h.count(7));
        Due.is("nothing taken", 0, () -> h.count(8));
        Due.is("z", 0, () -> h.has(25));
        Due.turns(h, "still", "0:3 0:3");
        h.put(24, 1);
        h.put(0, 1);
        Due.turns(h, "as it was is no news", "0:3");
        h.put(24, 2);
        int clock = h.count(2);
        Due.turns(h, "it wakes", "0:6");
        look(h, "at its begin", 2, 1, 0, 0, 1, clock, 0, 0);
        Due.turns(h, "z, x, say, y, end", "0:0 0:0 0:0 0:0 0:0 0:2");
        Due.is("said", 5, () -> h.said(0, false));
        Due.is("from when it woke", 11, () -> h.record(0, 3));
        Due.is("to", 16, () -> h.record(0, 4));
    }

    private static void sleepsWithAllReads(int way) {
        AsOneHouse h = Due.house(way);
        Due.tell(h, 0, "atom { A = x; part { A = x; A = y; retry; } or { A = y; part { A = w; A = x; retry; } } }");
        Due.turns(h, "x, x, y", "0:0 0:0 0:0 0:0");
        look(h, "reads of both", 2, 2, 3);
        Due.turns(h, "those of the part come to the block", "0:0");
        look(h, "x, y", 2, 2, 2);
        Due.turns(h, "y, w, x", "0:0 0:0 0:0");
        look(h, "x, y, and y, and w, x", 2, 3, 5);
        Due.turns(h, "asleep", "0:3");
        look(h, "x, y, w", 3, 0, 3);
        h.put(22, 1);
        Due.turns(h, "w wakes it", "0:6");
        look(h, "none", 2, 1, 0);
    }

    private static void failLeavesLevels(int way) {
        AsOneHouse h = Due.house(way);
        Due.tell(h, 0, "A = 1; try { atom { A = 2; B = 7; x = 1; part { A = 3; y = 1; say 1; fail A + x; } } }"
                + " catch A { B = B + 1; say A; } say B;");
        Due.turns(h, "x, y, say, x", "0:0 0:0 0:0 0:0 0:0");
        Due.turns(h, "fail, and say what came", "0:0");
        look(h, "outside", 1, 0, 0, 0, 0, 0, 0, 0);
        Due.is("said", 4, () -> h.said(0, false));
        Due.is("the catch's register has the value", 4, () -> h.register(0, 0));
        Due.is("B is as it was", 1, () -> h.register(0, 1));
        Due.is("x", 0, () -> h.has(23));
        Due.is("clock, if something was taken", way < 3 ? 0 : 1, () -> h.count(2));
        Due.turns(h, "behind", "0:0 0:2");
        Due.is("no record", 0, () -> h.count(5));
    }

    private static void failWithinALevel(int way) {
        AsOneHouse h = Due.house(way);
        Due.tell(h, 0, "atom { try { x = 1; part { y = 1; A = w; A = 9; fail 3; } } catch B { C = A; z = B; } D = x; }");
        Due.turns(h, "x, y, w", "0:0 0:0 0:0 0:0");
        Due.turns(h, "fail takes the part back alone", "0:0");
        look(h, "one level, its reads", 2, 1, 1, 2);
        Due.turns(h, "x, end", "0:0 0:0 0:2");
        Due.is("A", 0, () -> h.register(0, 0));
        Due.is("B", 3, () -> h.register(0, 1));
        Due.is("D", 1, () -> h.register(0, 3));
        Due.is("x", 1, () -> h.has(23));
        Due.is("y", 0, () -> h.has(24));
        Due.is("z", 3, () -> h.has(25));
    }

    private static void failKills(int way) {
        AsOneHouse h = Due.house(way);
        Due.tell(h, 0, "A = 1; try { } catch A { } atom { A = 2; x = 1; part { A = 3; y = 1; fail -8; } }");
        Due.turns(h, "x, y, dead", "0:0 0:0 0:0 0:5");
        look(h, "dead", 5, 0, 0, 0, 0, 0, -8, 0);
        Due.is("died with", -8, () -> h.look(0, 6));
        Due.is("A", 1, () -> h.register(0, 0));
        Due.is("x", 0, () -> h.has(23));
        Due.is("nothing taken", 0, () -> h.count(8));
        Due.is("clock, if something was taken", way < 3 ? 0 : 1, () -> h.count(2));
        Due.turns(h, "dead", "0:5");
        Due.is("none within", 0, () -> h.count(6));
    }

    private static void tenLevels(int way) {
        AsOneHouse h = Due.house(way);
        StringBuilder s = new StringBuilder();
        for (int i = 0; i < 10; i++) {
            s.append("part { ").append((char) ('a' + i)).append(" = ").append(i + 1).append("; ");
        }
        s.append("A = x; ");
        for (int i = 0; i < 10; i++) {
            s.append(i == 4 ? "quit; } " : "} ");
        }
        Due.is("told", 22, () -> Due.tell(h, 0, s.toString()));
        Due.is("round", 12, () -> h.round(12));
        look(h, "ten", 2, 10, 1, 10);
        Due.turns(h, "the sixth quits", "0:0");
        look(h, "five are left", 2, 5, 1, 5);
        Due.turns(h, "end", "0:0 0:2");
        Due.is("e", 5, () -> h.has(4));
        Due.is("f", 0, () -> h.has(5));
        Due.is("A", 0, () -> h.register(0, 0));
        Due.is("reads", 1, () -> h.record(0, 1));
        Due.is("writes", 5, () -> h.record(0, 2));
    }

    private static void aRestartGoesToTheFirstBlock() {
        AsOneHouse h = Due.house(1);
        Due.tell(h, 0, "atom { A = x; part { B = y; retry; } or { C = z; C = z; } }");
        Due.turns(h, "x, y, or, z", "0:0 0:0 0:0 0:0 0:0");
        look(h, "x, y, and z", 2, 2, 3);
        h.put(25, 1);
        Due.turns(h, "z is of the part alone", "0:1");
        look(h, "the part is at its begin", 2, 2, 2, 0, 1, 1);
        Due.turns(h, "y again, or", "0:0 0:0 0:0");
        h.put(24, 1);
        Due.turns(h, "y is of the block now", "0:1");
        look(h, "the block is at its begin", 2, 1, 0, 0, 2, 2);
        Due.turns(h, "x", "0:0");
        Due.is("one read", 1, () -> h.look(0, 2));
    }

    private static void readsOfAPartGoOut() {
        AsOneHouse h = Due.house(0);
        Due.tell(h, 0, "atom { part { A = x; } part { A = y; A = z; } w = 1; }");
        Due.turns(h, "x, y", "0:0 0:0 0:0");
        h.put(23, 1);
        Due.turns(h, "z is right, so nothing is seen", "0:0");
        Due.turns(h, "w, and the end", "0:0 0:1");
        look(h, "whole", 2, 1, 0, 0, 1, 1);
        Due.turns(h, "x, y", "0:0 0:0");
        h.put(25, 1);
        h.put(23, 2);
        Due.turns(h, "z is late, x is of the block now", "0:1");
        look(h, "whole", 2, 1, 0, 0, 2, 3);
    }
}
