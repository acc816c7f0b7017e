/** Promises 8 and 14: the five ways, and what finds a conflict in each. */
public final class WaysTest {
    public static void main(String[] args) {
        clockLook();
        clockEnd();
        clockInnermost();
        valuesLook();
        valuesEnd();
        pasts();
        readersNeverFailAtTheEnd();
        keptRivals();
        keptOtherRestarts();
        keptReads();
        keptEnd();
        keptPartStaysTaken();
        keptOldestAfterSleep();
        oneIsBusy();
        oneWakesBusy();
        outsideIsAtOnce();
        Due.end();
    }

    private static void clockLook() {
        AsOneHouse h = Due.house(0);
        h.put(24, 1);
        Due.tell(h, 0, "A = 5; atom { A = x; x = y; }");
        Due.turns(h, "clock", "0:0 0:0");
        Due.looks(h, 0, "within", 2, 1, 1, 0, 0, 1, 0, 0);
        h.put(25, 1);
        h.put(24, 1);
        Due.turns(h, "y has a later version, though as it was", "0:1");
        Due.looks(h, 0, "restarted", 2, 1, 0, 0, 1, 3, 0, 0);
        Due.is("A is as it was", 5, () -> h.register(0, 0));
        Due.turns(h, "clock", "0:0 0:0 0:0 0:0 0:2");
        Due.looks(h, 0, "over", 4, 0, 0, 0, 1, 0, 0, 1);
        Due.is("x", 1, () -> h.has(23));
        Due.is("clock", 4, () -> h.count(2));
        Due.is("from the restart on", 2, () -> h.record(0, 3));
        Due.is("to the end", 6, () -> h.record(0, 4));
    }

    private static void clockEnd() {
        AsOneHouse h = Due.house(0);
        Due.tell(h, 0, "atom { x = x + 1; }");
        Due.tell(h, 1, "atom { x = x + 1; }");
        Due.tell(h, 2, "atom { y = 1; x = 7; }");
        Due.turns(h, "all go", "0:0 1:0 0:0 1:0 0:0 1:0 2:0 2:0 2:0");
        Due.turns(h, "the first to end", "1:0");
        Due.turns(h, "the read of the other is wrong", "0:1");
        Due.turns(h, "again", "0:0 0:0 0:0");
        Due.is("x", 2, () -> h.has(23));
        Due.turns(h, "one without reads is never wrong", "2:0");
        Due.is("x", 7, () -> h.has(23));
        Due.is("clock", 3, () -> h.count(2));
    }

    private static void clockInnermost() {
        AsOneHouse h = Due.house(0);
        Due.tell(h, 0, "atom { A = x; part { B = y; B = z; } C = 1; }");
        Due.turns(h, "x, y", "0:0 0:0 0:0");
        Due.looks(h, 0, "two levels", 2, 2, 2, 0, 0, 0, 0, 0);
        h.put(25, 3);
        Due.turns(h, "no read is wrong: the innermost restarts", "0:1");
        Due.looks(h, 0, "the part is at its begin", 2, 2, 1, 0, 1, 1, 0, 0);
        h.put(24, 4);
        h.put(25, 5);
        Due.turns(h, "y is late itself", "0:1 0:0");
        h.put(23, 9);
        h.put(25, 6);
        Due.turns(h, "the outermost that is wrong", "0:1");
        Due.looks(h, 0, "whole", 2, 1, 0, 0, 3, 5, 0, 0);
        Due.turns(h, "again", "0:0 0:0 0:0 0:0 0:2");
        Due.is("B", 6, () -> h.register(0, 1));
    }

    private static void valuesLook() {
        AsOneHouse h = Due.house(1);
        Due.tell(h, 0, "atom { A = x; B = y; part { C = x; D = z; } x = 1; }");
        Due.turns(h, "x", "0:0 0:0");
        h.put(23, 5);
        h.put(23, 0);
        Due.turns(h, "x has again what it had", "0:0");
        Due.looks(h, 0, "start is the clock", 2, 1, 2, 0, 0, 2, 0, 0);
        Due.turns(h, "x in the part", "0:0");
        Due.looks(h, 0, "a read of the part too", 2, 2, 3, 0, 0, 2, 0, 0);
        h.put(24, 8);
        Due.turns(h, "y is wrong", "0:1");
        Due.looks(h, 0, "whole", 2, 1, 0, 0, 1, 3, 0, 0);
        Due.turns(h, "x, y, x", "0:0 0:0 0:0");
        h.put(25, 2);
        Due.turns(h, "z itself may be late", "0:0");
        Due.looks(h, 0, "start", 2, 2, 4, 0, 1, 4, 0, 0);
        Due.is("D", 0, () -> h.register(0, 3));
        Due.turns(h, "write: the part has ended", "0:0");
        Due.is("D", 2, () -> h.register(0, 3));
        Due.looks(h, 0, "one of each place", 2, 1, 3, 1, 1, 4, 0, 0);
        Due.turns(h, "end", "0:0");
        Due.is("reads", 3, () -> h.record(0, 1));
        Due.is("writes", 1, () -> h.record(0, 2));
    }

    private static void valuesEnd() {
        AsOneHouse h = Due.house(1);
        Due.tell(h, 0, "atom { y = x; }");
        Due.turns(h, "read and write", "0:0 0:0 0:0");
        h.put(23, 1);
        Due.turns(h, "wrong at the end", "0:1 0:0 0:0");
        h.put(23, 2);
        h.put(23, 1);
        Due.turns(h, "right at the end", "0:0");
        Due.is("y", 1, () -> h.has(24));
    }

    private static void pasts() {
        AsOneHouse h = Due.house(2);
        h.put(23, 1);
        Due.tell(h, 0, "atom { A = x; B = x; say y; }");
        Due.tell(h, 1, "atom { A = x; z = A; }");
        Due.tell(h, 2, "atom { B = 2; x = 7; A = x; }");
        Due.turns(h, "all begin", "0:0 1:0 2:0");
        h.put(23, 2);
        h.put(24, 3);
        Due.turns(h, "0 sees the past", "0:0 0:0 0:0 0:0");
        Due.is("A", 1, () -> h.register(0, 0));
        Due.is("B", 1, () -> h.register(0, 1));
        Due.is("start stays", 1, () -> h.look(0, 5));
        Due.turns(h, "it ends, for it wrote nothing", "0:0");
        Due.is("said", 0, () -> h.said(0, false));
        Due.turns(h, "1 sees the past, but may not end", "1:0 1:0 1:1");
        Due.is("start", 3, () -> h.look(1, 5));
        Due.turns(h, "1 again", "1:0 1:0 1:0");
        Due.is("z", 2, () -> h.has(25));
        Due.turns(h, "2 has read nothing", "2:0 2:0 2:0 2:2");
        Due.is("A", 7, () -> h.register(2, 0));
        Due.is("x", 7, () -> h.has(23));
        Due.is("writes of x are no read", 0, () -> h.record(2, 1));
    }

    private static void readersNeverFailAtTheEnd() {
        for (int way = 0; way <= 2; way++) {
            AsOneHouse h = Due.house(way);
            Due.tell(h, 0, "atom { A = x; }");
            Due.turns(h, "read", "0:0 0:0");
            h.put(23, 1);
            Due.turns(h, "end without writes", "0:0");
            Due.is("clock", 1, () -> h.count(2));
            Due.is("ended", 1, () -> h.look(0, 7));
        }
        AsOneHouse h = Due.house(3);
        Due.tell(h, 0, "atom { A = x; }");
        Due.turns(h, "read", "0:0 0:0");
        h.put(23, 1);
        Due.turns(h, "by kept it does", "0:1 0:0 0:0");
        AsOneHouse g = Due.house(4);
        Due.tell(g, 0, "atom { A = x; y = 1; }");
        Due.turns(g, "read", "0:0 0:0 0:0");
        g.put(23, 1);
        Due.turns(g, "by one no read is ever wrong", "0:0");
    }

    private static void keptRivals() {
        AsOneHouse h = Due.house(3);
        Due.tell(h, 0, "atom { x = 1; y = 2; }");
        Due.tell(h, 1, "A = 1; atom { A = 2; z = 3; B = x; }");
        Due.turns(h, "0 began first", "0:0 0:0 1:0 1:0");
        Due.is("taken", 2, () -> h.count(8));
        Due.turns(h, "1 began later and loses", "1:1");
        Due.looks(h, 1, "it restarted wholly", 2, 1, 0, 0, 1, 1, 0, 0);
        Due.is("z is free, at a clock of its own", 1, () -> h.count(2));
        Due.is("z", 0, () -> h.has(25));
        Due.is("taken", 1, () -> h.count(8));
        Due.is("A", 1, () -> h.register(1, 0));
        Due.turns(h, "again, till x is free", "1:0 1:1 1:0 0:0 0:0");
        Due.is("clock", 3, () -> h.count(2));
        Due.turns(h, "now", "1:0 1:0 1:2");
        Due.is("B", 1, () -> h.register(1, 1));
        Due.is("restarts", 2, () -> h.look(1, 4));
        Due.is("0 never did", 0, () -> h.look(0, 4));
        Due.is("1 went from its last restart", 6, () -> h.record(1, 3));
    }

    private static void keptOtherRestarts() {
        AsOneHouse h = Due.house(3);
        h.put(23, 4);
        Due.tell(h, 0, "atom { y = 1; x = x + 1; }");
        Due.tell(h, 1, "A = 3; atom { A = 4; x = 9; part { x = 10; say 1; z = 1; } }");
        Due.turns(h, "0 began first, 1 takes x", "0:0 1:0 1:0 1:0 1:0 1:0 0:0");
        Due.looks(h, 1, "within its part", 2, 2, 0, 2, 0, 1, 0, 0);
        Due.is("x", 10, () -> h.has(23));
        Due.turns(h, "0 looks at x: 1 restarts at once", "0:0");
        Due.looks(h, 1, "at its begin", 2, 1, 0, 0, 1, 2, 0, 0);
        Due.is("A of 1", 3, () -> h.register(1, 0));
        Due.is("x", 4, () -> h.has(23));
        Due.is("clock", 2, () -> h.count(2));
        Due.is("y alone is taken", 1, () -> h.count(8));
        Due.looks(h, 0, "0 has read", 2, 1, 1, 1, 0, 1, 0, 0);
        Due.turns(h, "0 ends", "0:0 0:0");
        Due.is("x", 5, () -> h.has(23));
        Due.turns(h, "1 goes on behind its begin", "1:0 1:0 1:0 1:0 1:0 1:2");
        Due.is("1 went from that turn on", 7, () -> h.record(1, 3));
        Due.is("clock", 4, () -> h.count(2));
    }

    private static void keptReads() {
        AsOneHouse h = Due.house(3);
        Due.tell(h, 0, "atom { A = x; B = y; z = 1; z = 2; C = z; }");
        Due.tell(h, 1, "atom { x = 1; quit; }");
        Due.turns(h, "0 reads x, 1 takes it", "0:0 0:0 1:0 1:0");
        Due.turns(h, "a read that another took is wrong", "0:1");
        Due.turns(h, "rivals: 0 began first", "0:0");
        Due.is("1 restarted", 1, () -> h.look(1, 4));
        Due.turns(h, "y, z", "0:0 0:0");
        h.put(23, 0);
        Due.turns(h, "another version is wrong, though as it was", "0:1");
        Due.turns(h, "x, y, z, z", "0:0 0:0 0:0 0:0");
        h.put(24, 1);
        Due.turns(h, "what it has taken it may look at; the end finds it", "0:0 0:1");
        Due.looks(h, 0, "restarted", 2, 1, 0, 0, 3, 5, 0, 0);
    }

    private static void keptEnd() {
        AsOneHouse h = Due.house(3);
        Due.tell(h, 0, "atom { A = x; A = y; }");
        Due.tell(h, 1, "atom { x = 1; A = z; }");
        Due.tell(h, 2, "atom { y = 1; }");
        Due.turns(h, "1 begins first, then 0, then 2", "1:0 0:0 2:0 0:0 0:0 2:0 1:0");
        Due.turns(h, "0 ends: it loses to 1 about x, ahead of y", "0:1");
        Due.is("2 is as it was", 0, () -> h.look(2, 4));
        Due.turns(h, "1 ends", "1:0 1:0");
        Due.turns(h, "0 reads again; 2 loses about y", "0:0 0:0");
        Due.is("2 restarted", 1, () -> h.look(2, 4));
        Due.turns(h, "2 takes y again", "2:0");
        Due.turns(h, "0 ends: 2 restarts, and y has another version", "0:1");
        Due.is("2 restarted", 2, () -> h.look(2, 4));
        Due.turns(h, "all end", "0:0 0:0 0:0 2:0 2:0");
        Due.is("y", 1, () -> h.has(24));
    }

    private static void keptPartStaysTaken() {
        AsOneHouse h = Due.house(3);
        h.put(23, 6);
        Due.tell(h, 0, "atom { part { x = 1; quit; } A = x; }");
        Due.turns(h, "the part quits", "0:0 0:0 0:0");
        Due.looks(h, 0, "no writes", 2, 1, 0, 0, 0, 1, 0, 0);
        Due.is("x stays taken", 1, () -> h.count(8));
        Due.turns(h, "a look at it is no read", "0:0");
        Due.looks(h, 0, "no reads", 2, 1, 0, 0, 0, 1, 0, 0);
        Due.is("A, later", 0, () -> h.register(0, 0));
        Due.turns(h, "end", "0:0");
        Due.is("A", 6, () -> h.register(0, 0));
        Due.is("what was taken has a new version", 2, () -> h.count(2));
        Due.is("nothing was written", 0, () -> h.record(0, 2));
    }

    private static void keptOldestAfterSleep() {
        AsOneHouse h = Due.house(3);
        Due.tell(h, 0, "atom { if (z == 0) { retry; } x = 1; }");
        Due.tell(h, 1, "atom { x = 2; A = y; }");
        Due.turns(h, "0 sleeps, 1 takes x", "0:0 0:0 0:3 1:0 1:0 0:3");
        h.put(25, 1);
        Due.turns(h, "0 wakes", "0:6 0:0");
        Due.turns(h, "and began first all the same", "0:0");
        Due.is("1 restarted", 1, () -> h.look(1, 4));
        Due.is("0 restarted too, when it woke", 1, () -> h.look(0, 4));
        Due.turns(h, "0 ends", "0:0");
        Due.is("from when it woke", 6, () -> h.record(0, 3));
    }

    private static void oneIsBusy() {
        AsOneHouse h = Due.house(4);
        Due.tell(h, 0, "atom { x = x + 1; }");
        Due.tell(h, 1, "A = A + 1; part { x = x * 10; } say x;");
        Due.turns(h, "1 is busy", "0:0 1:4 0:0 1:4 0:0 1:4");
        Due.is("it was done on the way, once", 1, () -> h.register(1, 0));
        Due.is("it is ready", 1, () -> h.look(1, 0));
        Due.is("one within", 1, () -> h.count(6));
        Due.is("a write is at once", 1, () -> h.has(23));
        Due.turns(h, "0 ends, 1 begins", "0:0 1:0 0:2 1:0 1:0 1:0 1:0 1:0 1:2");
        Due.is("x", 10, () -> h.has(23));
        Due.is("said", 10, () -> h.said(0, false));
    }

    private static void oneWakesBusy() {
        AsOneHouse h = Due.house(4);
        Due.tell(h, 0, "atom { y = 5; if (x == 0) { retry; } }");
        Due.tell(h, 1, "atom { x = 1; A = z; }");
        Due.tell(h, 2, "atom { A = z; A = z; }");
        Due.turns(h, "0 sleeps", "0:0 0:0 0:0 0:3");
        Due.is("y was taken, and is free", 1, () -> h.count(2));
        Due.looks(h, 0, "asleep", 3, 0, 1, 0, 0, 0, 0, 0);
        Due.turns(h, "1 is not busy", "1:0 1:0");
        Due.turns(h, "what another has taken wakes nobody", "0:3");
        Due.turns(h, "1 ends, 2 begins", "1:0 1:0 2:0");
        Due.turns(h, "0 would wake, but 2 is there", "0:4");
        Due.looks(h, 0, "still asleep", 3, 0, 1, 0, 0, 0, 0, 0);
        Due.turns(h, "2 ends", "2:0 2:0 2:0");
        Due.turns(h, "0 wakes", "0:6");
        Due.looks(h, 0, "within", 2, 1, 0, 0, 1, 2, 0, 0);
        Due.turns(h, "1 would be busy", "1:2 0:0 0:0 0:0 0:2");
        Due.is("y", 5, () -> h.has(24));
    }

    private static void outsideIsAtOnce() {
        for (int way = 3; way <= 4; way++) {
            AsOneHouse h = Due.house(way);
            Due.tell(h, 0, "atom { x = 1; A = x; }");
            Due.tell(h, 1, "say x; x = 5;");
            Due.turns(h, "1 sees what is taken", "0:0 0:0 1:0 1:0");
            Due.is("said", 1, () -> h.said(0, false));
            Due.turns(h, "1 writes it", "1:0");
            Due.is("x", 5, () -> h.has(23));
            Due.is("clock", 1, () -> h.count(2));
            Due.turns(h, "0 sees that, and ends", "0:0 0:0");
            Due.is("A, later", 5, () -> h.register(0, 0));
            Due.is("x", 5, () -> h.has(23));
            Due.is("clock", 2, () -> h.count(2));
            // x was first 0, was read as 1, and is 5 after all: by no order.
            Due.is("judge", 0, h::judge);
        }
    }
}
