/** Promises 8, 12 and 13: what a turn does, registers, and what is said. */
public final class TurnTest {
    public static void main(String[] args) {
        wrongNumbers();
        actsOutside();
        actsWithin();
        values();
        conditions();
        tryAndFail();
        saidAtOnceAndHeld();
        saidIsLimited();
        Due.end();
    }

    private static void wrongNumbers() {
        AsOneHouse h = Due.house(0);
        Due.is("turn", Due.ARGUMENT, () -> h.turn(6));
        Due.is("turn", Due.ARGUMENT, () -> h.turn(-1));
        Due.is("none was taken", 0, () -> h.count(3));
        Due.is("register", Due.ARGUMENT, () -> h.register(6, 0));
        Due.is("register", Due.ARGUMENT, () -> h.register(-1, 0));
        Due.is("register", Due.ARGUMENT, () -> h.register(0, 26));
        Due.is("register", Due.ARGUMENT, () -> h.register(0, -1));
        Due.is("said", Due.INDEX, () -> h.said(-1, true));
        Due.is("said", Due.INDEX, () -> h.said(0, false));
        Due.is("look", Due.ARGUMENT, () -> h.look(6, 0));
        Due.is("look", Due.ARGUMENT, () -> h.look(-1, 0));
        Due.is("look", Due.ARGUMENT, () -> h.look(0, 8));
        Due.is("look", Due.ARGUMENT, () -> h.look(0, -1));
    }

    private static void actsOutside() {
        for (int way = 0; way <= 4; way++) {
            AsOneHouse h = Due.house(way);
            h.put(24, 4);
            Due.tell(h, 0, "A = 2; B = y * A + x; x = B; C = 1;");
            Due.turns(h, "look at y", "0:0");
            Due.is("done on the way", 2, () -> h.register(0, 0));
            Due.is("not yet", 0, () -> h.register(0, 1));
            h.put(24, 9);
            h.put(23, 1);
            Due.turns(h, "look at x", "0:0");
            Due.is("not yet", 0, () -> h.register(0, 1));
            Due.turns(h, "write x", "0:0");
            Due.is("y as it was looked at", 9, () -> h.register(0, 1));
            Due.is("x", 9, () -> h.has(23));
            Due.is("clock", 4, () -> h.count(2));
            Due.is("not yet", 0, () -> h.register(0, 2));
            Due.is("ready", 1, () -> h.look(0, 0));
            Due.turns(h, "what is left", "0:2");
            Due.is("is done", 1, () -> h.register(0, 2));
            Due.is("over", 4, () -> h.look(0, 0));
            Due.turns(h, "over", "0:2 0:2 5:2");
            Due.is("all turns count", 7, () -> h.count(3));
        }
    }

    private static void actsWithin() {
        for (int way = 0; way <= 4; way++) {
            AsOneHouse h = Due.house(way);
            Due.tell(h, 3, "A = 1; atom { B = x; y = B + 1; part { say y; } atom { z = 3; } } C = 1;");
            Due.turns(h, "begin", "3:0");
            Due.is("within", 2, () -> h.look(3, 0));
            Due.is("levels", 1, () -> h.look(3, 1));
            Due.turns(h, "look, write, look, say", "3:0 3:0 3:0 3:0");
            Due.is("reads: x alone", 1, () -> h.look(3, 2));
            Due.is("writes", 1, () -> h.look(3, 3));
            Due.is("levels: the part's end is no act", 2, () -> h.look(3, 1));
            Due.turns(h, "write", "3:0");
            Due.is("levels: that atom is none", 1, () -> h.look(3, 1));
            Due.is("writes", 2, () -> h.look(3, 3));
            Due.is("not said yet", 0, () -> h.count(4));
            Due.turns(h, "end", "3:0");
            Due.is("ready", 1, () -> h.look(3, 0));
            Due.is("levels", 0, () -> h.look(3, 1));
            Due.is("reads", 0, () -> h.look(3, 2));
            Due.is("writes", 0, () -> h.look(3, 3));
            Due.is("ended", 1, () -> h.look(3, 7));
            Due.is("clock", 1, () -> h.count(2));
            Due.is("y", 1, () -> h.has(24));
            Due.is("z", 3, () -> h.has(25));
            Due.is("said", 1, () -> h.said(0, false));
            Due.is("by", 3, () -> h.said(0, true));
            Due.is("not yet", 0, () -> h.register(3, 2));
            Due.turns(h, "over", "3:2");
            Due.is("on the way", 1, () -> h.register(3, 2));
        }
    }

    private static void value(String expr, int due) {
        AsOneHouse h = Due.house(0);
        Due.tell(h, 0, "A = 7; B = 0 - 3; C = " + expr + ";");
        Due.turns(h, expr, "0:2");
        Due.is(expr, due, () -> h.register(0, 2));
    }

    private static void values() {
        value("1000000", 1000000);
        value("007", 7);
        value("2 + 3 * 4", 14);
        value("(2 + 3) * 4", 20);
        value("10 - 3 - 2", 5);
        value("10 - 3 + 2", 9);
        value("2 - 3 * 4 - 5", -15);
        value("-3 * -4", 12);
        value("--5", 5);
        value("- (2 + 3)", -5);
        value("2 - -3", 5);
        value("A == 7", 1);
        value("A == B", 0);
        value("B < A", 1);
        value("A < B", 0);
        value("A < A", 0);
        value("1 + 1 == 2", 1);
        value("1 + (1 == 2)", 1);
        value("(1 < 2) + (2 == 2) * 10", 11);
        value("-A == 0 - 7", 1);
        value("1000000 * 1000000", 1000000 * 1000000);
        value("1000000 * 1000000 * 1000000", 1000000 * 1000000 * 1000000);
        value("2147 * 1000000 + 483647 + 1", Integer.MIN_VALUE);
        value("-(2147 * 1000000 + 483647) - 2", Integer.MAX_VALUE);
        value("-(-(2147 * 1000000 + 483647) - 1)", Integer.MIN_VALUE);
        value("((((((((1+1))*2)+1)*2)+1)*2)+1)", 23);
    }

    private static void conditions() {
        AsOneHouse h = Due.house(0);
        Due.tell(h, 0, "if (0) { A = 1; } else { A = 2; } if (0 - 1) { B = 1; } else { B = 2; } if (0) { C = 1; }"
                + "while (D < 2) { D = D + 1; } while (0) { E = 1; } if (x < 1) { F = 1; }");
        Due.turns(h, "while turns", "0:0");
        Due.is("A", 2, () -> h.register(0, 0));
        Due.is("B", 1, () -> h.register(0, 1));
        Due.is("C", 0, () -> h.register(0, 2));
        Due.is("D", 0, () -> h.register(0, 3));
        Due.turns(h, "while turns", "0:0");
        Due.is("D", 1, () -> h.register(0, 3));
        Due.turns(h, "look at x", "0:0");
        Due.is("D", 2, () -> h.register(0, 3));
        Due.turns(h, "over", "0:2");
        Due.is("E", 0, () -> h.register(0, 4));
        Due.is("F", 1, () -> h.register(0, 5));
    }

    private static void tryAndFail() {
        AsOneHouse h = Due.house(0);
        Due.tell(h, 0, "try { A = 1; fail 5; A = 2; } catch B { C = B; } say A + 10 * B + 100 * C;");
        Due.turns(h, "fail is no act", "0:0 0:2");
        Due.is("said", 551, () -> h.said(0, false));

        Due.tell(h, 1, "try { try { fail 1; } catch A { fail A + 1; } } catch A { say A; } try { } catch A { say 9; }"
                + "try { fail x; } catch A { B = A + 4; } fail B - 11;");
        Due.turns(h, "a catch is not within its own try", "1:0");
        Due.is("said", 2, () -> h.said(1, false));
        Due.is("not dead", 0, () -> h.look(1, 6));
        Due.turns(h, "look at x", "1:0");
        Due.turns(h, "dead", "1:5 1:5");
        Due.is("dead", 5, () -> h.look(1, 0));
        Due.is("died with", -7, () -> h.look(1, 6));
        Due.is("registers stay", 4, () -> h.register(1, 1));
        Due.is("A", 0, () -> h.register(1, 0));
    }

    private static void saidAtOnceAndHeld() {
        for (int way = 0; way <= 4; way++) {
            AsOneHouse h = Due.house(way);
            Due.tell(h, 0, "say 1; atom { say 2; part { say 3; } part { say 4; quit; } say 5; } say 6;");
            Due.tell(h, 1, "say 7; atom { say 8; quit; }");
            Due.turns(h, "say", "0:0");
            Due.is("at once", 1, () -> h.count(4));
            Due.turns(h, "hold", "0:0 0:0 0:0 0:0 1:0");
            Due.is("held", 2, () -> h.count(4));
            Due.turns(h, "quit, say, end", "0:0 0:0 0:0");
            Due.is("said", 5, () -> h.count(4));
            Due.turns(h, "say", "0:0 1:0 1:0 1:0 1:2");
            int[] due = {1, 7, 2, 3, 5, 6};
            Due.is("said", due.length, () -> h.count(4));
            for (int i = 0; i < due.length; i++) {
                int at = i;
                Due.is("said " + i, due[i], () -> h.said(at, false));
                Due.is("who said " + i, due[i] == 7 ? 1 : 0, () -> h.said(at, true));
            }
            Due.is("no more", Due.INDEX, () -> h.said(due.length, false));
        }
    }

    private static void saidIsLimited() {
        AsOneHouse h = Due.house(0);
        Due.tell(h, 0, "while (A < 150) { A = A + 1; say A; }");
        Due.tell(h, 1, "atom { while (A < 300) { A = A + 1; say 1000 + A; } }");
        Due.is("round", 300 + 1 + 602 + 1, () -> h.round(2000));
        Due.is("200 are kept", 200, () -> h.count(4));
        Due.is("the last of thread 0", 150, () -> h.said(149, false));
        Due.is("the first of thread 1", 1001, () -> h.said(150, false));
        Due.is("the last", 1050, () -> h.said(199, false));
        Due.is("no more", Due.INDEX, () -> h.said(200, false));
        Due.tell(h, 2, "say 5;");
        Due.turns(h, "lost", "2:0");
        Due.is("200 are kept", 200, () -> h.count(4));

        AsOneHouse g = Due.house(0);
        Due.tell(g, 0, "atom { part { while (A < 300) { A = A + 1; say A; } quit; } say 9; }");
        Due.is("round", 1 + 600 + 1 + 1 + 1 + 1, () -> g.round(2000));
        Due.is("what was taken back is not said", 1, () -> g.count(4));
        Due.is("said", 9, () -> g.said(0, false));
    }
}
