/** Promises 15, 16 and 17: records, the judge, and the order. */
public final class JudgeTest {
    public static void main(String[] args) {
        wrongNumbers();
        recordsOutside();
        theLeastOrder();
        noOrder();
        anotherOrderThanTheirs();
        turnsBindTheOrder();
        putsComeFirst();
        whatIsTakenIsNotLookedAt();
        fourteenRecords();
        tooManyBeginnings();
        records300();
        Due.end();
    }

    private static void order(AsOneHouse h, String what, int... due) {
        for (int i = 0; i < due.length; i++) {
            int at = i;
            Due.is(what + ": order " + i, due[i], () -> h.order(at));
        }
        Due.is(what + ": order ends", Due.INDEX, () -> h.order(due.length));
        Due.is(what + ": none at -1", Due.INDEX, () -> h.order(-1));
    }

    private static void record(AsOneHouse h, int i, String what, int... due) {
        for (int k = 0; k < due.length; k++) {
            int w = k;
            Due.is(what + ": record " + i + ", " + w, due[k], () -> h.record(i, w));
        }
    }

    private static void wrongNumbers() {
        AsOneHouse h = Due.house(0);
        Due.is("what comes first", Due.ARGUMENT, () -> h.record(0, 5));
        Due.is("what comes first", Due.ARGUMENT, () -> h.record(-1, -1));
        Due.is("none", Due.INDEX, () -> h.record(0, 4));
        Due.is("none", Due.INDEX, () -> h.record(-1, 0));
        order(h, "nothing judged");
    }

    private static void recordsOutside() {
        AsOneHouse h = Due.house(2);
        Due.tell(h, 4, "say 1; x = 1; say x; x = x + y;");
        Due.turns(h, "run", "4:0 4:0 4:0 4:0 4:0 4:0 4:0 4:2");
        Due.is("records", 5, () -> h.count(5));
        record(h, 0, "x =", 4, 0, 1, 1, 1);
        record(h, 1, "look", 4, 1, 0, 2, 2);
        record(h, 2, "look", 4, 1, 0, 4, 4);
        record(h, 3, "look", 4, 1, 0, 5, 5);
        record(h, 4, "x =", 4, 0, 1, 6, 6);
        Due.is("no more", Due.INDEX, () -> h.record(5, 0));
        Due.is("judge", 1, h::judge);
        order(h, "as it went", 0, 1, 2, 3, 4);
    }

    /** Two blocks that know nothing of one another may come as they are numbered. */
    private static void theLeastOrder() {
        AsOneHouse h = Due.house(0);
        Due.tell(h, 0, "atom { x = 1; }");
        Due.tell(h, 1, "atom { y = 1; }");
        Due.turns(h, "both at once", "0:0 1:0 1:0 0:0 1:0 0:0");
        record(h, 0, "1 ended first", 1, 0, 1, 1, 4);
        record(h, 1, "then 0", 0, 0, 1, 0, 5);
        Due.is("judge", 1, h::judge);
        order(h, "least", 0, 1);
        h.turn(0);
        order(h, "as told last", 0, 1);
    }

    private static void noOrder() {
        AsOneHouse h = Due.house(2);
        Due.tell(h, 0, "atom { x = y + 1; }");
        Due.tell(h, 1, "atom { y = x + 1; }");
        // With pasts each may read what the other one then writes; but the end looks at the reads.
        Due.turns(h, "both", "0:0 1:0 0:0 1:0 0:0 1:0 0:0 1:1 1:0 1:0 1:0");
        Due.is("judge", 1, h::judge);
        order(h, "0, then 1", 0, 1);
        AsOneHouse g = Due.house(4);
        Due.tell(g, 0, "atom { A = x; x = A + 1; }");
        Due.tell(g, 1, "x = 7;");
        Due.turns(g, "one lets outside in", "0:0 0:0 1:0 0:0 0:0");
        Due.is("x", 1, () -> g.has(23));
        Due.is("0 read 0 and wrote 1 behind 7: the other way round x were 7", 0, g::judge);
        order(g, "none");
        Due.is("judged again", 0, g::judge);
    }

    private static void anotherOrderThanTheirs() {
        AsOneHouse h = Due.house(2);
        Due.tell(h, 0, "atom { A = x; A = y; }");
        Due.tell(h, 1, "atom { x = 5; }");
        Due.turns(h, "1 ended first, 0 saw the past", "0:0 1:0 1:0 1:0 0:0 0:0 0:0");
        record(h, 0, "1", 1, 0, 1, 1, 3);
        record(h, 1, "0", 0, 2, 0, 0, 6);
        Due.is("judge", 1, h::judge);
        order(h, "0 came first", 1, 0);
        h.start(2);
        order(h, "start forgets it");
    }

    private static void turnsBindTheOrder() {
        AsOneHouse h = Due.house(4);
        Due.tell(h, 0, "x = 1; x = 2; x = 1;");
        Due.tell(h, 1, "say x;");
        Due.turns(h, "each ahead of the next", "0:0 0:0 1:0 0:0");
        Due.is("judge", 1, h::judge);
        order(h, "in turn", 0, 1, 2, 3);
        AsOneHouse g = Due.house(3);
        // The block's write is seen outside ahead of its end, and then taken back.
        Due.tell(g, 0, "atom { x = 1; quit; }");
        Due.tell(g, 1, "say x;");
        Due.turns(g, "what never was is seen", "0:0 0:0 1:0 1:0 0:0");
        Due.is("judge", 0, g::judge);
        AsOneHouse f = Due.house(3);
        Due.tell(f, 0, "atom { x = 1; y = 1; }");
        Due.tell(f, 1, "say x; say y;");
        Due.turns(f, "x seen, ahead of the end", "0:0 0:0 1:0 1:0 0:0 0:0");
        record(f, 0, "look", 1, 1, 0, 2, 2);
        record(f, 1, "block", 0, 0, 2, 0, 5);
        Due.is("the block went from 0, so it may come first", 1, f::judge);
        order(f, "block, look", 1, 0);
    }

    private static void putsComeFirst() {
        AsOneHouse h = Due.house(0);
        Due.tell(h, 0, "say x; say x;");
        h.put(23, 4);
        Due.turns(h, "4", "0:0");
        Due.is("judge", 1, h::judge);
        order(h, "one", 0);
        h.put(23, 5);
        Due.is("the last put counts, at first", 0, h::judge);
        order(h, "none");
        h.put(23, 4);
        Due.turns(h, "say", "0:0 0:0");
        Due.is("judge", 1, h::judge);
        order(h, "two", 0, 1);
        AsOneHouse g = Due.house(0);
        Due.tell(g, 0, "x = 3;");
        g.turn(0);
        g.put(23, 4);
        Due.is("x is 3 in the end by all orders, but has 4", 0, g::judge);
    }

    private static void whatIsTakenIsNotLookedAt() {
        for (int way = 3; way <= 4; way++) {
            AsOneHouse h = Due.house(way);
            Due.tell(h, 0, "atom { x = 1; A = y; }");
            Due.turns(h, "x is taken", "0:0 0:0");
            Due.is("judge", 1, h::judge);
            order(h, "empty");
            Due.turns(h, "end", "0:0 0:0");
            Due.is("judge", 1, h::judge);
            order(h, "one", 0);
        }
    }

    private static void fourteenRecords() {
        AsOneHouse h = Due.house(0);
        Due.tell(h, 0, "while (A < 14) { A = A + 1; x = A; }");
        Due.is("round", 28, () -> h.round(28));
        Due.is("14", 14, () -> h.count(5));
        Due.is("judge", 1, h::judge);
        order(h, "fourteen", 0, 1, 2, 3, 4, 5, 6, 7, 8, 9, 10, 11, 12, 13);
        Due.tell(h, 1, "x = 14;");
        Due.turns(h, "15", "1:0");
        Due.is("judge", -1, h::judge);
        order(h, "none");
    }

    private static void tooManyBeginnings() {
        AsOneHouse h = Due.house(0);
        for (int t = 0; t < 6; t++) {
            Due.tell(h, t, "atom { x = " + (t + 1) + "; } z = 1;");
        }
        overlap(h, "012345012345");
        Due.is("six that overlap", 1, h::judge);
        order(h, "least", 0, 1, 2, 3, 4, 5);
        h.put(25, 7);
        h.turn(3);
        h.put(25, 7);
        // All orders of the first six, each with the seventh: 1 + 6 + 30 + 120 + 360 + 720 + 720 + 720.
        Due.is("z has 7, not 1, after all", 0, h::judge);
        order(h, "none");
        beginnings("104043221452420133055351", 0);
        beginnings("400405345550405012434152", -1);
    }

    /** Each time a thread is named, its next block begins, or is done and ends. */
    private static void overlap(AsOneHouse h, String script) {
        for (char c : script.toCharArray()) {
            int thread = c - '0';
            if (h.look(thread, 0) == 2) {
                h.turn(thread);
            }
            h.turn(thread);
        }
    }

    /** The first of these scripts has exactly 20000 beginnings, the second one 20001. */
    private static void beginnings(String script, int due) {
        AsOneHouse h = Due.house(0);
        for (int t = 0; t < 6; t++) {
            Due.tell(h, t, "atom { a = 1; } ".repeat(4));
        }
        overlap(h, script);
        Due.is(script + ": records", 12, () -> h.count(5));
        Due.is(script + ": right at once", 1, h::judge);
        order(h, script, 0, 1, 2, 3, 4, 5, 6, 7, 8, 9, 10, 11);
        h.put(0, 5);
        Due.is(script + ": a has 5, not 1, after all", due, h::judge);
        order(h, script);
    }

    private static void records300() {
        AsOneHouse h = Due.house(0);
        Due.tell(h, 0, "while (1) { x = 1; }");
        Due.is("round", 598, () -> h.round(598));
        Due.is("299", 299, () -> h.count(5));
        Due.is("round", 2, () -> h.round(2));
        Due.is("300", 300, () -> h.count(5));
        Due.is("round", 20, () -> h.round(20));
        Due.is("more are lost", 300, () -> h.count(5));
        record(h, 299, "the last one", 0, 0, 1, 599, 599);
        Due.is("no more", Due.INDEX, () -> h.record(300, 0));
        Due.tell(h, 1, "say y; atom { A = y; A = z; }");
        Due.turns(h, "lost too", "1:0 1:0 1:0 1:0 1:0 1:0");
        record(h, 299, "the last one stays", 0, 0, 1, 599, 599);
        Due.is("ended", 1, () -> h.look(1, 7));
    }
}
