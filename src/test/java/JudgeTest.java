/** Promises 15, 16 and 17: records, the judge, and the order. */
public final class JudgeTest {
    public static void main(String[] args) {
        wrongNumbers();
        recordsOutside();
        theLeastOrder();
        noOrder();
        anotherOrderThanTheirs();
        turnsBindTheOrder();
        putsComeFirst();
        whatIsTakenIsNotLookedAt();
        Due.end();
    }

    private static void wrongNumbers() {
        AsOneHouse h = Due.house(0);
        Due.is("what comes first", Due.ARGUMENT, () -> h.record(0, 5));
        Due.is("what comes first", Due.ARGUMENT, () -> h.record(-1, -1));
        Due.is("none", Due.INDEX, () -> h.record(0, 4));
        Due.is("none", Due.INDEX, () -> h.record(-1, 0));
        Due.order(h, "nothing judged");
    }

    private static void recordsOutside() {
        AsOneHouse h = Due.house(2);
        Due.tell(h, 4, "say 1; x = 1; say x; x = x + y;");
        Due.turns(h, "run", "4:0 4:0 4:0 4:0 4:0 4:0 4:0 4:2");
        Due.is("records", 5, () -> h.count(5));
        Due.record(h, 0, "x =", 4, 0, 1, 1, 1);
        Due.record(h, 1, "look", 4, 1, 0, 2, 2);
        Due.record(h, 2, "look", 4, 1, 0, 4, 4);
        Due.record(h, 3, "look", 4, 1, 0, 5, 5);
        Due.record(h, 4, "x =", 4, 0, 1, 6, 6);
        Due.is("no more", Due.INDEX, () -> h.record(5, 0));
        Due.is("judge", 1, h::judge);
        Due.order(h, "as it went", 0, 1, 2, 3, 4);
    }

    /** Two blocks that know nothing of one another may come as they are numbered. */
    private static void theLeastOrder() {
        AsOneHouse h = Due.house(0);
        Due.tell(h, 0, "atom { x = 1; }");
        Due.tell(h, 1, "atom { y = 1; }");
        Due.turns(h, "both at once", "0:0 1:0 1:0 0:0 1:0 0:0");
        Due.record(h, 0, "1 ended first", 1, 0, 1, 1, 4);
        Due.record(h, 1, "then 0", 0, 0, 1, 0, 5);
        Due.is("judge", 1, h::judge);
        Due.order(h, "least", 0, 1);
        h.turn(0);
        Due.order(h, "as told last", 0, 1);
    }

    private static void noOrder() {
        AsOneHouse h = Due.house(2);
        Due.tell(h, 0, "atom { x = y + 1; }");
        Due.tell(h, 1, "atom { y = x + 1; }");
        // With pasts each may read what the other one then writes; but the end looks at the reads.
        Due.turns(h, "both", "0:0 1:0 0:0 1:0 0:0 1:0 0:0 1:1 1:0 1:0 1:0");
        Due.is("judge", 1, h::judge);
        Due.order(h, "0, then 1", 0, 1);
        AsOneHouse g = Due.house(4);
        Due.tell(g, 0, "atom { A = x; x = A + 1; }");
        Due.tell(g, 1, "x = 7;");
        Due.turns(g, "one lets outside in", "0:0 0:0 1:0 0:0 0:0");
        Due.is("x", 1, () -> g.has(23));
        Due.is("0 read 0 and wrote 1 behind 7: the other way round x were 7", 0, g::judge);
        Due.order(g, "none");
        Due.is("judged again", 0, g::judge);
    }

    private static void anotherOrderThanTheirs() {
        AsOneHouse h = Due.house(2);
        Due.tell(h, 0, "atom { A = x; A = y; }");
        Due.tell(h, 1, "atom { x = 5; }");
        Due.turns(h, "1 ended first, 0 saw the past", "0:0 1:0 1:0 1:0 0:0 0:0 0:0");
        Due.record(h, 0, "1", 1, 0, 1, 1, 3);
        Due.record(h, 1, "0", 0, 2, 0, 0, 6);
        Due.is("judge", 1, h::judge);
        Due.order(h, "0 came first", 1, 0);
        h.start(2);
        Due.order(h, "start forgets it");
    }

    private static void turnsBindTheOrder() {
        AsOneHouse h = Due.house(4);
        Due.tell(h, 0, "x = 1; x = 2; x = 1;");
        Due.tell(h, 1, "say x;");
        Due.turns(h, "each ahead of the next", "0:0 0:0 1:0 0:0");
        Due.is("judge", 1, h::judge);
        Due.order(h, "in turn", 0, 1, 2, 3);
        AsOneHouse g = Due.house(3);
        // The block's write is seen outside ahead of its end, and then taken back.
        Due.tell(g, 0, "atom { x = 1; quit; }");
        Due.tell(g, 1, "say x;");
        Due.turns(g, "what never was is seen", "0:0 0:0 1:0 1:0 0:0");
        Due.is("judge", 0, g::judge);
        AsOneHouse f = Due.house(3);
        Due.tell(f, 0, "atom { x = 1; y = 1; }");
        Due.tell(f, 1, "say x; say y;");
        Due.turns(f, "x seen, ahead of the end", "0:0 0:0 1:0 1:0 0:0 0:0");
        Due.record(f, 0, "look", 1, 1, 0, 2, 2);
        Due.record(f, 1, "block", 0, 0, 2, 0, 5);
        Due.is("the block went from 0, so it may come first", 1, f::judge);
        Due.order(f, "block, look", 1, 0);
    }

    private static void putsComeFirst() {
        AsOneHouse h = Due.house(0);
        Due.tell(h, 0, "say x; say x;");
        h.put(23, 4);
        Due.turns(h, "4", "0:0");
        Due.is("judge", 1, h::judge);
        Due.order(h, "one", 0);
        h.put(23, 5);
        Due.is("the last put counts, at first", 0, h::judge);
        Due.order(h, "none");
        h.put(23, 4);
        Due.turns(h, "say", "0:0 0:0");
        Due.is("judge", 1, h::judge);
        Due.order(h, "two", 0, 1);
        AsOneHouse g = Due.house(0);
        Due.tell(g, 0, "x = 3;");
        g.turn(0);
        g.put(23, 4);
        Due.is("x is 3 in the end by all orders, but has 4", 0, g::judge);
    }

    private static void whatIsTakenIsNotLookedAt() {
        for (int way = 3; way <= 4; way++) {
            AsOneHouse h = Due.house(way);
            Due.tell(h, 0, "atom { x = 1; A = y; }");
            Due.turns(h, "x is taken", "0:0 0:0");
            Due.is("judge", 1, h::judge);
            Due.order(h, "empty");
            Due.turns(h, "end", "0:0 0:0");
            Due.is("judge", 1, h::judge);
            Due.order(h, "one", 0);
        }
    }
}
