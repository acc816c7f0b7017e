/** The records and the judge, promises 15 to 18: a test of its own for each sentence that names a boundary case. */
public final class JudgeBoundsTest {
    private static final int LEAST = Integer.MIN_VALUE;
    private static final int GREATEST = Integer.MAX_VALUE;

    public static void main(String[] args) {
        whatHasARecord();
        theTurnsOfARecord();
        whatItWroteAtLast();
        noRecords();
        oneTurnLater();
        theSameTurn();
        readsAndFirstValues();
        putsOfEachPlace();
        whatPlacesHaveAtTheEnd();
        theLeastOrder();
        fourteenRecords();
        beginningsOfOrders();
        orderThatThereIs();
        recordThatThereIs();
        countFrom0To8();
        countOfTurns();
        countOfRecords();
        Due.end();
    }

    private static void whatHasARecord() {
        Due.sentence("RECORDS: of each BLOCK that ended with its }");
        Due.sentence("and each LOOK and PLACE = outside, in the order in which they ended");
        for (int way = 0; way <= 4; way++) {
            AsOneHouse h = Due.house(way);
            Due.tell(h, 0, "A=1;say 1;atom{}atom{x=1;A=y;quit;}try{atom{x=1;fail 1;}}catch A{}A=x;x=1;atom{retry;}");
            h.round(100);
            Due.is("asleep", 3, () -> h.look(0, 0));
            Due.is("an empty block, a look, a write", 3, () -> h.count(5));
            Due.record(h, 0, "an empty block", 0, 0, 0, 1, 2);
            Due.is("a look", 1, () -> h.record(1, 1));
            Due.is("a look", 0, () -> h.record(1, 2));
            Due.is("a write", 0, () -> h.record(2, 1));
            Due.is("a write", 1, () -> h.record(2, 2));
        }
    }

    private static void theTurnsOfARecord() {
        Due.sentence("from which TURN to which it went (from its last begin, or whole RESTART, or when it woke)");
        AsOneHouse h = Due.house(0);
        Due.tell(h, 5, "x=1;atom{A=x;part{A=y;A=z;}w=1;}");
        Due.tell(h, 0, "atom{}");
        Due.turns(h, "x =, begin, x, y", "5:0 5:0 5:0 5:0");
        h.put(25, 1);
        Due.turns(h, "the part restarts", "5:1");
        Due.turns(h, "y, z, w, end", "5:0 5:0 5:0 5:0");
        Due.record(h, 0, "outside", 5, 0, 1, 0, 0);
        Due.record(h, 1, "from its begin, though its part restarted", 5, 3, 1, 1, 8);
        Due.turns(h, "another", "0:0 0:0");
        Due.record(h, 2, "another", 0, 0, 0, 9, 10);
        h.start(0);
        Due.turns(h, "x =, begin, x", "5:0 5:0 5:0");
        h.put(23, 2);
        h.put(24, 2);
        Due.turns(h, "the block restarts", "5:1");
        Due.turns(h, "x, y, z, w, end", "5:0 5:0 5:0 5:0 5:0");
        Due.record(h, 1, "from its restart", 5, 3, 1, 3, 8);
        h.start(1);
        Due.tell(h, 5, "atom{if(x==0){retry;}}");
        Due.turns(h, "asleep, asleep", "5:0 5:0 5:3 5:3");
        h.put(23, 1);
        Due.turns(h, "wakes, x, end", "5:6 5:0 5:0");
        Due.record(h, 0, "from when it woke", 5, 1, 0, 4, 6);
    }

    private static void whatItWroteAtLast() {
        Due.sentence("(READS that were at its end, one of a PLACE, the first; what it wrote at last; "
                + "KEPT, ONE: what a PLACE that it wrote has at that end)");
        for (int way = 0; way <= 4; way++) {
            AsOneHouse h = Due.house(way);
            Due.tell(h, 0, "atom{x=1;x=2;part{x=3;y=4;}part{x=5;z=6;quit;}}");
            Due.is("all", 10, () -> h.round(100));
            Due.record(h, 0, "x and y", 0, 0, 2, 0, 8);
            Due.is("judge", 1, h::judge);
            h.put(23, 3);
            h.put(24, 4);
            Due.is("x has 3, y has 4", 1, h::judge);
            // Puts come at first, so that a place which the record wrote must not have another value.
            h.put(23, 2);
            Due.is("x has 2", 0, h::judge);
        }
        AsOneHouse h = Due.house(4);
        Due.tell(h, 0, "atom{x=1;say 1;}");
        Due.tell(h, 1, "x=5;");
        Due.turns(h, "1 writes over what 0 has taken", "0:0 0:0 1:0 0:0 0:0");
        Due.is("x", 5, () -> h.has(23));
        Due.is("0 wrote what x has at its end", 1, h::judge);
        Due.order(h, "both wrote 5", 0, 1);
    }

    private static void noRecords() {
        Due.sentence("whether all RECORDS may have come one after another in some order");
        for (int way = 0; way <= 4; way++) {
            AsOneHouse h = Due.house(way);
            Due.is("none", 1, h::judge);
            Due.order(h, "empty");
            h.put(23, 1);
            Due.is("none, and a put", 1, h::judge);
            Due.order(h, "empty");
        }
    }

    private static void oneTurnLater() {
        Due.sentence("in which one that went up to a TURN is ahead of those that went from a later one");
        AsOneHouse h = Due.house(2);
        Due.tell(h, 0, "atom{A=x;}");
        Due.tell(h, 1, "x=1;");
        // 1 writes in turn 1, while 0 has begun in turn 0: 0 may come first.
        Due.turns(h, "begin, x = 1, x, end", "0:0 1:0 0:0 0:0");
        Due.record(h, 0, "x =", 1, 0, 1, 1, 1);
        Due.record(h, 1, "block", 0, 1, 0, 0, 3);
        Due.is("0 saw what was past", 1, h::judge);
        Due.order(h, "0 is first", 1, 0);
        AsOneHouse g = Due.house(4);
        Due.tell(g, 0, "atom{x=1;quit;}");
        Due.tell(g, 1, "A=x;");
        Due.tell(g, 2, "x=1;");
        Due.turns(g, "2 writes a turn later than 1 saw it", "0:0 0:0 1:0 0:0 2:0");
        Due.is("the look went up to a turn ahead of that", 0, g::judge);
        Due.order(g, "none");
    }

    private static void theSameTurn() {
        Due.sentence("is ahead of those that went from a later one");
        AsOneHouse h = Due.house(3);
        Due.tell(h, 0, "atom{A=y;A=x;}");
        Due.tell(h, 1, "atom{x=1;z=1;}");
        Due.turns(h, "0 begins, 1 takes x; 0 looks at it: 1 restarts in that turn", "0:0 1:0 1:0 0:0 0:0");
        Due.turns(h, "0 ends", "0:0");
        Due.turns(h, "1 ends", "1:0 1:0 1:0");
        Due.record(h, 0, "0", 0, 2, 0, 0, 5);
        Due.record(h, 1, "1, from its restart", 1, 0, 2, 4, 8);
        Due.is("judge", 1, h::judge);
        Due.order(h, "0, then 1", 0, 1);
        AsOneHouse g = Due.house(3);
        Due.tell(g, 1, "atom{A=x;}");
        Due.tell(g, 0, "atom{x=1;A=y;}");
        // 1 ends in the very turn in which 0 restarts: neither is bound to be first.
        Due.turns(g, "1 reads x, 0 takes it", "1:0 0:0 1:0 0:0");
        Due.turns(g, "1 ends: rivals, 0 restarts, x has another version", "1:1 1:0");
        Due.turns(g, "1 ends, 0 ends", "1:0 0:0 0:0 0:0");
        Due.is("0 went from turn 4", 4, () -> g.record(1, 3));
        Due.is("1 too", 4, () -> g.record(0, 3));
        Due.is("judge", 1, g::judge);
        Due.order(g, "1, then 0", 0, 1);
    }

    private static void readsAndFirstValues() {
        Due.sentence("each READ has what was written last ahead of it (or 0, or put, at first");
        AsOneHouse h = Due.house(0);
        Due.tell(h, 0, "A=x;x=1;A=x;x=2;A=x;");
        Due.is("all", 6, () -> h.round(9));
        Due.is("0, 1, 2", 1, h::judge);
        Due.order(h, "as it went", 0, 1, 2, 3, 4);
        AsOneHouse g = Due.house(0);
        Due.tell(g, 0, "A=x;x=1;");
        g.put(23, 3);
        Due.turns(g, "3 is seen", "0:0 0:0");
        Due.is("put, at first", 1, g::judge);
        AsOneHouse f = Due.house(0);
        Due.tell(f, 0, "x=1;A=x;");
        Due.turns(f, "x =", "0:0");
        f.put(23, 3);
        Due.turns(f, "3 is seen, behind 1", "0:0");
        Due.is("a put comes at first alone", 0, f::judge);
    }

    private static void putsOfEachPlace() {
        Due.sentence("PLACES as at start with all puts since, the last of each");
        AsOneHouse h = Due.house(0);
        Due.tell(h, 0, "A=a;A=z;");
        h.put(0, 1);
        h.put(25, 2);
        h.put(0, 3);
        h.put(25, 4);
        Due.is("all", 3, () -> h.round(9));
        Due.is("3 and 4", 1, h::judge);
        h.put(0, 1);
        Due.is("1 is the last put of a", 0, h::judge);
        h.put(0, 3);
        Due.is("3 again", 1, h::judge);
        h.start(0);
        Due.is("all", 3, () -> h.round(9));
        Due.is("puts from before start are forgotten", 1, h::judge);
    }

    private static void whatPlacesHaveAtTheEnd() {
        Due.sentence("and at the end PLACES have what they have (but TAKEN ones)");
        AsOneHouse h = Due.house(3);
        Due.tell(h, 0, "atom{x=1;a=1;z=1;A=y;}");
        Due.tell(h, 1, "b=1;");
        Due.turns(h, "x, a, z are taken", "0:0 0:0 0:0 0:0");
        Due.is("they are not looked at", 1, h::judge);
        Due.turns(h, "end", "0:0 0:0");
        Due.is("they are as written", 1, h::judge);
        Due.order(h, "one", 0);
        Due.turns(h, "b", "1:0");
        h.put(1, 2);
        Due.is("b has 2, though 1 was written last", 0, h::judge);
        Due.order(h, "none");
        h.put(1, 1);
        Due.is("1", 1, h::judge);
        Due.order(h, "two", 0, 1);
    }

    private static void theLeastOrder() {
        Due.sentence("1: the least such ORDER (by numbers of RECORDS, from the first on), 0: none");
        AsOneHouse h = Due.house(0);
        for (int t = 0; t < 4; t++) {
            Due.tell(h, t, "atom{x=" + (t == 1 ? 7 : t) + ";}");
        }
        overlap(h, "01233210");
        Due.is("all orders that end with x = 0", 1, h::judge);
        Due.order(h, "the least of them", 0, 1, 2, 3);
        Due.is("thread 0 ended last", 0, () -> h.record(3, 0));
        AsOneHouse g = Due.house(2);
        Due.tell(g, 0, "atom{A=x;A=y;}");
        Due.tell(g, 1, "atom{x=1;}");
        Due.tell(g, 2, "atom{y=1;}");
        Due.tell(g, 3, "atom{z=1;}");
        Due.turns(g, "all begin", "0:0 1:0 2:0 3:0 1:0 1:0 2:0 2:0 3:0 3:0 0:0 0:0 0:0");
        Due.is("the reader, number 3, must be ahead of 0 and 1", 1, g::judge);
        Due.order(g, "2 may be first", 2, 3, 0, 1);
    }

    /** Each time a thread is named, its next block begins, or is done and ends. */
    private static void overlap(AsOneHouse h, String script) {
        for (char c : script.toCharArray()) {
            int thread = c - '0';
            if (h.look(thread, 0) == 2) {
                h.turn(thread);
            }
            h.turn(thread);
        }
    }

    private static void fourteenRecords() {
        Due.sentence("-1 (with both there is no ORDER then): more than 14 RECORDS");
        AsOneHouse h = Due.house(0);
        Due.tell(h, 0, "say x;".repeat(15));
        Due.is("14 looks", 28, () -> h.round(28));
        Due.is("14", 14, () -> h.count(5));
        Due.is("judge", 1, h::judge);
        Due.order(h, "14", 0, 1, 2, 3, 4, 5, 6, 7, 8, 9, 10, 11, 12, 13);
        h.put(23, 1);
        Due.is("0 with 14", 0, h::judge);
        Due.order(h, "none with 0");
        h.put(23, 0);
        Due.is("1 with 14", 1, h::judge);
        Due.turns(h, "the 15th", "0:0");
        Due.order(h, "told last, until the judge is asked", 0, 1, 2, 3, 4, 5, 6, 7, 8, 9, 10, 11, 12, 13);
        Due.is("judge", -1, h::judge);
        Due.order(h, "none with -1");
    }

    private static void beginningsOfOrders() {
        Due.sentence("or more than 20000 beginnings of ORDERS would be tried (the empty one is one; "
                + "RECORDS that may come next are tried by their numbers, and only if their READS are right there)");
        AsOneHouse h = Due.house(0);
        for (int t = 0; t < 6; t++) {
            Due.tell(h, t, "atom { x = " + (t + 1) + "; } z = 1;");
        }
        overlap(h, "012345012345");
        Due.is("six that overlap", 1, h::judge);
        Due.order(h, "least", 0, 1, 2, 3, 4, 5);
        h.put(25, 7);
        h.turn(3);
        h.put(25, 7);
        // All orders of the first six, each with the seventh: 1 + 6 + 30 + 120 + 360 + 720 + 720 + 720.
        Due.is("z has 7, not 1, after all", 0, h::judge);
        Due.order(h, "none");
        beginnings("104043221452420133055351", 0);
        beginnings("400405345550405012434152", -1);
        wrongReads();
    }

    /** The first of these scripts has exactly 20000 beginnings, the second one 20001. */
    private static void beginnings(String script, int due) {
        AsOneHouse h = Due.house(0);
        for (int t = 0; t < 6; t++) {
            Due.tell(h, t, "atom { a = 1; } ".repeat(4));
        }
        overlap(h, script);
        Due.is(script + ": records", 12, () -> h.count(5));
        Due.is(script + ": right at once", 1, h::judge);
        Due.order(h, script, 0, 1, 2, 3, 4, 5, 6, 7, 8, 9, 10, 11);
        h.put(0, 5);
        Due.is(script + ": a has 5, not 1, after all", due, h::judge);
        Due.order(h, script);
    }

    /** Twelve blocks of which each, but for its read, may come anywhere: far more than 20000, if reads were not looked at. */
    private static void wrongReads() {
        AsOneHouse h = Due.house(0);
        for (int t = 0; t < 6; t++) {
            Due.tell(h, t, "atom { A = x; } atom { A = x; }");
        }
        overlap(h, "012345012345012345012345");
        Due.is("records", 12, () -> h.count(5));
        Due.is("right at once", 1, h::judge);
        h.put(23, 1);
        Due.is("none may be first: the empty beginning is the only one", 0, h::judge);
        h.put(23, 0);
        h.put(0, 1);
        Due.is("right again", 1, h::judge);
    }

    private static void orderThatThereIs() {
        Due.sentence("RECORD that is i-th in the ORDER that judge told last; there is none: IndexOutOfBoundsException.");
        AsOneHouse h = Due.house(0);
        Due.tell(h, 0, "x=1;x=2;");
        Due.is("no judge yet", Due.INDEX, () -> h.order(0));
        Due.turns(h, "x =", "0:0");
        Due.is("no judge yet", Due.INDEX, () -> h.order(0));
        Due.is("judge", 1, h::judge);
        for (int i : new int[] {LEAST, -1, 1, 13, 14, GREATEST}) {
            Due.is("order(" + i + ")", Due.INDEX, () -> h.order(i));
        }
        Due.is("order(0)", 0, () -> h.order(0));
        Due.turns(h, "x =", "0:0");
        Due.is("told last", Due.INDEX, () -> h.order(1));
        Due.is("judge", 1, h::judge);
        Due.is("order(1)", 1, () -> h.order(1));
        h.put(23, 9);
        Due.is("told last", 1, () -> h.order(1));
        Due.is("none", 0, h::judge);
        Due.is("no order", Due.INDEX, () -> h.order(0));
        h.put(23, 2);
        Due.is("judge", 1, h::judge);
        h.start(0);
        Due.is("start", Due.INDEX, () -> h.order(0));
    }

    private static void recordThatThereIs() {
        Due.sentence("RECORD i, what 0: THREAD, 1: READS, 2: PLACES written, 3: from which TURN (0 is the first since start), "
                + "4: to which; there is none: IndexOutOfBoundsException.");
        AsOneHouse h = Due.house(0);
        Due.is("none", Due.INDEX, () -> h.record(0, 0));
        Due.tell(h, 5, "x=1;");
        Due.turns(h, "the first since start", "5:0");
        Due.record(h, 0, "x =", 5, 0, 1, 0, 0);
        for (int what : new int[] {LEAST, -1, 5, GREATEST}) {
            Due.is("record(0, " + what + ")", Due.ARGUMENT, () -> h.record(0, what));
            Due.is("record(1, " + what + ")", Due.ARGUMENT, () -> h.record(1, what));
        }
        for (int i : new int[] {LEAST, -1, 1, 299, 300, GREATEST}) {
            Due.is("record(" + i + ", 0)", Due.INDEX, () -> h.record(i, 0));
            Due.is("record(" + i + ", 4)", Due.INDEX, () -> h.record(i, 4));
        }
        h.start(0);
        Due.is("none", Due.INDEX, () -> h.record(0, 0));
        Due.turns(h, "the first since start", "1:2 5:0");
        Due.record(h, 0, "x =", 5, 0, 1, 1, 1);
    }

    private static void countFrom0To8() {
        Due.sentence("what 0: bytes of THE TAPE, 1: the WAY, 2: CLOCK");
        Due.sentence("6: THREADS within a BLOCK, 7: ASLEEP, 8: PLACES that are TAKEN");
        AsOneHouse h = Due.house(3);
        for (int what : new int[] {LEAST, -1, 9, GREATEST}) {
            Due.is("count(" + what + ")", Due.ARGUMENT, () -> h.count(what));
        }
        for (int t = 0; t < 6; t++) {
            char first = (char) ('a' + 4 * t);
            Due.tell(h, t, "atom{" + first + "=1;" + (char) (first + 1) + "=1;A=" + (char) (first + 2) + ";retry;}");
        }
        for (int t = 0; t < 6; t++) {
            int thread = t;
            Due.is("begin", 0, () -> h.turn(thread));
            Due.is("within", thread + 1, () -> h.count(6));
        }
        Due.is("all", 18, () -> h.round(18));
        int[] due = {0, 3, 0, 24, 0, 0, 6, 0, 12};
        for (int what = 0; what <= 8; what++) {
            int w = what;
            Due.is("all within: count " + w, due[w], () -> h.count(w));
        }
        for (int t = 0; t < 6; t++) {
            int thread = t;
            Due.is("asleep", 3, () -> h.turn(thread));
            Due.is("within", 5 - thread, () -> h.count(6));
            Due.is("asleep", thread + 1, () -> h.count(7));
            Due.is("taken", 10 - 2 * thread, () -> h.count(8));
            Due.is("clock", thread + 1, () -> h.count(2));
        }
    }

    private static void countOfTurns() {
        Due.sentence("3: TURNS that were taken since start (each turn is one, whatever it answers; those of round)");
        AsOneHouse h = Due.house(4);
        Due.tell(h, 0, "atom{if(x==0){retry;}}");
        Due.tell(h, 1, "atom{}");
        Due.tell(h, 2, "fail 1;");
        String[] turns = {"5:2", "0:0", "1:4", "0:0", "0:3", "0:3", "2:5", "2:5", "1:0", "1:0", "1:2", "1:2"};
        for (int i = 0; i < turns.length; i++) {
            Due.turns(h, "turn", turns[i]);
            Due.is("count", i + 1, () -> h.count(3));
        }
        h.put(23, 1);
        Due.turns(h, "it wakes", "0:6");
        Due.is("count", 13, () -> h.count(3));
        Due.is("refused", Due.ARGUMENT, () -> h.turn(6));
        Due.is("is none", 13, () -> h.count(3));
        Due.is("round", 3, () -> h.round(9));
        Due.is("count", 16, () -> h.count(3));
        Due.is("round of none", 0, () -> h.round(9));
        Due.is("count", 16, () -> h.count(3));
        h.start(4);
        Due.is("since start", 0, () -> h.count(3));
        AsOneHouse g = Due.house(0);
        Due.tell(g, 0, "atom{A=x;}");
        Due.turns(g, "begin", "0:0");
        g.put(23, 1);
        Due.turns(g, "a conflict is one", "0:1");
        Due.is("count", 2, () -> g.count(3));
    }

    private static void countOfRecords() {
        Due.sentence("5: RECORDS (at most 300 are kept; more are lost)");
        for (int way = 0; way <= 4; way++) {
            AsOneHouse h = Due.house(way);
            Due.tell(h, 0, "while(A<299){A=A+1;x=A;}");
            Due.is("299 writes", 599, () -> h.round(2000));
            Due.is("299", 299, () -> h.count(5));
            Due.tell(h, 1, "atom{A=x;A=y;z=1;}atom{A=x;}z=2;A=z;");
            Due.turns(h, "a block", "1:0 1:0 1:0 1:0 1:0");
            Due.is("300", 300, () -> h.count(5));
            Due.record(h, 299, "the last one", 1, 2, 1, 599, 603);
            Due.turns(h, "a block, a write, a look", "1:0 1:0 1:0 1:0 1:0 1:2");
            Due.is("more are lost", 300, () -> h.count(5));
            Due.record(h, 299, "the last one", 1, 2, 1, 599, 603);
            Due.record(h, 0, "the first one", 0, 0, 1, 1, 1);
            Due.is("no 301st", Due.INDEX, () -> h.record(300, 0));
            Due.is("what they did stays", 2, () -> h.has(25));
            Due.is("judge", -1, h::judge);
        }
    }
}
