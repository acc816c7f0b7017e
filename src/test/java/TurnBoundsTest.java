/** Terms, turns and levels: a test of its own for each sentence that names a boundary case. */
public final class TurnBoundsTest {
    /** All 26 places looked at, and all written. */
    private static final String LOOKS = letters("A=%;");
    private static final String WRITES = letters("%=1;");

    public static void main(String[] args) {
        for (int way = 0; way <= 4; way++) {
            eachActIsATurn(way);
            theTurnAtItsEnd(way);
            partAsABlock(way);
            atomWithin(way);
            atomWithinWithOr(way);
            partWithin(way);
            oneReadOfEachPlace(way);
            whatComesAddsNone(way);
            allPlacesWritten(way);
            registersAreAsTheyWere(way);
            readsOfAPartComeOut(way);
            readsComeOneLevelOut(way);
            readsOfTheBlockStay(way);
            innermostWrites(way);
            outsideIsAtOnce(way);
            retryWithinOr(way);
            retryOfALaterPart(way);
            asleepWithoutReads(way);
            asleepStill(way);
            quitOfTheInnermost(way);
            failWithoutTry(way);
            failIsCaught(way);
            failOfTheCatch(way);
            leftByQuitOrFail(way);
            heldToTheEnd(way);
            at200Said(way);
        }
        theFirstReadStays();
        Due.end();
    }

    private static String letters(String each) {
        StringBuilder s = new StringBuilder();
        for (char c = 'a'; c <= 'z'; c++) {
            s.append(each.replace('%', c));
        }
        return s.toString();
    }

    private static void acts(int way, String text, int due) {
        AsOneHouse h = Due.house(way);
        Due.tell(h, 0, text);
        for (int i = 0; i < due; i++) {
            Due.is("way " + way + ", act " + i + " of " + text, 0, () -> h.turn(0));
        }
        Due.is("way " + way + ", the end of " + text, 2, () -> h.turn(0));
        Due.is("way " + way + ", over: " + text, 4, () -> h.look(0, 0));
    }

    private static void eachActIsATurn(int way) {
        Due.sentence("ACTS: a PLACE is looked at; a PLACE = is done; something is said; "
                + "a while turns (its EXPR was not 0); a BLOCK begins; it ends (its } ); retry; quit. "
                + "All else is done on the way.");
        acts(way, "", 0);
        acts(way, "A=1;B=A+2;", 0);
        acts(way, "A=x;", 1);
        acts(way, "A=x+x;", 2);
        acts(way, "x=1;", 1);
        acts(way, "x=x;", 2);
        acts(way, "say 1;", 1);
        acts(way, "say x;", 2);
        acts(way, "if(1){A=1;}else{A=2;}", 0);
        acts(way, "if(x){}", 1);
        acts(way, "while(0){say 1;}", 0);
        acts(way, "while(x){}", 1);
        acts(way, "while(A<1){A=A+1;}", 1);
        acts(way, "while(A<3){A=A+1;}", 3);
        acts(way, "while(x<2){x=x+1;}", 2 * 4 + 1);
        acts(way, "try{}catch A{say 1;}", 0);
        acts(way, "try{fail 1;}catch A{}", 0);
        acts(way, "try{fail x;}catch A{say A;}", 2);
        acts(way, "atom{}", 2);
        acts(way, "part{}", 2);
        acts(way, "atom{}or{say 1;}", 2);
        acts(way, "atom{quit;}", 2);
        acts(way, "atom{retry;}or{}", 3);
        acts(way, "atom{retry;}or{quit;}", 3);
        acts(way, "try{atom{fail 1;}}catch A{}", 1);
    }

    private static void theTurnAtItsEnd(int way) {
        Due.sentence("At its end it is OVER (that TURN does what is left, and no ACT).");
        AsOneHouse h = Due.house(way);
        Due.tell(h, 0, "x=1;A=2;if(A){B=3;}");
        Due.turns(h, "the last act", "0:0");
        Due.is("not yet over", 1, () -> h.look(0, 0));
        Due.is("what is left is not done", 0, () -> h.register(0, 0));
        Due.turns(h, "the end", "0:2");
        Due.is("over", 4, () -> h.look(0, 0));
        Due.is("A", 2, () -> h.register(0, 0));
        Due.is("B", 3, () -> h.register(0, 1));
        Due.tell(h, 1, "");
        Due.is("an empty program is ready", 1, () -> h.look(1, 0));
        Due.turns(h, "and over with its first turn", "1:2");
        Due.is("over", 4, () -> h.look(1, 0));
        Due.turns(h, "over stays over", "0:2 1:2");
        Due.is("no record but x =", 1, () -> h.count(5));
    }

    private static void partAsABlock(int way) {
        Due.sentence("BLOCK: an atom, or a part that stands in none");
        AsOneHouse h = Due.house(way);
        Due.tell(h, 0, "part{x=1;}if(1){part{}}");
        Due.turns(h, "begin", "0:0");
        Due.looks(h, 0, "within", 2, 1);
        Due.turns(h, "write, end", "0:0 0:0");
        Due.looks(h, 0, "outside", 1, 0);
        Due.is("ended", 1, () -> h.look(0, 7));
        Due.turns(h, "begin, end", "0:0 0:0 0:2");
        Due.is("ended", 2, () -> h.look(0, 7));
        Due.is("records", 2, () -> h.count(5));
    }

    private static void atomWithin(int way) {
        Due.sentence("within one: an atom is no BLOCK of its own (neither begin nor end are ACTS");
        acts(way, "atom{atom{}}", 2);
        acts(way, "part{atom{atom{}}}", 2);
        acts(way, "atom{}or{atom{}}", 2);
        acts(way, "atom{retry;}or{atom{}}", 3);
        Due.sentence("without, quit in it leaves what is around it");
        acts(way, "atom{atom{quit;}say 1;}", 2);
        acts(way, "atom{part{atom{quit;}say 1;}say 2;}", 4);
        acts(way, "atom{atom{part{quit;}say 1;}say 2;}", 5);
        AsOneHouse h = Due.house(way);
        Due.tell(h, 0, "atom{atom{x=1;}}");
        Due.turns(h, "begin, write", "0:0 0:0");
        Due.looks(h, 0, "one level", 2, 1, 0, 1);
        Due.turns(h, "end", "0:0 0:2");
        Due.is("one block ended", 1, () -> h.look(0, 7));
        Due.is("one record", 1, () -> h.count(5));
    }

    private static void atomWithinWithOr(int way) {
        Due.sentence("with or it is a part");
        acts(way, "atom{atom{}or{}}", 2);
        acts(way, "atom{atom{retry;}or{}}", 3);
        acts(way, "atom{atom{quit;}or{}say 1;}", 4);
        acts(way, "atom{atom{retry;}or{quit;}say 1;}", 5);
        AsOneHouse h = Due.house(way);
        Due.tell(h, 0, "atom{atom{x=1;}or{}}");
        Due.turns(h, "begin, write", "0:0 0:0");
        Due.looks(h, 0, "two levels", 2, 2, 0, 1);
    }

    private static void partWithin(int way) {
        Due.sentence("a part is a LEVEL of it (its begin and its } are no ACTS)");
        acts(way, "atom{part{}}", 2);
        acts(way, "part{part{part{}}}", 2);
        acts(way, "atom{part{}or{}}", 2);
        acts(way, "atom{part{quit;}}", 3);
        acts(way, "atom{part{retry;}or{}}", 3);
        Due.sentence("LEVELS: 0 the BLOCK, 1 .. its parts.");
        AsOneHouse h = Due.house(way);
        Due.tell(h, 0, "part{".repeat(10) + "x=1;" + "}".repeat(10));
        Due.turns(h, "begin", "0:0");
        Due.is("the block alone", 1, () -> h.look(0, 1));
        Due.turns(h, "write", "0:0");
        Due.is("ten, the most that a text has", 10, () -> h.look(0, 1));
        Due.turns(h, "end", "0:0");
        Due.is("none", 0, () -> h.look(0, 1));
        Due.is("x", 1, () -> h.has(23));
        Due.is("one block", 1, () -> h.look(0, 7));
    }

    private static void oneReadOfEachPlace(int way) {
        Due.sentence("A LEVEL has READS (a PLACE, what it had, its VERSION; one of each PLACE, the first");
        AsOneHouse h = Due.house(way);
        Due.tell(h, 0, "atom{" + LOOKS + LOOKS + "part{" + LOOKS + LOOKS + "}say 1;}");
        Due.is("begin, and all places", 27, () -> h.round(27));
        Due.is("26 reads", 26, () -> h.look(0, 2));
        Due.is("again", 26, () -> h.round(26));
        Due.is("26 reads", 26, () -> h.look(0, 2));
        Due.is("within the part", 52, () -> h.round(52));
        Due.is("26 reads of each", 52, () -> h.look(0, 2));
        Due.turns(h, "the part ended", "0:0");
        Due.is("26 reads", 26, () -> h.look(0, 2));
        Due.turns(h, "end", "0:0");
        Due.is("26 reads", 26, () -> h.record(0, 1));
        Due.is("no writes", 0, () -> h.record(0, 2));
    }

    /** By one no read is ever wrong, so a put between two looks tells which of them is the read. */
    private static void theFirstReadStays() {
        Due.sentence("one of each PLACE, the first: what comes to it or is a LOOK, of a PLACE that it has, adds none");
        String[] texts = {"atom{A=x;B=x;}", "atom{A=x;part{B=x;}}", "atom{part{A=x;}B=x;}", "atom{part{A=x;}part{B=x;}}",
            "atom{A=x;part{B=x;quit;}}", "atom{A=x;part{B=x;retry;}or{}}", "atom{A=x;try{part{B=x;fail 1;}}catch C{}}",
            "atom{part{A=x;retry;}or{B=x;}}", "atom{A=x;retry;}or{B=x;}"};
        for (String text : texts) {
            for (int first = 0; first <= 1; first++) {
                AsOneHouse h = Due.house(4);
                h.put(23, first);
                Due.tell(h, 0, text);
                Due.turns(h, text + ", begin, first look", "0:0 0:0");
                // Some go to their second look by way of retry.
                h.put(23, 1 - first);
                Due.is("the rest of " + text, 0, () -> restOf(h));
                Due.is(text + ": one read", 1, () -> h.record(0, 1));
                // All puts come at first, so the judge begins with the second value.
                Due.is(text + ": of the first", 0, h::judge);
                h.put(23, first);
                Due.is(text + ": of the first", 1, h::judge);
            }
        }
    }

    private static int restOf(AsOneHouse h) {
        h.round(20);
        return h.look(0, 0) - 4;
    }

    private static void whatComesAddsNone(int way) {
        Due.sentence("what comes to it or is a LOOK, of a PLACE that it has, adds none");
        AsOneHouse h = Due.house(way);
        Due.tell(h, 0, "atom{A=x;part{A=x;A=y;}A=y;part{A=z;A=x;quit;}A=z;}");
        Due.turns(h, "x, x, y", "0:0 0:0 0:0 0:0");
        Due.is("x, and x, y", 3, () -> h.look(0, 2));
        Due.turns(h, "the part has ended, y", "0:0");
        Due.is("x, y", 2, () -> h.look(0, 2));
        Due.turns(h, "z, x, quit", "0:0 0:0 0:0");
        Due.is("x, y, z", 3, () -> h.look(0, 2));
        Due.turns(h, "z", "0:0");
        Due.is("x, y, z", 3, () -> h.look(0, 2));
    }

    private static void allPlacesWritten(int way) {
        Due.sentence("CLOCK is 1 more, if there are WRITES; all that are written have that VERSION");
        AsOneHouse h = Due.house(way);
        Due.tell(h, 0, "atom{" + WRITES + WRITES + "}atom{}atom{A=x;say 1;}");
        Due.is("begin, and all places twice", 53, () -> h.round(53));
        Due.is("26 writes", 26, () -> h.look(0, 3));
        Due.is("taken", way < 3 ? 0 : 26, () -> h.count(8));
        Due.is("the clock stays", 0, () -> h.count(2));
        Due.turns(h, "end", "0:0");
        Due.is("the clock, once for all", 1, () -> h.count(2));
        Due.is("26 written", 26, () -> h.record(0, 2));
        Due.is("none taken", 0, () -> h.count(8));
        for (int i = 0; i < 26; i++) {
            int p = i;
            Due.is("has " + p, 1, () -> h.has(p));
            Due.is("had " + p, 0, () -> h.had(p, 0));
            Due.is("had " + p, 1, () -> h.had(p, 1));
        }
        Due.turns(h, "two blocks without writes", "0:0 0:0 0:0 0:0 0:0 0:0 0:2");
        Due.is("the clock stays", 1, () -> h.count(2));
        Due.is("three blocks ended", 3, () -> h.look(0, 7));
    }

    private static void registersAreAsTheyWere(int way) {
        Due.sentence("how REGISTERS were when it began (or its or BLOCK)");
        AsOneHouse h = Due.house(way);
        Due.tell(h, 0, "A=1;Z=1;atom{A=2;part{A=3;Z=3;B=3;retry;}or{say A;A=4;Z=4;quit;}say A;retry;}or{A=5;quit;}say A;");
        Due.turns(h, "begin, retry", "0:0 0:0");
        Due.is("A as at the begin of the part", 2, () -> h.register(0, 0));
        Due.is("Z", 1, () -> h.register(0, 25));
        Due.is("B", 0, () -> h.register(0, 1));
        Due.turns(h, "say, quit", "0:0 0:0");
        Due.is("A as at the begin of the or block", 2, () -> h.register(0, 0));
        Due.is("Z", 1, () -> h.register(0, 25));
        Due.turns(h, "say, retry", "0:0 0:0");
        Due.is("A as at the begin of the block", 1, () -> h.register(0, 0));
        Due.turns(h, "quit", "0:0");
        Due.is("A as at the begin of its or block", 1, () -> h.register(0, 0));
        Due.turns(h, "say", "0:0 0:2");
        Due.is("nothing else was said", 1, () -> h.count(4));
        Due.is("said", 1, () -> h.said(0, false));
    }

    private static void readsOfAPartComeOut(int way) {
        Due.sentence("its READS, by quit, retry and fail, come to the LEVEL around it");
        String[] leaves = {"part{A=x;quit;}", "part{A=x;retry;}or{}", "try{part{A=x;fail 1;}}catch B{}",
            "part{A=x;retry;}or{quit;}", "part{part{A=x;quit;}quit;}", "part{part{A=x;retry;}}or{}",
            "try{part{part{A=x;fail 1;}}}catch B{}"};
        for (String leave : leaves) {
            AsOneHouse h = Due.house(way);
            Due.tell(h, 0, "atom{" + leave + "say 1;say 2;}");
            Due.turns(h, leave, "0:0 0:0");
            Due.is(leave + ", a read", 1, () -> h.look(0, 2));
            for (int i = 0; i < 3 && h.look(0, 1) > 1; i++) {
                h.turn(0);
            }
            Due.is(leave + ", one level", 1, () -> h.look(0, 1));
            Due.is(leave + ", it came to the block", 1, () -> h.look(0, 2));
            h.round(20);
            Due.is(leave + ", and to its record", 1, () -> h.record(0, 1));
        }
    }

    private static void readsComeOneLevelOut(int way) {
        Due.sentence("come to the LEVEL around it");
        String[] leaves = {"part{A=x;quit;}", "part{A=x;retry;}or{}", "part{part{A=x;retry;}}or{}", "part{A=x;}",
            "try{part{A=x;fail 1;}}catch E{}", "try{part{part{A=x;fail 1;}}}catch E{}"};
        int[] acts = {2, 2, 2, 1, 1, 1};
        for (int i = 0; i < leaves.length; i++) {
            AsOneHouse h = Due.house(way);
            int turns = 3 + acts[i] + 1;
            Due.tell(h, 0, "atom{A=w;part{A=v;" + leaves[i] + "A=z;A=u;}}");
            Due.is("begin, w, v, x, leave, z", turns, () -> h.round(turns));
            Due.looks(h, 0, leaves[i], 2, 2, 4);
            h.put(23, 1);
            h.put(20, 1);
            if (way == 2 || way == 4) {
                Due.turns(h, leaves[i] + ", u", "0:0");
                Due.looks(h, 0, leaves[i], 2, 2, 5);
            } else {
                // That the part restarts tells that the read of x is no more of the level within, nor of the block yet.
                Due.turns(h, leaves[i] + ", u: x is wrong", "0:1");
                Due.looks(h, 0, leaves[i], 2, 2, 1, 0, 1, 2);
            }
        }
        AsOneHouse h = Due.house(way);
        Due.tell(h, 0, "atom{A=w;part{A=v;part{A=x;retry;}or{A=y;A=u;}}}");
        Due.turns(h, "w, v, x", "0:0 0:0 0:0 0:0");
        Due.looks(h, 0, "in the first block", 2, 3, 3);
        Due.turns(h, "retry", "0:0");
        Due.looks(h, 0, "w, and v, x", 2, 3, 3);
        Due.turns(h, "y", "0:0");
        h.put(23, 1);
        h.put(20, 1);
        Due.turns(h, "u", way == 2 || way == 4 ? "0:0" : "0:1");
        Due.is("levels", way == 2 || way == 4 ? 3 : 2, () -> h.look(0, 1));
    }

    private static void readsOfTheBlockStay(int way) {
        Due.sentence("(those of LEVEL 0, by a retry that goes on with its or BLOCK, stay)");
        AsOneHouse h = Due.house(way);
        Due.tell(h, 0, "atom{A=x;part{A=y;retry;}}or{A=z;}");
        Due.turns(h, "x, y, retry", "0:0 0:0 0:0 0:0");
        Due.looks(h, 0, "x, y", 2, 1, 2);
        Due.turns(h, "z, end", "0:0 0:0");
        Due.is("x, y, z", 3, () -> h.record(0, 1));
    }

    private static void innermostWrites(int way) {
        Due.sentence("within a BLOCK: what the innermost WRITES have, if there are");
        AsOneHouse h = Due.house(way);
        h.put(23, 9);
        Due.tell(h, 0, "atom{say x;x=1;say x;part{say x;x=2;say x;part{x=3;say x;}say x;}say x;"
                + "part{x=4;quit;}say x;}");
        Due.is("all", 1 + 2 + 3 + 2 + 3 + 3 + 2 + 2 + 2 + 2 + 1 + 1, () -> h.round(100));
        int[] due = {9, 1, 1, 2, 3, 3, 3, 3};
        Due.is("said", due.length, () -> h.count(4));
        for (int i = 0; i < due.length; i++) {
            int at = i;
            Due.is("said " + i, due[i], () -> h.said(at, false));
        }
        Due.is("one read, of x at first", 1, () -> h.record(0, 1));
        Due.is("one place written", 1, () -> h.record(0, 2));
        Due.is("x", 3, () -> h.has(23));
    }

    private static void outsideIsAtOnce(int way) {
        Due.sentence("A LOOK, and PLACE = , outside: what the PLACE has, or has from then on, at once.");
        AsOneHouse h = Due.house(way);
        Due.tell(h, 0, "atom{x=1;say 1;}");
        Due.tell(h, 1, "say x;x=2;say x;");
        Due.turns(h, "0 is within", "0:0 0:0");
        Due.turns(h, "1 says what x has, and writes", "1:0 1:0 1:0");
        Due.is("by kept and one x has it already", way < 3 ? 0 : 1, () -> h.said(0, false));
        Due.is("at once", 2, () -> h.has(23));
        Due.is("clock", 1, () -> h.count(2));
        Due.turns(h, "1 looks again", "1:0 1:0");
        Due.is("2", 2, () -> h.said(1, false));
        Due.is("look, write, look", 3, () -> h.count(5));
    }

    private static void retryWithinOr(int way) {
        Due.sentence("(a retry in that looks further out)");
        acts(way, "atom{part{retry;}or{retry;}}or{}", 4);
        AsOneHouse h = Due.house(way);
        Due.tell(h, 0, "atom{part{retry;}or{retry;}}");
        Due.turns(h, "none is further out", "0:0 0:0 0:3");
        Due.tell(h, 1, "atom{retry;}or{retry;}");
        Due.turns(h, "nor here", "1:0 1:0 1:3");
        Due.tell(h, 2, "atom{part{}or{}retry;}");
        Due.turns(h, "one that it is not in does not count", "2:0 2:3");
    }

    private static void retryOfALaterPart(int way) {
        Due.sentence("retry: the innermost LEVEL with an or BLOCK in whose first BLOCK it is: is TAKEN BACK, "
                + "and those within; it goes on with its or BLOCK");
        acts(way, "atom{part{retry;}or{}part{retry;}or{say 1;}}", 5);
        acts(way, "atom{retry;}or{}atom{retry;}or{say 1;}", 3 + 4);
        acts(way, "atom{part{retry;}or{part{retry;}or{say 1;}}}", 5);
        acts(way, "while(A<3){A=A+1;atom{part{part{retry;}}or{say 1;}}}", 3 * 5);
    }

    private static void asleepWithoutReads(int way) {
        Due.sentence("None: the BLOCK is TAKEN BACK, it is ASLEEP (with all its READS).");
        AsOneHouse h = Due.house(way);
        Due.tell(h, 0, "A=1;atom{A=2;x=1;say 1;part{y=1;retry;}}");
        Due.turns(h, "just", "0:0 0:0 0:0 0:0 0:3");
        Due.looks(h, 0, "asleep", 3, 0, 0, 0, 0, 0, 0, 0);
        Due.is("A", 1, () -> h.register(0, 0));
        Due.is("x", 0, () -> h.has(23));
        Due.is("none is taken", 0, () -> h.count(8));
        Due.is("the clock, if something was taken", way < 3 ? 0 : 1, () -> h.count(2));
        for (int p = 0; p < 26; p++) {
            h.put(p, 7);
        }
        Due.turns(h, "without reads nothing wakes it", "0:3 0:3");
        Due.is("no record", 0, () -> h.count(5));
        Due.is("nothing said", 0, () -> h.count(4));
    }

    private static void asleepStill(int way) {
        Due.sentence("if a READ has not what its PLACE has (KEPT, ONE: a PLACE that is not TAKEN by another BLOCK): "
                + "it RESTARTS wholly (ONE: BUSY, as a begin); else nothing is done");
        AsOneHouse h = Due.house(way);
        Due.tell(h, 0, "atom{A=x;B=z;retry;}");
        Due.tell(h, 1, "atom{x=1;say 1;quit;}atom{x=2;}");
        Due.turns(h, "0 sleeps", "0:0 0:0 0:0 0:3");
        h.put(24, 1);
        h.put(23, 0);
        Due.turns(h, "another place, and the same again", "0:3");
        Due.turns(h, "what is written or taken by one that has not ended", "1:0 1:0 0:3 1:0 0:3 1:0 0:3");
        Due.looks(h, 0, "nothing was done", 3, 0, 2, 0, 0, 0, 0, 0);
        h.put(25, 1);
        h.put(25, 0);
        Due.turns(h, "what was and is no more", "0:3");
        Due.turns(h, "1 writes x", "1:0 1:0 0:3 1:0");
        int clock = h.count(2);
        Due.turns(h, "it wakes", "0:6");
        Due.looks(h, 0, "at its begin", 2, 1, 0, 0, 1, clock, 0, 0);
        Due.turns(h, "and sleeps again", "0:0 0:0 0:3 0:3");
        h.put(25, 5);
        Due.turns(h, "the last of its reads wakes it too", "0:6");
    }

    private static void quitOfTheInnermost(int way) {
        Due.sentence("quit: the innermost LEVEL is TAKEN BACK, it goes on behind it.");
        AsOneHouse h = Due.house(way);
        Due.tell(h, 0, "atom{x=1;part{x=2;part{x=3;quit;x=4;}or{x=5;}y=x;quit;y=9;}z=x;}w=1;");
        Due.turns(h, "1, 2, 3, quit", "0:0 0:0 0:0 0:0 0:0");
        Due.looks(h, 0, "behind the or block", 2, 2, 0, 1);
        Due.turns(h, "x, y, quit", "0:0 0:0 0:0");
        Due.looks(h, 0, "behind the part", 2, 1, 0, 1);
        Due.turns(h, "x, z, end", "0:0 0:0 0:0");
        Due.is("x", 1, () -> h.has(23));
        Due.is("y", 0, () -> h.has(24));
        Due.is("z", 1, () -> h.has(25));
        Due.turns(h, "w", "0:0 0:2");
    }

    private static void failWithoutTry(int way) {
        Due.sentence("none: all are TAKEN BACK, it is DEAD");
        AsOneHouse h = Due.house(way);
        Due.tell(h, 0, "try{}catch A{}A=1;atom{A=2;x=y;part{A=3;x=6;say 1;fail A-5;}}");
        Due.turns(h, "y, x, x, say, dead", "0:0 0:0 0:0 0:0 0:0 0:5 0:5");
        Due.looks(h, 0, "dead", 5, 0, 0, 0, 0, 0, -2, 0);
        Due.is("A", 1, () -> h.register(0, 0));
        Due.is("x", 0, () -> h.has(23));
        Due.is("none is taken", 0, () -> h.count(8));
        Due.is("none is within", 0, () -> h.count(6));
        Due.is("nothing said", 0, () -> h.count(4));
        AsOneHouse g = Due.house(way);
        Due.tell(g, 0, "A=7;fail 0;A=8;");
        Due.turns(g, "outside, with 0", "0:5 0:5");
        Due.looks(g, 0, "dead", 5, 0, 0, 0, 0, 0, 0, 0);
        Due.is("A", 7, () -> g.register(0, 0));
    }

    private static void failIsCaught(int way) {
        Due.sentence("fail: goes to the catch BLOCK of the innermost try in whose first BLOCK it is, "
                + "whose REGISTER gets the value; LEVELS that it leaves are TAKEN BACK, the innermost first "
                + "(REGISTERS too, ahead of that)");
        AsOneHouse h = Due.house(way);
        Due.tell(h, 0, "A=1;try{atom{A=2;x=1;try{part{A=3;x=2;fail A*10;}}catch B{x=x+B;}A=4;fail x;}}catch A{}say A;");
        Due.turns(h, "1, 2", "0:0 0:0 0:0");
        Due.turns(h, "caught within the block: x, x =", "0:0 0:0");
        Due.is("A as at the begin of the part", 2, () -> h.register(0, 0));
        Due.is("B has the value", 30, () -> h.register(0, 1));
        Due.turns(h, "x, and caught outside: say", "0:0 0:0");
        Due.is("said", 31, () -> h.said(0, false));
        Due.is("A has the value behind all that was taken back", 31, () -> h.register(0, 0));
        Due.is("B is as it was", 0, () -> h.register(0, 1));
        Due.is("x", 0, () -> h.has(23));
    }

    private static void failOfTheCatch(int way) {
        Due.sentence("the innermost try in whose first BLOCK it is");
        acts(way, "try{try{fail 1;}catch A{fail A+1;}}catch B{say B;}", 1);
        acts(way, "try{try{}catch A{}fail 1;}catch B{say B;}", 1);
        acts(way, "try{atom{try{quit;}catch A{say 1;}}fail 3;}catch B{say B;}", 3);
        acts(way, "try{atom{try{retry;}catch A{say 1;}}or{fail 3;}}catch B{say B;}", 3);
        AsOneHouse h = Due.house(way);
        Due.tell(h, 0, "try{fail 1;}catch A{fail A+1;}");
        Due.turns(h, "a catch block is not in its own try", "0:5");
        Due.is("died with", 2, () -> h.look(0, 6));
        Due.tell(h, 1, "while(A<12){A=A+1;try{fail 5;}catch B{}}fail 9;");
        Due.turns(h, "no try is left behind", "1:0 1:0 1:0 1:0 1:0 1:0 1:0 1:0 1:0 1:0 1:0 1:0 1:5");
        Due.is("died with", 9, () -> h.look(1, 6));
    }

    private static void leftByQuitOrFail(int way) {
        Due.sentence("LEVEL 0 left by quit or fail ends so, nothing is DONE.");
        for (String text : new String[] {"atom{x=1;say 1;quit;}y=1;", "try{atom{x=1;say 1;fail 1;}}catch A{}y=1;"}) {
            AsOneHouse h = Due.house(way);
            Due.tell(h, 0, text);
            Due.is("begin, x, say, quit or y", 4, () -> h.round(4));
            h.round(20);
            Due.looks(h, 0, "over", 4, 0, 0, 0, 0, 0, 0, 0);
            Due.is("x", 0, () -> h.has(23));
            Due.is("y", 1, () -> h.has(24));
            Due.is("nothing said", 0, () -> h.count(4));
            Due.is("the record of y = alone", 1, () -> h.count(5));
            Due.is("which has one place", 1, () -> h.record(0, 2));
            Due.is("none taken", 0, () -> h.count(8));
        }
    }

    private static void heldToTheEnd(int way) {
        Due.sentence("say: within a BLOCK held, and said at its end in order; else at once.");
        AsOneHouse h = Due.house(way);
        Due.tell(h, 0, "atom{say 1;part{say 2;part{say 3;}say 4;}part{say 5;retry;}or{say 6;}say 7;}say 8;");
        Due.tell(h, 1, "say 9;");
        Due.turns(h, "all but the end", "0:0 0:0 0:0 0:0 0:0 0:0 0:0 0:0 0:0");
        Due.is("all is held", 0, () -> h.count(4));
        Due.turns(h, "1 says at once", "1:0");
        Due.is("said", 1, () -> h.count(4));
        Due.turns(h, "end, say", "0:0 0:0");
        int[] due = {9, 1, 2, 3, 4, 6, 7, 8};
        Due.is("said", due.length, () -> h.count(4));
        for (int i = 0; i < due.length; i++) {
            int at = i;
            Due.is("said " + i, due[i], () -> h.said(at, false));
            Due.is("by " + i, due[i] == 9 ? 1 : 0, () -> h.said(at, true));
        }
    }

    private static void at200Said(int way) {
        Due.sentence("SAID: at most 200 (more is lost): THREAD and value.");
        AsOneHouse h = Due.house(way);
        Due.tell(h, 0, "while(A<198){A=A+1;say A;}");
        Due.is("198 said", 397, () -> h.round(2000));
        Due.is("198 said", 198, () -> h.count(4));
        Due.tell(h, 1, "atom{say 1;say 2;say 3;say 4;}say 5;");
        Due.is("four more held, one more at once", 8, () -> h.round(2000));
        Due.is("200 are kept", 200, () -> h.count(4));
        Due.is("of 0", 198, () -> h.said(197, false));
        Due.is("of 1", 1, () -> h.said(198, false));
        Due.is("of 1", 2, () -> h.said(199, false));
        Due.is("by 1", 1, () -> h.said(199, true));
        Due.is("no more", Due.INDEX, () -> h.said(200, false));
        Due.is("no more", Due.INDEX, () -> h.said(200, true));
        AsOneHouse g = Due.house(way);
        Due.tell(g, 0, "atom{while(A<150){A=A+1;say A;}part{B=A;while(B<250){B=B+1;say B;}quit;}say 0;"
                + "while(A<400){A=A+1;say A;}}");
        Due.is("more than 200 are held, some are taken back", 1 + 300 + 200 + 1 + 1 + 500 + 1 + 1, () -> g.round(2000));
        Due.is("200 are kept", 200, () -> g.count(4));
        Due.is("the last ahead of the part", 150, () -> g.said(149, false));
        Due.is("the first behind it", 0, () -> g.said(150, false));
        Due.is("the last", 199, () -> g.said(199, false));
    }
}
