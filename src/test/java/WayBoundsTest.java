/** Terms, the ways and conflicts: a test of its own for each sentence that names a boundary case. */
public final class WayBoundsTest {
    public static void main(String[] args) {
        for (int way = 0; way <= 4; way++) {
            for (int p = 0; p < 26; p++) {
                eachPlace(way, p);
            }
        }
        clockAndVersionsAt0();
        versionsAfterStart();
        writtenAsTheyWere();
        outsideLikewise();
        clockLook();
        clockEnd();
        valuesLook();
        valuesLookAtItsOwn();
        valuesEnd();
        pastsLook();
        pastsEnd();
        keptByEachLevel();
        keptLookAtWhatIsTaken();
        keptFirstBegin();
        keptThisOneLoses();
        keptTheOtherLoses();
        keptReadIsWrong();
        keptWriteOfItsOwn();
        keptEnd();
        keptEndWithoutReads();
        keptTakenIsFree();
        keptTakenBackByOr();
        keptTakenBackOfNothing();
        keptPartStaysTaken();
        oneIsBusy();
        oneIsNotBusy();
        oneWritesAsKept();
        oneIsNeverWrong();
        conflictOfTheOutermost();
        conflictOfTheInnermost();
        conflictGoesOnAtTheBegin();
        conflictWasAnAct();
        conflictWithinAnExpression();
        wakingIsBusy();
        takenWakesNobody();
        Due.end();
    }

    /** What a way does with a place it does with each of them, the first and the last too. */
    private static void eachPlace(int way, int p) {
        Due.sentence("PLACES a .. z are shared");
        String letter = String.valueOf((char) ('a' + p));
        String other = String.valueOf((char) ('a' + (p + 1) % 26));
        String what = "way " + way + ", " + letter;
        AsOneHouse h = Due.house(way);
        Due.tell(h, 0, ("atom{A=%;" + other + "=1;}").replace("%", letter));
        Due.turns(h, what + " is read", "0:0 0:0");
        h.put(p, 1);
        Due.turns(h, what + " is late", way == 3 ? "0:1" : way == 4 ? "0:0 0:0" : "0:0 0:1");
        h.start(way);
        Due.tell(h, 0, "atom{part{%=1;}part{%=2;A=%;quit;}}atom{%=3;A=%;quit;}".replace("%", letter));
        Due.turns(h, what + " is written in parts", "0:0 0:0 0:0 0:0");
        Due.is(what + " is no read", 0, () -> h.look(0, 2));
        Due.turns(h, what + " is taken back", "0:0 0:0");
        Due.is(what + " has", 1, () -> h.has(p));
        Due.is(what + " had", 1, () -> h.had(p, 1));
        Due.is(what + " was written", 1, () -> h.record(0, 2));
        Due.turns(h, what + " is taken back", "0:0 0:0 0:0 0:0 0:2");
        Due.is(what + " has", 1, () -> h.has(p));
        Due.is(what + ": judge", 1, h::judge);
        h.start(way);
        Due.tell(h, 0, "atom{A=%;retry;}".replace("%", letter));
        Due.turns(h, what + ": asleep", "0:0 0:0 0:3");
        Due.tell(h, 1, "atom{%=1;say 1;}".replace("%", letter));
        Due.turns(h, what + " is written, or taken, by one that has not ended", "1:0 1:0 0:3");
        Due.turns(h, what + " wakes it", "1:0 1:0 0:6");
    }

    private static void clockAndVersionsAt0() {
        Due.sentence("CLOCK 0 at first; VERSION of a PLACE: the CLOCK when it was changed last (0 at first).");
        for (int way = 0; way <= 4; way++) {
            AsOneHouse h = Due.house(way);
            Due.is("clock", 0, () -> h.count(2));
            Due.tell(h, 0, "atom{y=x;}");
            Due.turns(h, "what was never changed is never late", "0:0 0:0 0:0 0:0 0:2");
            Due.is("clock", 1, () -> h.count(2));
        }
    }

    private static void versionsAfterStart() {
        Due.sentence("VERSION of a PLACE: the CLOCK when it was changed last (0 at first)");
        for (int way = 0; way <= 4; way++) {
            AsOneHouse h = Due.house(way);
            Due.tell(h, 0, "atom{y=x;}");
            h.put(0, 7);
            h.put(23, 7);
            h.put(23, 8);
            h.start(way);
            Due.turns(h, "what was changed ahead of start is not late", "0:0 0:0 0:0 0:0 0:2");
            Due.is("y", 0, () -> h.has(24));
            h.put(25, 5);
            Due.is("had z", 5, () -> h.had(25, 2));
            Due.is("had a", 0, () -> h.had(0, 2));
            Due.is("had x", 0, () -> h.had(23, 2));
        }
    }

    private static void writtenAsTheyWere() {
        Due.sentence("all that are written have that VERSION, also if they are as they were");
        for (int way = 0; way <= 3; way++) {
            AsOneHouse h = Due.house(way);
            Due.tell(h, 0, "atom{y=x;}");
            Due.tell(h, 1, "atom{x=0;z=0;}");
            Due.turns(h, "0 reads x, 1 writes it as it was", "0:0 0:0 1:0 1:0 1:0 1:0");
            Due.is("clock", 1, () -> h.count(2));
            Due.turns(h, "0 goes on", way == 1 ? "0:0 0:0" : way == 3 ? "0:1" : "0:0 0:1");
            Due.is("by values alone it is not late", way == 1 ? 0 : 1, () -> h.look(0, 4));
        }
    }

    private static void outsideLikewise() {
        Due.sentence("a PLACE = outside likewise, in all WAYS");
        for (int way = 0; way <= 4; way++) {
            AsOneHouse h = Due.house(way);
            Due.tell(h, 0, "atom{y=x;}");
            Due.tell(h, 1, "x=0;x=0;");
            Due.turns(h, "0 reads x, 1 writes it as it was", "0:0 0:0 1:0 1:0");
            Due.is("each is 1 more", 2, () -> h.count(2));
            Due.turns(h, "0 goes on", way == 1 || way == 4 ? "0:0 0:0" : way == 3 ? "0:1" : "0:0 0:1");
        }
    }

    private static void clockLook() {
        Due.sentence("LOOK: a VERSION above START: CONFLICT; else what the PLACE has.");
        AsOneHouse h = Due.house(0);
        h.put(24, 4);
        h.put(23, 5);
        Due.tell(h, 0, "atom{A=x;A=y;}");
        Due.turns(h, "begin", "0:0");
        Due.is("start", 2, () -> h.look(0, 5));
        Due.turns(h, "a version as high as start", "0:0");
        h.put(24, 4);
        Due.turns(h, "one above it", "0:1");
        Due.is("start", 3, () -> h.look(0, 5));
        Due.turns(h, "as high again", "0:0 0:0 0:0 0:2");
        Due.is("A", 4, () -> h.register(0, 0));
        Due.tell(h, 1, "atom{x=1;A=x;}");
        Due.turns(h, "begin, write", "1:0 1:0");
        h.put(23, 7);
        Due.turns(h, "what it wrote itself is not late", "1:0 1:0 1:2");
        Due.is("A", 1, () -> h.register(1, 0));
    }

    private static void clockEnd() {
        Due.sentence("End, with WRITES: some READ has a PLACE whose VERSION is above START: CONFLICT; else DONE.");
        AsOneHouse h = Due.house(0);
        h.put(23, 5);
        Due.tell(h, 0, "atom{y=x;}");
        Due.turns(h, "a version as high as start", "0:0 0:0 0:0 0:0");
        Due.is("done", 5, () -> h.has(24));
        AsOneHouse g = Due.house(0);
        Due.tell(g, 0, "atom{A=w;y=x;A=v;}");
        Due.turns(g, "w, x, y, v", "0:0 0:0 0:0 0:0 0:0");
        g.put(23, 0);
        Due.turns(g, "one above it, though as it was", "0:1");
        Due.looks(g, 0, "at its begin", 2, 1, 0, 0, 1, 1, 0, 0);
        Due.is("not done", 1, () -> g.count(2));
        AsOneHouse f = Due.house(0);
        Due.tell(f, 0, "atom{A=x;}");
        Due.tell(f, 1, "atom{y=1;}");
        Due.turns(f, "0 reads, 1 writes", "0:0 0:0 1:0 1:0");
        f.put(23, 1);
        f.put(24, 2);
        Due.turns(f, "without writes, without reads", "0:0 1:0");
        Due.is("y", 1, () -> f.has(24));
    }

    private static void valuesLook() {
        Due.sentence("LOOK: if the CLOCK is not START: some READ has not what its PLACE has: CONFLICT; "
                + "else START is the CLOCK. Then what the PLACE has.");
        AsOneHouse h = Due.house(1);
        Due.tell(h, 0, "atom{A=x;A=y;A=z;A=z;}");
        Due.turns(h, "x", "0:0 0:0");
        h.put(24, 3);
        Due.turns(h, "y is late itself, x is not", "0:0");
        Due.is("start", 1, () -> h.look(0, 5));
        h.put(23, 1);
        h.put(23, 0);
        Due.turns(h, "x has again what it had", "0:0");
        Due.is("A, so far", 3, () -> h.register(0, 0));
        Due.is("start", 3, () -> h.look(0, 5));
        h.put(24, 4);
        Due.turns(h, "y has not", "0:1");
        Due.looks(h, 0, "at its begin", 2, 1, 0, 0, 1, 4, 0, 0);
    }

    private static void valuesLookAtItsOwn() {
        Due.sentence("within a BLOCK: what the innermost WRITES have, if there are; else what the WAY tells");
        AsOneHouse h = Due.house(1);
        Due.tell(h, 0, "atom{A=x;y=1;A=y;}");
        Due.turns(h, "x, y =", "0:0 0:0 0:0");
        h.put(23, 1);
        Due.turns(h, "its own write is told at once", "0:0");
        Due.is("start stays", 0, () -> h.look(0, 5));
        Due.turns(h, "the end finds x", "0:1");
    }

    private static void valuesEnd() {
        Due.sentence("End, with WRITES: likewise, then DONE.");
        AsOneHouse h = Due.house(1);
        Due.tell(h, 0, "atom{y=x;}atom{A=x;}");
        Due.turns(h, "x, y =", "0:0 0:0 0:0");
        h.put(23, 1);
        h.put(23, 0);
        Due.turns(h, "x has again what it had", "0:0");
        Due.is("done", 3, () -> h.count(2));
        Due.turns(h, "x", "0:0 0:0");
        h.put(23, 1);
        Due.turns(h, "without writes", "0:0 0:2");
        h.start(1);
        Due.turns(h, "x, y =", "0:0 0:0 0:0");
        h.put(23, 1);
        Due.turns(h, "x has another", "0:1");
        Due.is("not done", 0, () -> h.has(24));
    }

    private static void pastsLook() {
        Due.sentence("LOOK: what the PLACE had when the CLOCK was START.");
        AsOneHouse h = Due.house(2);
        Due.tell(h, 0, "atom{A=x;B=y;}");
        Due.tell(h, 1, "atom{A=x;B=y;C=z;}");
        Due.turns(h, "0 begins at 0", "0:0");
        h.put(23, 5);
        h.put(24, 6);
        Due.turns(h, "1 begins at 2", "1:0");
        h.put(23, 7);
        h.put(24, 8);
        h.put(24, 9);
        Due.turns(h, "both look", "0:0 0:0 1:0 1:0 1:0 0:0 1:0");
        Due.turns(h, "over", "0:2 1:2");
        Due.is("0 at first", 0, () -> h.register(0, 0));
        Due.is("0 at first", 0, () -> h.register(0, 1));
        Due.is("what was put a clock before", 5, () -> h.register(1, 0));
        Due.is("what was put with the very clock", 6, () -> h.register(1, 1));
        Due.is("never changed", 0, () -> h.register(1, 2));
        Due.is("no restart", 0, () -> h.look(1, 4));
    }

    private static void pastsEnd() {
        Due.sentence("2 PASTS: START likewise. LOOK: what the PLACE had when the CLOCK was START. "
                + "End, with WRITES: as CLOCK.");
        AsOneHouse h = Due.house(2);
        h.put(23, 5);
        Due.tell(h, 0, "atom{y=x;}atom{y=x;}atom{A=x;}atom{y=1;}");
        Due.turns(h, "a version as high as start", "0:0 0:0 0:0 0:0");
        Due.turns(h, "begin", "0:0");
        h.put(23, 5);
        Due.turns(h, "one above it, though as it was", "0:0 0:0 0:1");
        Due.is("start", 3, () -> h.look(0, 5));
        Due.turns(h, "again", "0:0 0:0 0:0");
        Due.turns(h, "begin", "0:0");
        h.put(23, 8);
        Due.turns(h, "without writes", "0:0 0:0");
        Due.is("what is past", 5, () -> h.register(0, 0));
        Due.turns(h, "begin, write", "0:0 0:0");
        h.put(24, 9);
        Due.turns(h, "without reads", "0:0");
        Due.is("y", 1, () -> h.has(24));
    }

    private static void keptByEachLevel() {
        Due.sentence("WRITES come to PLACES at once, what a PLACE had is kept by each LEVEL when that writes it first");
        Due.sentence("PLACES have again what is kept (the latest first)");
        for (int way = 3; way <= 4; way++) {
            AsOneHouse h = Due.house(way);
            h.put(23, 9);
            Due.tell(h, 0, "atom{x=1;x=2;part{x=3;x=4;part{x=5;x=6;quit;}quit;}part{part{x=7;}part{x=8;}quit;}quit;}");
            int[] due = {9, 1, 2, 3, 4, 5, 6, 4, 2, 7, 8, 2, 9};
            for (int i = 0; i < due.length; i++) {
                Due.turns(h, "act " + i, "0:0");
                Due.is("x behind act " + i, due[i], () -> h.has(23));
            }
            Due.is("clock", 2, () -> h.count(2));
            Due.is("had", 9, () -> h.had(23, 1));
            Due.is("had", 9, () -> h.had(23, 2));
            Due.tell(h, 1, "atom{x=1;part{x=2;part{x=3;fail 1;}}}");
            Due.turns(h, "all at once, by fail", "1:0 1:0 1:0 1:0 1:5");
            Due.is("x", 9, () -> h.has(23));
        }
    }

    private static void keptLookAtWhatIsTaken() {
        Due.sentence("a LOOK at a PLACE that it has TAKEN (also if what it wrote was taken back) is no READ, "
                + "and tells at once what that has");
        AsOneHouse h = Due.house(3);
        h.put(23, 9);
        Due.tell(h, 0, "atom{A=y;part{x=1;A=x;quit;}A=x;B=y;}");
        Due.turns(h, "y, x =", "0:0 0:0 0:0");
        h.put(24, 1);
        Due.turns(h, "x, though y is late", "0:0");
        Due.is("y alone", 1, () -> h.look(0, 2));
        Due.turns(h, "quit, x, though y is late", "0:0 0:0");
        Due.is("y alone", 1, () -> h.look(0, 2));
        Due.turns(h, "another look finds y", "0:1");
        Due.turns(h, "again: y, x =, x, quit, x, y", "0:0 0:0 0:0 0:0 0:0 0:0");
        Due.is("what it had before", 9, () -> h.register(0, 0));
        Due.turns(h, "end", "0:0");
        Due.is("y alone", 1, () -> h.record(0, 1));
    }

    private static void keptFirstBegin() {
        Due.sentence("the BLOCK that began later (its first begin; with restarts it keeps that) loses");
        AsOneHouse h = Due.house(3);
        Due.tell(h, 0, "atom{A=y;x=1;}");
        Due.tell(h, 1, "atom{x=2;A=z;}atom{x=3;A=z;}");
        Due.turns(h, "0 begins, then 1", "0:0 1:0 0:0");
        h.put(24, 1);
        Due.turns(h, "0 restarts, 1 takes x", "0:1 1:0 0:0");
        Due.turns(h, "0 keeps its first begin: 1 loses", "0:0");
        Due.is("0 restarted once", 1, () -> h.look(0, 4));
        Due.is("1 restarted", 1, () -> h.look(1, 4));
        Due.turns(h, "1 loses again, and again", "1:1 1:1");
        Due.turns(h, "0 ends, 1 ends", "0:0 1:0 1:0 1:0");
        h.start(3);
        Due.turns(h, "the other way round: 1 begins, takes x, then 0", "1:0 1:0 0:0 0:0");
        Due.turns(h, "0 loses", "0:1");
        Due.turns(h, "1 ends, and begins anew behind 0", "1:0 1:0 1:0 1:0 0:0");
        Due.turns(h, "now 1 loses: what counts is the begin of each block", "0:0");
        Due.is("1 restarted", 1, () -> h.look(1, 4));
        h.start(3);
        Due.tell(h, 0, "atom{if(y==0){retry;}x=1;}");
        Due.turns(h, "0 begins and sleeps, 1 begins and takes x", "0:0 0:0 0:3 1:0 1:0");
        h.put(24, 1);
        Due.turns(h, "0 wakes, and has begun first all the same", "0:6 0:0 0:0");
        Due.is("1 restarted", 1, () -> h.look(1, 4));
    }

    private static void keptThisOneLoses() {
        Due.sentence("if it is this one, CONFLICT (wholly)");
        for (String act : new String[] {"B=x;", "x=7;"}) {
            AsOneHouse h = Due.house(3);
            Due.tell(h, 0, "atom{x=1;A=z;}");
            Due.tell(h, 1, "A=1;atom{A=2;y=1;part{A=w;" + act + "}}");
            Due.turns(h, "0 takes x; 1 takes y, reads w", "0:0 0:0 1:0 1:0 1:0");
            Due.turns(h, act + " loses", "1:1");
            Due.looks(h, 1, "wholly, not the part", 2, 1, 0, 0, 1, 1, 0, 0);
            Due.is("A", 1, () -> h.register(1, 0));
            Due.is("y", 0, () -> h.has(24));
            Due.is("x stays with 0", 1, () -> h.count(8));
            Due.is("x", 1, () -> h.has(23));
            Due.looks(h, 0, "0 is as it was", 2, 1, 0, 1, 0, 0, 0, 0);
        }
    }

    private static void keptTheOtherLoses() {
        Due.sentence("if that is the other one, it RESTARTS wholly at once");
        for (String act : new String[] {"B=x;", "x=7;"}) {
            AsOneHouse h = Due.house(3);
            h.put(23, 5);
            Due.tell(h, 0, "atom{" + act + "}");
            Due.tell(h, 1, "A=1;atom{A=2;x=1;part{y=A;x=2;}}");
            Due.turns(h, "0 begins, 1 takes x and y", "0:0 1:0 1:0 1:0 1:0");
            Due.turns(h, act + " wins", "0:0");
            Due.looks(h, 1, "wholly, not the part", 2, 1, 0, 0, 1, 2, 0, 0);
            Due.is("A", 1, () -> h.register(1, 0));
            Due.is("x", act.equals("x=7;") ? 7 : 5, () -> h.has(23));
            Due.is("y", 0, () -> h.has(24));
            Due.is("taken by 0", act.equals("x=7;") ? 1 : 0, () -> h.count(8));
            Due.is("clock: x and y are free with one", 2, () -> h.count(2));
            Due.turns(h, "0 ends, 1 goes on behind its begin", "0:0 1:0 1:0 1:0 1:0 1:2");
            Due.is("x", 2, () -> h.has(23));
        }
    }

    private static void keptReadIsWrong() {
        Due.sentence("Then: some READ has a PLACE that is TAKEN by another BLOCK, or has another VERSION than that READ: "
                + "CONFLICT; else what the PLACE has.");
        for (String act : new String[] {"B=z;", "z=7;"}) {
            AsOneHouse h = Due.house(3);
            h.put(23, 5);
            Due.tell(h, 0, "atom{A=x;" + act + "}");
            Due.tell(h, 1, "atom{x=1;A=w;}");
            Due.turns(h, "0 reads x, 1 takes it", "0:0 0:0 1:0 1:0");
            Due.turns(h, "another has taken it, though that began later", "0:1");
            Due.is("1 is as it was", 0, () -> h.look(1, 4));
            Due.turns(h, "0 looks at x: 1 loses; 0 goes on", "0:0 0:0");
            Due.is("1 restarted", 1, () -> h.look(1, 4));
            h.put(23, 5);
            Due.turns(h, "another version, though as it was", "0:1");
            h.put(23, 6);
            Due.turns(h, "a version from before the read is right", "0:0 0:0 0:0");
        }
    }

    private static void keptWriteOfItsOwn() {
        Due.sentence("Another LOOK, and PLACE = : first, if the PLACE is TAKEN by another BLOCK: RIVALS");
        AsOneHouse h = Due.house(3);
        Due.tell(h, 0, "atom{A=x;y=1;y=2;}");
        Due.turns(h, "x, y =", "0:0 0:0 0:0");
        h.put(23, 1);
        Due.turns(h, "PLACE = looks at the reads, also of what it has taken", "0:1");
    }

    private static void keptEnd() {
        Due.sentence("End: first RIVALS for each PLACE of READS, in order, that another BLOCK has TAKEN; "
                + "then as at a LOOK");
        AsOneHouse h = Due.house(3);
        Due.tell(h, 0, "atom{A=x;A=y;A=z;}");
        Due.tell(h, 1, "atom{z=1;A=w;}");
        Due.tell(h, 2, "atom{y=1;A=w;}");
        Due.turns(h, "1 begins, 0 begins, 2 begins; 0 reads, 1 and 2 take", "1:0 0:0 2:0 0:0 0:0 0:0 1:0 2:0");
        Due.turns(h, "0 wins about y, then loses about z", "0:1");
        Due.is("2 restarted", 1, () -> h.look(2, 4));
        Due.is("1 did not", 0, () -> h.look(1, 4));
        Due.is("0 did", 1, () -> h.look(0, 4));
        Due.turns(h, "1 ends; 0 reads; a version changes", "1:0 1:0 0:0 0:0 0:0");
        h.put(24, 0);
        Due.turns(h, "without writes too", "0:1");
        Due.turns(h, "nothing is wrong", "0:0 0:0 0:0 0:0 0:2");
    }

    private static void keptEndWithoutReads() {
        Due.sentence("RIVALS for each PLACE of READS");
        AsOneHouse h = Due.house(3);
        Due.tell(h, 0, "atom{x=1;}");
        Due.tell(h, 1, "atom{a=1;A=w;}");
        Due.turns(h, "1 takes a", "0:0 1:0 1:0 0:0");
        Due.turns(h, "0 has read nothing", "0:0");
        Due.is("1 is as it was", 0, () -> h.look(1, 4));
        h.start(3);
        Due.tell(h, 0, "atom{if(z==0){A=y;A=y;}A=z;}");
        Due.turns(h, "0 reads z and y", "0:0 1:0 0:0 0:0");
        h.put(25, 1);
        Due.turns(h, "0 restarts, reads z and z", "0:1 0:0 0:0");
        Due.tell(h, 2, "atom{y=1;A=w;}");
        Due.turns(h, "2 takes y, 0 ends", "2:0 2:0 0:0");
        Due.is("reads that went are none", 0, () -> h.look(2, 4));
    }

    private static void keptTakenIsFree() {
        Due.sentence("then all that it has TAKEN is free, with DONE'S CLOCK and VERSION");
        for (int way = 3; way <= 4; way++) {
            AsOneHouse h = Due.house(way);
            Due.tell(h, 0, "atom{x=0;y=2;part{z=3;quit;}}atom{A=x;}");
            Due.turns(h, "take three", "0:0 0:0 0:0 0:0 0:0");
            Due.is("taken", 3, () -> h.count(8));
            Due.is("put", Due.STATE, () -> h.put(25, 1));
            Due.turns(h, "end", "0:0");
            Due.is("none is taken", 0, () -> h.count(8));
            Due.is("clock, once", 1, () -> h.count(2));
            Due.is("two are written", 2, () -> h.record(0, 2));
            Due.is("had y", 2, () -> h.had(24, 1));
            Due.is("had z", 0, () -> h.had(25, 1));
            Due.turns(h, "nothing was taken", "0:0 0:0 0:0 0:2");
            Due.is("the clock stays", 1, () -> h.count(2));
        }
        AsOneHouse h = Due.house(3);
        Due.tell(h, 0, "atom{A=x;A=w;}");
        Due.tell(h, 1, "atom{x=0;}");
        Due.turns(h, "0 reads x, 1 writes it as it was, and ends", "0:0 0:0 1:0 1:0 1:0");
        Due.turns(h, "x has another version", "0:1");
        for (String text : new String[] {"atom{y=1;part{x=1;quit;}}", "atom{part{x=1;quit;}say 1;}"}) {
            AsOneHouse g = Due.house(3);
            Due.tell(g, 0, "atom{A=x;A=w;}");
            Due.tell(g, 1, text);
            Due.turns(g, "0 reads x, 1 takes it, but writes it not in the end", "0:0 0:0 1:0 1:0 1:0 1:0 1:0");
            Due.is("1 ended", 1, () -> g.look(1, 7));
            Due.is("clock", 1, () -> g.count(2));
            Due.turns(g, "what was taken has another version", "0:1");
        }
    }

    private static void keptTakenBackByOr() {
        Due.sentence("behind a whole one (not by a retry that goes on with its or BLOCK) all is free, "
                + "CLOCK 1 more, if something was TAKEN, and these have that VERSION");
        for (int way = 3; way <= 4; way++) {
            AsOneHouse h = Due.house(way);
            h.put(23, 5);
            Due.tell(h, 0, "atom{x=1;y=1;retry;}or{A=x;retry;}");
            Due.turns(h, "take two, retry", "0:0 0:0 0:0 0:0");
            Due.is("both stay taken", 2, () -> h.count(8));
            Due.is("put", Due.STATE, () -> h.put(23, 6));
            Due.is("the clock stays", 1, () -> h.count(2));
            Due.is("x has again what it had", 5, () -> h.has(23));
            Due.turns(h, "x is no read; asleep", "0:0 0:3");
            Due.is("none is taken", 0, () -> h.count(8));
            Due.is("the clock, once", 2, () -> h.count(2));
            Due.is("no reads", 0, () -> h.look(0, 2));
        }
        for (String leave : new String[] {"quit;", "retry;", "fail 1;"}) {
            AsOneHouse h = Due.house(3);
            Due.tell(h, 0, "atom{A=x;A=w;}");
            Due.tell(h, 1, "atom{x=1;y=1;" + leave + "}");
            Due.turns(h, "0 reads x, 1 takes x and y", "0:0 0:0 1:0 1:0 1:0");
            h.turn(1);
            Due.is(leave + " once", 1, () -> h.count(2));
            Due.is(leave + " none is taken", 0, () -> h.count(8));
            Due.turns(h, leave + " x has another version", "0:1");
        }
    }

    private static void keptTakenBackOfNothing() {
        Due.sentence("CLOCK 1 more, if something was TAKEN");
        for (int way = 3; way <= 4; way++) {
            for (String leave : new String[] {"quit;", "retry;", "fail 1;"}) {
                AsOneHouse h = Due.house(way);
                Due.tell(h, 0, "atom{A=x;" + leave + "}");
                Due.turns(h, "x", "0:0 0:0");
                h.turn(0);
                Due.is("way " + way + ", " + leave, 0, () -> h.count(2));
            }
        }
        AsOneHouse h = Due.house(3);
        Due.tell(h, 0, "atom{A=x;A=y;}");
        Due.turns(h, "x", "0:0 0:0");
        h.put(23, 1);
        Due.turns(h, "conflict, with nothing taken", "0:1");
        Due.is("the put's clock", 1, () -> h.count(2));
        Due.is("start", 1, () -> h.look(0, 5));
    }

    private static void keptPartStaysTaken() {
        Due.sentence("behind a part: what it took stays TAKEN");
        for (String part : new String[] {"part{x=1;quit;}", "part{x=1;retry;}or{}", "try{part{x=1;fail 1;}}catch A{}"}) {
            for (int way = 3; way <= 4; way++) {
                AsOneHouse h = Due.house(way);
                h.put(23, 5);
                Due.tell(h, 0, "atom{" + part + "B=x;say B;}");
                Due.turns(h, part, "0:0 0:0 0:0");
                Due.is(part + ": taken", 1, () -> h.count(8));
                Due.is(part + ": put", Due.STATE, () -> h.put(23, 6));
                Due.is(part + ": clock", 1, () -> h.count(2));
                Due.is(part + ": x", 5, () -> h.has(23));
                Due.is(part + ": no writes", 0, () -> h.look(0, 3));
                h.round(20);
                Due.is(part + ": free", 0, () -> h.count(8));
                Due.is(part + ": no read", 0, () -> h.record(0, 1));
                Due.is(part + ": nothing written", 0, () -> h.record(0, 2));
                Due.is(part + ": said", 5, () -> h.said(0, false));
            }
        }
        AsOneHouse h = Due.house(3);
        Due.tell(h, 0, "atom{part{A=y;x=1;A=z;}}");
        Due.turns(h, "y, x =", "0:0 0:0 0:0");
        h.put(24, 1);
        Due.turns(h, "the part restarts", "0:1");
        Due.looks(h, 0, "the part is at its begin", 2, 2, 0, 0, 1, 1, 0, 0);
        Due.is("x stays taken", 1, () -> h.count(8));
    }

    private static void oneIsBusy() {
        Due.sentence("a BLOCK does not begin while another one (of another THREAD, begun, not ended, not asleep) is there: "
                + "that TURN is BUSY: it stops ahead of the begin");
        AsOneHouse h = Due.house(4);
        Due.tell(h, 0, "atom{part{}say 1;}");
        Due.tell(h, 1, "A=A+1;say 2;B=B+1;part{x=1;}");
        Due.turns(h, "0 is within", "0:0 1:0 1:4 1:4 0:0 1:4");
        Due.looks(h, 1, "ready, ahead of its begin", 1, 0, 0, 0, 0, 0, 0, 0);
        Due.is("A", 1, () -> h.register(1, 0));
        Due.is("what is on the way is done once", 1, () -> h.register(1, 1));
        Due.is("busy turns are turns", 6, () -> h.count(3));
        Due.turns(h, "0 ends", "0:0 1:0 0:2 1:0 1:0 1:2");
        Due.is("from its begin", 7, () -> h.record(1, 3));
    }

    private static void oneIsNotBusy() {
        Due.sentence("(of another THREAD, begun, not ended, not asleep)");
        String[] first = {"x=1;say x;", "atom{}", "atom{quit;}", "atom{retry;}", "atom{fail 1;}",
            "try{atom{fail 1;}}catch A{say A;}", "fail 1;", ""};
        int[] turns = {2, 2, 2, 2, 2, 2, 1, 1};
        for (int i = 0; i < first.length; i++) {
            AsOneHouse h = Due.house(4);
            Due.tell(h, 0, first[i]);
            Due.tell(h, 1, "atom{}");
            for (int k = 0; k < turns[i]; k++) {
                h.turn(0);
            }
            Due.is("'" + first[i] + "' is not there", 0, () -> h.turn(1));
        }
        AsOneHouse h = Due.house(4);
        Due.tell(h, 0, "atom{part{atom{}or{say 1;}}}atom{}");
        Due.turns(h, "its own block is none of another thread", "0:0 0:0 0:0 0:0 0:2");
    }

    private static void oneWritesAsKept() {
        Due.sentence("WRITES as KEPT, no READ is ever wrong.");
        AsOneHouse h = Due.house(4);
        h.put(23, 5);
        Due.tell(h, 0, "atom{x=1;part{y=1;quit;}A=y;A=x;}");
        Due.turns(h, "x =", "0:0 0:0");
        Due.is("at once", 1, () -> h.has(23));
        Due.is("taken", 1, () -> h.count(8));
        Due.turns(h, "y =, quit, y, x", "0:0 0:0 0:0 0:0");
        Due.is("y has again what it had", 0, () -> h.has(24));
        Due.is("taken", 2, () -> h.count(8));
        Due.is("what is taken is no read", 0, () -> h.look(0, 2));
        Due.turns(h, "end", "0:0");
        Due.is("clock", 2, () -> h.count(2));
    }

    private static void oneIsNeverWrong() {
        Due.sentence("no READ is ever wrong");
        AsOneHouse h = Due.house(4);
        Due.tell(h, 0, "atom{A=x;part{B=x;C=y;}z=A;}");
        Due.tell(h, 1, "x=5;x=6;z=7;");
        Due.turns(h, "x changes between", "0:0 0:0 1:0 0:0 1:0 0:0");
        h.put(24, 1);
        Due.turns(h, "all goes on", "0:0 1:0 0:0 0:2");
        Due.is("A", 0, () -> h.register(0, 0));
        Due.is("B", 5, () -> h.register(0, 1));
        Due.is("no restart", 0, () -> h.look(0, 4));
    }

    private static void conflictOfTheOutermost() {
        Due.sentence("CONFLICT: the outermost LEVEL that has a READ which is wrong");
        int[] late = {23, 24, 25};
        for (int way = 0; way <= 3; way++) {
            for (int i = 0; i < late.length; i++) {
                AsOneHouse h = Due.house(way);
                int level = i;
                Due.tell(h, 0, "atom{A=x;part{A=y;part{A=z;A=w;v=1;}}}");
                Due.turns(h, "x, y, z", "0:0 0:0 0:0 0:0");
                for (int k = i; k < late.length; k++) {
                    h.put(late[k], 1);
                }
                h.put(22, 1);
                // By clock w itself is late; with pasts nothing is seen before the end, where all is of the block.
                Due.is("way " + way + ", wrong from level " + i + " on", way == 2 ? 0 : 1, () -> h.turn(0));
                if (way != 2) {
                    Due.is("levels that are left", level + 1, () -> h.look(0, 1));
                    Due.is("reads that are left", level, () -> h.look(0, 2));
                    Due.is("start is the clock", h.count(2), () -> h.look(0, 5));
                } else {
                    Due.turns(h, "v =, end", "0:0 0:1");
                    Due.is("the block", 1, () -> h.look(0, 1));
                }
            }
        }
    }

    private static void conflictOfTheInnermost() {
        Due.sentence("none: the innermost LEVEL) RESTARTS");
        AsOneHouse h = Due.house(0);
        Due.tell(h, 0, "atom{A=x;part{A=y;part{A=z;A=w;}}}");
        Due.turns(h, "x, y, z", "0:0 0:0 0:0 0:0");
        h.put(22, 1);
        Due.turns(h, "w alone is late", "0:1");
        Due.looks(h, 0, "the innermost is at its begin", 2, 3, 2, 0, 1, 1, 0, 0);
        Due.turns(h, "z, w, end", "0:0 0:0 0:0 0:2");
        h.start(0);
        Due.turns(h, "begin", "0:0");
        h.put(23, 1);
        Due.turns(h, "the block is the innermost", "0:1");
        Due.looks(h, 0, "the block is at its begin", 2, 1, 0, 0, 1, 1, 0, 0);
    }

    private static void conflictGoesOnAtTheBegin() {
        Due.sentence("it is TAKEN BACK, its READS and those within go, it goes on at its begin (not of its or BLOCK), "
                + "START is the CLOCK");
        AsOneHouse h = Due.house(0);
        Due.tell(h, 0, "A=1;atom{A=2;x=1;retry;}or{A=3;y=1;say 1;B=z;part{B=w;B=v;}}");
        Due.turns(h, "x =, retry, y =, say, z, w", "0:0 0:0 0:0 0:0 0:0 0:0 0:0");
        Due.looks(h, 0, "in the or block", 2, 2, 2, 1, 0, 0, 0, 0);
        h.put(25, 1);
        h.put(21, 1);
        Due.turns(h, "z is wrong, v is late", "0:1");
        Due.looks(h, 0, "at the begin", 2, 1, 0, 0, 1, 2, 0, 0);
        Due.is("A", 1, () -> h.register(0, 0));
        Due.turns(h, "x =: the first block", "0:0");
        Due.is("one write", 1, () -> h.look(0, 3));
        Due.is("A", 2, () -> h.register(0, 0));
        Due.turns(h, "retry, y =, say, z, w, v, end", "0:0 0:0 0:0 0:0 0:0 0:0 0:0 0:2");
        Due.is("said once", 1, () -> h.count(4));
        Due.is("from the restart", 7, () -> h.record(0, 3));
    }

    private static void conflictWasAnAct() {
        Due.sentence("(It was an ACT: what found it.)");
        AsOneHouse h = Due.house(0);
        Due.tell(h, 0, "atom{A=A+1;B=x;x=A;}");
        Due.turns(h, "begin", "0:0");
        h.put(23, 1);
        Due.turns(h, "the look finds it, and the turn ends", "0:1");
        Due.is("nothing behind the begin is done in that turn", 0, () -> h.register(0, 0));
        Due.turns(h, "x", "0:0");
        Due.is("A", 1, () -> h.register(0, 0));
        Due.is("turns", 3, () -> h.count(3));
    }

    private static void conflictWithinAnExpression() {
        Due.sentence("it goes on at its begin");
        AsOneHouse h = Due.house(0);
        Due.tell(h, 0, "atom{A=1+(1+(1+(1+(1+(1+(1+(1+x)))))));}");
        Due.turns(h, "begin", "0:0");
        for (int i = 0; i < 40; i++) {
            h.put(23, i);
            Due.turns(h, "x is late, time " + i, "0:1");
        }
        Due.turns(h, "x, end", "0:0 0:0");
        Due.is("A", 8 + 39, () -> h.register(0, 0));
    }

    private static void wakingIsBusy() {
        Due.sentence("it RESTARTS wholly (ONE: BUSY, as a begin)");
        AsOneHouse h = Due.house(4);
        Due.tell(h, 0, "atom{if(x==0){retry;}}");
        Due.tell(h, 1, "atom{A=z;A=z;}");
        Due.turns(h, "0 sleeps, 1 is within", "0:0 0:0 0:3 1:0");
        Due.turns(h, "nothing to wake for: not busy", "0:3");
        h.put(23, 1);
        Due.turns(h, "busy", "0:4 0:4");
        Due.looks(h, 0, "still asleep", 3, 0, 1, 0, 0, 0, 0, 0);
        Due.turns(h, "1 ends, 0 wakes", "1:0 1:0 1:0 0:6");
        Due.looks(h, 0, "within", 2, 1, 0, 0, 1, 1, 0, 0);
        Due.tell(h, 2, "atom{}");
        Due.turns(h, "2 is busy now", "2:4");
    }

    private static void takenWakesNobody() {
        Due.sentence("(KEPT, ONE: a PLACE that is not TAKEN by another BLOCK)");
        for (int way = 3; way <= 4; way++) {
            AsOneHouse h = Due.house(way);
            Due.tell(h, 0, "atom{A=x;retry;}");
            Due.tell(h, 1, "atom{x=1;say 1;}");
            Due.turns(h, "0 sleeps, 1 takes x", "0:0 0:0 0:3 1:0 1:0");
            Due.is("x has another", 1, () -> h.has(23));
            Due.turns(h, "but it is taken", "0:3");
            Due.turns(h, "1 ends", "1:0 1:0 0:6");
        }
    }
}
