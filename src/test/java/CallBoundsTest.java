import java.util.ArrayList;
import java.util.List;
import java.util.function.IntSupplier;
import java.util.function.ToIntFunction;

/** The calls of promises 1 to 14: a test of its own for each sentence that names a boundary case. */
public final class CallBoundsTest {
    private static final int LEAST = Integer.MIN_VALUE;
    private static final int GREATEST = Integer.MAX_VALUE;

    public static void main(String[] args) {
        the512thCall();
        argumentsComeFirst();
        whatThrowsChangesNothing();
        whatIsBrokenChangesThePlaceAlone();
        aFullTapeStaysAsItIs();
        aNewObject();
        feedHighestByteFirst();
        feedBeyond1000();
        endFrom0ToItsLength();
        startFrom0To4();
        startLeavesTapeAndPrograms();
        programWithinABlock();
        programOfOneAsleep();
        programBroken();
        programAsANewOne();
        programWithinATry();
        programWithinAnExpression();
        placeOfTheLatestProgram();
        putFrom0To25();
        putOnWhatIsTaken();
        putWithoutRecord();
        turnAnswers();
        turnsUpTo20000();
        roundFrom0To2000();
        roundTakesNoneOfThose();
        roundEndsWhenAllSleep();
        roundEndsWhenAllAreBusy();
        roundEndsWithThe20000th();
        hasFrom0To25();
        hadFrom0ToTheClock();
        hadOfWhatIsOnlyTaken();
        hadOfManyPasts();
        registerFrom0To25();
        saidThatThereIs();
        lookFrom0To7();
        lookAsleepAndOutside();
        Due.end();
    }

    private static void the512thCall() {
        Due.sentence("An object is used for at most 512 calls after it has been made");
        AsOneHouse h = new AsOneHouse();
        h.feed(0x7768696c, 0x65283129, 0x7b783d78, 0x2b313b7d, 0);
        h.end(16);
        Due.is("while(1){x=x+1;}", 2, () -> h.program(5));
        for (int i = 4; i <= 511; i++) {
            Due.is("call " + i, 0, () -> h.turn(5));
        }
        // 508 turns are 169 times while, look and write, and a while.
        Due.is("the 512th call", 169, () -> h.has(23));
    }

    // ------------------------------------------------------------------ what is thrown

    private static void argumentsComeFirst() {
        Due.sentence("What is thrown, in this order: IllegalArgumentException: a number out of range; then as told.");
        AsOneHouse h = full();
        Due.is("what of record, ahead of there is none", Due.ARGUMENT, () -> h.record(-1, 5));
        Due.is("what of record, ahead of there is none", Due.ARGUMENT, () -> h.record(999, -1));
        Due.is("there is none", Due.INDEX, () -> h.record(999, 4));
        Due.is("there is none", Due.INDEX, () -> h.record(-1, 0));
        Due.type(h, "x=;");
        Due.is("a thread, ahead of broken", Due.ARGUMENT, () -> h.program(6));
        Due.type(h, "x=;");
        Due.is("within a block, ahead of broken", Due.STATE, () -> h.program(0));
        Due.type(h, "x=;");
        Due.is("broken", Due.UNSUPPORTED, () -> h.program(4));
        Due.is("a place, ahead of taken", Due.ARGUMENT, () -> h.put(26, 1));
        Due.is("taken", Due.STATE, () -> h.put(23, 1));
    }

    /** By kept: 0 is within and has taken x, 1 sleeps, 2 is dead, 3 is over, 4 is ready, 5 has no program. */
    private static AsOneHouse full() {
        AsOneHouse h = Due.house(3);
        h.put(0, 4);
        Due.tell(h, 0, "A=5;atom{B=w;x=6;say 1;part{y=7;}z=8;}");
        Due.tell(h, 1, "atom{A=v;retry;}");
        Due.tell(h, 2, "B=2;fail 9;");
        Due.tell(h, 3, "say 3;C=3;");
        Due.tell(h, 4, "A=a;b=A;c=A;");
        Due.turns(h, "all but 5", "1:0 1:0 1:3 2:5 3:0 3:2 4:0 4:0 0:0 0:0 0:0");
        Due.is("there is an order", 1, h::judge);
        Due.is("broken at 3", Due.UNSUPPORTED, () -> Due.tell(h, 5, "x=1"));
        Due.type(h, "x=1;");
        return h;
    }

    /** All that can be asked without a change, but for the tape. */
    private static List<Integer> state(AsOneHouse h) {
        List<Integer> all = new ArrayList<>();
        all.add(h.place());
        for (int what = 1; what <= 8; what++) {
            all.add(h.count(what));
        }
        for (int t = 0; t < 6; t++) {
            for (int what = 0; what <= 7; what++) {
                all.add(h.look(t, what));
            }
            all.add(h.register(t, 0));
            all.add(h.register(t, 1));
            all.add(h.register(t, 2));
        }
        for (int p = 0; p < 26; p++) {
            all.add(h.has(p));
        }
        for (int i = 0; i < 3; i++) {
            int at = i;
            all.add(Due.answer(() -> h.order(at)));
            all.add(Due.answer(() -> h.said(at, false)));
            all.add(Due.answer(() -> h.record(at, 4)));
        }
        return all;
    }

    private static void refused(String what, int due, ToIntFunction<AsOneHouse> call) {
        AsOneHouse h = full();
        List<Integer> before = state(h);
        int tape = h.count(0);
        Due.is(what, due, () -> call.applyAsInt(h));
        Due.is(what + " changes nothing", 1, state(h).equals(before) ? 1 : 0);
        Due.is(what + ": the tape", what.startsWith("program") ? 0 : tape, () -> h.count(0));
    }

    private static void whatThrowsChangesNothing() {
        Due.sentence("A call that throws changes nothing, but THE TAPE.");
        for (int v : new int[] {LEAST, -1, GREATEST}) {
            refused("end(" + v + ")", Due.ARGUMENT, h -> h.end(v));
            refused("start(" + v + ")", Due.ARGUMENT, h -> started(h, v));
            refused("program(" + v + ")", Due.ARGUMENT, h -> h.program(v));
            refused("put(" + v + ")", Due.ARGUMENT, h -> h.put(v, 1));
            refused("turn(" + v + ")", Due.ARGUMENT, h -> h.turn(v));
            refused("round(" + v + ")", Due.ARGUMENT, h -> h.round(v));
            refused("has(" + v + ")", Due.ARGUMENT, h -> h.has(v));
            refused("had(" + v + ", 0)", Due.ARGUMENT, h -> h.had(v, 0));
            refused("had(0, " + v + ")", Due.ARGUMENT, h -> h.had(0, v));
            refused("register(" + v + ", 0)", Due.ARGUMENT, h -> h.register(v, 0));
            refused("register(0, " + v + ")", Due.ARGUMENT, h -> h.register(0, v));
            refused("said(" + v + ")", Due.INDEX, h -> h.said(v, true));
            refused("look(" + v + ", 0)", Due.ARGUMENT, h -> h.look(v, 0));
            refused("look(0, " + v + ")", Due.ARGUMENT, h -> h.look(0, v));
            refused("order(" + v + ")", Due.INDEX, h -> h.order(v));
            refused("record(" + v + ", 0)", Due.INDEX, h -> h.record(v, 0));
            refused("record(0, " + v + ")", Due.ARGUMENT, h -> h.record(0, v));
            refused("count(" + v + ")", Due.ARGUMENT, h -> h.count(v));
        }
        refused("end(5)", Due.ARGUMENT, h -> h.end(5));
        refused("start(5)", Due.ARGUMENT, h -> started(h, 5));
        refused("program(6)", Due.ARGUMENT, h -> h.program(6));
        refused("program(0)", Due.STATE, h -> h.program(0));
        refused("put(26, 1)", Due.ARGUMENT, h -> h.put(26, 1));
        refused("put(23, 1)", Due.STATE, h -> h.put(23, 1));
        refused("turn(6)", Due.ARGUMENT, h -> h.turn(6));
        refused("round(2001)", Due.ARGUMENT, h -> h.round(2001));
        refused("said(1)", Due.INDEX, h -> h.said(1, false));
        refused("order(2)", Due.INDEX, h -> h.order(2));
        refused("record(2, 0)", Due.INDEX, h -> h.record(2, 0));
    }

    private static int started(AsOneHouse h, int way) {
        h.start(way);
        return 0;
    }

    private static void whatIsBrokenChangesThePlaceAlone() {
        Due.sentence("Broken: UnsupportedOperationException, (its PROGRAM stays)");
        for (int t = 1; t < 6; t++) {
            int thread = t;
            AsOneHouse h = full();
            List<Integer> before = state(h);
            Due.type(h, "  %");
            Due.is("broken", Due.UNSUPPORTED, () -> h.program(thread));
            List<Integer> after = state(h);
            Due.is("the place", 2, after.set(0, 3));
            Due.is("thread " + t + ", and all else, stays", 1, after.equals(before) ? 1 : 0);
        }
        AsOneHouse h = full();
        Due.type(h, "%");
        Due.is("broken", Due.UNSUPPORTED, () -> h.program(4));
        Due.turns(h, "4 goes on", "4:0 4:2");
        Due.is("c", 4, () -> h.has(2));
        Due.type(h, "%");
        Due.is("broken", Due.UNSUPPORTED, () -> h.program(1));
        h.put(21, 1);
        Due.turns(h, "1 wakes", "1:6 1:0 1:3");
    }

    private static void aFullTapeStaysAsItIs() {
        Due.sentence("it would have more than 1000: IndexOutOfBoundsException");
        AsOneHouse h = new AsOneHouse();
        Due.type(h, "x=1;".repeat(249) + "x=7;");
        Due.is("refused", Due.INDEX, () -> h.feed(0x793d333b, 0x793d333b, 0x793d333b, 0x793d333b, 0x793d333b));
        h.end(996);
        Due.is("refused", Due.INDEX, () -> h.feed(0x793d333b, 0x793d333b, 0x793d333b, 0x793d333b, 0x793d333b));
        Due.is("996", 996, () -> h.count(0));
        Due.is("what was there is there", 249, () -> h.program(0));
    }

    // ------------------------------------------------------------------ promises 1 to 4

    private static void aNewObject() {
        Due.sentence("`AsOneHouse()`: No PROGRAMS, WAY 0.");
        AsOneHouse h = new AsOneHouse();
        Due.is("way", 0, () -> h.count(1));
        for (int t = 0; t < 6; t++) {
            int thread = t;
            Due.is("no program", 0, () -> h.look(thread, 0));
            Due.is("over", 2, () -> h.turn(thread));
            Due.is("still no program", 0, () -> h.look(thread, 0));
        }
        Due.tell(h, 0, "atom{A=x;}");
        h.turn(0);
        h.put(23, 1);
        Due.is("by the clock, without a start", 1, () -> h.turn(0));
        Due.is("clock", 1, () -> h.count(2));
        for (int i = 0; i < 26; i++) {
            int p = i;
            Due.is("had", p == 23 ? 1 : 0, () -> h.had(p, 1));
            Due.is("had", 0, () -> h.had(p, 0));
        }
    }

    private static void feedHighestByteFirst() {
        Due.sentence("The 20 bytes of five ints, the highest of each first, come to THE TAPE");
        AsOneHouse h = new AsOneHouse();
        Due.is("20", 20, () -> h.feed(0x613d313b, 0x623d323b, 0x633d333b, 0x643d343b, 0x653d353b));
        Due.is("a=1;b=2;c=3;d=4;e=5;", 5, () -> h.program(0));
        Due.is("all", 6, () -> h.round(9));
        for (int i = 0; i < 5; i++) {
            int p = i;
            Due.is("has", p + 1, () -> h.has(p));
        }
        h.feed(0x20202020, 0x20202020, 0x20202020, 0x20202020, 0x202020ff);
        Due.is("255 is a byte", Due.UNSUPPORTED, () -> h.program(0));
        Due.is("the last one", 19, h::place);
        h.feed(0x80202020, 0, 0, 0, 0);
        Due.is("128 is a byte", Due.UNSUPPORTED, () -> h.program(0));
        Due.is("the first one", 0, h::place);
        h.feed(0x20202020, 0x2020ff20, -1, -1, -1);
        Due.is("255 is a byte", Due.UNSUPPORTED, () -> h.program(0));
        Due.is("the seventh one", 6, h::place);
        h.feed(LEAST, GREATEST, 0, -1, 1);
        Due.is("the tape", 20, () -> h.count(0));
    }

    private static void feedBeyond1000() {
        Due.sentence("it would have more than 1000: IndexOutOfBoundsException. Answers its length.");
        AsOneHouse h = new AsOneHouse();
        for (int length = 20; length <= 1000; length += 20) {
            Due.is("length", length, () -> h.feed(1, 2, 3, 4, 5));
        }
        Due.is("full", Due.INDEX, () -> h.feed(1, 2, 3, 4, 5));
        for (int length = 999; length > 980; length--) {
            h.end(length);
            Due.is("from " + length, Due.INDEX, () -> h.feed(1, 2, 3, 4, 5));
            int stays = length;
            Due.is("stays", stays, () -> h.count(0));
        }
        h.end(980);
        Due.is("from 980", 1000, () -> h.feed(1, 2, 3, 4, 5));
        h.end(1);
        Due.is("from 1", 21, () -> h.feed(1, 2, 3, 4, 5));
    }

    private static void endFrom0ToItsLength() {
        Due.sentence("THE TAPE keeps its first n bytes, n 0 .. its length. Answers n.");
        AsOneHouse h = new AsOneHouse();
        Due.is("0 of an empty one", 0, () -> h.end(0));
        Due.is("1 of an empty one", Due.ARGUMENT, () -> h.end(1));
        Due.type(h, "x=1;y=2;z=3;");
        Due.is("12", 12, () -> h.count(0));
        Due.is("13", Due.ARGUMENT, () -> h.end(13));
        Due.is("20, though that many were fed", Due.ARGUMENT, () -> h.end(20));
        Due.is("-1", Due.ARGUMENT, () -> h.end(-1));
        Due.is("12", 12, () -> h.end(12));
        Due.is("8", 8, () -> h.end(8));
        Due.is("9 is beyond now", Due.ARGUMENT, () -> h.end(9));
        Due.is("the first 8", 2, () -> h.program(0));
        Due.type(h, "x=1;");
        Due.is("0", 0, () -> h.end(0));
        Due.is("nothing", 0, () -> h.program(0));
    }

    private static void startFrom0To4() {
        Due.sentence("the WAY is way, 0 .. 4");
        AsOneHouse h = new AsOneHouse();
        for (int way = 4; way >= 0; way--) {
            int w = way;
            Due.is("start", 0, () -> started(h, w));
            Due.is("way", w, () -> h.count(1));
        }
        h.start(4);
        h.put(0, 1);
        for (int way : new int[] {LEAST, -1, 5, 6, GREATEST}) {
            Due.is("start(" + way + ")", Due.ARGUMENT, () -> started(h, way));
            Due.is("way", 4, () -> h.count(1));
            Due.is("a", 1, () -> h.has(0));
        }
    }

    private static void startLeavesTapeAndPrograms() {
        Due.sentence("All is as at first, but THE TAPE and PROGRAMS: PLACES, CLOCK, SAID, RECORDS, place; "
                + "THREADS at the begin of their PROGRAMS");
        AsOneHouse h = full();
        h.start(2);
        Due.is("the tape", 4, () -> h.count(0));
        Due.is("the place", -1, h::place);
        int[] counts = {4, 2, 0, 0, 0, 0, 0, 0, 0};
        for (int what = 0; what < counts.length; what++) {
            int w = what;
            Due.is("count " + w, counts[w], () -> h.count(w));
        }
        for (int t = 0; t < 6; t++) {
            Due.looks(h, t, "as at first", t == 5 ? 0 : 1, 0, 0, 0, 0, 0, 0, 0);
            int thread = t;
            for (int r = 0; r < 3; r++) {
                int i = r;
                Due.is("register", 0, () -> h.register(thread, i));
            }
        }
        for (int i = 0; i < 26; i++) {
            int p = i;
            Due.is("has", 0, () -> h.has(p));
            Due.is("had", 0, () -> h.had(p, 0));
        }
        Due.is("no clock 1", Due.ARGUMENT, () -> h.had(0, 1));
        Due.is("nothing said", Due.INDEX, () -> h.said(0, true));
        Due.is("no record", Due.INDEX, () -> h.record(0, 0));
        Due.is("no order", Due.INDEX, () -> h.order(0));
        Due.is("a judge looks from 0 on", 1, h::judge);
        Due.turns(h, "each has its program", "1:0 1:0 1:3 2:5 3:0 3:2 4:0 4:0 0:0 0:0 0:0 5:2");
    }

    // ------------------------------------------------------------------ promises 5 and 6

    private static void programWithinABlock() {
        Due.sentence("it is within a BLOCK (not if ASLEEP): IllegalStateException");
        for (int way = 0; way <= 4; way++) {
            AsOneHouse h = Due.house(way);
            Due.tell(h, 0, "atom{part{x=1;}}y=1;");
            Due.is("ahead of the begin", 4, () -> Due.tell(h, 0, "atom{part{x=1;}}y=1;"));
            Due.turns(h, "begin", "0:0");
            Due.is("within", Due.STATE, () -> Due.tell(h, 0, "z=1;"));
            Due.turns(h, "x =", "0:0");
            Due.is("within its part", Due.STATE, () -> Due.tell(h, 0, "z=1;"));
            Due.is("another may be told", 1, () -> Due.tell(h, 1, "z=1;"));
            Due.turns(h, "end", "0:0");
            Due.is("behind its end", 1, () -> Due.tell(h, 0, "z=1;"));
            Due.is("y was not reached", 0, () -> h.has(24));
            Due.is("x", 1, () -> h.has(23));
        }
    }

    private static void programOfOneAsleep() {
        Due.sentence("(not if ASLEEP)");
        for (int way = 0; way <= 4; way++) {
            AsOneHouse h = Due.house(way);
            Due.tell(h, 0, "A=1;atom{x=1;B=y;retry;}");
            Due.turns(h, "asleep", "0:0 0:0 0:0 0:3");
            Due.is("told", 1, () -> Due.tell(h, 0, "z=1;"));
            Due.is("none asleep", 0, () -> h.count(7));
            Due.looks(h, 0, "as a new one", 1, 0, 0, 0, 0, 0, 0, 0);
            Due.is("A", 0, () -> h.register(0, 0));
            h.put(24, 1);
            Due.turns(h, "it runs", "0:0 0:2");
            Due.is("z", 1, () -> h.has(25));
        }
    }

    private static void programBroken() {
        Due.sentence("Answers how many STATEMENTS it has.");
        AsOneHouse h = new AsOneHouse();
        Due.is("none", 0, () -> Due.tell(h, 0, ""));
        Due.is("one", 1, () -> Due.tell(h, 0, "atom{}"));
        Due.is("250", 250, () -> Due.tell(h, 0, "A=1;".repeat(250)));
        Due.is("those within count too", 9, () -> Due.tell(h, 0,
                "if(x){A=1;}else{B=1;}while(x){say 1;}atom{x=1;}or{try{fail 1;}catch A{}}"));
    }

    private static void programAsANewOne() {
        Due.sentence("The THREAD is as a new one.");
        for (String old : new String[] {"A=5;fail 9;", "A=5;", "A=5;atom{B=x;retry;}", "A=5;atom{x=1;}say x;say 1;"}) {
            AsOneHouse h = Due.house(1);
            Due.tell(h, 0, old);
            h.round(4);
            Due.is("A", 5, () -> h.register(0, 0));
            int said = h.count(4);
            int records = h.count(5);
            Due.is("told", 2, () -> Due.tell(h, 0, "C=1;atom{}"));
            Due.looks(h, 0, old + " is forgotten", 1, 0, 0, 0, 0, 0, 0, 0);
            for (int r = 0; r < 26; r++) {
                int i = r;
                Due.is("register", 0, () -> h.register(0, i));
            }
            Due.is("what was said stays", said, () -> h.count(4));
            Due.is("records stay", records, () -> h.count(5));
            Due.turns(h, "at its begin", "0:0 0:0 0:2");
        }
    }

    private static void programWithinATry() {
        Due.sentence("THREADS at the begin of their PROGRAMS");
        AsOneHouse h = Due.house(0);
        Due.tell(h, 0, "if(x==0){try{say 1;say 2;}catch A{say 3;}}fail 4;");
        Due.turns(h, "within its try", "0:0 0:0");
        h.start(0);
        h.put(23, 1);
        Due.turns(h, "it is in no try", "0:0 0:5");
        Due.is("died with", 4, () -> h.look(0, 6));
        Due.sentence("The THREAD is as a new one.");
        Due.tell(h, 1, "try{say 1;say 2;}catch A{say 3;}");
        Due.turns(h, "within its try", "1:0");
        Due.tell(h, 1, "fail 5;");
        Due.turns(h, "it is in no try", "1:5");
        Due.is("died with", 5, () -> h.look(1, 6));
        Due.tell(h, 1, "try{say 1;fail 6;}catch A{say A;}");
        Due.turns(h, "and may be in one again", "1:0 1:0 1:2");
        Due.is("A", 6, () -> h.register(1, 0));
    }

    private static void programWithinAnExpression() {
        Due.sentence("THE TAPE is the PROGRAM of a THREAD, at its begin");
        // What an expression had in hand when it was left must not stay, however often that comes.
        AsOneHouse h = Due.house(0);
        for (int i = 0; i < 20; i++) {
            Due.tell(h, 0, "A=" + "100+(".repeat(10) + "x" + ")".repeat(10) + ";");
            Due.turns(h, "x", "0:0");
        }
        Due.tell(h, 0, "A=" + "1+(".repeat(10) + "x" + ")".repeat(10) + ";");
        Due.turns(h, "x, over", "0:0 0:2");
        Due.is("A", 10, () -> h.register(0, 0));
        Due.tell(h, 0, "if(x==0){A=" + "100+(".repeat(9) + "y" + ")".repeat(9) + ";}A=" + "1+(".repeat(10) + "y"
                + ")".repeat(10) + ";");
        for (int i = 0; i < 20; i++) {
            h.start(0);
            Due.turns(h, "x, y", "0:0 0:0");
        }
        h.start(0);
        h.put(23, 1);
        Due.turns(h, "x, y, over", "0:0 0:0 0:2");
        Due.is("A", 10, () -> h.register(0, 0));
    }

    private static void placeOfTheLatestProgram() {
        Due.sentence("PLACE IN THE TEXT of the latest program, -1 if that was not broken, or before.");
        AsOneHouse h = new AsOneHouse();
        Due.is("before", -1, h::place);
        Due.is("broken", Due.UNSUPPORTED, () -> Due.tell(h, 0, "%"));
        Due.is("at 0", 0, h::place);
        Due.is("broken", Due.UNSUPPORTED, () -> Due.tell(h, 1, "x=1"));
        Due.is("of another thread", 3, h::place);
        Due.is("not broken", 0, () -> Due.tell(h, 2, ""));
        Due.is("not broken", -1, h::place);
        Due.is("broken", Due.UNSUPPORTED, () -> Due.tell(h, 2, "x" + " ".repeat(999)));
        Due.is("at 1000", 1000, h::place);
        h.start(0);
        Due.is("start", -1, h::place);
    }

    // ------------------------------------------------------------------ promise 7

    private static void putFrom0To25() {
        Due.sentence("A PLACE, 0 .. 25, has v (as outside, by no THREAD; no RECORD)");
        for (int way = 0; way <= 4; way++) {
            AsOneHouse h = Due.house(way);
            int[] values = {LEAST, -1, 0, 1, GREATEST};
            int clock = 0;
            for (int place : new int[] {0, 25}) {
                for (int v : values) {
                    clock++;
                    Due.is("put, and the clock", clock, () -> h.put(place, v));
                    Due.is("has", v, () -> h.has(place));
                }
            }
            for (int place : new int[] {LEAST, -1, 26, GREATEST}) {
                Due.is("put(" + place + ")", Due.ARGUMENT, () -> h.put(place, 1));
            }
            Due.is("clock", 10, () -> h.count(2));
        }
    }

    private static void putOnWhatIsTaken() {
        Due.sentence("it is TAKEN: IllegalStateException. Answers the CLOCK.");
        for (int way = 0; way <= 4; way++) {
            AsOneHouse h = Due.house(way);
            Due.tell(h, 0, "atom{a=1;z=1;say 1;}");
            Due.turns(h, "a and z", "0:0 0:0 0:0");
            Due.is("a", way < 3 ? 1 : Due.STATE, () -> h.put(0, 5));
            Due.is("z", way < 3 ? 2 : Due.STATE, () -> h.put(25, 5));
            Due.is("b", way < 3 ? 3 : 1, () -> h.put(1, 5));
            Due.turns(h, "say, end", "0:0 0:0");
            Due.is("a", 1, () -> h.has(0));
            Due.is("a is free", way < 3 ? 5 : 3, () -> h.put(0, 5));
        }
    }

    private static void putWithoutRecord() {
        Due.sentence("(as outside, by no THREAD; no RECORD)");
        for (int way = 0; way <= 4; way++) {
            AsOneHouse h = Due.house(way);
            h.put(23, 1);
            Due.is("no record", 0, () -> h.count(5));
            Due.is("no turn", 0, () -> h.count(3));
            Due.is("had", 0, () -> h.had(23, 0));
            Due.is("had", 1, () -> h.had(23, 1));
        }
    }

    // ------------------------------------------------------------------ promises 8 and 9

    private static void turnAnswers() {
        Due.sentence("0 an ACT was done, 1 CONFLICT (it RESTARTED), 2 OVER (also without PROGRAM), "
                + "3 ASLEEP (still, or just), 4 BUSY, 5 DEAD (just, or before), 6 it woke.");
        AsOneHouse h = Due.house(4);
        Due.tell(h, 0, "atom{A=x;retry;}");
        Due.tell(h, 1, "atom{}");
        Due.tell(h, 2, "fail 1;");
        Due.turns(h, "without program", "5:2 5:2");
        Due.turns(h, "an act, busy, just asleep, still", "0:0 1:4 0:0 1:4 0:3 0:3");
        Due.turns(h, "just dead, and before", "2:5 2:5");
        h.put(23, 1);
        Due.turns(h, "it woke", "0:6 1:4 0:0 0:3 1:0 1:0 1:2 1:2");
        AsOneHouse g = Due.house(0);
        Due.tell(g, 0, "atom{A=x;}");
        Due.turns(g, "begin", "0:0");
        g.put(23, 1);
        Due.turns(g, "conflict", "0:1");
        Due.is("it restarted", 1, () -> g.look(0, 4));
    }

    /** 9 times 2000 turns of thread 0, and 1999. */
    private static AsOneHouse almostAllTurns() {
        AsOneHouse h = Due.house(0);
        Due.tell(h, 0, "while(1){}");
        for (int i = 0; i < 9; i++) {
            Due.is("2000", 2000, () -> h.round(2000));
        }
        Due.is("1999", 1999, () -> h.round(1999));
        return h;
    }

    private static void turnsUpTo20000() {
        Due.sentence("20000 TURNS were taken since start: IllegalStateException.");
        AsOneHouse h = almostAllTurns();
        Due.is("the 20000th, of one without a program", 2, () -> h.turn(3));
        Due.is("20000", 20000, () -> h.count(3));
        Due.is("no more", Due.STATE, () -> h.turn(0));
        Due.is("of no thread", Due.STATE, () -> h.turn(3));
        Due.is("a number out of range comes first", Due.ARGUMENT, () -> h.turn(6));
        Due.is("none is counted", 20000, () -> h.count(3));
        Due.is("the thread is as it was", 1, () -> h.look(0, 0));
        Due.is("a program may be told", 1, () -> Due.tell(h, 0, "say 1;"));
        Due.is("no more all the same", Due.STATE, () -> h.turn(0));
        Due.is("a put may come", 1, () -> h.put(0, 1));
        h.start(0);
        Due.is("since start", 0, () -> h.turn(0));
        Due.is("one", 1, () -> h.count(3));
    }

    private static void roundFrom0To2000() {
        Due.sentence("TURNS of THREADS, round from 0 to 5, n of them at most, 0 .. 2000");
        AsOneHouse h = Due.house(0);
        for (int t = 0; t < 6; t++) {
            Due.tell(h, t, "while(1){say " + t + ";}");
        }
        Due.is("0", 0, () -> h.round(0));
        Due.is("none was taken", 0, () -> h.count(3));
        for (int n : new int[] {LEAST, -1, 2001, GREATEST}) {
            Due.is("round(" + n + ")", Due.ARGUMENT, () -> h.round(n));
        }
        Due.is("13: two rounds, and one of 0", 13, () -> h.round(13));
        for (int i = 0; i < 6; i++) {
            int at = i;
            Due.is("who", at, () -> h.said(at, true));
        }
        Due.is("1", 1, () -> h.round(1));
        Due.is("it begins with 0 again", 0, () -> h.said(6, true));
        Due.is("0 said twice, one after the other", 7, () -> h.count(4));
        Due.is("2000", 2000, () -> h.round(2000));
        Due.is("all are counted", 2014, () -> h.count(3));
    }

    private static void roundTakesNoneOfThose() {
        Due.sentence("those without PROGRAM, OVER, DEAD take none");
        AsOneHouse h = Due.house(0);
        Due.is("no programs", 0, () -> h.round(2000));
        Due.tell(h, 1, "");
        Due.tell(h, 3, "fail 1;");
        Due.tell(h, 5, "say 5;");
        Due.is("over, dead, say, over", 4, () -> h.round(2000));
        Due.is("none is left", 0, () -> h.round(2000));
        Due.is("none was taken", 4, () -> h.count(3));
        Due.tell(h, 4, "say 4;");
        Due.is("say, over", 2, () -> h.round(2000));
    }

    private static void roundEndsWhenAllSleep() {
        Due.sentence("it ends too when all that are left were ASLEEP or BUSY one after the other");
        AsOneHouse h = Due.house(0);
        Due.tell(h, 0, "atom{A=x;retry;}");
        Due.tell(h, 1, "atom{A=x;retry;}");
        Due.is("each begins, looks, sleeps", 6, () -> h.round(2000));
        Due.is("each once", 2, () -> h.round(2000));
        Due.is("n first", 1, () -> h.round(1));
        Due.tell(h, 2, "say 1;say 2;");
        Due.is("while one acts it goes on: 3, 3, over, and the two once more", 3 + 3 + 3 + 2, () -> h.round(2000));
        Due.tell(h, 2, "x=1;");
        // 0 and 1 sleep, 2 writes; both wake, 2 is over; both look, both sleep.
        Due.is("they wake", 3 + 3 + 2 + 2, () -> h.round(2000));
        Due.is("both sleep", 2, () -> h.count(7));
    }

    private static void roundEndsWhenAllAreBusy() {
        Due.sentence("ASLEEP or BUSY one after the other");
        AsOneHouse h = Due.house(4);
        Due.tell(h, 0, "atom{}atom{}");
        Due.tell(h, 1, "atom{say 1;}");
        // 0 begins, 1 is busy; 0 ends, 1 begins; 0 is busy, 1 says; 0 is busy, 1 ends; 0 begins, 1 is over; 0 ends, is over.
        Due.is("busy ones among those that act end nothing", 12, () -> h.round(2000));
        Due.is("blocks", 2, () -> h.look(0, 7));
        Due.tell(h, 2, "atom{say 1;}");
        Due.turns(h, "2 is within", "2:0");
        Due.tell(h, 3, "atom{}");
        Due.tell(h, 0, "atom{A=x;retry;}");
        Due.is("0 is busy, 2 says", 2, () -> h.round(2));
        // 0 is busy, 2 ends, 3 begins; 0 is busy, 2 is over, 3 ends; 0 begins, 3 is over; 0 looks, sleeps.
        Due.is("the rest", 3 + 3 + 2 + 2, () -> h.round(2000));
        Due.is("0 sleeps", 3, () -> h.look(0, 0));
    }

    private static void roundEndsWithThe20000th() {
        Due.sentence("and with the 20000th TURN since start. Answers how many were taken.");
        AsOneHouse h = almostAllTurns();
        Due.tell(h, 1, "while(1){}");
        Due.is("the last one", 1, () -> h.round(2000));
        Due.is("20000", 20000, () -> h.count(3));
        Due.is("none", 0, () -> h.round(2000));
        Due.is("none", 0, () -> h.round(0));
        Due.is("a number out of range", Due.ARGUMENT, () -> h.round(2001));
        h.start(0);
        Due.is("since start", 2000, () -> h.round(2000));
    }

    // ------------------------------------------------------------------ promises 10 to 14

    private static void outOfRange(String what, IntSupplier... calls) {
        for (int i = 0; i < calls.length; i++) {
            Due.is(what + " " + i, Due.ARGUMENT, calls[i]);
        }
    }

    private static void hasFrom0To25() {
        Due.sentence("`int has(int place) throws IllegalArgumentException`: What a PLACE has.");
        AsOneHouse h = Due.house(0);
        h.put(0, 5);
        h.put(25, 6);
        Due.is("a", 5, () -> h.has(0));
        Due.is("z", 6, () -> h.has(25));
        Due.is("b", 0, () -> h.has(1));
        outOfRange("has", () -> h.has(LEAST), () -> h.has(-1), () -> h.has(26), () -> h.has(GREATEST));
    }

    private static void hadFrom0ToTheClock() {
        Due.sentence("What a PLACE had when the CLOCK was clock, 0 .. CLOCK (in all WAYS");
        for (int way = 0; way <= 4; way++) {
            AsOneHouse h = Due.house(way);
            Due.is("0 of 0", 0, () -> h.had(0, 0));
            outOfRange("had at 0", () -> h.had(0, 1), () -> h.had(0, -1), () -> h.had(26, 0), () -> h.had(-1, 0));
            h.put(0, 5);
            Due.tell(h, 0, "a=6;atom{a=7;z=1;}");
            Due.is("all", 6, () -> h.round(9));
            int[] first = {0, 5, 6, 7};
            for (int c = 0; c <= 3; c++) {
                int clock = c;
                Due.is("way " + way + ", a at " + c, first[c], () -> h.had(0, clock));
                Due.is("way " + way + ", z at " + c, c == 3 ? 1 : 0, () -> h.had(25, clock));
                Due.is("way " + way + ", b at " + c, 0, () -> h.had(1, clock));
            }
            outOfRange("had at 3", () -> h.had(0, 4), () -> h.had(0, -1), () -> h.had(0, GREATEST),
                    () -> h.had(0, LEAST), () -> h.had(26, 3), () -> h.had(-1, 3), () -> h.had(26, 4));
        }
    }

    private static void hadOfWhatIsOnlyTaken() {
        Due.sentence("what BLOCKS only TOOK is not told; by KEPT and ONE: what it had when they had ended");
        for (int way = 3; way <= 4; way++) {
            AsOneHouse h = Due.house(way);
            h.put(23, 5);
            Due.tell(h, 0, "atom{x=6;y=1;quit;}atom{x=7;x=8;}");
            Due.turns(h, "take x and y", "0:0 0:0 0:0");
            Due.is("has", 6, () -> h.has(23));
            Due.is("is not told", 5, () -> h.had(23, 1));
            Due.is("y", 0, () -> h.had(24, 1));
            h.put(0, 1);
            Due.is("is not told at a later clock", 5, () -> h.had(23, 2));
            Due.turns(h, "quit", "0:0");
            Due.is("clock", 3, () -> h.count(2));
            Due.is("what it had when that had ended", 5, () -> h.had(23, 3));
            Due.turns(h, "7, 8", "0:0 0:0 0:0");
            Due.is("is not told", 5, () -> h.had(23, 3));
            Due.turns(h, "end", "0:0");
            Due.is("what it had before", 5, () -> h.had(23, 3));
            Due.is("what it had when that had ended", 8, () -> h.had(23, 4));
        }
    }

    private static void hadOfManyPasts() {
        Due.sentence("What a PLACE had when the CLOCK was clock");
        AsOneHouse h = new AsOneHouse();
        // 90 of 91 turns write, up to the 20000th.
        Due.tell(h, 0, "while(1){" + "A=A+1;x=A;".repeat(90) + "}");
        int clock = 20000 - (20000 + 90) / 91;
        for (int way = 0; way <= 4; way++) {
            h.start(way);
            Due.is("all is forgotten", Due.ARGUMENT, () -> h.had(23, 1));
            for (int i = 0; i < 10; i++) {
                Due.is("2000", 2000, () -> h.round(2000));
            }
            Due.is("clock", clock, () -> h.count(2));
            for (int c = 0; c <= clock; c += 997) {
                int when = c;
                Due.is("way " + way + ", had at " + c, c, () -> h.had(23, when));
            }
            Due.is("at last", clock, () -> h.had(23, clock));
            Due.is("another place", 0, () -> h.had(0, clock));
            Due.is("not yet", Due.ARGUMENT, () -> h.had(23, clock + 1));
        }
    }

    private static void registerFrom0To25() {
        Due.sentence("What a REGISTER, 0 .. 25, of a THREAD has.");
        AsOneHouse h = Due.house(0);
        Due.tell(h, 0, "A=1;Z=2;");
        Due.tell(h, 5, "A=3;Z=-2147*1000000-483648;");
        h.round(9);
        Due.is("A of 0", 1, () -> h.register(0, 0));
        Due.is("Z of 0", 2, () -> h.register(0, 25));
        Due.is("A of 5", 3, () -> h.register(5, 0));
        Due.is("Z of 5", LEAST, () -> h.register(5, 25));
        Due.is("of one without a program", 0, () -> h.register(3, 25));
        outOfRange("register", () -> h.register(6, 0), () -> h.register(-1, 0), () -> h.register(0, 26),
                () -> h.register(0, -1), () -> h.register(6, 26), () -> h.register(LEAST, 0),
                () -> h.register(GREATEST, 0), () -> h.register(0, LEAST), () -> h.register(0, GREATEST));
    }

    private static void saidThatThereIs() {
        Due.sentence("SAID i: the value, or who: the THREAD; there is none: IndexOutOfBoundsException.");
        AsOneHouse h = Due.house(0);
        Due.is("none yet", Due.INDEX, () -> h.said(0, false));
        Due.tell(h, 5, "say 7;say -2147*1000000-483648;");
        Due.turns(h, "one", "5:0");
        Due.is("the value", 7, () -> h.said(0, false));
        Due.is("who", 5, () -> h.said(0, true));
        Due.is("no second one yet", Due.INDEX, () -> h.said(1, false));
        Due.is("no second one yet", Due.INDEX, () -> h.said(1, true));
        Due.turns(h, "two", "5:0");
        Due.is("the value", LEAST, () -> h.said(1, false));
        for (int i : new int[] {LEAST, -1, 2, 199, 200, GREATEST}) {
            Due.is("said(" + i + ")", Due.INDEX, () -> h.said(i, false));
            Due.is("said(" + i + ")", Due.INDEX, () -> h.said(i, true));
        }
    }

    private static void lookFrom0To7() {
        Due.sentence("Of a THREAD, what 0: 0 no PROGRAM, 1 ready, 2 within a BLOCK, 3 ASLEEP, 4 OVER, 5 DEAD");
        AsOneHouse h = full();
        int[] due = {2, 3, 5, 4, 1, 0};
        for (int t = 0; t < 6; t++) {
            int thread = t;
            Due.is("look " + t, due[t], () -> h.look(thread, 0));
        }
        outOfRange("look", () -> h.look(6, 0), () -> h.look(-1, 0), () -> h.look(0, 8), () -> h.look(0, -1),
                () -> h.look(LEAST, 0), () -> h.look(GREATEST, 0), () -> h.look(0, LEAST), () -> h.look(0, GREATEST));
    }

    private static void lookAsleepAndOutside() {
        Due.sentence("1: its LEVELS (0 outside, ASLEEP too), 2: READS of all LEVELS (ASLEEP: with which it sleeps), "
                + "3: PLACES in WRITES (each once; 0 outside), 4: how often it RESTARTED, "
                + "5: START (in all WAYS the CLOCK at its begin or when it RESTARTED last, or as VALUES tells; "
                + "0 outside and ASLEEP), 6: the value of fail with which it died (0 without), "
                + "7: how many BLOCKS ended with their }.");
        for (int way = 0; way <= 4; way++) {
            AsOneHouse h = Due.house(way);
            h.put(0, 1);
            Due.tell(h, 0, "atom{x=1;}atom{quit;}atom{y=1;part{y=2;A=v;z=1;part{A=v;A=w;retry;}}}");
            Due.looks(h, 0, "outside", 1, 0, 0, 0, 0, 0, 0, 0);
            Due.turns(h, "begin", "0:0");
            Due.looks(h, 0, "start", 2, 1, 0, 0, 0, 1, 0, 0);
            Due.turns(h, "x =, end", "0:0 0:0");
            Due.looks(h, 0, "outside", 1, 0, 0, 0, 0, 0, 0, 1);
            Due.turns(h, "begin, quit", "0:0 0:0");
            Due.looks(h, 0, "a quit block did not end with its }", 1, 0, 0, 0, 0, 0, 0, 1);
            Due.turns(h, "begin, y, y, v, z, v, w", "0:0 0:0 0:0 0:0 0:0 0:0 0:0");
            Due.looks(h, 0, "three levels, v twice, y once", 2, 3, 3, 2, 0, 2, 0, 1);
            Due.turns(h, "asleep", "0:3");
            Due.looks(h, 0, "asleep", 3, 0, 2, 0, 0, 0, 0, 1);
            h.put(21, 1);
            int clock = h.count(2);
            Due.turns(h, "it wakes", "0:6");
            Due.looks(h, 0, "it restarted, start is the clock", 2, 1, 0, 0, 1, clock, 0, 1);
        }
        AsOneHouse h = Due.house(0);
        Due.tell(h, 0, "fail -1;");
        Due.looks(h, 0, "not dead yet", 1, 0, 0, 0, 0, 0, 0, 0);
        Due.turns(h, "dead", "0:5");
        Due.looks(h, 0, "dead", 5, 0, 0, 0, 0, 0, -1, 0);
    }
}
