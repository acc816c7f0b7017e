/** Promise 9, and the limit of turns of promise 8. */
public final class RoundTest {
    public static void main(String[] args) {
        wrongNumbers();
        roundFromNoughtToFive();
        endsWhenAllSleep();
        goesOnWhenOneWakes();
        noMoreTurnsThan20000();
        Due.end();
    }

    private static void wrongNumbers() {
        AsOneHouse h = Due.house(0);
        Due.tell(h, 0, "while (1) { }");
        Due.is("-1", Due.ARGUMENT, () -> h.round(-1));
        Due.is("2001", Due.ARGUMENT, () -> h.round(2001));
        Due.is("none was taken", 0, () -> h.count(3));
        Due.is("0", 0, () -> h.round(0));
        Due.is("2000", 2000, () -> h.round(2000));
        Due.is("counted", 2000, () -> h.count(3));
    }

    private static void roundFromNoughtToFive() {
        AsOneHouse h = Due.house(0);
        Due.tell(h, 5, "say 5; say 5; say 5;");
        Due.tell(h, 2, "say 2;");
        Due.tell(h, 0, "say 0; say 0; fail 1;");
        Due.is("2 and 5 only begin", 2, () -> h.round(2));
        Due.is("each call begins with 0", 3, () -> h.round(3));
        // 0 dies, 5 says, and is over.
        Due.is("the rest", 4, () -> h.round(100));
        int[] who = {0, 2, 0, 5, 5, 5};
        Due.is("said", 6, () -> h.count(4));
        for (int i = 0; i < who.length; i++) {
            int at = i;
            Due.is("who said " + i, who[i], () -> h.said(at, true));
        }
        Due.is("none is left", 0, () -> h.round(100));
        Due.is("turns", 9, () -> h.count(3));
        Due.is("dead", 5, () -> h.look(0, 0));
        Due.is("over", 4, () -> h.look(2, 0));
    }

    private static void endsWhenAllSleep() {
        for (int way = 0; way <= 4; way++) {
            AsOneHouse h = Due.house(way);
            Due.tell(h, 1, "atom { if (x == 0) { retry; } }");
            Due.is("begin, look, asleep", 3, () -> h.round(100));
            Due.is("still asleep", 1, () -> h.round(100));
            Due.tell(h, 3, "say 1; atom { if (y == 0) { retry; } }");
            // 1 sleeps, 3 says; 1 sleeps, 3 begins, 1 sleeps, 3 looks, 1 sleeps, 3 falls asleep.
            Due.is("until both sleep", 8, () -> h.round(100));
            Due.is("asleep", 2, () -> h.count(7));
            Due.is("both still", 2, () -> h.round(100));
            Due.is("one at most", 1, () -> h.round(1));
        }
    }

    private static void goesOnWhenOneWakes() {
        AsOneHouse h = Due.house(4);
        Due.tell(h, 0, "atom { if (x == 0) { retry; } say x; }");
        Due.tell(h, 1, "say 7; x = 3;");
        // 0 begins, 1 says, 0 looks, 1 writes, 0 falls asleep, 1 is over, 0 wakes, looks, looks, says, ends, is over.
        Due.is("all", 12, () -> h.round(100));
        Due.is("said", 3, () -> h.said(1, false));
    }

    private static void noMoreTurnsThan20000() {
        AsOneHouse h = Due.house(1);
        Due.tell(h, 0, "while (1) { }");
        for (int i = 0; i < 9; i++) {
            Due.is("2000 turns", 2000, () -> h.round(2000));
        }
        Due.is("1999 more", 1999, () -> h.round(1999));
        Due.is("the 20000th", 1, () -> h.round(7));
        Due.is("none", 0, () -> h.round(7));
        Due.is("turn", Due.STATE, () -> h.turn(0));
        Due.is("turn of one without a program", Due.STATE, () -> h.turn(5));
        Due.is("a wrong thread comes first", Due.ARGUMENT, () -> h.turn(6));
        Due.is("turns", 20000, () -> h.count(3));
        h.start(1);
        Due.is("turns again", 0, () -> h.turn(0));
    }
}
