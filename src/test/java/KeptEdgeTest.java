/** The boundaries that Term IV, promises 37 to 42 and the 512 calls name: each sentence on its edge, just inside and just beyond. */
final class KeptEdgeTest {
    private static final int NONE = -1;
    private static final int MIN = Integer.MIN_VALUE;
    private static final int MAX = Integer.MAX_VALUE;
    private static final Check CHECK = new Check("KeptEdgeTest");
    private static final String AB = "aunt a 0 0 0 0; aunt b 0 0 0 0;";

    private KeptEdgeTest() {
    }

    public static void main(String[] args) {
        toldOnes();
        toldIsNoThingDone();
        forget();
        knownByK();
        fedHungers();
        fedMinutes();
        fedAllElseAsTold();
        fedAsleep();
        fedWithoutAunts();
        holdSlots();
        holdAllThatGoesOn();
        holdOver();
        restore();
        restoreUndoes();
        countOthers();
        counts();
        countHad();
        calls512();
        CHECK.end();
    }

    private static void due(String call, long got, long want) {
        CHECK.due(call, got, want);
    }

    private static void due(String call, boolean got, boolean want) {
        CHECK.due(call, got, want);
    }

    private static BabyRound of(String text) {
        return Check.of(text);
    }

    private static void toldOnes() {
        BabyRound x = of(AB);
        int number = 0;
        for (int[] one : new int[][] {{0, 0}, {0, 99}, {59, 0}, {59, 99}, {1, 1}, {58, 98}}) {
            due("37: its number", x.tell(one[0], one[1]), number++);
        }
        String s = "37: NONE, and nothing happens: no such ones";
        for (int[] one : new int[][] {{-1, 0}, {60, 0}, {61, 5}, {0, -1}, {0, 100}, {0, 101}, {-1, -1}, {60, 100}, {MIN, 0}, {MAX, 0}, {0, MIN}, {0, MAX},
            {MIN, MIN}}) {
            due(s + ", tell(" + one[0] + ", " + one[1] + ")", x.tell(one[0], one[1]), NONE);
            due(s, x.count(9), 6);
        }
        for (; number < 20; number++) {
            due("37: numbered from 0 on, 20 at most", x.tell(number, 0), number);
        }
        due("37: NONE, and nothing happens: 20 are there", x.tell(0, 0), NONE);
        due("37: NONE, and nothing happens: 20 are there", x.tell(60, 0), NONE);
        due("37: NONE, and nothing happens: 20 are there", x.count(9), 20);
        due("39: KNOWN by all 20", x.fed(20, NONE), 0);
        due("39: NONE: no such ones", x.fed(21, NONE), NONE);
        due("38: how many there were", x.forget(), 20);
        due("37: from 0 on again", x.tell(0, 0), 0);
        due("37: without AUNTS", new BabyRound().tell(59, 99), 0);
    }

    private static void toldIsNoThingDone() {
        BabyRound x = of(AB);
        x.minutes(2);
        x.tell(0, 0);
        due("15: what is TOLD is no thing done", x.count(8), 1);
        due("15: what is TOLD is no thing done", x.undo(), true);
        due("15: what is TOLD stays", x.count(9), 1);
        x.forget();
        due("15: forget() is no thing done", x.undo(), false);
        // the 20th is known, too
        BabyRound y = of("aunt a 0 0 0 0; cries=hunger;");
        for (int i = 0; i < 19; i++) {
            y.tell(0, 7);
        }
        due("37: the 20th", y.tell(5, 13), 19);
        due("39: KNOWN by k: the first k, 19", y.fed(19, NONE), 1);
        due("39: KNOWN by k: the first k, 20", y.fed(20, NONE), 0);
        y.forget();
        for (int i = 0; i < 19; i++) {
            y.tell(0, 7);
        }
        due("37: the 20th", y.tell(5, 12), 19);
        due("39: KNOWN by k: the first k, 20", y.fed(20, NONE), 1);
        due("39: KNOWN by k: the first k, 20", y.fed(20, 0), 6);
    }

    private static void forget() {
        String s = "38: All that was TOLD is forgotten: how many there were";
        BabyRound x = of("aunt a 0 0 0 0; cries=hunger;");
        due(s, x.forget(), 0);
        x.tell(0, 5);
        due(s, x.forget(), 1);
        due(s, x.forget(), 0);
        due(s, x.count(9), 0);
        due(s, x.fed(1, NONE), NONE);
        due(s, x.fed(0, NONE), 100);
        x.tell(0, 9);
        due(s + ", another one", x.fed(1, 0), 8);
    }

    private static void knownByK() {
        String s = "39: FED, as KNOWN by k: the first k";
        BabyRound x = of("aunt a 0 0 0 0; cries=hunger/10;");
        x.tell(0, 3);
        x.tell(4, 3);
        x.tell(9, 4);
        // HUNGER 29 .. 38; then 25 .. 34 as well; then 30 .. 39
        due(s + ", 0", x.fed(0, NONE), 100);
        due(s + ", 1", x.fed(1, NONE), 10);
        due(s + ", 1", x.fed(1, 0), 29);
        due(s + ", 1", x.fed(1, 9), 38);
        due(s + ", 1", x.fed(1, 10), NONE);
        due(s + ", 2", x.fed(2, NONE), 6);
        due(s + ", 2", x.fed(2, 0), 29);
        due(s + ", 2", x.fed(2, 5), 34);
        due(s + ", 2", x.fed(2, 6), NONE);
        due(s + ", 3", x.fed(3, NONE), 5);
        due(s + ", 3", x.fed(3, 0), 30);
        due(s + ", 3", x.fed(3, 4), 34);
        String none = "39: NONE: no such ones, not so many";
        for (int k : new int[] {4, 5, 20, 21, -1, -2, MIN, MAX}) {
            due(none + ", k " + k, x.fed(k, NONE), NONE);
            due(none + ", k " + k, x.fed(k, 0), NONE);
        }
        for (int i : new int[] {5, 6, 99, 100, -2, -3, MIN, MAX}) {
            due(none + ", i " + i, x.fed(3, i), NONE);
        }
        due(none, x.fed(0, 100), NONE);
        due(none, x.fed(0, -2), NONE);
        due(s + ", 0, the last", x.fed(0, 99), 99);
        due(s + ", 0, the first", x.fed(0, 0), 0);
        // against one another: never
        x.tell(0, 4);
        due(s + ", 4", x.fed(4, NONE), 0);
        due(none, x.fed(4, 0), NONE);
        due(s + ", 3 yet", x.fed(3, NONE), 5);
    }

    private static void fedHungers() {
        String s = "39: HUNGER in the beginning (0 .. 99)";
        BabyRound x = of("baby 50 0 0 0; aunt a 0 0 0 0; hungers=0; cries=hunger;");
        int number = 0;
        for (int hunger : new int[] {0, 1, 49, 50, 51, 98, 99}) {
            x.forget();
            number = x.tell(0, hunger);
            due(s, number, 0);
            due(s + ", " + hunger, x.fed(1, NONE), 1);
            due(s + ", " + hunger, x.fed(1, 0), hunger);
            due(s + ", " + hunger, x.fed(1, 1), NONE);
        }
        // held to 99: 98 and 99 are alike behind the first MINUTE
        BabyRound y = of("aunt a 0 0 0 0; cries=hunger;");
        y.tell(0, 99);
        due(s + ", held to 99", y.fed(1, NONE), 2);
        due(s + ", the least first", y.fed(1, 0), 98);
        due(s + ", the least first", y.fed(1, 1), 99);
        y.tell(0, 0);
        due(s + ", HUNGER 1 at least behind it", y.fed(2, NONE), 0);
    }

    private static void fedMinutes() {
        String s = "IV: what its CRY was in minute n (0 .. 59) of the text";
        for (int minute : new int[] {0, 1, 2, 57, 58, 59}) {
            // CRY is HUNGER less 20, in that minute HUNGER in the beginning and minute + 1 more
            BabyRound x = of("aunt a 0 0 0 0; cries=hunger-20;");
            x.tell(minute, 50);
            due(s + ", " + minute, x.fed(1, NONE), 1);
            due(s + ", " + minute, x.fed(1, 0), 69 - minute);
            x.minutes(30);
            due(s + ", whatever the minute now", x.fed(1, 0), 69 - minute);
        }
        // two minutes that are told apart by one
        BabyRound y = of("aunt a 0 0 0 0; cries=if held<60 then 0 else hunger;");
        y.tell(58, 0);
        due(s + ", 58", y.fed(1, NONE), 100);
        y.tell(59, 70);
        due(s + ", 59", y.fed(2, NONE), 1);
        due(s + ", 59", y.fed(2, 0), 10);
    }

    private static void fedAllElseAsTold() {
        String s = "IV: AUNT 0 having it all the time, nothing by hand, all else as told";
        BabyRound x = of("baby 7 3 4 5; aunt a 1 0 0 0; aunt b 9 0 0 0; tires=2; wonders=3; winds=4; fresh 50;"
            + "cries=hunger+tired+wonder+wind+50*seen+9*rock-9; spits=0;");
        // in minute 1: HUNGER and 2, TIRED 7, WONDER 10, WIND 13
        x.tell(1, 42);
        due(s, x.fed(1, NONE), 1);
        due(s, x.fed(1, 0), 10);
        x.mother(true);
        due(s + ": its mother out of sight", x.fed(1, 0), 10);
        x.hand(1);
        due(s + ": AUNT 0", x.fed(1, 0), 10);
        x.nurse();
        x.lay();
        x.minutes(70);
        due(s + ": from minute 0", x.fed(1, 0), 10);
        due(s, x.fed(1, NONE), 1);
        // by its SEED: it spits, WIND is 0
        BabyRound y = of("baby 0 0 0 60; aunt a 0 0 0 0; spits=50; seed 5; cries=wind+hunger;");
        int minute = 0;
        while (Check.lot(100, 5, minute) >= 50) {
            minute++;
        }
        y.tell(minute, 90 + minute);
        y.tell(minute + 1, 32 + minute);
        due(s + ": SEED", y.fed(1, 0), 29);
        due(s + ": SEED", y.fed(2, NONE), 0);
        y.forget();
        y.tell(minute, 90 + minute);
        y.tell(minute + 1, 31 + minute);
        due(s + ": SEED", y.fed(2, 0), 29);
    }

    private static void fedAsleep() {
        String s = "IV: it falls ASLEEP as the LAWS tell";
        BabyRound x = of("aunt a 0 0 0 0; hungers=0; sleeps=hunger-50; cries=5;");
        x.tell(0, 5);
        due(s + ", the first MINUTE is awake", x.fed(1, NONE), 100);
        x.tell(1, 5);
        due(s + ", awake", x.fed(2, NONE), 51);
        due(s + ", awake", x.fed(2, 50), 50);
        x.forget();
        x.tell(59, 0);
        due(s + ", ASLEEP", x.fed(1, NONE), 49);
        due(s + ", ASLEEP", x.fed(1, 0), 51);
        due(s + ", ASLEEP", x.fed(1, 48), 99);
    }

    private static void fedWithoutAunts() {
        String s = "39: without AUNTS, CRY is 0";
        BabyRound x = of("cries=5;");
        x.tell(0, 0);
        x.tell(59, 0);
        due(s, x.fed(2, NONE), 100);
        due(s, x.fed(2, 99), 99);
        x.tell(3, 1);
        due(s, x.fed(3, NONE), 0);
    }

    private static void holdSlots() {
        BabyRound x = of(AB);
        for (int slot : new int[] {-1, -2, 3, 4, MIN, MAX}) {
            due("40: false: no such one, hold(" + slot + ")", x.hold(slot), false);
            due("41: false: no such one, restore(" + slot + ")", x.restore(slot), false);
            due("42: 10 SLOTS that hold something", x.count(10), 0);
        }
        for (int slot = 0; slot < 3; slot++) {
            due("41: false: nothing is held", x.restore(slot), false);
            due("40: true", x.hold(slot), true);
            due("42: 10 SLOTS that hold something", x.count(10), slot + 1);
            due("40: true, again", x.hold(slot), true);
            due("42: 10 SLOTS that hold something", x.count(10), slot + 1);
        }
        BabyRound none = new BabyRound();
        none.minutes(3);
        due("40: without AUNTS", none.hold(2), true);
        none.minutes(4);
        due("41: without AUNTS", none.restore(2), true);
        due("41: without AUNTS", none.count(1), 3);
        due("41: another SLOT holds nothing", none.restore(1), false);
        due("41: another SLOT holds nothing", none.restore(0), false);
    }

    private static void holdAllThatGoesOn() {
        String s = "40: All that goes on (not what is TOLD, nor the tape) is held";
        BabyRound x = of("baby 10 20 70 40; aunt a 1 2 3 4; aunt b 5 6 7 8; aunt c 1 1 1 1; tires=2; wonders=1; winds=3; cries=held-1; spits=70; seed 8;");
        x.hand(1);
        x.minutes(4);
        x.hand(2);
        x.hand(0);
        x.mother(true);
        x.cloth(true);
        x.minutes(2);
        x.lay();
        x.minutes(7);
        x.hold(0);
        due("40: that is no thing done", x.count(8), 9);
        String held = noted(x);
        x.minutes(60);
        x.hand(2);
        x.nurse();
        x.mother(false);
        x.cloth(false);
        x.minutes(9);
        x.tell(1, 1);
        Check.put(x, "fresh");
        due(s, noted(x).equals(held), false);
        x.restore(0);
        due(s, noted(x).equals(held), true);
        due(s + ", the tape", x.count(7), 5);
        due(s + ", what is TOLD", x.count(9), 1);
        x.forget();
        x.back(5);
        x.restore(0);
        due(s + ", the tape", x.count(7), 0);
        due(s + ", what is TOLD", x.count(9), 0);
    }

    /** How it stands, but for what can be undone, is TOLD, on the tape or held. */
    private static String noted(BabyRound x) {
        StringBuilder all = new StringBuilder();
        for (int what = 0; what < 12; what++) {
            all.append(x.now(what)).append(' ');
        }
        for (int i = 0; i < 21; i++) {
            all.append(x.aunt(i / 7, i % 7)).append(' ');
        }
        for (int what : new int[] {0, 1, 2, 3, 4, 5, 6, 11, 12, 13}) {
            all.append(x.count(what)).append(' ');
        }
        return all.append(x.crying(240)).append(' ').append(x.silk(99, 9)).toString();
    }

    private static void holdOver() {
        BabyRound x = of(AB);
        for (int slot = 0; slot < 3; slot++) {
            x.minutes(1);
            x.hold(slot);
        }
        x.minutes(1);
        for (int slot = 2; slot >= 0; slot--) {
            due("41: from what a SLOT holds", x.restore(slot), true);
            due("41: from what a SLOT holds", x.count(1), slot + 1);
        }
        x.minutes(9);
        x.hold(1);
        x.restore(0);
        due("40: held over", x.count(1), 1);
        x.restore(1);
        due("40: held over", x.count(1), 10);
        x.restore(2);
        due("40: the other as it was", x.count(1), 3);
    }

    private static void restore() {
        String s = "41: (that stays there";
        BabyRound x = of(AB + "cries=held;");
        x.minutes(5);
        x.hold(0);
        for (int i = 0; i < 4; i++) {
            x.minutes(3);
            x.hand(1);
            due(s, x.restore(0), true);
            due(s, x.count(1), 5);
            due(s, x.now(4), 0);
            due(s, x.count(10), 1);
        }
        String t = "41: false, and nothing happens: no such one, nothing is held";
        x.minutes(3);
        for (int slot : new int[] {-1, 1, 2, 3, MIN, MAX}) {
            due(t, x.restore(slot), false);
            due(t, x.count(1), 8);
            due(t, x.count(8), 1);
        }
    }

    private static void restoreUndoes() {
        String s = "41: nothing can be undone then";
        BabyRound x = of(AB);
        x.minutes(1);
        x.minutes(1);
        x.hold(0);
        due("40: what is done can be undone yet", x.count(8), 2);
        x.minutes(1);
        x.restore(0);
        due(s, x.count(8), 0);
        due(s, x.undo(), false);
        due(s, x.count(1), 2);
        x.minutes(1);
        due(s + ", but what is done behind it", x.undo(), true);
        due(s + ", but what is done behind it", x.count(1), 2);
        due(s, x.undo(), false);
        // from fifty, too
        for (int i = 0; i < 55; i++) {
            x.cloth(true);
        }
        due(s, x.count(8), 50);
        x.restore(0);
        due(s, x.count(8), 0);
        due(s, x.undo(), false);
        for (int i = 1; i <= 50; i++) {
            x.cloth(true);
            due(s, x.count(8), i);
        }
        x.cloth(true);
        due(s, x.count(8), 50);
    }

    private static void countOthers() {
        BabyRound x = of(AB);
        for (int what : new int[] {-1, -2, 14, 15, MIN, MAX}) {
            due("42: NONE for others, count(" + what + ")", x.count(what), NONE);
            due("42: NONE for others, count(" + what + ")", new BabyRound().count(what), NONE);
        }
    }

    private static void counts() {
        BabyRound x = of("baby 0 0 55 0; aunt a 0 0 0 3; aunt b 1 0 0 5; cries=rock*2; spits=100; fresh 4; feeds 6;");
        x.minutes(3);
        x.hand(1);
        x.minutes(2);
        x.lay();
        x.minutes(60);
        x.hand(0);
        x.minutes(1);
        x.lay();
        x.tell(0, 0);
        x.tell(0, 0);
        x.hold(1);
        Check.put(x, "abc");
        // minutes 3 + 2 + 60 + 1; CRY 2 * 2; laughs 3 + 1; SILK 3 * 3 + 2 * 5 + 3
        int[] due = {2, 66, 4, 4, 22, 2, 2, 3, 8, 2, 1, 4, 6, 3};
        for (int what = 0; what < 14; what++) {
            due("42: count(" + what + ")", x.count(what), due[what]);
        }
        BabyRound none = new BabyRound();
        int[] nothing = {0, 0, 0, 0, 0, 0, 0, 0, 0, 0, 0, 20, 30, 0};
        for (int what = 0; what < 14; what++) {
            due("42: of a new object, count(" + what + ")", none.count(what), nothing[what]);
        }
    }

    private static void countHad() {
        String s = "42: 13 AUNTS who have it or had it (bits)";
        BabyRound x = of("aunt a 0 0 0 0; aunt b 0 0 0 0; aunt c 0 0 0 0; aunt d 0 0 0 0; aunt e 0 0 0 0; aunt f 0 0 0 0;");
        due(s, x.count(13), 1);
        int[] way = {5, 2, 0, 5, 4, 1, 3};
        int[] bits = {33, 37, 37, 37, 53, 55, 63};
        for (int i = 0; i < way.length; i++) {
            x.hand(way[i]);
            due(s, x.count(13), bits[i]);
            due("42: 6 how often it was handed on", x.count(6), i + 1);
        }
        x.undo();
        due(s + ", undone", x.count(13), 55);
        due("42: 6 how often it was handed on, undone", x.count(6), 6);
        x.hand(7);
        due(s + ", refused", x.count(13), 55);
        due(s + ", refused", x.count(6), 6);
        due(s + ", nobody", new BabyRound().count(13), 0);
    }

    /** The object is as good in its last calls as in its first ones. */
    private static void calls512() {
        String s = "An object is used for at most 512 calls";
        BabyRound x = new BabyRound();
        int calls = 0;
        for (; calls < 400; calls += 4) {
            due(s + ", call " + calls, x.minutes(240), (calls / 4 + 1) * 240);
            x.cloth(true);
            x.undo();
            due(s + ", call " + calls, x.count(8), Math.min(calls / 4 + 1, 49));
        }
        // a text of three calls, as late as that
        x.feed(0x61756e74, 0x20612031, 0x20322033, 0x20343b63, 0x72696573);
        x.feed(0x3d686572, 0x3b202020, 0x20202020, 0x20202020, 0x20202020);
        due(s + ", read", x.read(), 1);
        calls += 3;
        x.feed(0x61756e74, 0x20612031, 0x20322033, 0x20343b63, 0x72696573);
        x.feed(0x3d68656c, 0x643b2020, 0x20202020, 0x20202020, 0x20202020);
        due(s + ", read", x.read(), 0);
        calls += 3;
        int minute = 0;
        for (; calls < 512; calls++) {
            minute++;
            due(s + ", call " + calls, x.minutes(1), minute);
        }
        due(s + ", behind them what is free is answered at least", x.count(2), (99 * 100) / 2 + 99 * (minute - 99));
    }
}
