import java.util.function.IntUnaryOperator;

/** The boundaries that Term III and promises 16 to 36 name: each sentence on its edge, just inside and just beyond. */
final class WouldEdgeTest {
    private static final int NONE = -1;
    private static final int NOT = -2;
    private static final int MIN = Integer.MIN_VALUE;
    private static final int MAX = Integer.MAX_VALUE;
    private static final Check CHECK = new Check("WouldEdgeTest");
    private static final String AB = "aunt a 0 0 0 0; aunt b 0 0 0 0;";
    private static final String ABC = AB + "aunt c 0 0 0 0;";
    private static final String SIX = ABC + "aunt d 0 0 0 0; aunt e 0 0 0 0; aunt f 0 0 0 0;";

    private WouldEdgeTest() {
    }

    public static void main(String[] args) {
        bounds();
        boundsOfAunts();
        noneAheadOfNot();
        lastMinuteAsleep();
        withoutAunts();
        alone();
        nothingHappens();
        asOfNow();
        askedAhead();
        asleepToo();
        crying();
        next();
        order();
        orderWithSleep();
        orderAt();
        sitters();
        luck();
        fairest();
        leftOut();
        wants();
        wantsAnother();
        moment();
        beat();
        roundByHeld();
        roundByCry();
        roundToFewest();
        roundAwake();
        roundAnswers();
        bestRound();
        feedAt();
        inSight();
        peak();
        merry();
        rests();
        restsOfSix();
        silk();
        likes();
        sleeps();
        CHECK.end();
    }

    private static void due(String call, long got, long want) {
        CHECK.due(call, got, want);
    }

    private static void due(String call, boolean got, boolean want) {
        CHECK.due(call, got, want);
    }

    private static BabyRound of(String text) {
        return Check.of(text);
    }

    /** From least to most it answers, and refuses all else; on the edges that is told apart. */
    private static void bound(String sentence, IntUnaryOperator call, int least, int most, int refusal) {
        for (int n : new int[] {least - 2, least - 1, least, least + 1, most - 1, most, most + 1, most + 2, MIN, MAX, MIN + least, -most}) {
            boolean refused = n < least || n > most;
            due(sentence + ", " + n, call.applyAsInt(n) == refusal, refused);
        }
    }

    private static void bounds() {
        BabyRound x = of("baby 1 1 60 1; aunt a 1 0 0 9 sits; aunt b 2 0 0 9; tires=2; sleeps=tired-200; cries=rock; spits=100; fresh 0;");
        x.minutes(1);
        bound("16: n MINUTES (0 .. 240)", n -> x.crying(n), 0, 240, NONE);
        for (int w = 0; w < 2; w++) {
            int what = w;
            bound("17: n MINUTES (1 .. 120)", n -> x.next(n, what), 1, 120, NONE);
            bound("22: n MINUTES (1 .. 120)", n -> x.wants(n, what), 1, 120, NONE);
            bound("24: n MINUTES (1 .. 120)", n -> x.beat(1, n, what), 1, 120, NONE);
            bound("26: m MINUTES (1 .. 10)", m -> x.fairest(m, what), 1, 10, NONE);
            bound("27: m MINUTES (1 .. 10)", m -> x.leftOut(m, what), 1, 10, NONE);
            bound("28: n MINUTES (1 .. 120)", n -> x.bestRound(n, what), 1, 120, NONE);
            bound("29: n MINUTES (1 .. 60)", n -> x.feedAt(n, what), 1, 60, NONE);
            bound("30: n MINUTES (1 .. 60)", n -> x.inSight(n, what), 1, 60, NONE);
            bound("31: n MINUTES (1 .. 240)", n -> x.peak(n, what), 1, 240, NONE);
        }
        BabyRound y = of("baby 1 1 60 1; aunt a 1 0 0 9 sits; aunt b 2 0 0 9; cries=rock; spits=100; fresh 0;");
        bound("17: what 0, 1", what -> y.next(5, what), 0, 1, NONE);
        bound("22: what 0, 1", what -> y.wants(5, what), 0, 1, NONE);
        bound("24: what 0, 1", what -> y.beat(0, 5, what), 0, 1, NONE);
        bound("26: what 0, 1", what -> y.fairest(5, what), 0, 1, NONE);
        bound("27: what 0, 1", what -> y.leftOut(5, what), 0, 1, NONE);
        bound("28: what 0, 1", what -> y.bestRound(5, what), 0, 1, NONE);
        bound("29: what 0, 1", what -> y.feedAt(5, what), 0, 1, NONE);
        bound("30: what 0, 1", what -> y.inSight(5, what), 0, 1, NONE);
        bound("31: what 0, 1", what -> y.peak(5, what), 0, 1, NONE);
        bound("23: n MINUTES (1 .. 120)", n -> y.moment(n), 1, 120, -100000);
        BabyRound z = of("baby 1 1 60 1; aunt a 1 0 0 9 sits; aunt b 2 0 0 9; cries=rock; spits=100; fresh 0;");
        bound("18: m MINUTES (1 .. 10)", m -> z.order(m), 1, 10, NONE);
        bound("19: m MINUTES (1 .. 10)", m -> z.orderAt(m, 0), 1, 10, NONE);
        bound("19: the i-th AUNT of it", i -> z.orderAt(1, i), 0, 1, NONE);
        bound("20: m MINUTES (1 .. 10)", m -> z.sitters(m), 1, 10, NONE);
        bound("21: m MINUTES (1 .. 10)", m -> z.luck(0, m), 1, 10, NONE);
        bound("33: m MINUTES (1 .. 10), how many", m -> z.rests(m, NONE), 1, 10, NONE);
        bound("33: m MINUTES (1 .. 10), which", m -> z.rests(m, 0), 1, 10, NONE);
        bound("34: n MINUTES (0 .. 120)", n -> z.silk(n, 1), 0, 120, NONE);
        bound("34: s SEEDS (1 .. 20)", s -> z.silk(1, s), 1, 20, NONE);
        BabyRound w = of("baby 1 1 60 1; aunt a 1 0 0 9 sits; aunt b 2 0 0 9; cries=rock; spits=100; fresh 0;");
        for (int v = 0; v < 3; v++) {
            int what = v;
            bound("25: RULES 0 .. 3", rule -> w.round(rule, 1, 5, what), 0, 3, NONE);
            bound("25: m 1 .. 20", m -> w.round(0, m, 5, what), 1, 20, NONE);
            bound("25: m 1 .. 20, by 3 too", m -> w.round(3, m, 5, what), 1, 20, NONE);
            bound("25: n MINUTES (1 .. 240)", n -> w.round(1, 3, n, what), 1, 240, NONE);
        }
        bound("25: what 0 .. 2", what -> w.round(2, 3, 5, what), 0, 2, NONE);
    }

    private static void boundsOfAunts() {
        String[] texts = {"aunt a 0 0 0 0;", AB, SIX};
        int[] counts = {1, 2, 6};
        for (int i = 0; i < 3; i++) {
            BabyRound x = of(texts[i] + "cries=1;");
            int most = counts[i] - 1;
            bound("21: NONE: no such AUNT", aunt -> x.luck(aunt, 1), 0, Math.max(1, most), NONE, most);
            bound("24: NONE: no such AUNT", aunt -> x.beat(aunt, 1, 0), 0, Math.max(1, most), NONE, most);
            bound("35: NONE: no such AUNT", aunt -> x.likes(aunt, true), 0, Math.max(1, most), NONE, most);
        }
    }

    private static void bound(String sentence, IntUnaryOperator call, int least, int most, int refusal, int really) {
        for (int n : new int[] {least - 2, least - 1, least, most - 1, most, most + 1, most + 2, 6, 7, MIN, MAX}) {
            boolean refused = n < least || n > really;
            due(sentence + ", " + n + " of " + (really + 1), call.applyAsInt(n) == refusal, refused);
        }
    }

    private static void asleepAnswers(String when, BabyRound x, int due) {
        for (int what = 0; what < 2; what++) {
            due("17: " + when, x.next(1, what), due);
            due("22: " + when, x.wants(1, what), due);
            due("26: " + when, x.fairest(1, what), due);
            due("27: " + when, x.leftOut(1, what), due);
            due("29: " + when, x.feedAt(1, what), due);
        }
        due("18: " + when, x.order(1), due);
        due("19: " + when, x.orderAt(1, 0), due);
        due("19: " + when + ", i beyond the AUNTS", x.orderAt(1, 6), due);
        due("20: " + when, x.sitters(1), due);
        due("33: " + when, x.rests(1, NONE), due);
        due("33: " + when, x.rests(1, 0), due);
        due("33: " + when, x.rests(1, 64), due);
    }

    private static void noneAnswers(String when, BabyRound x) {
        for (int wrong : new int[] {0, 121, -1}) {
            due("17: NONE, " + when, x.next(wrong, 0), NONE);
            due("22: NONE, " + when, x.wants(wrong, 0), NONE);
            due("24: NONE, " + when, x.beat(0, wrong, 0), NONE);
        }
        for (int wrong : new int[] {0, 11, -1}) {
            due("18: NONE, " + when, x.order(wrong), NONE);
            due("19: NONE (looked at first), " + when, x.orderAt(wrong, 0), NONE);
            due("20: NONE, " + when, x.sitters(wrong), NONE);
            due("21: NONE, " + when, x.luck(0, wrong), NONE);
            due("26: NONE, " + when, x.fairest(wrong, 0), NONE);
            due("27: NONE, " + when, x.leftOut(wrong, 0), NONE);
            due("33: NONE (looked at first), " + when, x.rests(wrong, 0), NONE);
        }
        for (int wrong : new int[] {0, 61, -1}) {
            due("29: NONE, " + when, x.feedAt(wrong, 0), NONE);
        }
        for (int wrong : new int[] {-1, 2}) {
            due("17: NONE, " + when, x.next(1, wrong), NONE);
            due("22: NONE, " + when, x.wants(1, wrong), NONE);
            due("24: NONE, " + when, x.beat(0, 1, wrong), NONE);
            due("26: NONE, " + when, x.fairest(1, wrong), NONE);
            due("27: NONE, " + when, x.leftOut(1, wrong), NONE);
            due("29: NONE, " + when, x.feedAt(1, wrong), NONE);
        }
        due("19: NONE (looked at first), i below 0, " + when, x.orderAt(1, -1), NONE);
        due("33: NONE (looked at first), i below NONE, " + when, x.rests(1, -2), NONE);
        due("21: NONE: no such AUNT, " + when, x.luck(-1, 1), NONE);
        due("21: NONE: no such AUNT, " + when, x.luck(6, 1), NONE);
        due("24: NONE: no such AUNT, " + when, x.beat(-1, 1, 0), NONE);
        due("24: NONE: no such AUNT, " + when, x.beat(6, 1, 0), NONE);
    }

    private static void noneAheadOfNot() {
        BabyRound x = of(AB);
        x.lay();
        asleepAnswers("-2: it is ASLEEP", x, NOT);
        due("21: -2: it is ASLEEP", x.luck(1, 1), NOT);
        due("24: -2: it is ASLEEP", x.beat(0, 1, 0), NOT);
        due("24: -2: it is ASLEEP", x.beat(1, 1, 1), NOT);
        noneAnswers("ASLEEP", x);
        BabyRound none = new BabyRound();
        asleepAnswers("-2: no AUNTS", none, NOT);
        due("21: NONE: no such AUNT, no AUNTS", none.luck(0, 1), NONE);
        due("24: NONE: no such AUNT, no AUNTS", none.beat(0, 1, 0), NONE);
        noneAnswers("no AUNTS", none);
    }

    private static void lastMinuteAsleep() {
        BabyRound x = of(AB);
        x.lay();
        x.minutes(59);
        asleepAnswers("-2: it is ASLEEP for the 60th MINUTE", x, NOT);
        due("21: -2: it is ASLEEP for the 60th MINUTE", x.luck(0, 1), NOT);
        due("24: -2: it is ASLEEP for the 60th MINUTE", x.beat(0, 1, 0), NOT);
        x.minutes(1);
        due("17: awake behind it", x.next(1, 0), 1);
        due("18: awake behind it", x.order(1), 0);
        due("19: awake behind it", x.orderAt(1, 1), 1);
        due("20: awake behind it", x.sitters(1), 0);
        due("21: awake behind it", x.luck(0, 1), 2);
        due("22: awake behind it", x.wants(1, 0), 0);
        due("24: awake behind it", x.beat(0, 1, 0), 0);
        due("26: awake behind it", x.fairest(1, 0), 0);
        due("27: awake behind it", x.leftOut(1, 0), 0);
        due("29: awake behind it", x.feedAt(1, 0), 0);
        due("33: awake behind it", x.rests(1, NONE), 4);
    }

    private static void withoutAunts() {
        BabyRound x = of("baby 9 9 60 9; cries=9; sleeps=1; spits=100;");
        x.mother(true);
        due("16: no AUNTS", x.crying(240), 0);
        due("23: no AUNTS", x.moment(120), 0);
        due("25: no AUNTS", x.round(0, 1, 1, 0), NONE);
        due("25: no AUNTS", x.round(3, 20, 240, 2), NONE);
        due("28: no AUNTS", x.bestRound(1, 0), NONE);
        due("28: no AUNTS", x.bestRound(120, 1), NONE);
        due("30: no AUNTS", x.inSight(60, 0), 0);
        due("30: no AUNTS", x.inSight(60, 1), 0);
        due("31: no AUNTS", x.peak(240, 0), 0);
        due("31: no AUNTS", x.peak(240, 1), 0);
        due("32: no AUNTS", x.merry(), NOT);
        due("34: no AUNTS", x.silk(120, 20), 0);
        due("35: no AUNTS", x.likes(0, false), NONE);
        due("36: no AUNTS", x.sleeps(), NOT);
    }

    private static void alone() {
        BabyRound x = of("baby 0 0 60 0; aunt a 4 0 0 0 sits; cries=if held<3 then 0 else rock; sleeps=held-9;");
        due("17: -2: there is no other one", x.next(1, 0), NOT);
        due("17: -2: there is no other one", x.next(120, 1), NOT);
        due("17: NONE ahead of that", x.next(121, 1), NONE);
        due("18: alone", x.order(4), 8);
        due("19: alone", x.orderAt(4, 0), 0);
        due("19: alone, not so many", x.orderAt(4, 1), NONE);
        due("20: alone", x.sitters(9), 0);
        due("20: alone, she SITS", x.sitters(10), 1);
        due("21: alone", x.luck(0, 10), 1);
        due("22: alone", x.wants(2, 0), 0);
        due("25: alone, by 0 to nobody else", x.round(0, 1, 5, 2), 0);
        due("25: alone, by 0 HELD goes on", x.round(0, 1, 5, 0), 12);
        due("25: alone, by 1", x.round(1, 4, 5, 0), 12);
        due("25: alone, by 2", x.round(2, 1, 5, 0), 12);
        due("25: alone, laughs", x.round(2, 1, 5, 1), 2);
        due("26: alone", x.fairest(10, 0), 0);
        due("26: alone", x.fairest(10, 1), 0);
        due("27: alone: without her nobody has it", x.leftOut(10, 0), 0);
        due("27: alone: without her nobody has it", x.leftOut(10, 1), 0);
        due("28: alone", x.bestRound(5, 0), 1);
        due("28: alone", x.bestRound(5, 1), 12);
        due("33: alone, two laughs in any case", x.rests(2, NONE), 2);
        due("33: alone, twice as many has more", x.rests(1, NONE), 1);
        due("33: alone, twice as many has more", x.rests(1, 0), 1);
        due("33: alone, not so many", x.rests(1, 1), NONE);
    }

    private static void askAll(BabyRound x) {
        x.crying(240);
        x.next(120, 0);
        x.order(10);
        x.orderAt(9, 0);
        x.sitters(8);
        x.luck(0, 7);
        x.wants(120, 0);
        x.moment(120);
        x.beat(1, 120, 0);
        x.round(0, 1, 240, 0);
        x.round(1, 1, 240, 1);
        x.round(2, 1, 240, 2);
        x.fairest(6, 0);
        x.leftOut(5, 0);
        x.bestRound(20, 0);
        x.feedAt(60, 0);
        x.inSight(60, 0);
        x.peak(240, 0);
        x.merry();
        x.rests(4, NONE);
        x.silk(120, 20);
        x.likes(0, true);
        x.sleeps();
        x.fed(0, 0);
    }

    private static void nothingHappens() {
        String s = "III: What would be (nothing happens)";
        BabyRound x = of("baby 10 20 30 40; aunt a 1 2 3 4 sits; aunt b 5 6 7 8; aunt c 9 8 7 6; cries=hunger/4+held; wonders=show-3;"
            + "winds=seen+beard; spits=wind; tires=2; sleeps=tired-80; fresh 7; feeds 8; seed 99;");
        String begun = Check.all(x);
        askAll(x);
        due(s, Check.all(x).equals(begun), true);
        x.minutes(5);
        x.hand(1);
        x.hand(2);
        x.mother(true);
        x.minutes(7);
        x.hold(2);
        x.tell(3, 4);
        String ahead = Check.all(x);
        askAll(x);
        due(s, Check.all(x).equals(ahead), true);
        due(s + ": the last thing done is the same", x.undo(), true);
        due(s + ": the last thing done is the same", x.count(1), 5);
        x.minutes(7);
        due(s, Check.all(x).equals(ahead), true);
        BabyRound y = of("aunt a 1 0 0 1; aunt b 2 0 0 2; cries=rock+wind; spits=40; tires=3; sleeps=tired-40;");
        y.minutes(3);
        y.lay();
        String asleep = Check.all(y);
        askAll(y);
        due(s + ", ASLEEP", Check.all(y).equals(asleep), true);
        // what is held is what it was
        askAll(x);
        due(s, x.restore(2), true);
        due(s, x.count(1), 12);
        due(s, x.now(4), 2);
    }

    private static int ask(BabyRound x, int question) {
        switch (question) {
            case 0: return x.crying(70);
            case 1: return x.next(70, 1);
            case 2: return x.order(3);
            case 3: return x.orderAt(3, 0) * 10 + x.orderAt(3, 1);
            case 4: return x.sitters(9);
            case 5: return x.luck(1, 3);
            case 6: return x.wants(70, 1);
            case 7: return x.moment(70);
            case 8: return x.beat(1, 70, 1);
            case 9: return x.round(0, 3, 70, 0);
            case 10: return x.round(2, 3, 70, 2);
            case 11: return x.fairest(3, 0) * 10 + x.fairest(3, 1);
            case 12: return x.leftOut(3, 1);
            case 13: return x.bestRound(70, 1);
            case 14: return x.feedAt(40, 1);
            case 15: return x.inSight(40, 1);
            case 16: return x.peak(70, 0) * 100 + x.peak(70, 1);
            case 17: return x.merry();
            case 18: return x.rests(3, NONE) * 10 + x.rests(3, 0);
            case 19: return x.silk(70, 7);
            case 20: return x.sleeps();
            case 21: return x.round(1, 3, 70, 1);
            case 22: return x.fed(1, NONE);
            default: return x.luck(0, 3);
        }
    }

    private static BabyRound going(boolean asked) {
        BabyRound x = of("baby 10 20 55 40; aunt a 1 2 3 4 sits; aunt b 5 6 7 8; aunt c 9 8 7 6; cries=if wind<50 then 0 else hunger/9+held+rock;"
            + "wonders=show-6; winds=seen+beard-2; spits=wind/2; tires=2; sleeps=tired-70; fresh 7; feeds 8; seed 99;");
        x.tell(0, 0);
        if (asked) {
            askAll(x);
        }
        x.minutes(5);
        x.hand(2);
        x.minutes(6);
        x.mother(true);
        x.hand(1);
        return x;
    }

    /** Each question alone, and with all of them asked ahead of what was done. */
    private static void askedAhead() {
        for (int question = 0; question < 24; question++) {
            due("III: question " + question + " as it stands now, whatever was asked ahead", ask(going(true), question), ask(going(false), question));
        }
        String s = "III: as it stands now";
        BabyRound x = of("aunt a 2 0 0 0 sits; aunt b 3 0 0 0; fresh 0; cries=rock*hunger; tires=0; sleeps=if hunger<9 then 0 else 1;");
        due(s + ", SITTERS", x.sitters(2), 0);
        x.minutes(5);
        // HUNGER 9 in the fourth MINUTE: with the second one
        due(s + ", SITTERS", x.sitters(2), 1);
        x.undo();
        due(s + ", LUCK", x.luck(0, 1), 1);
        x.minutes(3);
        due(s + ", LUCK", x.luck(0, 1), 2);
        BabyRound y = of(AB + "cries=held; fresh 0;");
        y.minutes(2);
        due(s + ", the ORDER's first", y.orderAt(1, 0), 1);
        y.hand(1);
        y.minutes(1);
        due(s + ", the ORDER's first", y.orderAt(1, 0), 0);
    }

    private static void asOfNow(String when, BabyRound x, int who, int crying) {
        String s = "III: What would be, as it stands now, behind ";
        due(s + when + ", ORDER", x.order(1), crying);
        due(s + when + ", the first of it", x.orderAt(1, 0), who);
    }

    /** Whatever was asked ahead, what is asked is of how it stands now. */
    private static void asOfNow() {
        // of two MINUTES, the second with 1 more HUNGER: times 1 with a, 3 with b
        BabyRound x = of("baby 9 0 0 0; aunt a 1 0 0 0; aunt b 3 0 0 0; cries=rock*(hunger+2*seen); feeds 0;");
        asOfNow("read", x, 1, 30 + 11);
        x.minutes(1);
        asOfNow("minutes", x, 1, 33 + 12);
        x.undo();
        asOfNow("undo", x, 1, 30 + 11);
        x.nurse();
        asOfNow("nurse", x, 1, 3 + 2);
        x.undo();
        x.mother(true);
        asOfNow("undo, mother", x, 1, 36 + 13);
        x.undo();
        x.minutes(2);
        asOfNow("undo, minutes", x, 1, 36 + 13);
        x.hold(0);
        x.minutes(1);
        asOfNow("hold, minutes", x, 1, 39 + 14);
        x.restore(0);
        asOfNow("restore", x, 1, 36 + 13);
        x.minutes(3);
        asOfNow("restore, minutes", x, 1, 45 + 16);
        BabyRound y = of(AB + "cries=held; fresh 0;");
        y.minutes(2);
        asOfNow("minutes", y, 1, 2);
        y.hand(1);
        asOfNow("hand", y, 0, 2);
        y.minutes(1);
        asOfNow("minutes", y, 0, 2);
        y.undo();
        y.lay();
        due("III: What would be, as it stands now, behind lay", y.order(1), NOT);
        y.minutes(60);
        asOfNow("sleep", y, 0, 2);
        // the same number of things done, another one
        y.undo();
        y.undo();
        y.hand(0);
        asOfNow("undo, undo, hand", y, 0, 2);
        BabyRound z = of("aunt a 0 0 0 0; cries=hunger; feeds 0;");
        z.minutes(4);
        due("III: as it stands now", z.order(1), 5);
        z.undo();
        z.minutes(6);
        due("III: as it stands now", z.order(1), 7);
        z.undo();
        z.nurse();
        due("III: as it stands now", z.order(1), 1);
        // what was least in another question is none of this one's
        BabyRound w = of("aunt a 5 0 0 0; aunt b 0 0 0 0; cries=rock+seen; fresh 0;");
        due("III: one question behind the other, NEXT", w.next(9, 1), 0);
        due("III: one question behind the other, FEED AT", w.feedAt(3, 1), 15);
        due("III: one question behind the other, FEED AT", w.feedAt(3, 0), 0);
        due("III: one question behind the other, WANTS", w.wants(9, 1), 0);
        due("III: one question behind the other, IN SIGHT", w.inSight(3, 1), 15);
        due("III: one question behind the other, IN SIGHT", w.inSight(3, 0), 0);
        due("III: one question behind the other, BEAT", w.beat(1, 1, 1), 0);
        due("III: one question behind the other, BEST ROUND", w.bestRound(9, 1), 5);
        due("III: one question behind the other, LEFT OUT", w.leftOut(2, 1), 0);
        due("III: one question behind the other, LEFT OUT", w.leftOut(2, 0), 0);
        // other SEEDS are those of SILK alone
        BabyRound v = of("aunt a 0 0 0 1; winds=9; cries=wind; spits=50; seed 1234;");
        int crying = v.crying(60);
        v.silk(60, 20);
        due("III: SILK, then CRYING by the text's SEED", v.crying(60), crying);
        v.silk(60, 20);
        v.minutes(60);
        due("III: CRYING as it is, by the text's SEED", v.count(2), crying);
    }

    /** Those that refuse nothing as it is ASLEEP go on through its sleep. */
    private static void asleepToo() {
        BabyRound x = of("baby 0 0 60 0; aunt a 0 0 0 7; aunt b 0 0 0 0; cries=if held<2 then 0 else 5; spits=100;");
        x.lay();
        due("16: ASLEEP", x.crying(60), 0);
        due("16: ASLEEP, behind it", x.crying(62), 5);
        due("23: ASLEEP", x.moment(62), 0);
        due("25: ASLEEP", x.round(0, 1, 61, 2), 0);
        due("25: ASLEEP, behind it", x.round(0, 1, 62, 2), 1);
        due("28: ASLEEP", x.bestRound(62, 1), 0);
        due("28: ASLEEP", x.bestRound(62, 0), 1);
        due("30: ASLEEP", x.inSight(60, 1), 0);
        due("31: ASLEEP", x.peak(61, 0), 0);
        due("31: ASLEEP, behind it", x.peak(62, 0), 5);
        due("31: ASLEEP, behind it", x.peak(62, 1), 61);
        due("32: ASLEEP, behind it", x.merry(), 61);
        due("34: ASLEEP", x.silk(60, 1), 0);
        due("34: ASLEEP, behind it", x.silk(61, 1), 7);
        due("36: ASLEEP: now", x.sleeps(), 0);
        BabyRound y = of("aunt a 0 0 0 0; cries=seen;");
        y.lay();
        due("23: ASLEEP: the first MINUTE is one asleep", y.moment(120), 0);
        BabyRound z = of("aunt a 0 0 0 0; hungers=seen; cries=hunger;");
        z.lay();
        due("23: ASLEEP: HUNGER is more", z.moment(62), 2);
    }

    private static void crying() {
        String s = "III: CRYING in n MINUTES (0 .. 240): all CRY of them, as it is";
        BabyRound x = of("aunt a 0 0 0 0; cries=held;");
        int all = 0;
        for (int n = 0; n <= 240; n++) {
            all += Math.min(99, n);
            if (n <= 3 || n >= 237) {
                due(s + ", " + n, x.crying(n), all);
            }
        }
        x.minutes(10);
        due(s + ", from now on", x.crying(1), 11);
        due(s + ", from now on", x.crying(0), 0);
        due(s + ", from now on", x.crying(2), 23);
        BabyRound most = of("aunt a 0 0 0 0; cries=9999;");
        due(s + ", the most", most.crying(240), 240 * 99);
        BabyRound falls = of("aunt a 0 0 0 0; cries=7; sleeps=held-3;");
        due(s + ", it falls ASLEEP", falls.crying(3), 21);
        due(s + ", it falls ASLEEP", falls.crying(4), 28);
        due(s + ", it is ASLEEP", falls.crying(64), 28);
        due(s + ", awake again", falls.crying(65), 35);
        BabyRound seen = of("aunt a 0 0 0 0; cries=2+seen;");
        seen.mother(true);
        due(s + ", in sight", seen.crying(2), 6);
    }

    private static void next() {
        String s = "III: NEXT: who else, handed it now, has least CRYING";
        BabyRound x = of("aunt a 5 0 0 0; aunt b 3 0 0 0; aunt c 3 0 0 0; aunt d 4 0 0 0; cries=rock; fresh 0;");
        due(s + "; of alike ones the first", x.next(1, 0), 1);
        due(s, x.next(1, 1), 3);
        due(s, x.next(120, 1), 360);
        x.hand(1);
        due(s + ": not she who has it", x.next(1, 0), 2);
        x.hand(2);
        due(s + "; of alike ones the first", x.next(1, 0), 1);
        x.hand(3);
        due(s, x.next(1, 0), 1);
        BabyRound alike = of(SIX);
        due(s + "; of alike ones the first", alike.next(120, 0), 1);
        alike.hand(3);
        due(s + "; of alike ones the first, not the next in the round", alike.next(120, 0), 0);
        // she who has it would be best, and is none of them
        BabyRound y = of("aunt a 0 0 0 0; aunt b 9 0 0 0; aunt c 8 0 0 0; cries=rock;");
        due(s + ": not she who has it", y.next(10, 0), 2);
        due(s + ": not she who has it", y.next(10, 1), 80);
        // handed it: HELD begins, and WONDER is FRESH more
        BabyRound z = of("aunt a 0 0 0 0; aunt b 0 0 0 0; cries=held+wonder; fresh 6;");
        z.minutes(4);
        due(s + ": HELD 0, FRESH", z.next(1, 1), 7);
        BabyRound one = of("baby 60 0 0 0; aunt a 0 0 0 0; aunt b 0 0 0 0; cries=hunger;");
        due(s + ": the last AUNT alone", one.next(1, 1), 61);
        BabyRound six = of("aunt a 9 0 0 0; aunt b 9 0 0 0; aunt c 9 0 0 0; aunt d 9 0 0 0; aunt e 9 0 0 0; aunt f 8 0 0 0; cries=rock;");
        due(s + ": the sixth", six.next(2, 0), 5);
    }

    private static void order() {
        String s = "III: ORDER: all AUNTS have it once, m MINUTES each, one after the other";
        for (int m = 1; m <= 10; m++) {
            int all = 0;
            for (int minute = 1; minute <= 3 * m; minute++) {
                all += minute;
            }
            due(s + ", m " + m, of(ABC + "cries=hunger;").order(m), all);
        }
        due(s + ", six of them", of(SIX + "cries=1;").order(10), 60);
        due(s + ", the most", of(SIX + "cries=99;").order(10), 60 * 99);
        // handed to her as above, if she has it not: HELD goes on with her who has it
        BabyRound x = of(AB + "cries=held; fresh 0;");
        x.minutes(4);
        // a first: 5 and 6, then 1 and 2; b first: 1 and 2 with each
        due("III: ORDER: she who has it goes on", x.order(2), 6);
        due("III: ORDER: b first, then a anew", x.orderAt(2, 0), 1);
        // FRESH as above: a is not new behind b
        BabyRound y = of(AB + "cries=wonder; fresh 10;");
        // a first: 0, then 10; b first: 10 and 10
        due("III: ORDER: handed as above, FRESH", y.order(1), 10);
        due("III: ORDER: handed as above, FRESH", y.orderAt(1, 0), 0);
    }

    private static void orderWithSleep() {
        String s = "III: ORDER: one with whom it falls ASLEEP keeps it till it wakes, those MINUTES not counted to m";
        // HUNGER 1 and 60 more asleep, then 62 with the second one
        due(s, of(AB + "cries=hunger; sleeps=1;").order(1), 1 + 62);
        due(s, of(AB + "cries=hunger; sleeps=1;").order(2), 1 + 62 + 99 + 99);
        // it falls ASLEEP in the last MINUTE but one: one is left behind its sleep
        due(s, of(AB + "cries=hunger; sleeps=if held<2 then 0 else 1-hunger/50;").order(3), 1 + 2 + 63 + 64 + 65 + 66);
        // in the last one: she keeps it all the same, till it wakes
        due(s, of(AB + "cries=hunger; sleeps=if held<3 then 0 else 1-hunger/50;").order(3), 1 + 2 + 3 + 64 + 65 + 66);
        // not in her minutes
        due(s, of(AB + "cries=hunger; sleeps=if held<4 then 0 else 1;").order(3), 21);
        BabyRound six = of(SIX + "cries=1; sleeps=1;");
        due(s + ", a sleep behind each MINUTE", six.order(10), 60);
        // a, with whom it grows no hungrier, keeps it to the end of its sleep, b has it awake alone
        for (int m = 1; m <= 10; m++) {
            int all = 0;
            int hunger = 0;
            for (int minute = 0; minute < m; minute++) {
                hunger = Math.min(99, hunger + 1);
                all += hunger;
                hunger = Math.min(99, hunger + 60);
            }
            due(s + ", m " + m, of("aunt a 0 0 0 0; aunt b 1 0 0 0; hungers=rock; cries=hunger; sleeps=1;").order(m), all);
        }
    }

    private static void orderAt() {
        String s = "III: of alike ones the first by numbers, the first one first";
        BabyRound x = of(SIX);
        for (int i = 0; i < 6; i++) {
            due(s, x.orderAt(1, i), i);
        }
        due("19: NONE: not so many", x.orderAt(1, 6), NONE);
        due("19: NONE: not so many", x.orderAt(1, MAX), NONE);
        x.hand(4);
        for (int i = 0; i < 6; i++) {
            due(s + ", whoever has it", x.orderAt(1, i), i);
        }
        // she with ROCK 1 best has it first; the others by numbers
        for (int first = 0; first < 4; first++) {
            StringBuilder text = new StringBuilder("cries=rock*hunger;");
            for (int i = 0; i < 4; i++) {
                text.append("aunt ").append((char) ('a' + i)).append(i == first ? " 1" : " 0").append(" 0 0 0;");
            }
            BabyRound y = of(text.toString());
            int[] want = {first, first == 0 ? 1 : 0, first <= 1 ? 2 : 1, first <= 2 ? 3 : 2};
            due(s, y.order(1), 1);
            for (int i = 0; i < 4; i++) {
                due(s + ", " + first + " first", y.orderAt(1, i), want[i]);
            }
            due("19: NONE: not so many", y.orderAt(1, 4), NONE);
        }
        // 1 and 2 with b and c, either first: a comes last
        BabyRound z = of("aunt a 0 0 0 0; aunt b 1 0 0 0; aunt c 1 0 0 0; cries=rock*hunger;");
        due(s, z.order(1), 3);
        due(s, z.orderAt(1, 0), 1);
        due(s, z.orderAt(1, 1), 2);
        due(s, z.orderAt(1, 2), 0);
        // one question behind the other, each of its own
        BabyRound again = of("baby 0 0 60 0; aunt a 1 0 0 0; aunt b 2 0 0 0; fresh 0; cries=if hunger<9 then rock-1 else hunger;");
        due("III: one question behind the other", again.order(1), 1);
        due("III: one question behind the other", again.order(4), 4);
        due("III: one question behind the other", again.fairest(4, 0), 4);
        due("III: one question behind the other", again.order(2), 2);
        due("III: one question behind the other", again.fairest(2, 0), 2);
        due("III: one question behind the other", again.order(1), 1);
        due("III: one question behind the other", again.fairest(1, 0), 1);
        BabyRound last = of("aunt a 3 0 0 0; aunt b 4 0 0 0; aunt c 5 0 0 0; aunt d 6 0 0 0; cries=rock*hunger;");
        for (int i = 0; i < 4; i++) {
            due("III: that order with least CRYING, the last of all", last.orderAt(1, i), 3 - i);
        }
    }

    private static void sitters() {
        String s = "III: SITTERS: in how many it falls ASLEEP (for the first time) with one who SITS";
        String[] sits = {"", " sits"};
        for (int set = 0; set < 8; set++) {
            String aunts = "aunt a 0 0 0 0" + sits[set & 1] + "; aunt b 0 0 0 0" + sits[set >> 1 & 1] + "; aunt c 0 0 0 0" + sits[set >> 2] + ";";
            int who = Integer.bitCount(set);
            // each of them has it first, second and last in two orders of six
            due(s + ", with the first", of(aunts + "sleeps=1;").sitters(1), 2 * who);
            due(s + ", with the second", of(aunts + "sleeps=hunger-1;").sitters(1), 2 * who);
            due(s + ", with the last", of(aunts + "sleeps=hunger-2;").sitters(1), 2 * who);
            due(s + ", never", of(aunts + "sleeps=hunger-3;").sitters(1), 0);
            due(s + ", in the last MINUTE of all", of(aunts + "sleeps=hunger-29;").sitters(10), 2 * who);
            due(s + ", a MINUTE too late", of(aunts + "sleeps=hunger-30;").sitters(10), 0);
        }
        // with whom it falls ASLEEP a second time is of no account: b, behind a who SITS
        String twice = "sleeps=if hunger<2 then 1 else rock;";
        due(s + ", a second time", of("aunt a 0 0 0 0 sits; aunt b 1 0 0 0;" + twice).sitters(1), 1);
        due(s + ", a second time", of("aunt a 0 0 0 0; aunt b 1 0 0 0 sits;" + twice).sitters(1), 1);
        due(s + ", a second time", of("aunt a 1 0 0 0; aunt b 0 0 0 0 sits;" + twice).sitters(1), 1);
        // it fell ASLEEP already, ahead of these MINUTES
        BabyRound x = of("aunt a 0 0 0 0 sits; aunt b 0 0 0 0;");
        x.lay();
        x.minutes(60);
        due(s + ", not ahead of them", x.sitters(10), 0);
        BabyRound y = of("aunt a 1 0 0 0; aunt b 0 0 0 0 sits; aunt c 0 0 0 0 sits; aunt d 0 0 0 0; aunt e 0 0 0 0; aunt f 0 0 0 0; sleeps=1-rock;");
        // with the first of the other five: b or c in two of five
        due(s + ", six AUNTS", y.sitters(1), 720 * 2 / 5);
    }

    private static void luck() {
        String s = "III: LUCK of an AUNT: in how many of them there is the least CRY with her";
        BabyRound alike = of(SIX);
        for (int aunt = 0; aunt < 6; aunt++) {
            due(s + " (of alike ones the first is meant)", alike.luck(aunt, 1), aunt == 0 ? 720 : 0);
        }
        alike.hand(5);
        due(s + " (of alike ones the first is meant), whoever has it", alike.luck(0, 10), 720);
        BabyRound sixth = of("aunt a 1 0 0 0; aunt b 1 0 0 0; aunt c 1 0 0 0; aunt d 1 0 0 0; aunt e 1 0 0 0; aunt f 0 0 0 0; cries=rock;");
        for (int aunt = 0; aunt < 6; aunt++) {
            due(s + ", the sixth", sixth.luck(aunt, 3), aunt == 5 ? 720 : 0);
        }
        BabyRound rising = of(ABC + "cries=hunger;");
        for (int aunt = 0; aunt < 3; aunt++) {
            due(s + ", her who is first in the order", rising.luck(aunt, 3), 2);
        }
        // the first MINUTE has CRY 5: she who is first is not meant; of the others, alike, the first
        BabyRound dear = of(ABC + "cries=if hunger<2 then 5 else 1;");
        due(s + " (of alike ones the first is meant)", dear.luck(0, 1), 4);
        due(s + " (of alike ones the first is meant)", dear.luck(1, 1), 2);
        due(s + " (of alike ones the first is meant)", dear.luck(2, 1), 0);
        // what CRY there was ahead counts not
        BabyRound x = of(AB + "cries=if hunger<6 then 9 else hunger-5;");
        x.minutes(5);
        due(s + ", in these MINUTES", x.luck(0, 1), 1);
        due(s + ", in these MINUTES", x.luck(1, 1), 1);
    }

    private static void fairest() {
        String s = "III: FAIREST: those with whom it LAUGHS oftenest and least often are least apart";
        // laughs in the first k MINUTES of all
        for (int k = 0; k <= 6; k++) {
            BabyRound x = of("baby 0 0 60 0;" + ABC + "cries=if hunger<" + (k + 1) + " then 0 else 1; fresh 0;");
            int[] apart = {0, 1, 2, 2, 2, 1, 0};
            due(s + ", " + k + " laughs", x.fairest(2, 0), apart[k]);
            due(s + "; of alike ones the first", x.fairest(2, 1), 0);
        }
        // with a never, b always, c in its first MINUTES: that c has it first or not is how far apart they are
        BabyRound y = of("baby 0 0 60 0; aunt a 0 0 0 0; aunt b 1 0 0 0; aunt c 2 0 0 0; fresh 0;"
            + "cries=if rock<1 then hunger/3 else if rock<2 then 2-hunger/2 else 0;");
        // a laughs at hunger 1, 2; b at 4 and more; c always: m 2: a 1st, b later: 2, 2, 2
        due(s, y.fairest(2, 0), 0);
        due(s, y.fairest(2, 1), 0);
        BabyRound z = of("baby 0 0 60 0; aunt a 0 0 0 0; aunt b 1 0 0 0; fresh 0; cries=if rock<1 then 1-hunger/3 else hunger/3;");
        // a laughs from hunger 3 on, b up to 2: b first is 2 and 2, a first 0 and 0: alike
        due(s + "; of alike ones the first", z.fairest(2, 0), 0);
        due(s + "; of alike ones the first", z.fairest(2, 1), 0);
        BabyRound w = of("baby 0 0 60 0; aunt a 0 0 0 0; aunt b 1 0 0 0; fresh 0; cries=if rock<1 then 1-hunger/3 else 0;");
        // b laughs always: b first is 2 and 2
        due(s + ", the last order", w.fairest(2, 0), 0);
        due(s + ", the last order", w.fairest(2, 1), 1);
        due(s + ", WONDER 49", of("baby 0 0 49 0;" + AB + "fresh 0;").fairest(10, 0), 0);
        due(s + ", the most", of("baby 0 0 50 0; aunt a 0 0 0 0; aunt b 1 0 0 0; cries=rock; fresh 0;").fairest(10, 0), 10);
        BabyRound v = of("baby 0 0 60 0;" + AB + "fresh 0;");
        v.minutes(9);
        due(s + ", in these MINUTES", v.fairest(3, 0), 0);
    }

    private static void leftOut() {
        String s = "III: LEFT OUT: the one without whom, the others by numbers, there is least CRYING";
        for (int dear = 0; dear < 4; dear++) {
            StringBuilder text = new StringBuilder("cries=rock;");
            for (int i = 0; i < 4; i++) {
                text.append("aunt ").append((char) ('a' + i)).append(i == dear ? " 7" : " 2").append(" 0 0 0;");
            }
            BabyRound x = of(text.toString());
            due(s, x.leftOut(1, 0), dear);
            due(s, x.leftOut(1, 1), 6);
            due(s, x.leftOut(10, 1), 60);
            x.hand(1);
            due(s + ", whoever has it", x.leftOut(10, 0), dear);
            due(s + ", whoever has it", x.leftOut(10, 1), 60);
        }
        BabyRound alike = of(SIX + "cries=1;");
        due(s + "; of alike ones the first", alike.leftOut(1, 0), 0);
        due(s + "; of alike ones the first", alike.leftOut(10, 1), 50);
        // by numbers: with a 3, b 2, c 1 times 1 and 2: without a 2 + 2, without b 3 + 2, without c 3 + 4
        BabyRound y = of("aunt a 3 0 0 0; aunt b 2 0 0 0; aunt c 1 0 0 0; cries=rock*hunger;");
        due(s + ", by numbers", y.leftOut(1, 0), 0);
        due(s + ", by numbers", y.leftOut(1, 1), 4);
        // as for an ORDER: asleep not counted, kept till it wakes
        BabyRound z = of(ABC + "cries=hunger; sleeps=1;");
        due(s + ", as for an ORDER", z.leftOut(1, 1), 1 + 62);
        // she who has it goes on: a 5, b 1; a handed first is 1, then b
        BabyRound w = of(AB + "cries=held; fresh 0;");
        w.minutes(4);
        due(s + ", she who has it goes on", w.leftOut(1, 0), 0);
        due(s + ", she who has it goes on", w.leftOut(1, 1), 1);
        w.hand(1);
        w.minutes(4);
        due(s + ", she who has it goes on", w.leftOut(1, 0), 1);
    }

    private static void wants() {
        String s = "III: WANTS: least CRYING; of alike ones the least";
        due(s, of(AB).wants(120, 0), 0);
        due(s, of("baby 60 0 0 0;" + AB + "cries=hunger-50;").wants(120, 0), 1);
        // LAY and MOTHER alike: 2; MOTHER and HAND alike: 3; HAND to b and c alike: 5
        due(s, of("aunt a 1 0 0 0; cries=1-seen;").wants(60, 0), 2);
        due(s, of("aunt a 1 0 0 0; cries=1-seen;").wants(61, 0), 3);
        due(s, of("aunt a 1 0 0 0; aunt b 0 0 0 0; cries=rock*(1-seen);").wants(61, 0), 3);
        due(s, of("aunt a 1 0 0 0; aunt b 0 0 0 0; aunt c 0 0 0 0; cries=rock;").wants(61, 0), 5);
        due(s, of("aunt a 2 0 0 0; aunt b 1 0 0 0; aunt c 0 0 0 0; cries=rock;").wants(120, 0), 6);
        due(s, of("aunt a 9 0 0 0; aunt b 9 0 0 0; aunt c 9 0 0 0; aunt d 9 0 0 0; aunt e 9 0 0 0; aunt f 1 0 0 0; cries=rock;").wants(120, 0), 9);
        due(s + ", CRYING", of("aunt a 2 0 0 0; aunt b 1 0 0 0; aunt c 0 0 0 0; cries=rock+2;").wants(120, 1), 240);
        due(s + ", LAY (60 MINUTES asleep, 60 awake) and c alike", of("aunt a 2 0 0 0; aunt b 1 0 0 0; aunt c 0 0 0 0; cries=rock+2;").wants(120, 0), 2);
        // FEED: WIND is FEEDS more
        due(s + ", FEED is dear", of("baby 9 0 0 0; aunt a 0 0 0 0; cries=if wind<30 then hunger else 99; hungers=0;").wants(61, 0), 2);
        due(s + ", FEED", of("baby 9 0 0 0; aunt a 0 0 0 0; cries=if wind<31 then hunger else 99; hungers=0;").wants(61, 0), 1);
        due(s + ", MOTHER out of sight, if she is in", motherIn("aunt a 0 0 0 0; cries=seen;").wants(61, 0), 3);
        due(s + ", MOTHER out of sight, if she is in", motherIn("aunt a 0 0 0 0; cries=seen;").wants(61, 1), 0);
        due(s + ", go on as she is", motherIn("aunt a 0 0 0 0; cries=1-seen;").wants(120, 0), 0);
    }

    private static BabyRound motherIn(String text) {
        BabyRound x = of(text);
        x.mother(true);
        return x;
    }

    private static void wantsAnother() {
        String s = "III: WANTS: HAND it to her (another one)";
        // to be HELD anew were best, if she could hand it to herself; asleep it were rested, TIRED 0
        BabyRound x = of("baby 0 50 0 0; aunt a 0 0 0 0; tires=0; cries=if tired<1 then 99 else held/10;");
        x.minutes(100);
        int goesOn = 0;
        for (int held = 101; held <= 220; held++) {
            goesOn += Math.min(99, held / 10);
        }
        due(s + ", alone", x.wants(120, 0), 0);
        due(s + ", alone", x.wants(120, 1), goesOn);
        BabyRound y = of("baby 0 50 0 0;" + AB + "tires=0; cries=if tired<1 then 99 else held/10;");
        y.minutes(100);
        int anew = 0;
        for (int held = 1; held <= 120; held++) {
            anew += held / 10;
        }
        due(s, y.wants(120, 0), 5);
        due(s, y.wants(120, 1), anew);
        y.hand(1);
        y.minutes(100);
        due(s, y.wants(120, 0), 4);
        due(s, y.wants(120, 1), anew);
        // nobody else is better; b herself, anew, would be
        BabyRound z = of("baby 0 50 0 0; aunt a 9 0 0 0; aunt b 0 0 0 0; aunt c 9 0 0 0; tires=0; cries=if tired<1 then 99 else held/10+rock*9;");
        z.hand(1);
        z.minutes(100);
        due(s + ", she has it", z.wants(120, 0), 0);
        due(s + ", she has it", z.wants(120, 1), goesOn);
    }

    private static void moment() {
        String s = "III: MOMENT: its MOTHER in sight for the first of them and out behind it";
        BabyRound x = of("aunt a 0 0 0 0; cries=5*seen+3;");
        for (int n : new int[] {1, 2, 119, 120}) {
            due(s, x.moment(n), 5);
            due(s + " (below 0: less)", of("aunt a 0 0 0 0; cries=7-5*seen;").moment(n), -5);
            // what comes of it: each MINUTE behind it is dearer
            due(s, of("aunt a 0 0 0 0; hungers=seen*2; cries=hunger;").moment(n), 2 * n);
        }
        due(s + ", none more", of("aunt a 0 0 0 0; cries=5;").moment(120), 0);
        x.mother(true);
        due(s + ", in sight now", x.moment(120), 5);
        due(s + ", nothing happens", x.now(9), 1);
        due(s + ", the most", of("aunt a 0 0 0 0; wonders=0-9+18*seen; cries=if wonder<1 then 0 else 99;").moment(1), 99);
        due(s + ", the least", of("baby 0 0 1 0; aunt a 0 0 0 0; wonders=seen*0-1+seen*9; cries=if wonder<1 then 99 else 0;").moment(2),
            -99 * 2);
    }

    private static void beat() {
        String s = "III: BEAT: the ROCK (0 .. 9) of her with which there is least CRYING";
        for (int best = 0; best <= 9; best++) {
            BabyRound x = of("aunt a 5 0 0 0; aunt b 2 0 0 0; cries=(rock-" + best + ")*(rock-" + best + ");");
            for (int aunt = 0; aunt < 2; aunt++) {
                due(s, x.beat(aunt, 1, 0), best);
                due(s, x.beat(aunt, 120, 1), 0);
            }
        }
        BabyRound alike = of("aunt a 5 0 0 0; aunt b 2 0 0 0; cries=(rock-2)*(rock-7)+10;");
        // ROCK 4 and 5 have 4, the least
        due(s + "; of alike ones the least", alike.beat(0, 1, 0), 4);
        due(s + "; of alike ones the least", alike.beat(0, 1, 1), 4);
        due(s + "; of alike ones the least", of(AB + "cries=3;").beat(1, 120, 0), 0);
        due(s + ", not 10", of(AB + "cries=20-rock;").beat(1, 1, 1), 11);
        BabyRound y = of(AB + "cries=held+wonder; fresh 6;");
        y.minutes(4);
        due(s + ", she having it as she has", y.beat(0, 1, 1), 5);
        due(s + ", or handed it now", y.beat(1, 1, 1), 7);
        y.hand(1);
        due(s + ", she having it as she has", y.beat(1, 1, 1), 7);
        due(s + ", or handed it now: not new", y.beat(0, 1, 1), 7);
        due(s + ", nothing happens", y.aunt(1, 5), 0);
    }

    private static void roundByHeld() {
        String s = "III: ROUND by 0 when it has been HELD m MINUTES (m 1 .. 20) to the next in the round";
        BabyRound[] rows = new BabyRound[4];
        for (int m = 1; m <= 20; m++) {
            if (m % 5 == 1) {
                rows[m / 5] = of("aunt a 1 0 0 0; aunt b 2 0 0 0; aunt c 3 0 0 0; cries=rock; fresh 0;");
            }
            BabyRound x = rows[(m - 1) / 5];
            for (int n : new int[] {1, m, m + 1, 2 * m, 2 * m + 1, 3 * m, 3 * m + 1, 4 * m + 1, 240}) {
                int cry = 0;
                for (int minute = 0; minute < n; minute++) {
                    cry += minute / m % 3 + 1;
                }
                due(s + ", m " + m + ", n " + n, x.round(0, m, n, 2), (n - 1) / m % 3);
                due(s + ", m " + m + ", n " + n, x.round(0, m, n, 0), cry);
            }
        }
        for (int held = 0; held <= 4; held++) {
            BabyRound y = of(ABC);
            y.minutes(held);
            due(s + ", HELD " + held + " ahead", y.round(0, 2, 1, 2), held >= 2 ? 1 : 0);
            due("III: ROUND by 2 when HELD m, HELD " + held + " ahead", y.round(2, 2, 1, 2), held >= 2 ? 1 : 0);
        }
        // from her who has it now, the first one behind the last one
        BabyRound z = of(ABC);
        z.hand(2);
        due(s, z.round(0, 1, 1, 2), 2);
        due(s, z.round(0, 1, 2, 2), 0);
        due(s, z.round(0, 1, 3, 2), 1);
    }

    private static void roundByCry() {
        String s = "III: ROUND by 1 when CRY was m or more, to the next";
        for (int cry = 0; cry <= 21; cry++) {
            BabyRound x = of(ABC + "cries=" + cry + ";");
            for (int m : new int[] {1, 2, cry - 1, cry, cry + 1, 19, 20}) {
                if (m >= 1 && m <= 20) {
                    due(s + ", CRY " + cry + ", m " + m, x.round(1, m, 1, 2), 0);
                    due(s + ", CRY " + cry + ", m " + m, x.round(1, m, 2, 2), cry >= m ? 1 : 0);
                    due(s + ", CRY " + cry + ", m " + m, x.round(1, m, 4, 2), 0);
                }
            }
            x.minutes(1);
            due(s + ", the CRY of the last MINUTE", x.round(1, 5, 1, 2), cry >= 5 ? 1 : 0);
        }
        BabyRound most = of(ABC + "cries=99;");
        due(s + ", 99", most.round(1, 20, 2, 2), 1);
        due(s + ", 99", most.round(1, 20, 240, 0), 240 * 99);
    }

    private static void roundToFewest() {
        String s = "III: ROUND by 2 when HELD m, to her who has had it fewest MINUTES, of alike ones the first other one";
        BabyRound x = of(ABC);
        // a has it; b, c alike: b; then c has fewest; then all have one: the first other one than c
        int[] who = {0, 1, 2, 0, 1, 2, 0};
        for (int n = 1; n <= 7; n++) {
            due(s, x.round(2, 1, n, 2), who[n - 1]);
            due(s + ", m 3", x.round(2, 3, 3 * n, 2), who[n - 1]);
            due(s + ", m 3", x.round(2, 3, 3 * n - 2, 2), who[n - 1]);
        }
        BabyRound y = of("aunt a 0 0 0 0; aunt b 0 0 0 0; aunt c 0 0 0 0; aunt d 0 0 0 0;");
        y.minutes(3);
        y.hand(1);
        y.minutes(2);
        y.hand(2);
        y.minutes(4);
        // a 3, b 2, c 4, d 0, and c has it: d (1), b (3), d (2), a (4), d (3), b (4), d (4), the first of four alike
        int[] then = {3, 1, 3, 0, 3, 1, 3, 0};
        for (int n = 1; n <= 8; n++) {
            due(s + ", n " + n, y.round(2, 1, n, 2), then[n - 1]);
        }
        // MINUTES asleep are none she has had it
        BabyRound z = of(ABC);
        z.lay();
        z.minutes(60);
        z.hand(1);
        z.minutes(1);
        due(s + ", asleep not counted", z.round(2, 1, 1, 2), 0);
        due(s + ", asleep not counted", z.round(2, 1, 2, 2), 2);
        // she who has it has had it fewest herself: to another one all the same
        BabyRound w = of(ABC);
        w.minutes(5);
        w.hand(1);
        w.minutes(4);
        w.hand(2);
        w.minutes(1);
        due(s + ", she who has it", w.round(2, 1, 1, 2), 1);
        due(s + ", she who has it, HELD 1 of 2", w.round(2, 2, 1, 2), 2);
    }

    private static void roundAwake() {
        String s = "III: ROUND: ahead of each MINUTE, awake, it is handed on";
        for (int rule = 0; rule < 3; rule++) {
            BabyRound x = of(AB + "cries=2;");
            x.minutes(3);
            due(s + ", rule " + rule, x.round(rule, 1, 1, 2), 1);
            x.lay();
            due(s + ", rule " + rule + ", ASLEEP", x.round(rule, 1, 60, 2), 0);
            // it woke HELD for 0 MINUTES, CRY 0: one MINUTE with her first
            due(s + ", rule " + rule + ", awake", x.round(rule, 1, 61, 2), 0);
            due(s + ", rule " + rule + ", awake", x.round(rule, 1, 62, 2), 1);
        }
        // it falls ASLEEP in the round
        BabyRound y = of(AB + "sleeps=held-1;");
        due(s + ", it falls ASLEEP", y.round(0, 2, 62, 2), 0);
        due(s + ", it falls ASLEEP", y.round(0, 2, 64, 2), 0);
        due(s + ", m 1: never HELD 2", y.round(0, 1, 64, 2), 1);
        BabyRound never = of(AB + "cries=9;");
        never.minutes(30);
        due("III: ROUND by 3 never", never.round(3, 1, 240, 2), 0);
        due("III: ROUND by 3 never", never.round(3, 20, 240, 2), 0);
    }

    private static void roundAnswers() {
        BabyRound x = of("baby 0 0 60 0; aunt a 0 0 0 0; aunt b 3 0 0 0; cries=rock; fresh 0;");
        due("25: what 0 all CRY", x.round(0, 2, 8, 0), 12);
        due("25: what 1 how often it LAUGHS", x.round(0, 2, 8, 1), 4);
        due("25: what 2 who has it then", x.round(0, 2, 8, 2), 1);
        x.minutes(7);
        due("25: of these MINUTES alone", x.round(3, 2, 8, 0), 0);
        due("25: of these MINUTES alone", x.round(3, 2, 8, 1), 8);
        x.hand(1);
        x.minutes(7);
        due("25: of these MINUTES alone", x.round(3, 2, 8, 0), 24);
        due("25: of these MINUTES alone", x.round(3, 2, 8, 1), 0);
        // handed to one who is new: WONDER is FRESH more
        BabyRound y = of("baby 0 0 45 0;" + ABC + "fresh 3;");
        due("25: FRESH by hand as above", y.round(0, 1, 9, 1), 7);
    }

    private static void bestRound() {
        String s = "III: BEST ROUND: of all RULES with all m (1 .. 20) that with least CRY";
        due(s + "; of alike ones the first RULE, then the least m", of(ABC).bestRound(120, 0), 1);
        due(s + "; of alike ones the first RULE, then the least m", of(ABC + "cries=99;").bestRound(120, 1), 120 * 99);
        String begun = "aunt a 0 0 0 0; aunt b 9 0 0 0; fresh 0; cries=";
        for (int m = 1; m <= 20; m++) {
            // it must stay with a for m MINUTES: 0 when it was HELD so long
            BabyRound x = of(begun + "rock;");
            due(s + ", n " + m, x.bestRound(m, 0), m);
            due(s + ", n " + m, x.bestRound(m, 1), 0);
        }
        BabyRound x = of(begun + "rock;");
        // longer than any m of RULE 0: by CRY, that never was
        due(s + ", n 21", x.bestRound(21, 0), 101);
        due(s + ", n 120", x.bestRound(120, 0), 101);
        for (int cry = 0; cry <= 21; cry++) {
            BabyRound y = of(begun + "rock+" + cry + ";");
            int want = cry >= 20 ? 301 : 101 + cry;
            due(s + ", CRY " + cry, y.bestRound(120, 0), want);
            due(s + ", CRY " + cry, y.bestRound(120, 1), 120 * cry);
        }
        // m 20 of RULE 0: handed on behind 20 MINUTES, not 21
        BabyRound z = of(AB + "fresh 0; cries=if held<2 then 1 else if held<21 then 0 else 50;");
        due(s + ", m 20", z.bestRound(120, 0), 20);
        due(s + ", m 20", z.bestRound(120, 1), 6);
        // RULE 2 alone brings it to c, who has had it least
        BabyRound w = of("aunt a 5 0 0 0; aunt b 9 0 0 0; aunt c 0 0 0 0; cries=rock; fresh 0;");
        w.minutes(1);
        w.hand(1);
        w.minutes(1);
        w.hand(0);
        w.minutes(1);
        due(s + ", RULE 2", w.bestRound(1, 0), 201);
        w.minutes(1);
        due(s + ", RULE 2, the least m", w.bestRound(1, 0), 201);
        due(s + ", of these MINUTES alone", w.bestRound(1, 1), 0);
    }

    private static void feedAt() {
        String s = "III: FEED AT: behind how many of them (0 .. n - 1) it is best FED once";
        for (int n : new int[] {1, 2, 3, 59, 60}) {
            // WIND is CRY: the later, the better
            due(s, of("aunt a 0 0 0 0; cries=wind;").feedAt(n, 0), n - 1);
            due(s + ", at n it were none", of("aunt a 0 0 0 0; cries=wind;").feedAt(n, 1), 30);
            // HUNGER that stays away: the sooner, the better
            due(s, of("baby 50 0 0 0; aunt a 0 0 0 0; hungers=0; cries=hunger; feeds 0;").feedAt(n, 0), 0);
            due(s, of("baby 50 0 0 0; aunt a 0 0 0 0; hungers=0; cries=hunger; feeds 0;").feedAt(n, 1), 0);
            due(s + "; of alike ones the first", of("aunt a 0 0 0 0; cries=7;").feedAt(n, 0), 0);
            due(s + ", CRYING in all n", of("aunt a 0 0 0 0; cries=7;").feedAt(n, 1), 7 * n);
        }
        for (int k = 1; k < 60; k++) {
            if (k < 4 || k > 55) {
                // at the k-th it is best, and only there
                BabyRound x = of("aunt a 0 0 0 0; feeds 0; cries=hunger-" + k + ";");
                due(s + ", behind " + k, x.feedAt(Math.min(60, 2 * k), 0), k * 2 <= 60 ? k : 60 - k);
            }
        }
        String t = "III: FEED AT: (not if it is ASLEEP then)";
        BabyRound falls = of("aunt a 0 0 0 0; cries=wind; sleeps=held-2;");
        // CRY by WIND: behind 0, 1, 2 it is awake, behind 3 and more ASLEEP
        due(t, falls.feedAt(3, 0), 2);
        due(t, falls.feedAt(4, 0), 2);
        due(t, falls.feedAt(60, 0), 2);
        due(t, falls.feedAt(60, 1), 30);
        BabyRound wakes = of("aunt a 0 0 0 0; cries=wind; sleeps=1;");
        due(t, wakes.feedAt(60, 0), 0);
        due(t, wakes.feedAt(60, 1), 30);
        BabyRound later = of("aunt a 0 0 0 0; cries=wind; sleeps=held-1;");
        later.minutes(1);
        due(t + ", HELD 2 falls ASLEEP at once", later.feedAt(60, 0), 0);
        due("III: FEED AT: once", of("aunt a 0 0 0 0; feeds 0; cries=hunger-3;").feedAt(8, 1), 2);
    }

    private static void inSight() {
        String s = "III: IN SIGHT: for how many of them from now on (0 .. n) its MOTHER is in sight";
        for (int n : new int[] {1, 2, 59, 60}) {
            due(s + ", all", of("aunt a 0 0 0 0; cries=1-seen;").inSight(n, 0), n);
            due(s + ", all", of("aunt a 0 0 0 0; cries=1-seen;").inSight(n, 1), 0);
            due(s + ", none", of("aunt a 0 0 0 0; cries=seen;").inSight(n, 0), 0);
            due(s + ", none", of("aunt a 0 0 0 0; cries=seen;").inSight(n, 1), 0);
            due(s + "; of alike ones the fewest", of("aunt a 0 0 0 0; cries=2;").inSight(n, 0), 0);
            due(s + ", CRYING", of("aunt a 0 0 0 0; cries=2;").inSight(n, 1), 2 * n);
            for (int few = 0; few <= n; few++) {
                if (few < 3 || few > n - 3) {
                    BabyRound x = of("aunt a 0 0 0 0; cries=if held<" + (few + 1) + " then 3-3*seen else 3*seen;");
                    due(s + ", " + few + " of " + n, x.inSight(n, 0), few);
                    due(s + ", " + few + " of " + n, x.inSight(n, 1), 0);
                    x.mother(true);
                    due(s + ", in sight now, " + few + " of " + n, x.inSight(n, 0), few);
                    due(s + ", in sight now", x.inSight(n, 1), 0);
                }
            }
        }
    }

    private static void peak() {
        String s = "III: PEAK: the greatest CRY in one of them, and in which (0 .. n - 1), the first";
        for (int n : new int[] {1, 2, 239, 240}) {
            due(s, of("aunt a 0 0 0 0; cries=held/3;").peak(n, 0), n / 3);
            due(s, of("aunt a 0 0 0 0; cries=held/3;").peak(n, 1), n / 3 * 3 == 0 ? 0 : n / 3 * 3 - 1);
            due(s, of("aunt a 0 0 0 0; cries=5;").peak(n, 1), 0);
            due(s, of("aunt a 0 0 0 0;").peak(n, 0), 0);
            due(s, of("aunt a 0 0 0 0;").peak(n, 1), 0);
            due(s + ", the last", of("aunt a 0 0 0 0; cries=held-" + (n - 1) + ";").peak(n, 0), 1);
            due(s + ", the last", of("aunt a 0 0 0 0; cries=held-" + (n - 1) + ";").peak(n, 1), n - 1);
            due(s + ", too late", of("aunt a 0 0 0 0; cries=held-" + n + ";").peak(n, 0), 0);
        }
        due(s + ", the most", of("aunt a 0 0 0 0; cries=held;").peak(240, 0), 99);
        due(s + ", the most", of("aunt a 0 0 0 0; cries=held;").peak(240, 1), 98);
        BabyRound x = of("aunt a 0 0 0 0; cries=if held<6 then 9 else held-6;");
        x.minutes(5);
        due(s + ", not what was", x.peak(3, 0), 2);
        due(s + ", not what was", x.peak(3, 1), 2);
    }

    private static void merry() {
        String s = "III: MERRY: behind how many MINUTES (1 .. 240) it LAUGHS for the first time";
        for (int held : new int[] {1, 2, 239, 240}) {
            due(s, of("baby 0 0 60 0; aunt a 0 0 0 0; cries=if held<" + held + " then 1 else 0;").merry(), held);
        }
        due("32: -2: not", of("baby 0 0 60 0; aunt a 0 0 0 0; cries=if held<241 then 1 else 0;").merry(), NOT);
        due("32: -2: not, WONDER 49", of("baby 0 0 49 0; aunt a 0 0 0 0;").merry(), NOT);
        due(s + ", WONDER 50", of("baby 0 0 50 0; aunt a 0 0 0 0;").merry(), 1);
        BabyRound x = of("baby 0 0 60 0; aunt a 0 0 0 0;");
        x.minutes(5);
        due(s + ", from now on", x.merry(), 1);
        BabyRound y = of("baby 0 0 60 0; aunt a 0 0 0 0; cries=if held<3 then 0 else 1;");
        y.minutes(3);
        due("32: -2: not, though it LAUGHED", y.merry(), NOT);
        y.lay();
        due(s + ", behind its sleep", y.merry(), 61);
    }

    private static void rests() {
        String s = "III: RESTS: none by herself, doing the other thing, would have it LAUGH oftener with her";
        // it laughs in the first k MINUTES of all; twice as long has more, as long as there is something left
        for (int k = 0; k <= 8; k++) {
            BabyRound x = of("baby 0 0 60 0;" + AB + "cries=if hunger<" + (k + 1) + " then 0 else 1; fresh 0;");
            // m 2: a has 2 or 4 MINUTES, then b
            int[] sets = {4, 4, 4, 2, 2, 2, 2, 1, 1};
            int[] first = {0, 0, 0, 1, 1, 1, 1, 3, 3};
            due(s + ", " + k + " laughs: how many", x.rests(2, NONE), sets[k]);
            due(s + ", " + k + " laughs: the least bits first", x.rests(2, 0), first[k]);
            for (int i = 1; i < sets[k]; i++) {
                due(s + ", " + k + " laughs: the least bits first", x.rests(2, i), sets[k] == 4 ? i : 3);
            }
            due("33: NONE: not so many", x.rests(2, sets[k]), NONE);
            due("33: NONE: not so many", x.rests(2, MAX), NONE);
        }
        // once round from her who has it on: b first, then c, then a
        BabyRound y = of("baby 0 0 60 0;" + ABC + "cries=if hunger<5 then 0 else 1; fresh 0;");
        y.hand(1);
        due(s + ", from b on", y.rests(2, NONE), 4);
        for (int i = 0; i < 4; i++) {
            due(s + ", from b on", y.rests(2, i), new int[] {2, 3, 6, 7}[i]);
        }
        due(s + ", from b on", y.rests(1, NONE), 2);
        due(s + ", from b on, then c", y.rests(1, 0), 6);
        due(s + ", from b on, then c", y.rests(1, 1), 7);
        // to keep it longer has it laugh less often with her only if she may; here it is alike
        due(s + ", alike", of("baby 0 0 60 0;" + AB + "cries=if held<2 then 0 else 1; fresh 0;").rests(1, NONE), 4);
        // asleep MINUTES are not counted to m: it laughs in the one behind
        BabyRound z = of("baby 0 0 60 0; aunt a 0 0 0 0; fresh 0; sleeps=1;");
        due(s + ", with sleep", z.rests(1, NONE), 1);
        due(s + ", with sleep", z.rests(1, 0), 1);
    }

    private static void restsOfSix() {
        String s = "III: RESTS: sets of those who keep it twice as long";
        BabyRound x = of(SIX + "fresh 0;");
        for (int m : new int[] {1, 10}) {
            due(s + ", all 64", x.rests(m, NONE), 64);
            due(s + ", the first", x.rests(m, 0), 0);
            due(s + ", the last", x.rests(m, 63), 63);
            due("33: NONE: not so many", x.rests(m, 64), NONE);
        }
        for (int i = 0; i < 64; i++) {
            due(s + ", the least bits first", x.rests(1, i), i);
        }
        BabyRound y = of("baby 0 0 60 0;" + SIX + "fresh 0;");
        due(s + ", one alone", y.rests(10, NONE), 1);
        due(s + ", one alone", y.rests(10, 0), 63);
        due(s + ", one alone", y.rests(10, 1), NONE);
        // with f alone it laughs
        BabyRound z = of("baby 0 0 60 0;" + ABC + "aunt d 0 0 0 0; aunt e 0 0 0 0; aunt f 1 0 0 0; cries=1-rock; fresh 0;");
        due(s + ", f", z.rests(1, NONE), 32);
        due(s + ", f", z.rests(1, 0), 32);
        due(s + ", f", z.rests(1, 31), 63);
    }

    private static void silk() {
        String s = "III: SILK: by s SEEDS (1 .. 20) from the text's SEED on: how much SILK is lost in all of them together";
        for (int seed : new int[] {0, 1, 9980, 9999}) {
            BabyRound x = of("aunt a 0 0 0 7; spits=50; seed " + seed + ";");
            for (int n : new int[] {0, 1, 2, 119, 120}) {
                for (int seeds : new int[] {1, 2, 19, 20}) {
                    due(s + ", n " + n + ", s " + seeds + ", SEED " + seed, x.silk(n, seeds), lost(seed, seeds, 0, n));
                }
            }
            x.minutes(5);
            due(s + ", from now on", x.silk(9, 3), lost(seed, 3, 5, 14));
            x.cloth(true);
            due(s + ", with a cloth", x.silk(120, 20), 0);
        }
        due(s + ", the most", of("aunt a 0 0 0 99; spits=100;").silk(120, 20), 120 * 20 * 99);
        due(s + ", none", of("aunt a 0 0 0 0; spits=100;").silk(120, 20), 0);
    }

    private static int lost(int seed, int seeds, int from, int to) {
        int lost = 0;
        for (int i = 0; i < seeds; i++) {
            for (int minute = from; minute < to; minute++) {
                lost += Check.lot(100, seed + i, minute) < 50 ? 7 : 0;
            }
        }
        return lost;
    }

    private static void likes() {
        String s = "35: CRY with her by MINUTES she has had it, a fraction that cannot be lessened";
        BabyRound x = of(AB + "cries=held*2;");
        due("35: -2: she has not had it", x.likes(0, true), NOT);
        due("35: -2: she has not had it", x.likes(0, false), NOT);
        for (int n = 1; n <= 6; n++) {
            x.minutes(1);
            // n * (n + 1) by n
            due(s + ", above", x.likes(0, false), n + 1);
            due(s + ", below", x.likes(0, true), 1);
        }
        due("35: -2: she has not had it", x.likes(1, true), NOT);
        BabyRound y = of(AB + "cries=if held<5 then 0 else if held<8 then 2 else 1;");
        int[][] due = {{0, 1}, {0, 1}, {0, 1}, {0, 1}, {2, 5}, {2, 3}, {6, 7}, {7, 8}, {8, 9}, {9, 10}};
        for (int n = 0; n < 10; n++) {
            y.minutes(1);
            due(s + ", above, " + (n + 1), y.likes(0, false), due[n][0]);
            due(s + ", below, " + (n + 1), y.likes(0, true), due[n][1]);
        }
        y.hand(1);
        due("35: -2: she has not had it, though she has it", y.likes(1, true), NOT);
        y.lay();
        y.minutes(60);
        due("35: -2: asleep is not had", y.likes(1, true), NOT);
        y.minutes(1);
        due(s + ", 0 by 1", y.likes(1, false), 0);
        due(s + ", 0 by 1", y.likes(1, true), 1);
        BabyRound z = of(AB + "cries=99;");
        z.minutes(240);
        z.minutes(240);
        due(s + ", the most", z.likes(0, false), 99);
        due(s + ", the most", z.likes(0, true), 1);
        BabyRound w = of(AB + "cries=if held<240 then 0 else 1;");
        w.minutes(240);
        due(s + ", 1 by 240", w.likes(0, false), 1);
        due(s + ", 1 by 240", w.likes(0, true), 240);
    }

    private static void sleeps() {
        String s = "36: Behind how many MINUTES (0 .. 240; 0: now) it is ASLEEP as it is";
        for (int held : new int[] {1, 2, 239, 240}) {
            due(s, of("aunt a 0 0 0 0; sleeps=held-" + (held - 1) + ";").sleeps(), held);
        }
        due("36: -2: not, 241", of("aunt a 0 0 0 0; sleeps=held-240;").sleeps(), NOT);
        due("36: -2: not", of("aunt a 0 0 0 0; sleeps=0;").sleeps(), NOT);
        BabyRound x = of("aunt a 0 0 0 0;");
        x.lay();
        due(s + ", now", x.sleeps(), 0);
        x.minutes(59);
        due(s + ", now, for the 60th MINUTE", x.sleeps(), 0);
        x.minutes(1);
        due("36: -2: not, it woke", x.sleeps(), NOT);
        BabyRound y = of("aunt a 0 0 0 0; tires=1; sleeps=tired-9;");
        y.minutes(9);
        due(s + ", 1", y.sleeps(), 1);
        y.minutes(1);
        due(s + ", now", y.sleeps(), 0);
    }
}
