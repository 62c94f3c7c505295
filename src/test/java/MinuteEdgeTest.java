import java.util.List;

/** The boundaries that Term II and promises 6 to 15 name: each sentence on its edge, just inside and just beyond. */
final class MinuteEdgeTest {
    private static final int NONE = -1;
    private static final int MIN = Integer.MIN_VALUE;
    private static final int MAX = Integer.MAX_VALUE;
    private static final int HUNGER = 0;
    private static final int TIRED = 1;
    private static final int WONDER = 2;
    private static final int WIND = 3;
    private static final int HELD = 5;
    private static final int CRY = 6;
    private static final int ASLEEP = 7;
    private static final Check CHECK = new Check("MinuteEdgeTest");
    private static final List<String> LAWS = List.of("hungers", "tires", "wonders", "winds", "cries", "sleeps", "spits");

    private MinuteEdgeTest() {
    }

    public static void main(String[] args) {
        heldTo0And99();
        allByWhatWas();
        heldAMinuteLonger();
        thenCry();
        laughs();
        spits();
        spitsThenSleeps();
        silkLost();
        fallsAsleep();
        asleep();
        behindThe60th();
        withoutAunts();
        oneLessThanTheOther();
        firstIfThatHolds();
        intsThatWrap();
        roundedTowards0();
        dividedBy0();
        looksAt();
        heldLaws();
        lots();
        handed();
        freshAtMost99();
        neitherOfTheTwo();
        feedsAtMost99();
        promise6();
        promise7();
        promise8();
        promise9();
        promise10();
        promises11And12();
        promises13And14();
        promise15();
        promise15Each();
        CHECK.end();
    }

    private static void due(String call, long got, long want) {
        CHECK.due(call, got, want);
    }

    private static void due(String call, boolean got, boolean want) {
        CHECK.due(call, got, want);
    }

    private static BabyRound of(String text) {
        return Check.of(text);
    }

    /** A LAW's text for a number, which may be below 0. */
    private static String law(int which, int number) {
        return LAWS.get(which) + "=" + (number < 0 ? "0-" : "") + Math.abs(number) + ";";
    }

    private static String baby(int which, int number) {
        int[] all = {30, 30, 30, 30};
        all[which] = number;
        return "baby " + all[0] + " " + all[1] + " " + all[2] + " " + all[3] + ";";
    }

    private static void heldTo0And99() {
        for (int which = 0; which < 4; which++) {
            for (int was = 0; was <= 99; was++) {
                if (was <= 11 || was >= 88) {
                    for (int more = -9; more <= 9; more++) {
                        BabyRound x = of(baby(which, was) + "aunt a 0 0 0 0;" + law(which, more));
                        x.minutes(1);
                        due("II: held to 0 .. 99, " + LAWS.get(which) + " " + was + " and " + more, x.now(which),
                            Math.max(0, Math.min(99, was + more)));
                    }
                }
            }
            // it is held each minute, not behind all of them
            BabyRound x = of(baby(which, 95) + "aunt a 0 0 0 0;" + LAWS.get(which) + "=if held<3 then 9 else 0-1;");
            x.minutes(5);
            due("II: held to 0 .. 99, each minute", x.now(which), 97);
            BabyRound y = of(baby(which, 5) + "aunt a 0 0 0 0;" + LAWS.get(which) + "=if held<3 then 0-9 else 1;");
            y.minutes(5);
            due("II: held to 0 .. 99, each minute", y.now(which), 2);
        }
    }

    private static void allByWhatWas() {
        String s = "II: all by what was";
        String[] vars = {"hunger", "tired", "wonder", "wind"};
        for (int which = 0; which < 4; which++) {
            for (int looked = 0; looked < 4; looked++) {
                // each is 1 more in the minute: by what was it is 3, not 4
                StringBuilder text = new StringBuilder("baby 3 3 3 3; aunt a 0 0 0 0;");
                for (int i = 0; i < 4; i++) {
                    text.append(law(i, 1));
                }
                text.append(LAWS.get(which)).append("=").append(vars[looked]).append(";");
                BabyRound x = of(text.toString());
                x.minutes(1);
                due(s + ", " + LAWS.get(which) + "=" + vars[looked], x.now(which), 6);
            }
            BabyRound x = of("aunt a 0 0 0 0;" + LAWS.get(which) + "=if held<1 then 5 else 0;");
            x.minutes(2);
            due(s + ", HELD too", x.now(which), 5);
        }
    }

    private static void heldAMinuteLonger() {
        String s = "II: it is HELD a minute longer";
        BabyRound x = of("aunt a 0 0 0 0; aunt b 0 0 0 0; cries=held;");
        for (int minute = 1; minute <= 130; minute++) {
            x.minutes(1);
            if (minute < 4 || minute > 97 && minute < 103 || minute == 130) {
                due(s, x.now(HELD), minute);
                due("II: then CRY is what CRIES tells", x.now(CRY), Math.min(99, minute));
            }
        }
        x.hand(1);
        due("II: HAND it to another AUNT: HELD 0", x.now(HELD), 0);
        x.minutes(1);
        due(s, x.now(HELD), 1);
    }

    private static void thenCry() {
        String s = "II: then CRY is what CRIES tells";
        String[] vars = {"hunger", "tired", "wonder", "wind", "held"};
        for (int i = 0; i < vars.length; i++) {
            BabyRound x = of("baby 3 3 3 3; aunt a 0 0 0 0; hungers=1; tires=1; wonders=1; winds=1; cries=" + vars[i] + ";");
            x.minutes(1);
            due(s + " by " + vars[i], x.now(CRY), i < 4 ? 4 : 1);
            due("II: she who has it has had it a minute more, and that CRY", x.aunt(0, 1), i < 4 ? 4 : 1);
            due("II: she who has it has had it a minute more, and that CRY", x.aunt(0, 0), 1);
        }
    }

    private static void laughs() {
        String s = "II: it LAUGHS if CRY is 0 and WONDER 50 or more";
        for (int wonder : new int[] {0, 48, 49, 50, 51, 98, 99}) {
            for (int cry = 0; cry <= 2; cry++) {
                BabyRound x = of(baby(WONDER, wonder) + "aunt a 0 0 0 0; cries=" + cry + ";");
                x.minutes(1);
                due(s + ", WONDER " + wonder + ", CRY " + cry, x.count(3), wonder >= 50 && cry == 0 ? 1 : 0);
                due(s + ", WONDER " + wonder + ", CRY " + cry, x.aunt(0, 2), wonder >= 50 && cry == 0 ? 1 : 0);
            }
        }
        // by WONDER as it is behind its LAW
        BabyRound up = of(baby(WONDER, 49) + "aunt a 0 0 0 0; wonders=1;");
        up.minutes(1);
        due(s + ", from 49 to 50", up.count(3), 1);
        BabyRound down = of(baby(WONDER, 50) + "aunt a 0 0 0 0; wonders=0-1;");
        down.minutes(1);
        due(s + ", from 50 to 49", down.count(3), 0);
        BabyRound below = of(baby(WONDER, 99) + "aunt a 0 0 0 0; cries=0-5;");
        below.minutes(1);
        due(s + ", CRIES below 0", below.count(3), 1);
        below.lay();
        below.minutes(60);
        due(s + ", not ASLEEP", below.count(3), 1);
    }

    private static void spits() {
        String s = "II: it SPITS if LOT 100 of the SEED and the minute is less than SPITS tells";
        for (int seed : new int[] {0, 1, 37, 4711, 9999}) {
            for (int minute = 0; minute < 4; minute++) {
                int lot = Check.lot(100, seed, minute);
                for (int told = lot - 1; told <= lot + 2; told++) {
                    if (told >= 0) {
                        BabyRound x = of("baby 0 0 0 9; aunt a 0 0 0 7; seed " + seed + "; spits=" + told + ";");
                        if (minute > 0) {
                            x.cloth(true);
                            x.lay();
                            x.undo();
                            x.minutes(minute);
                            x.cloth(false);
                        }
                        int sick = x.aunt(0, 6);
                        x.minutes(1);
                        due(s + ", minute " + minute + ", LOT " + lot + ", SPITS " + told, x.aunt(0, 6) - sick, lot < told ? 1 : 0);
                        due("II: WIND is 0", x.now(WIND), lot < told || sick > 0 ? 0 : 9);
                        due("II: her SILK is lost", x.aunt(0, 4), lot < told ? 7 : 0);
                    }
                }
            }
        }
        BabyRound never = of("aunt a 0 0 0 1; spits=0;");
        never.minutes(240);
        due(s + ", 0", never.aunt(0, 6), 0);
        BabyRound always = of("aunt a 0 0 0 1; spits=100;");
        always.minutes(240);
        due(s + ", 100", always.aunt(0, 6), 240);
        BabyRound below = of("aunt a 0 0 0 1; spits=0-1;");
        below.minutes(240);
        due(s + ", below 0", below.aunt(0, 6), 0);
        // 99: there are minutes whose LOT is 99, and none beyond
        BabyRound most = of("aunt a 0 0 0 1; spits=99;");
        int want = 0;
        for (int minute = 0; minute < 720; minute++) {
            want += Check.lot(100, 0, minute) < 99 ? 1 : 0;
        }
        for (int i = 0; i < 3; i++) {
            most.minutes(240);
        }
        due(s + ", 99", most.aunt(0, 6), want);
        due(s + ", 99", want < 720 ? 1 : 0, 1);
        // the minute is that of the text: minutes asleep are counted, too
        BabyRound z = of("aunt a 0 0 0 1; spits=50; seed 3;");
        z.lay();
        z.minutes(60);
        for (int minute = 60; minute < 90; minute++) {
            int sick = z.aunt(0, 6);
            z.minutes(1);
            due(s + ", minute " + minute, z.aunt(0, 6) - sick, Check.lot(100, 3, minute) < 50 ? 1 : 0);
        }
    }

    private static void spitsThenSleeps() {
        String s = "II: then it SPITS .. then it falls ASLEEP";
        BabyRound x = of("baby 0 0 0 9; aunt a 0 0 0 0; spits=100; sleeps=if wind<1 then 1 else 0;");
        x.minutes(1);
        due(s + ", by WIND 0", x.now(ASLEEP), 60);
        BabyRound y = of("baby 0 0 0 9; aunt a 0 0 0 0; spits=0; sleeps=if wind<1 then 1 else 0;");
        y.minutes(1);
        due(s + ", by WIND 9", y.now(ASLEEP), 0);
        // CRY and laughing are ahead of it
        BabyRound z = of("baby 0 0 60 9; aunt a 0 0 0 0; spits=100; cries=wind; sleeps=1;");
        z.minutes(1);
        due("II: CRY ahead of it", z.now(CRY), 9);
        due("II: no laughing", z.count(3), 0);
        due("II: CRY stays as it falls ASLEEP", z.count(2), 9);
        // SPITS looks at what is behind the LAWS
        BabyRound w = of("baby 0 0 0 9; aunt a 0 0 0 0; winds=1; spits=if wind<10 then 100 else 0;");
        w.minutes(1);
        due("II: SPITS by WIND 10", w.aunt(0, 6), 0);
    }

    private static void silkLost() {
        String s = "II: her SILK is lost, if there is no cloth";
        for (int silk : new int[] {0, 1, 98, 99}) {
            BabyRound x = of("baby 0 0 0 9; aunt a 0 0 0 " + silk + "; spits=100;");
            x.minutes(1);
            due(s, x.aunt(0, 4), silk);
            x.minutes(2);
            due(s + ", each time", x.aunt(0, 4), 3 * silk);
            x.cloth(true);
            x.minutes(1);
            due(s + ", with a cloth", x.aunt(0, 4), 3 * silk);
            due("7: how often it was sick on her (cloth or not)", x.aunt(0, 6), 4);
            x.cloth(false);
            x.minutes(1);
            due(s + ", off again", x.aunt(0, 4), 4 * silk);
            due(s, x.count(4), 4 * silk);
        }
        BabyRound y = of("baby 0 0 0 9; aunt a 0 0 0 3; aunt b 0 0 0 5; spits=100;");
        y.cloth(true);
        y.minutes(1);
        due("II: WIND is 0, cloth or not", y.now(WIND), 0);
        y.cloth(false);
        y.hand(1);
        y.minutes(1);
        due(s + ", hers who has it", y.aunt(1, 4), 5);
        due(s + ", not the other's", y.aunt(0, 4), 0);
    }

    private static void fallsAsleep() {
        String s = "II: it falls ASLEEP for 60 MINUTES if SLEEPS tells more than 0";
        for (int told : new int[] {-9999, -2, -1, 0, 1, 2, 9999}) {
            BabyRound x = of("aunt a 0 0 0 0;" + law(5, told));
            x.minutes(1);
            due(s + ", " + told, x.now(ASLEEP), told > 0 ? 60 : 0);
            due(s + ", " + told, x.count(5), told > 0 ? 1 : 0);
        }
        BabyRound y = of("aunt a 0 0 0 0; tires=1; sleeps=tired-4;");
        y.minutes(4);
        due(s + ", TIRED 4", y.now(ASLEEP), 0);
        y.minutes(1);
        due(s + ", TIRED 5", y.now(ASLEEP), 60);
    }

    private static void asleep() {
        BabyRound x = of("baby 10 20 60 40; aunt a 0 0 0 9; tires=5; wonders=5; winds=5; hungers=2; cries=9; spits=100;");
        x.lay();
        due("II: ASLEEP", x.now(ASLEEP), 60);
        x.minutes(1);
        due("II: ASLEEP: HUNGER is more as its LAW tells", x.now(HUNGER), 12);
        due("II: ASLEEP: TIRED is not", x.now(TIRED), 20);
        due("II: ASLEEP: WONDER is not", x.now(WONDER), 60);
        due("II: ASLEEP: WIND is not", x.now(WIND), 40);
        due("II: ASLEEP: not HELD longer", x.now(HELD), 0);
        due("II: ASLEEP: she SITS a minute", x.aunt(0, 3), 1);
        due("II: ASLEEP: she has it not awake", x.aunt(0, 0), 0);
        due("II: ASLEEP: CRY is 0", x.now(CRY), 0);
        due("II: ASLEEP: CRY is 0", x.count(2), 0);
        due("II: ASLEEP: no laughing", x.count(3), 0);
        due("II: ASLEEP: it does not spit", x.aunt(0, 6), 0);
        due("II: ASLEEP: a minute fewer", x.now(ASLEEP), 59);
        due("II: Then it is the next minute", x.count(1), 1);
        // by its LAW: held to 0 .. 99, and by what is looked at then
        BabyRound y = of("baby 95 0 0 0; aunt a 7 0 0 0; hungers=rock-3;");
        y.lay();
        y.minutes(1);
        due("II: ASLEEP: HUNGER held to 99", y.now(HUNGER), 99);
        BabyRound z = of("baby 5 0 0 0; aunt a 0 0 0 0; hungers=if hunger<3 then 0-9 else 0-2;");
        z.lay();
        z.minutes(1);
        due("II: ASLEEP: HUNGER", z.now(HUNGER), 3);
        z.minutes(1);
        due("II: ASLEEP: HUNGER", z.now(HUNGER), 1);
        z.minutes(1);
        due("II: ASLEEP: HUNGER held to 0", z.now(HUNGER), 0);
        // the CRY of the last MINUTE awake is that of the last MINUTE until one asleep is over
        BabyRound w = of("aunt a 0 0 0 0; cries=9;");
        w.minutes(1);
        w.lay();
        due("6: CRY in the last MINUTE", w.now(CRY), 9);
        w.minutes(1);
        due("6: CRY in the last MINUTE", w.now(CRY), 0);
        BabyRound v = of("aunt a 0 0 0 0; hungers=seen*5;");
        v.lay();
        v.mother(true);
        v.minutes(3);
        due("II: ASLEEP: HUNGER by what is looked at then", v.now(HUNGER), 15);
    }

    private static void behindThe60th() {
        String s = "II: behind the 60th it is awake, TIRED 0, HELD for 0 MINUTES";
        BabyRound x = of("baby 0 50 0 0; aunt a 0 0 0 0; hungers=0; cries=3;");
        x.minutes(5);
        x.lay();
        for (int minute = 1; minute <= 59; minute++) {
            x.minutes(1);
            due(s + ", behind the " + minute, x.now(ASLEEP), 60 - minute);
            due(s + ", behind the " + minute, x.now(TIRED), 55);
            due(s + ", behind the " + minute, x.now(HELD), 5);
        }
        x.minutes(1);
        due(s, x.now(ASLEEP), 0);
        due(s, x.now(TIRED), 0);
        due(s, x.now(HELD), 0);
        due("II: CRY is 0, in the 60th too", x.now(CRY), 0);
        due(s, x.aunt(0, 3), 60);
        due(s, x.aunt(0, 0), 5);
        x.minutes(1);
        due(s + ", the 61st is one awake", x.now(CRY), 3);
        due(s + ", the 61st is one awake", x.now(HELD), 1);
        due(s + ", the 61st is one awake", x.now(TIRED), 1);
        due(s + ", the 61st is one awake", x.aunt(0, 3), 60);
        due(s + ", the 61st is one awake", x.aunt(0, 0), 6);
        // it may fall asleep again at once
        BabyRound y = of("aunt a 0 0 0 0; sleeps=1;");
        y.minutes(61);
        due(s + ", and ASLEEP no more", y.now(ASLEEP), 0);
        y.minutes(1);
        due(s + ", and again", y.now(ASLEEP), 60);
        due(s + ", and again", y.count(5), 2);
        due(s + ", and again", y.now(HELD), 1);
    }

    private static void withoutAunts() {
        String s = "II: Without AUNTS: minutes go by, nothing else";
        BabyRound x = of("baby 10 20 60 40; hungers=5; tires=5; wonders=5; winds=5; cries=5; sleeps=1; spits=100;");
        due(s, x.minutes(1), 1);
        due(s, x.minutes(240), 241);
        int[] nows = {10, 20, 60, 40, -2, 0, 0, 0, 0, 0, -2, -2};
        for (int i = 0; i < nows.length; i++) {
            due(s + ", now(" + i + ")", x.now(i), nows[i]);
        }
        int[] counts = {0, 241, 0, 0, 0, 0, 0, 0, 2, 0, 0, 20, 30, 0};
        for (int i = 0; i < counts.length; i++) {
            due(s + ", count(" + i + ")", x.count(i), counts[i]);
        }
        due(s + ", undone", x.undo(), true);
        due(s + ", undone", x.count(1), 1);
    }

    private static int cries(String law) {
        return of("baby 10 20 30 40; aunt a 5 6 7 8; cries=" + law + ";").law(4);
    }

    private static void oneLessThanTheOther() {
        String s = "II: (one less than the other)";
        for (int left = 8; left <= 12; left++) {
            due(s, cries("if hunger<" + left + " then 1 else 2"), 10 < left ? 1 : 2);
            due(s, cries("if " + left + "<hunger then 1 else 2"), left < 10 ? 1 : 2);
        }
        due(s + ", below 0", cries("if 0-1<0 then 1 else 2"), 1);
        due(s + ", below 0", cries("if 0<0-1 then 1 else 2"), 2);
        due(s + ", below 0", cries("if 0-1<0-1 then 1 else 2"), 2);
        due(s + ", below 0", cries("if 0-2<0-1 then 1 else 2"), 1);
        // far apart: their difference would wrap
        due(s + ", far apart", cries("if 0-9999*9999*20<9999*9999*20 then 1 else 2"), 1);
        due(s + ", far apart", cries("if 9999*9999*20<0-9999*9999*20 then 1 else 2"), 2);
    }

    private static void firstIfThatHolds() {
        String s = "II: the E of the first if that holds, else the last one";
        for (int holds = 0; holds < 16; holds++) {
            StringBuilder law = new StringBuilder();
            int want = 9;
            for (int i = 3; i >= 0; i--) {
                want = (holds >> i & 1) == 1 ? i + 1 : want;
            }
            for (int i = 0; i < 4; i++) {
                law.append("if ").append((holds >> i & 1) == 1 ? "1<2" : "2<2").append(" then ").append(i + 1).append(" else ");
            }
            due(s, cries(law + "9"), want);
        }
    }

    private static void intsThatWrap() {
        String s = "II: ints of 32 bits that wrap";
        // 46341 * 46341 is beyond 2 to the 31st, 46340 * 46340 is not
        due(s, cries("if (9999*4+6344)*(9999*4+6344)<0 then 1 else 2"), 2);
        due(s, cries("if (9999*4+6345)*(9999*4+6345)<0 then 1 else 2"), 1);
        // 2 to the 31st less 1, and 1 more
        due(s, cries("if 1024*1024*1024+(1024*1024*1024-1)<0 then 1 else 2"), 2);
        due(s, cries("if 1024*1024*1024+1024*1024*1024<0 then 1 else 2"), 1);
        due(s, cries("if 0-1024*1024*1024-1024*1024*1024<0 then 1 else 2"), 1);
        due(s, cries("if 0-1024*1024*1024-1024*1024*1024-1<0 then 1 else 2"), 2);
        due(s, cries("1024*1024*1024*4+7"), 7);
        due(s, cries("1024*1024*1024*2/(0-1024*1024*1024)"), 2);
        // the least int by -1 is the least int
        due(s, cries("if 1024*1024*1024*2/(0-1)<0 then 1 else 2"), 1);
        due(s, cries("if (1024*1024*1024*2+1)/(0-1)<0 then 1 else 2"), 2);
        int all = 9999 * 9999 * 9999 + 9999 * 7;
        due(s, cries("if 9999*9999*9999+9999*7<0 then 1 else 2"), all < 0 ? 1 : 2);
        due(s, cries("(9999*9999*9999+9999*7)/9999/9999+50"), all / 9999 / 9999 + 50);
    }

    private static void roundedTowards0() {
        String s = "II: / rounded towards 0";
        for (int left = -7; left <= 7; left++) {
            for (int right = -3; right <= 3; right++) {
                if (right != 0) {
                    int want = Math.abs(left) / Math.abs(right) * (left < 0 == right < 0 ? 1 : -1);
                    due(s + ", " + left + " by " + right, cries("50+(" + left(left) + ")/(" + left(right) + ")"), 50 + want);
                }
            }
        }
    }

    private static String left(int number) {
        return number < 0 ? "0-" + -number : "" + number;
    }

    private static void dividedBy0() {
        String s = "II: a LAW in which something that is looked at is divided by 0 is 0";
        for (String law : List.of("1/0", "0/0", "9+1/0", "1/0+9", "9*(1/(2-2))", "9+0*(1/0)", "9/(1/0)", "9-9/held", "(1/0)/(1/0)+9")) {
            due(s + ", " + law, cries(law), 0);
            due(s + ", first, " + law, cries("if " + law + "<9 then 9 else 9"), 0);
            due(s + ", second, " + law, cries("if 0-9<" + law + " then 9 else 9"), 0);
            due(s + ", then, " + law, cries("if 1<2 then " + law + " else 9"), 0);
            due(s + ", else, " + law, cries("if 2<1 then 9 else " + law), 0);
            due(s + ", not looked at, " + law, cries("if 1<2 then 9 else " + law), 9);
            due(s + ", not looked at, " + law, cries("if 2<1 then " + law + " else 9"), 9);
            due(s + ", a second if, " + law, cries("if 2<1 then 9 else if " + law + "<1 then 9 else 9"), 0);
            due(s + ", not looked at, " + law, cries("if 1<2 then 9 else if " + law + "<1 then 8 else 8"), 9);
        }
        due(s + ", by 1", cries("9/1"), 9);
        due(s + ", 0 by 1", cries("0/1+9"), 9);
        // 0 is held like all it tells: each LAW has one of its own
        BabyRound x = of("aunt a 0 0 0 0; hungers=1/0; tires=5; wonders=1/0; winds=6; cries=1/0; sleeps=1/0; spits=7;");
        int[] laws = {0, 5, 0, 6, 0, 0, 7};
        for (int i = 0; i < 7; i++) {
            due(s + ", law(" + i + ")", x.law(i), laws[i]);
        }
        x.minutes(1);
        due(s + ", HUNGER", x.now(HUNGER), 0);
        due(s + ", TIRED", x.now(TIRED), 5);
        due(s + ", not ASLEEP", x.now(ASLEEP), 0);
        BabyRound y = of("aunt a 0 0 0 0; cries=9/held;");
        due(s + ", HELD 0", y.law(4), 0);
        y.minutes(1);
        due(s + ", HELD 1", y.now(CRY), 9);
        y.minutes(1);
        due(s + ", HELD 2", y.now(CRY), 4);
    }

    private static void looksAt() {
        BabyRound x = of("baby 11 22 33 44; aunt a 1 2 3 4; aunt b 5 6 7 8; cries=rock*1+show*10; spits=beard; winds=seen-held;");
        due("II: rock, show: hers", x.law(4), 21);
        due("II: beard: hers", x.law(6), 3);
        due("II: seen: 1 if its mother is in sight, else 0", x.law(3), 0);
        x.mother(true);
        due("II: seen: 1 if its mother is in sight, else 0", x.law(3), 1);
        x.minutes(1);
        due("II: held: MINUTES she has had it now", x.law(3), 0);
        x.hand(1);
        due("II: held: MINUTES she has had it now", x.law(3), 1);
        due("II: rock, show: hers", x.law(4), 65);
        due("II: beard: hers", x.law(6), 7);
        x.mother(false);
        due("II: seen: 1 if its mother is in sight, else 0", x.law(3), 0);
        due("II: hunger", cries("hunger"), 10);
        due("II: tired", cries("tired"), 20);
        due("II: wonder", cries("wonder"), 30);
        due("II: wind", cries("wind"), 40);
    }

    private static void heldLaws() {
        int[] least = {-9, -9, -9, -9, 0, 0, 0};
        int[] most = {9, 9, 9, 9, 99, 1, 100};
        for (int which = 0; which < 7; which++) {
            for (int bound : new int[] {least[which], most[which]}) {
                for (int told = bound - 2; told <= bound + 2; told++) {
                    due("II: LAWS held, " + LAWS.get(which) + " " + told, of("aunt a 0 0 0 0;" + law(which, told)).law(which),
                        Math.max(least[which], Math.min(most[which], told)));
                }
            }
            due("II: LAWS held, far below", of("aunt a 0 0 0 0;" + LAWS.get(which) + "=0-9999*9999;").law(which), least[which]);
            due("II: LAWS held, far above", of("aunt a 0 0 0 0;" + LAWS.get(which) + "=9999*9999;").law(which), most[which]);
        }
        for (int told : new int[] {98, 99, 100, 9999}) {
            BabyRound x = of("aunt a 0 0 0 0; cries=" + told + ";");
            x.minutes(1);
            due("II: CRIES to 0 .. 99", x.now(CRY), Math.min(99, told));
            due("II: CRIES to 0 .. 99", x.count(2), Math.min(99, told));
        }
        BabyRound y = of("aunt a 0 0 0 0; hungers=10; tires=9999; wonders=11; winds=10;");
        y.minutes(1);
        for (int which = 0; which < 4; which++) {
            due("II: held to -9 .. 9", y.now(which), 9);
        }
        BabyRound z = of("baby 50 50 50 50; aunt a 0 0 0 0; hungers=0-10; tires=0-9999; wonders=0-11; winds=0-10;");
        z.minutes(1);
        for (int which = 0; which < 4; which++) {
            due("II: held to -9 .. 9", z.now(which), 41);
        }
    }

    private static void lots() {
        String s = "II: LOT n of a SEED and a which";
        // far on, so that the minute has many bits
        BabyRound x = of("aunt a 0 0 0 1; spits=50; seed 9999;");
        int want = 0;
        int minute = 0;
        for (int i = 0; i < 280; i++) {
            x.minutes(240);
            for (int j = 0; j < 240; j++) {
                want += Check.lot(100, 9999, minute) < 50 ? 1 : 0;
                minute++;
            }
        }
        due(s + ", minutes up to 67199", x.aunt(0, 6), want);
        due(s + ", minutes up to 67199", x.count(1), 67200);
    }

    private static void handed() {
        String s = "II: HAND it to another AUNT (awake)";
        BabyRound x = of("aunt a 0 0 0 0; aunt b 0 0 0 0; fresh 5;");
        due(s + ": she has it", x.hand(0), false);
        due(s + ": another one", x.hand(1), true);
        due(s + ": she has it", x.hand(1), false);
        due(s + ": another one", x.hand(0), true);
        x.lay();
        due(s + ": ASLEEP", x.hand(1), false);
        x.minutes(59);
        due(s + ": ASLEEP for the 60th MINUTE", x.hand(1), false);
        x.minutes(1);
        due(s + ": awake", x.hand(1), true);
    }

    private static void freshAtMost99() {
        String s = "II: WONDER is FRESH more (99 at most)";
        for (int wonder : new int[] {0, 1, 49, 78, 79, 80, 98, 99}) {
            for (int fresh : new int[] {0, 1, 20, 21, 50, 98, 99}) {
                BabyRound x = of(baby(WONDER, wonder) + "aunt a 0 0 0 0; aunt b 0 0 0 0; fresh " + fresh + ";");
                x.hand(1);
                due(s + ", " + wonder + " and " + fresh, x.now(WONDER), Math.min(99, wonder + fresh));
                x.hand(0);
                due(s + ", she is not new", x.now(WONDER), Math.min(99, wonder + fresh));
            }
        }
    }

    private static void neitherOfTheTwo() {
        String s = "II: if she is neither of the two who had it last ahead of who has it now";
        int[][] ways = {{1, 0, 1, 0}, {1, 2, 0, 1, 2}, {1, 2, 3, 1, 0}, {1, 2, 3, 0, 1, 2, 3}, {1, 2, 3, 2, 1, 3, 0}, {3, 0, 2, 0, 1, 0, 3},
            {1, 2, 3, 4, 5, 0, 3, 4, 5, 1}};
        for (int[] way : ways) {
            BabyRound x = of("aunt a 0 0 0 0; aunt b 0 0 0 0; aunt c 0 0 0 0; aunt d 0 0 0 0; aunt e 0 0 0 0; aunt f 0 0 0 0; fresh 9;");
            int[] had = new int[way.length + 3];
            had[0] = -2;
            had[1] = -2;
            had[2] = 0;
            int wonder = 0;
            for (int i = 0; i < way.length; i++) {
                // ahead of who has it now, had[i + 2], it was had[i + 1], then had[i]
                wonder += way[i] == had[i + 1] || way[i] == had[i] ? 0 : 9;
                had[i + 3] = way[i];
                due(s, x.hand(way[i]), true);
                due(s, x.now(WONDER), wonder);
                due("6: who had it ahead of her", x.now(10), had[i + 2]);
                due("6: who ahead of that one", x.now(11), had[i + 1]);
            }
        }
    }

    private static void feedsAtMost99() {
        String s = "II: FEED it (awake): HUNGER 0, WIND FEEDS more (99 at most)";
        for (int wind : new int[] {0, 1, 49, 68, 69, 70, 98, 99}) {
            for (int feeds : new int[] {0, 1, 30, 31, 50, 98, 99}) {
                BabyRound x = of(baby(WIND, wind) + "aunt a 0 0 0 0; feeds " + feeds + ";");
                due(s, x.nurse(), true);
                due(s + ", " + wind + " and " + feeds, x.now(WIND), Math.min(99, wind + feeds));
                due(s, x.now(HUNGER), 0);
                due(s + ", TIRED", x.now(TIRED), 30);
                due(s + ", WONDER", x.now(WONDER), 30);
            }
        }
    }

    private static void promise6() {
        BabyRound x = of("baby 1 2 3 4; aunt a 0 0 0 0; aunt b 0 0 0 0; aunt c 0 0 0 0; cries=5; fresh 0;");
        for (int what : new int[] {-1, -2, 12, 13, MIN, MAX}) {
            due("6: NONE for others, now(" + what + ")", x.now(what), NONE);
        }
        due("6: 6 CRY in the last MINUTE (0 ahead of all)", x.now(CRY), 0);
        due("6: 10 who had it ahead of her (-2: nobody)", x.now(10), -2);
        due("6: 11 who ahead of that one (-2: nobody)", x.now(11), -2);
        x.minutes(1);
        due("6: 6 CRY in the last MINUTE", x.now(CRY), 5);
        x.hand(2);
        due("6: 10 who had it ahead of her", x.now(10), 0);
        due("6: 11 who ahead of that one (-2: nobody)", x.now(11), -2);
        x.hand(0);
        due("6: 10 who had it ahead of her", x.now(10), 2);
        due("6: 11 who ahead of that one", x.now(11), 0);
        due("6: 4 who has it", x.now(4), 0);
        due("6: 8: 1 with a cloth, else 0", x.now(8), 0);
        x.cloth(true);
        due("6: 8: 1 with a cloth, else 0", x.now(8), 1);
        due("6: 9: else 0", x.now(9), 0);
        x.mother(true);
        due("6: 9: 1 with its MOTHER in sight", x.now(9), 1);
        x.cloth(false);
        due("6: 8: else 0", x.now(8), 0);
        due("6: 9: 1 with its MOTHER in sight", x.now(9), 1);
        due("6: 7 how many MINUTES it is ASLEEP yet", x.now(ASLEEP), 0);
        x.lay();
        due("6: 7 how many MINUTES it is ASLEEP yet", x.now(ASLEEP), 60);
        due("6: 4 who has it (-2: nobody)", new BabyRound().now(4), -2);
    }

    private static void promise7() {
        BabyRound x = of("baby 0 0 60 0; aunt a 1 0 0 2; aunt b 3 0 0 4; spits=100; cries=if held<3 then 0 else 6;");
        x.minutes(4);
        x.lay();
        x.minutes(60);
        x.cloth(true);
        x.minutes(1);
        x.hand(1);
        x.cloth(false);
        x.minutes(1);
        // a: held 1 .. 4 and 1 again; b: held 1
        int[][] answers = {{5, 12, 3, 60, 8, 1, 5}, {1, 0, 1, 0, 4, 3, 1}};
        for (int aunt = 0; aunt < 2; aunt++) {
            for (int what = 0; what < 7; what++) {
                due("7: aunt(" + aunt + ", " + what + ")", x.aunt(aunt, what), answers[aunt][what]);
            }
        }
        for (int[] other : new int[][] {{-1, 0}, {2, 0}, {0, -1}, {0, 7}, {1, 7}, {1, -1}, {2, 5}, {6, 0}, {MIN, 0}, {MAX, 0}, {0, MIN}, {0, MAX},
            {1, -7}, {-1, 7}, {-2, 14}}) {
            due("7: NONE for others", x.aunt(other[0], other[1]), NONE);
        }
        due("7: NONE for others, no AUNTS", new BabyRound().aunt(0, 0), NONE);
        due("7: NONE for others, no AUNTS", new BabyRound().aunt(0, 5), NONE);
        BabyRound six = of("aunt a 1 0 0 0; aunt b 2 0 0 0; aunt c 3 0 0 0; aunt d 4 0 0 0; aunt e 5 0 0 0; aunt f 6 0 0 0;");
        due("7: the sixth", six.aunt(5, 5), 6);
        due("7: NONE for others, a seventh", six.aunt(6, 5), NONE);
    }

    private static void promise8() {
        BabyRound x = of("aunt a 0 0 0 0; hungers=1; tires=2; wonders=3; winds=4; cries=5; sleeps=6; spits=7;");
        int[] laws = {1, 2, 3, 4, 5, 1, 7};
        for (int which = 0; which < 7; which++) {
            due("8: law(" + which + ")", x.law(which), laws[which]);
            due("8: -10000: no AUNTS", of("hungers=1;").law(which), -10000);
        }
        for (int which : new int[] {-1, 7, 8, MIN, MAX}) {
            due("8: -10000: no such one", x.law(which), -10000);
            due("8: -10000: no such one, no AUNTS", new BabyRound().law(which), -10000);
        }
        for (int told = -1; told <= 2; told++) {
            due("8: 5 SLEEPS (held to 0, 1)", of("aunt a 0 0 0 0;" + law(5, told)).law(5), Math.max(0, Math.min(1, told)));
        }
        BabyRound y = of("aunt a 0 0 0 0; hungers=held; cries=tired;");
        y.minutes(3);
        due("8: What a LAW tells now", y.law(0), 3);
        due("8: What a LAW tells now", y.law(4), 3);
        y.lay();
        due("8: What a LAW tells now, ASLEEP too", y.law(4), 3);
        due("8: nothing happens", y.count(8), 2);
    }

    private static void promise9() {
        BabyRound x = of("aunt a 0 0 0 0; cries=1;");
        due("9: 0 is no thing done: which it is", x.minutes(0), 0);
        due("9: 0 is no thing done", x.count(8), 0);
        due("9: 0 is no thing done", x.undo(), false);
        for (int n : new int[] {-1, -240, 241, 242, MIN, MAX}) {
            due("9: NONE: no such n, minutes(" + n + ")", x.minutes(n), NONE);
            due("9: and nothing happens", x.count(1) + x.count(8), 0);
        }
        due("9: minutes(1)", x.minutes(1), 1);
        due("9: minutes(239)", x.minutes(239), 240);
        due("9: minutes(240)", x.minutes(240), 480);
        due("9: all of them", x.count(2), 480);
        due("9: three things", x.count(8), 3);
        due("9: minutes(0): which it is", x.minutes(0), 480);
        due("9: 0 is no thing done", x.count(8), 3);
        due("9: undone, all 240", x.undo(), true);
        due("9: minutes(0): which it is", x.minutes(0), 240);
        due("9: no AUNTS", new BabyRound().minutes(240), 240);
        due("9: no AUNTS, 241", new BabyRound().minutes(241), NONE);
    }

    private static void promise10() {
        String s = "10: false, and nothing happens";
        BabyRound x = of("aunt a 0 0 0 0; aunt b 0 0 0 0; fresh 5;");
        x.minutes(2);
        String ahead = Check.all(x);
        for (int aunt : new int[] {0, -1, -2, 2, 3, 6, MIN, MAX}) {
            due(s + ", hand(" + aunt + ")", x.hand(aunt), false);
        }
        due(s, Check.all(x).equals(ahead), true);
        due("10: HAND: true", x.hand(1), true);
        x.lay();
        String asleep = Check.all(x);
        due(s + ": it is ASLEEP", x.hand(0), false);
        due(s + ": it is ASLEEP", x.hand(1), false);
        due(s, Check.all(x).equals(asleep), true);
        BabyRound none = new BabyRound();
        for (int aunt : new int[] {-2, -1, 0, 1}) {
            due(s + ": no such one", none.hand(aunt), false);
        }
        BabyRound alone = of("aunt a 0 0 0 0;");
        due(s + ": she has it", alone.hand(0), false);
        due(s + ": no such one", alone.hand(1), false);
        BabyRound six = of("aunt a 0 0 0 0; aunt b 0 0 0 0; aunt c 0 0 0 0; aunt d 0 0 0 0; aunt e 0 0 0 0; aunt f 0 0 0 0;");
        due("10: the sixth", six.hand(5), true);
        due(s + ": a seventh", six.hand(6), false);
    }

    private static void promises11And12() {
        BabyRound x = of("baby 9 9 9 9; aunt a 0 0 0 0;");
        due("12: LAY: true", x.lay(), true);
        String ahead = Check.all(x);
        due("11: false, and nothing happens: it is ASLEEP", x.nurse(), false);
        due("12: false, and nothing happens: it is ASLEEP", x.lay(), false);
        due("11, 12: nothing happens", Check.all(x).equals(ahead), true);
        x.minutes(59);
        due("11: ASLEEP for the 60th MINUTE", x.nurse(), false);
        due("12: ASLEEP for the 60th MINUTE", x.lay(), false);
        x.minutes(1);
        due("11: awake", x.nurse(), true);
        due("12: awake", x.lay(), true);
        due("12: for 60 MINUTES", x.now(ASLEEP), 60);
        due("12: how often it fell ASLEEP", x.count(5), 2);
        BabyRound none = of("baby 9 9 9 9;");
        String nothing = Check.all(none);
        due("11: no AUNTS", none.nurse(), false);
        due("12: no AUNTS", none.lay(), false);
        due("11, 12: nothing happens", Check.all(none).equals(nothing), true);
        // laid down by hand, the minute that follows is one asleep
        BabyRound y = of("aunt a 0 0 0 0; cries=9;");
        y.lay();
        due("12: all 60", y.crying(60), 0);
        due("12: not 61", y.crying(61), 9);
    }

    private static void promises13And14() {
        BabyRound x = of("aunt a 0 0 0 0;");
        boolean[] calls = {false, true, true, false, false, true};
        boolean was = false;
        for (boolean on : calls) {
            due("13: whether there was one", x.cloth(on), was);
            due("13: CLOTH on, or off", x.now(8), on ? 1 : 0);
            was = on;
        }
        was = false;
        for (boolean seen : calls) {
            due("14: whether she was", x.mother(seen), was);
            due("14: Its MOTHER is in sight, or not", x.now(9), seen ? 1 : 0);
            was = seen;
        }
        x.lay();
        due("13: ASLEEP too", x.cloth(false), true);
        due("14: ASLEEP too", x.mother(false), true);
        BabyRound none = new BabyRound();
        due("13: no AUNTS", none.cloth(true), false);
        due("13: no AUNTS", none.now(8), 1);
        due("14: no AUNTS", none.mother(true), false);
        due("14: no AUNTS", none.now(9), 1);
        due("15: both can be undone", none.count(8), 2);
    }

    private static void promise15() {
        String s = "15: (the last 50 can be)";
        BabyRound x = of("aunt a 0 0 0 0;");
        due("15: false: there is none", x.undo(), false);
        for (int i = 1; i <= 120; i++) {
            x.minutes(1);
            due(s, x.count(8), Math.min(i, 50));
        }
        for (int i = 119; i >= 70; i--) {
            due(s, x.undo(), true);
            due(s, x.count(1), i);
            due(s, x.count(8), i - 70);
        }
        due("15: false: there is none", x.undo(), false);
        due("15: false: there is none", x.count(1), 70);
        BabyRound y = of("aunt a 0 0 0 0;");
        for (int i = 1; i <= 50; i++) {
            y.minutes(1);
        }
        for (int i = 49; i >= 0; i--) {
            due(s + ", 50 things", y.undo(), true);
        }
        due(s + ", 50 things", y.count(1), 0);
        due(s + ", 50 things", y.undo(), false);
        BabyRound z = of("aunt a 0 0 0 0;");
        for (int i = 1; i <= 51; i++) {
            z.minutes(1);
        }
        for (int i = 50; i >= 1; i--) {
            due(s + ", 51 things", z.undo(), true);
        }
        due(s + ", 51 things", z.undo(), false);
        due(s + ", 51 things", z.count(1), 1);
        // undone and done by turns, far round
        BabyRound w = of("aunt a 0 0 0 0;");
        for (int i = 0; i < 60; i++) {
            w.minutes(3);
            w.minutes(5);
            due(s + ", by turns", w.undo(), true);
            due(s + ", by turns", w.count(1), 3 * (i + 1));
        }
        // the one undone last had put the 50th away
        due(s + ", by turns", w.count(8), 49);
        for (int i = 0; i < 49; i++) {
            w.undo();
        }
        due(s + ", by turns", w.count(1), 33);
        due(s + ", by turns", w.undo(), false);
    }

    /** Each thing done is undone whole, the last one first; what is no thing done is not. */
    private static void promise15Each() {
        String s = "15: The last thing done (minutes, hand, nurse, lay, cloth, mother) is undone";
        for (int thing = 0; thing < 10; thing++) {
            BabyRound x = of("baby 10 20 70 40; aunt a 1 2 3 4; aunt b 5 6 7 8; aunt c 1 1 1 1; tires=2; wonders=1; winds=3;"
                + "cries=held-1; spits=70; seed 8;");
            x.minutes(2);
            String ahead = Check.all(x);
            due(s + ", thing " + thing, doThing(x, thing), true);
            due(s + ", another now", Check.all(x).equals(ahead), false);
            due(s, x.undo(), true);
            due(s + ", thing " + thing, Check.all(x).equals(ahead), true);
        }
        // hers are her ROCK, SHOW and BEARD again
        BabyRound w = of("aunt a 1 2 3 4; aunt b 5 6 7 8; cries=rock; spits=show; winds=beard;");
        w.hand(1);
        w.undo();
        due("15: hers again", w.law(4) * 100 + w.law(6) * 10 + w.law(3), 123);
        w.hold(0);
        w.hand(1);
        due("15: hers", w.law(4) * 100 + w.law(6) * 10 + w.law(3), 567);
        w.restore(0);
        due("41: hers again", w.law(4) * 100 + w.law(6) * 10 + w.law(3), 123);
        // refused calls, questions, the tape, what is told and held are none
        BabyRound z = of("aunt a 0 0 0 0; aunt b 0 0 0 0;");
        z.hand(1);
        z.hand(1);
        z.hand(7);
        z.minutes(0);
        z.minutes(241);
        z.feed(0, 0, 0, 0, 0);
        z.back(20);
        z.tell(0, 0);
        z.forget();
        z.hold(0);
        z.crying(9);
        z.order(2);
        due("15: none of the others", z.count(8), 1);
        due("15: none of the others", z.undo(), true);
        due("15: none of the others", z.now(4), 0);
        due("15: an undo is none", z.undo(), false);
        z.lay();
        z.nurse();
        z.lay();
        z.hand(1);
        due("15: refused ones", z.count(8), 1);
        due("15: refused ones", z.undo(), true);
        due("15: refused ones", z.now(ASLEEP), 0);
        z.tell(3, 4);
        z.minutes(1);
        z.undo();
        due("15: what is TOLD stays", z.count(9), 1);
        due("15: what is held stays", z.count(10), 1);
    }

    private static boolean doThing(BabyRound x, int thing) {
        switch (thing) {
            case 0: return x.minutes(1) == 3;
            case 1: return x.minutes(240) == 242;
            case 2: return x.hand(1);
            case 3: return x.hand(2);
            case 4: return x.nurse();
            case 5: return x.lay();
            case 6: return !x.cloth(true);
            case 7: return !x.mother(true);
            case 8: return !x.cloth(false);
            default: return !x.mother(false);
        }
    }
}
