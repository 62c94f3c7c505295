/** Each promise by answers worked out by hand from the document: ordinary inputs, edges, wrong inputs. */
final class PromiseTest {
    private static final int NONE = -1;
    private static final int MIN = Integer.MIN_VALUE;
    private static final int MAX = Integer.MAX_VALUE;
    private static final Check CHECK = new Check("PromiseTest");
    private static final String ABC = "aunt a 1 2 3 10 sits; aunt b 4 5 6 20; aunt c 7 8 9 30;";

    private PromiseTest() {
    }

    public static void main(String[] args) {
        promise1();
        promises2And3();
        promises4And5();
        faultsOfRoom();
        tokenAfterToken();
        firstFault();
        faultChangesNothing();
        readBegins();
        wholeTexts();
        promise6();
        promise7();
        promise8();
        promise9();
        promises10To12();
        promises13And14();
        promise15();
        promise16();
        promise17();
        promises18And19();
        promise20();
        promise21();
        promise22();
        promise23();
        promise24();
        promise25();
        promise26();
        promise27();
        promise28();
        promise29();
        promise30();
        promise31();
        promise32();
        promise33();
        promise34();
        promise35();
        promise36();
        promises37To39();
        promises40And41();
        promise42();
        lastMinuteOfSleep();
        copies();
        ordersAnew();
        sixAunts();
        CHECK.end();
    }

    private static void due(String call, long got, long want) {
        CHECK.due(call, got, want);
    }

    private static void due(String call, boolean got, boolean want) {
        CHECK.due(call, got, want);
    }

    private static BabyRound of(String text) {
        return Check.of(text);
    }

    private static void promise1() {
        BabyRound x = new BabyRound();
        int[] counts = {0, 0, 0, 0, 0, 0, 0, 0, 0, 0, 0, 20, 30, 0};
        for (int i = 0; i < counts.length; i++) {
            due("1: count(" + i + ")", x.count(i), counts[i]);
        }
        int[] nows = {0, 0, 0, 0, -2, 0, 0, 0, 0, 0, -2, -2};
        for (int i = 0; i < nows.length; i++) {
            due("1: now(" + i + ")", x.now(i), nows[i]);
        }
        due("1: place", x.place(), NONE);
        due("1: undo", x.undo(), false);
        due("1: restore", x.restore(0), false);
        due("1: law", x.law(0), -10000);
        due("1: forget", x.forget(), 0);
        due("1: NONE", BabyRound.NONE, -1);
    }

    private static void promises2And3() {
        BabyRound x = new BabyRound();
        due("3: back of nothing", x.back(1), NONE);
        due("3: back(0)", x.back(0), 0);
        for (int i = 1; i <= 100; i++) {
            due("2: feed", x.feed(0x20202020, i, -1, MIN, MAX), 20 * i);
        }
        due("2: feed beyond 2000", x.feed(0, 0, 0, 0, 0), NONE);
        due("2: nothing came", x.count(7), 2000);
        due("3: back(1)", x.back(1), 1999);
        due("2: feed at 1999", x.feed(0, 0, 0, 0, 0), NONE);
        due("3: back(-1)", x.back(-1), NONE);
        due("3: back(MIN)", x.back(MIN), NONE);
        due("3: back(2000)", x.back(2000), NONE);
        due("3: back(MAX)", x.back(MAX), NONE);
        due("3: nothing went", x.count(7), 1999);
        due("3: back(18)", x.back(18), 1981);
        due("2: feed at 1981", x.feed(0, 0, 0, 0, 0), NONE);
        due("3: back(1)", x.back(1), 1980);
        due("2: feed at 1980", x.feed(0, 0, 0, 0, 0), 2000);
        due("3: back(2000)", x.back(2000), 0);
        // "fresh 1 ; feeds 2 ; " with the highest byte first
        due("2: feed", x.feed(0x66726573, 0x68203120, 0x3b206665, 0x65647320, 0x32203b20), 20);
        due("4: read", x.read(), 0);
        due("2: fresh by bytes", x.count(11), 1);
        due("2: feeds by bytes", x.count(12), 2);
    }

    private static void fault(String text, int fault, int place) {
        BabyRound x = new BabyRound();
        due("4: read of " + text, Check.tellText(x, text), fault);
        due("5: place in " + text, x.place(), place);
        due("4: tape", x.count(7), 0);
    }

    private static void promises4And5() {
        fault("", 0, NONE);
        fault(" \t\r\n", 0, NONE);
        fault("x", 1, 0);
        fault(";", 1, 0);
        fault("baby 1 2 3 4", 1, 12);
        fault("baby 1 2 3 4 ", 1, 13);
        fault("baby 1 2 3;", 1, 10);
        fault("baby 1 2 3 4 5;", 1, 13);
        fault("baby 1 2 3 100;", 5, 11);
        fault("baby 100 2 3 4;", 5, 5);
        fault("baby 99 99 99 99;", 0, NONE);
        fault("baby 0099 0 0 0;", 0, NONE);
        fault("baby 12345 2 3 4;", 1, 5);
        fault("baby1 2 3 4;", 0, NONE);
        fault("babyx 2 3 4;", 1, 0);
        fault("  baby\n1\t2\r3 4 ;", 0, NONE);
        fault("aunt abcdefgh 1 2 3 4;", 0, NONE);
        fault("aunt abcdefghi 1 2 3 4;", 1, 5);
        fault("aunt if 1 2 3 4;", 1, 5);
        fault("aunt seen 1 2 3 4;", 1, 5);
        fault("aunt iff 1 2 3 4;", 0, NONE);
        fault("aunt see 1 2 3 4;", 0, NONE);
        fault("aunt bind 1 2 3 4;aunt fires 1 2 3 4;aunt winda 1 2 3 4;", 0, NONE);
        fault("aunt ab 1 2 3 4;aunt ba 1 2 3 4;aunt aab 1 2 3 4;aunt aba 1 2 3 4;", 0, NONE);
        fault("aunt abcdefgh 1 2 3 4;aunt abcdefgi 1 2 3 4;aunt bbcdefgh 1 2 3 4;aunt abcdefgh 1 2 3 4;", 3, 71);
        fault("aunt A 1 2 3 4;", 1, 5);
        fault("aunt a1 2 3 4;", 0, NONE);
        fault("aunt 1 2 3 4;", 1, 5);
        fault("aunt a 9 9 9 99;", 0, NONE);
        fault("aunt a 10 2 3 4;", 5, 7);
        fault("aunt a 1 10 3 4;", 5, 9);
        fault("aunt a 1 2 10 4;", 5, 11);
        fault("aunt a 1 2 3 100;", 5, 13);
        fault("aunt a 1 2 3 4 sits;", 0, NONE);
        fault("aunt a 1 2 3 4sits;", 0, NONE);
        fault("aunt a 1 2 3 4 sits sits;", 1, 20);
        fault("aunt a 1 2 3 4;aunt a 1 2 3 4;", 3, 20);
        fault("aunt a 1 2 3 4;aunt b 1 2 3 4;aunt aa 1 2 3 4;", 0, NONE);
        fault("aunt a 10 2 3 4; aunt a 1 2 3 4;", 5, 7);
        fault("aunt a 1 2 3 4; aunt a 10 2 3 4;", 3, 21);
        fault("aunt a 1 2 3 4; aunt a 1 2 3 4; ?", 1, 32);
        fault("baby 1 2 3 100; ?", 1, 16);
        fault("fresh 100;", 5, 6);
        fault("fresh 99;", 0, NONE);
        fault("feeds 100;", 5, 6);
        fault("feeds 99;", 0, NONE);
        fault("seed 9999;", 0, NONE);
        fault("seed 10000;", 1, 5);
        fault("fresh x;", 1, 6);
        fault("fresh 100; fresh 5;", 5, 6);
        fault("cries=;", 1, 6);
        fault("cries 1;", 1, 6);
        fault("cries=1+;", 1, 8);
        fault("cries=(1;", 1, 8);
        fault("cries=1);", 1, 7);
        fault("cries=();", 1, 7);
        fault("cries=1 2;", 1, 8);
        fault("cries=-1;", 1, 6);
        fault("cries=ann;", 1, 6);
        fault("cries=if 1<2 then 3;", 1, 19);
        fault("cries=if 1 then 3 else 4;", 1, 11);
        fault("cries=if 1<2<3 then 3 else 4;", 1, 12);
        fault("cries=(if 1<2 then 3 else 4);", 1, 7);
        fault("cries=if 1<2 then if 1<2 then 3 else 4 else 5;", 1, 18);
        fault("cries=1<2;", 1, 7);
        fault("cries=hunger+tired-wonder*wind/held+rock-show*beard+seen;", 0, NONE);
        fault("cries=sits;", 1, 6);
        for (char c : new char[] {0, 1, 8, 11, 12, 14, 31, '!', '>', '[', '`', '{', 127, 128, 160, 255}) {
            fault("fresh 1;" + c, 1, 8);
        }
    }

    private static String sum(int numbers) {
        return "1" + "+1".repeat(numbers - 1);
    }

    private static void faultsOfRoom() {
        String six = "aunt a 1 2 3 4;aunt b 1 2 3 4;aunt c 1 2 3 4;aunt d 1 2 3 4;aunt e 1 2 3 4;aunt f 1 2 3 4;";
        fault(six, 0, NONE);
        fault(six + " aunt g 1 2 3 4;", 2, 91);
        fault(six + " aunt", 2, 91);
        fault(six + " aunt a 1 2 3 4;", 2, 91);
        fault(six + " ?", 1, 91);
        String one = "if 1<2 then 3 else ";
        fault("cries=" + one.repeat(4) + "5;", 0, NONE);
        fault("cries=" + one.repeat(5) + "5;", 2, 6 + 4 * one.length());
        fault("cries=" + one.repeat(4) + "if", 2, 6 + 4 * one.length());
        fault("cries=" + one.repeat(4) + "5; tires=" + one.repeat(4) + "5;", 0, NONE);
        fault("cries=((((((1))))))+((((((1))))));", 0, NONE);
        fault("cries=(((((((1)))))));", 2, 12);
        fault("cries=((((((1)+(1))+(1))+(1))+(1))+(1));", 0, NONE);
        fault("cries=if ((((((1)))))) < ((((((2)))))) then ((((((1)))))) else ((((((3))))));", 0, NONE);
        // a law with k numbers has 2k + 2 tokens
        String full = "cries=" + sum(199) + ";";
        fault(full, 0, NONE);
        fault(full + " ", 0, NONE);
        fault(full + " fresh", 2, full.length() + 1);
        fault(full + " x", 1, full.length() + 1);
        fault(full + "?", 1, full.length());
        fault(full + "12345", 1, full.length());
        String over = "fresh 1;cries=" + sum(198) + ";";
        fault(over, 2, over.length() - 1);
        fault(over.substring(0, over.length() - 1), 1, over.length() - 1);
        fault(over.substring(0, over.length() - 1) + "?", 1, over.length() - 1);
        fault("baby 1 2 3 100;" + full, 2, 15 + full.length() - 6);
        fault("cries=" + "(".repeat(6) + "1" + ")".repeat(6) + "+" + sum(600) + ";", 2, 6 + 13 + 1 + 384);
    }

    /** TELLs of so many tokens, 4 or more. */
    private static String padding(int tokens) {
        int numbers = (tokens % 2 == 0 ? tokens : tokens - 3) / 2 - 1;
        return (tokens % 2 == 0 ? "" : "fresh 1;") + "cries=" + sum(numbers) + ";";
    }

    /** Each token of each TELL as the 401st: ROOM at it; and missing: SYNTAX at what comes then. */
    private static void tokenAfterToken() {
        String[] tells = {"baby 1 2 3 4 ;", "aunt z 1 2 3 4 sits ;", "aunt z 1 2 3 4 ;", "fresh 1 ;", "feeds 2 ;", "seed 3 ;",
            "spits = 1 ;", "hungers = if ( hunger + 1 ) * 2 < tired - 3 / wonder then wind else held ;"};
        for (String tell : tells) {
            String[] tokens = tell.split(" ");
            int behind = 0;
            for (int i = 0; i < tokens.length; i++) {
                String padding = padding(400 - i);
                fault(padding + tell, 2, padding.length() + behind);
                fault(padding(400 - tokens.length) + tell.substring(0, behind), i == 0 ? 0 : 1,
                    i == 0 ? NONE : padding(400 - tokens.length).length() + behind);
                behind += tokens[i].length() + 1;
            }
            fault(padding(400 - tokens.length) + tell, 0, NONE);
        }
    }

    /** What follows the first fault is of no account, be it a TELL or another fault. */
    private static void firstFault() {
        String rest = " baby 1 2 3 4; aunt y 1 2 3 4; aunt y 1 2 3 4; ?";
        for (String begun : new String[] {"baby", "baby 1 2", "baby 1 2 3 4", "aunt", "aunt z", "aunt z 1 2 3", "aunt z 1 2 3 4",
            "aunt z 1 2 3 4 sits", "fresh", "fresh 1", "feeds", "seed 1", "cries", "cries=", "cries=1", "cries=1+", "cries=(1",
            "cries=if", "cries=if 1", "cries=if 1<", "cries=if 1<2", "cries=if 1<2 then", "cries=if 1<2 then 3",
            "cries=if 1<2 then 3 else", "cries=if 1<2 then 3 else 4"}) {
            fault(begun + rest, 1, begun.length() + 1);
            fault("baby 1 2 3 100;" + begun + rest, 1, 15 + begun.length() + 1);
        }
    }

    private static void wholeTexts() {
        BabyRound x = of("aunt a 1 2 3 4 sits; cries=" + "1*".repeat(193) + "1+7;");
        due("4: the longest law", x.law(4), 8);
        BabyRound y = of("aunt a 1 2 3 4; cries=if 1<2 then 3 else 4; cries=5; tires=1/0; tires=2;");
        due("4: of several the last one", y.law(4), 5);
        due("4: of several the last one", y.law(1), 2);
        BabyRound z = of("baby 1 2 3 4; aunt a 1 2 3 4; cries=1/0; spits=6; seed 77; seed 78; feeds 1; feeds 2; fresh 3; fresh 4;");
        due("8: divided by 0", z.law(4), 0);
        due("8: another law", z.law(6), 6);
        due("4: fresh", z.count(11), 4);
        due("4: feeds", z.count(12), 2);
        lots(77, 50);
        due("4: another text", Check.tellText(z, "aunt a 1 2 3 1; spits=50;"), 0);
        int sick = 0;
        for (int minute = 0; minute < 100; minute++) {
            sick += lot(100, 0, minute) < 50 ? 1 : 0;
            z.minutes(1);
            due("4: seed 0 if not told", z.aunt(0, 6), sick);
        }
        due("4: another text", Check.tellText(z, "fresh 9;"), 0);
        due("4: no baby told", z.now(0) + z.now(1) + z.now(2) + z.now(3), 0);
        due("4: nobody has it", z.now(4), -2);
        due("4: nobody had it", z.count(13), 0);
    }

    private static void faultChangesNothing() {
        BabyRound x = of("baby 1 2 3 4;" + ABC + "cries=5; fresh 7; feeds 8;");
        x.minutes(2);
        x.tell(1, 5);
        x.hold(1);
        due("4: a fault", Check.tellText(x, "baby 9 9 9 9; aunt z 1 1 1 1; fresh 50; feeds 60; cries=1; tires=7; ?"), 1);
        due("5: its place", x.place(), 68);
        int[] counts = {3, 2, 10, 0, 0, 0, 0, 0, 1, 1, 1, 7, 8, 1};
        for (int i = 0; i < counts.length; i++) {
            due("4: count(" + i + ") as ahead", x.count(i), counts[i]);
        }
        due("4: the law as ahead", x.law(4), 5);
        due("4: the other law as ahead", x.law(1), 1);
        due("4: hunger as ahead", x.now(0), 3);
        due("4: undone as ahead", x.undo(), true);
        due("4: minute", x.count(1), 0);
        due("5: its place yet", x.place(), 68);
        due("4: no fault", Check.tellText(x, ""), 0);
        due("5: no place", x.place(), NONE);
    }

    private static void readBegins() {
        BabyRound x = of("baby 9 8 7 6;" + ABC + "cries=5; fresh 7; feeds 8; spits=100;");
        x.minutes(3);
        x.hand(1);
        x.hand(2);
        x.cloth(true);
        x.mother(true);
        x.hold(0);
        x.tell(1, 1);
        x.lay();
        due("4: read", Check.tellText(x, "baby 1 1 1 1; baby 5 6 7 8; aunt z 1 2 3 4; tires=3; tires=4;"), 0);
        int[] nows = {5, 6, 7, 8, 0, 0, 0, 0, 0, 0, -2, -2};
        for (int i = 0; i < nows.length; i++) {
            due("4: now(" + i + ") of the new text", x.now(i), nows[i]);
        }
        int[] counts = {1, 0, 0, 0, 0, 0, 0, 0, 0, 0, 0, 20, 30, 1};
        for (int i = 0; i < counts.length; i++) {
            due("4: count(" + i + ") of the new text", x.count(i), counts[i]);
        }
        int[] laws = {1, 4, 0, 0, 0, 0, 0};
        for (int i = 0; i < laws.length; i++) {
            due("4: law(" + i + ") of the new text", x.law(i), laws[i]);
        }
        due("4: nothing undone", x.undo(), false);
        due("4: slots empty", x.restore(0), false);
        due("4: aunt not had", x.aunt(0, 0), 0);
        due("4: aunt not sick", x.aunt(0, 6), 0);
    }

    private static void promise6() {
        BabyRound x = of("baby 5 6 7 8;" + ABC + "fresh 11; feeds 12; cries=3;");
        int[] nows = {5, 6, 7, 8, 0, 0, 0, 0, 0, 0, -2, -2};
        for (int i = 0; i < nows.length; i++) {
            due("6: now(" + i + ")", x.now(i), nows[i]);
        }
        for (int what : new int[] {-1, 12, MIN, MAX}) {
            due("6: now(" + what + ")", x.now(what), NONE);
        }
        x.minutes(2);
        due("6: hunger", x.now(0), 7);
        due("6: tired", x.now(1), 8);
        due("6: held", x.now(5), 2);
        due("6: cry", x.now(6), 3);
        x.hand(1);
        due("6: cry yet", x.now(6), 3);
        due("6: held anew", x.now(5), 0);
        due("6: who", x.now(4), 1);
        due("6: before", x.now(10), 0);
        due("6: ahead", x.now(11), -2);
        x.hand(2);
        due("6: before", x.now(10), 1);
        due("6: ahead", x.now(11), 0);
        x.cloth(true);
        x.mother(true);
        due("6: cloth", x.now(8), 1);
        due("6: mother", x.now(9), 1);
        x.lay();
        due("6: asleep", x.now(7), 60);
        x.minutes(1);
        due("6: asleep yet", x.now(7), 59);
        due("6: asleep, no cry", x.now(6), 0);
        BabyRound y = of("baby 5 6 7 8;");
        due("6: without aunts", y.now(0), 5);
        due("6: nobody", y.now(4), -2);
        y.minutes(5);
        due("6: nothing else", y.now(0) + y.now(1) + y.now(5), 11);
        due("6: minutes go by", y.count(1), 5);
    }

    private static void promise7() {
        BabyRound x = of("baby 0 0 60 0; aunt a 1 2 3 10; aunt b 4 5 6 20;"
            + "cries=if held<2 then 0 else rock; spits=100; sleeps=if held<3 then 0 else 1;");
        x.minutes(1);
        x.cloth(true);
        x.minutes(3);
        int[] answers = {3, 2, 1, 1, 10, 1, 3};
        for (int i = 0; i < answers.length; i++) {
            due("7: aunt(0, " + i + ")", x.aunt(0, i), answers[i]);
            due("7: aunt(1, " + i + ")", x.aunt(1, i), i == 5 ? 4 : 0);
            due("7: aunt(2, " + i + ")", x.aunt(2, i), NONE);
            due("7: aunt(-1, " + i + ")", x.aunt(-1, i), NONE);
        }
        due("7: aunt(0, 7)", x.aunt(0, 7), NONE);
        due("7: aunt(0, -1)", x.aunt(0, -1), NONE);
        due("7: aunt(MIN, MIN)", x.aunt(MIN, MIN), NONE);
        due("7: aunt(MAX, 0)", x.aunt(MAX, 0), NONE);
    }

    /** What CRIES tells of a baby 10 20 30 40, held by one with ROCK 5, SHOW 6, BEARD 7. */
    private static void tells(String law, int want) {
        BabyRound x = of("baby 10 20 30 40; aunt a 5 6 7 8; cries=" + law + ";");
        due("8: cries=" + law, x.law(4), want);
    }

    private static void promise8() {
        due("8: no aunts", of("hungers=3;").law(0), -10000);
        BabyRound held = of("aunt a 1 2 3 4; hungers=10; tires=0-10; wonders=0-10; winds=10; cries=100; sleeps=2; spits=101;");
        int[] bounds = {9, -9, -9, 9, 99, 1, 100};
        BabyRound below = of("aunt a 1 2 3 4; hungers=0-10; tires=10; wonders=10; winds=0-10;");
        int[] belows = {-9, 9, 9, -9, 0, 0, 0};
        BabyRound x = of("aunt a 1 2 3 4; hungers=20; tires=0-20; wonders=9; winds=0-9; cries=200; sleeps=7; spits=300;");
        int[] laws = {9, -9, 9, -9, 99, 1, 100};
        BabyRound y = of("aunt a 1 2 3 4; hungers=0-10; tires=10; wonders=0-9; winds=8; cries=0-1; sleeps=0-1; spits=0-1;");
        int[] others = {-9, 9, -9, 8, 0, 0, 0};
        BabyRound z = of("aunt a 1 2 3 4;");
        int[] none = {1, 1, 0, 0, 0, 0, 0};
        for (int i = 0; i < 7; i++) {
            due("8: law(" + i + ")", x.law(i), laws[i]);
            due("8: law(" + i + ")", y.law(i), others[i]);
            due("8: law(" + i + ") not told", z.law(i), none[i]);
            due("8: law(" + i + ") held", held.law(i), bounds[i]);
            due("8: law(" + i + ") held", below.law(i), belows[i]);
        }
        for (int which : new int[] {-1, 7, MIN, MAX}) {
            due("8: law(" + which + ")", x.law(which), -10000);
        }
        tells("hunger", 10);
        tells("tired", 20);
        tells("wonder", 30);
        tells("wind", 40);
        tells("held", 0);
        tells("rock", 5);
        tells("show", 6);
        tells("beard", 7);
        tells("seen", 0);
        tells("1+2*3-8/4", 5);
        tells("20-5-3", 12);
        tells("90/10/3", 3);
        tells("90/(10/3)", 30);
        tells("7/2*2", 6);
        tells("2*(3+4)", 14);
        tells("(1+2)*(3+4)-(5-(2-1))", 17);
        tells("(0-7)/2+10", 7);
        tells("7/(0-2)+10", 7);
        tells("if hunger<10 then 1 else if hunger<11 then 2 else 3", 2);
        tells("if 11<hunger then 1 else if hunger<10 then 2 else 3", 3);
        tells("if 9<hunger then 1 else if hunger<11 then 2 else 3", 1);
        tells("if 0-1<0 then 4 else 5", 4);
        tells("if 1<2 then 5 else 1/0", 5);
        tells("if 2<1 then 1/0 else 5", 5);
        tells("if 1/0<2 then 5 else 6", 0);
        tells("if 1<2/0 then 5 else 6", 0);
        tells("if 2<1 then 5 else if 1/held<0 then 6 else 7", 0);
        tells("if 1<2 then 5 else if 1/0<1 then 6 else 7", 5);
        tells("7+0*(1/0)", 0);
        tells("7+0/0", 0);
        tells("0/5+3", 3);
        int wrapped = 9999 * 9999 * 9999;
        tells("9999*9999*9999/9999/9999+22", wrapped / 9999 / 9999 + 22);
        tells("if 9999*9999*22<0 then 1 else 2", 9999 * 9999 * 22 < 0 ? 1 : 2);
        // the least int, 2048 * 1024 * 1024 wrapped, by -1 is itself
        tells("if 2048*1024*1024/(0-1)<0 then 8 else 9", 8);
        BabyRound w = of("aunt a 5 6 7 8; cries=seen*20+held;");
        w.mother(true);
        w.minutes(3);
        due("8: seen and held", w.law(4), 23);
    }

    /** LOT of the document in longs. */
    private static long lot(int n, long seed, long which) {
        long h = seed;
        for (long it : new long[] {37, which}) {
            h = (((h ^ it) & 0xffffffffL) * 1103515245L + 12345L) & 0xffffffffL;
            h = h ^ (h >> 15);
        }
        return (h >> 1) % n;
    }

    private static void promise9() {
        BabyRound x = of("baby 98 3 2 1;" + ABC + "hungers=5; tires=0-2; wonders=hunger; winds=tired+1; cries=hunger-90+held;");
        due("9: minutes(0)", x.minutes(0), 0);
        due("9: nothing done", x.count(8), 0);
        due("9: minutes(1)", x.minutes(1), 1);
        due("9: hunger at most 99", x.now(0), 99);
        due("9: tired", x.now(1), 1);
        due("9: wonder by what was", x.now(2), 11);
        due("9: wind by what was", x.now(3), 5);
        due("9: cry by what is", x.now(6), 10);
        due("9: minutes(1)", x.minutes(1), 2);
        due("9: tired at least 0", x.now(1), 0);
        due("9: cry", x.now(6), 11);
        for (int n : new int[] {-1, 241, MIN, MAX}) {
            due("9: minutes(" + n + ")", x.minutes(n), NONE);
        }
        due("9: nothing happened", x.count(1), 2);
        due("9: minutes(240)", x.minutes(240), 242);
        BabyRound least = of("baby 3 3 3 3; aunt a 1 2 3 4; hungers=0-5; tires=0-5; wonders=0-5; winds=0-5;");
        least.minutes(2);
        least.lay();
        least.minutes(2);
        for (int what = 0; what < 4; what++) {
            due("9: at least 0", least.now(what), 0);
        }
        BabyRound y = of("aunt a 1 2 3 4; tires=4; sleeps=tired-7; hungers=2; cries=7;");
        due("9: falls asleep", y.minutes(2), 2);
        due("9: asleep", y.now(7), 60);
        due("9: cry of the last minute awake", y.now(6), 7);
        y.minutes(59);
        due("9: the last minute of sleep", y.now(7), 1);
        due("9: tired yet", y.now(1), 8);
        due("9: held yet", y.now(5), 2);
        y.minutes(1);
        due("9: awake", y.now(7), 0);
        due("9: not tired", y.now(1), 0);
        due("9: held 0", y.now(5), 0);
        due("9: hungry", y.now(0), 99);
        due("9: sat", y.aunt(0, 3), 60);
        due("9: had", y.aunt(0, 0), 2);
        due("9: cry", y.now(6), 0);
        due("9: falls", y.count(5), 1);
        lots(0, 50);
        lots(4711, 13);
        lots(9999, 99);
        merryMinutes();
        BabyRound z = of("baby 0 0 0 9; aunt a 1 2 3 4; winds=1; spits=if wind<12 then 0 else 100; sleeps=if wind<1 then 1 else 0;");
        z.minutes(2);
        due("9: wind 11", z.now(3), 11);
        z.minutes(1);
        due("9: spat", z.now(3), 0);
        due("9: asleep by what is after it", z.now(7), 60);
    }

    private static void lots(int seed, int spits) {
        BabyRound x = of("aunt a 1 2 3 1; spits=" + spits + "; seed " + seed + ";");
        int sick = 0;
        for (int minute = 0; minute < 200; minute++) {
            x.minutes(1);
            sick += lot(100, seed, minute) < spits ? 1 : 0;
            due("9: sick by lot, seed " + seed + " minute " + minute, x.aunt(0, 6), sick);
        }
    }

    private static void merryMinutes() {
        BabyRound x = of("baby 0 0 48 0; aunt a 1 2 3 4; wonders=1; cries=if held<4 then 0 else 1;");
        x.minutes(1);
        due("9: wonder 49", x.count(3), 0);
        x.minutes(1);
        due("9: wonder 50", x.count(3), 1);
        x.minutes(1);
        due("9: wonder 51", x.count(3), 2);
        x.minutes(1);
        due("9: it cries", x.count(3), 2);
    }

    private static void promises10To12() {
        BabyRound x = of("baby 50 0 50 80;" + ABC + "fresh 30; feeds 15; cries=4;");
        due("10: to herself", x.hand(0), false);
        due("10: hand(-1)", x.hand(-1), false);
        due("10: hand(3)", x.hand(3), false);
        due("10: hand(MIN)", x.hand(MIN), false);
        due("10: nothing happened", x.count(8), 0);
        due("10: handed on", x.hand(1), true);
        due("10: fresh", x.now(2), 80);
        due("10: back", x.hand(0), true);
        due("10: not fresh", x.now(2), 80);
        due("10: to a third one", x.hand(2), true);
        due("10: fresh, 99 at most", x.now(2), 99);
        due("10: how often", x.count(6), 3);
        due("11: nurse", x.nurse(), true);
        due("11: hunger", x.now(0), 0);
        due("11: wind", x.now(3), 95);
        due("11: nurse", x.nurse(), true);
        due("11: wind, 99 at most", x.now(3), 99);
        due("12: lay", x.lay(), true);
        due("12: falls", x.count(5), 1);
        due("12: asleep", x.now(7), 60);
        due("10: asleep", x.hand(0), false);
        due("11: asleep", x.nurse(), false);
        due("12: asleep", x.lay(), false);
        due("10-12: what was done", x.count(8), 6);
        due("10: no time", x.count(1), 0);
        BabyRound none = new BabyRound();
        due("10: no aunts", none.hand(0), false);
        due("11: no aunts", none.nurse(), false);
        due("12: no aunts", none.lay(), false);
        // of four: the two ahead of her are not new, the fourth is
        BabyRound y = of("aunt a 1 1 1 1; aunt b 1 1 1 1; aunt c 1 1 1 1; aunt d 1 1 1 1; fresh 10;");
        y.hand(1);
        y.hand(2);
        y.hand(3);
        due("10: three new ones", y.now(2), 30);
        y.hand(0);
        due("10: she is new again", y.now(2), 40);
        y.hand(2);
        due("10: she had it ahead of the last", y.now(2), 40);
    }

    private static void promises13And14() {
        BabyRound x = of("aunt a 1 2 3 9; spits=100; cries=seen;");
        due("13: none ahead", x.cloth(false), false);
        due("13: on", x.cloth(true), false);
        due("13: on yet", x.cloth(true), true);
        x.minutes(1);
        due("13: no silk lost", x.count(4), 0);
        due("13: sick on her", x.aunt(0, 6), 1);
        due("13: off", x.cloth(false), true);
        x.minutes(1);
        due("13: silk lost", x.count(4), 9);
        due("14: not seen", x.mother(true), false);
        due("14: seen", x.mother(true), true);
        x.minutes(1);
        due("14: by law", x.now(6), 1);
        due("14: seen", x.mother(false), true);
        due("14: not seen", x.mother(false), false);
        due("13, 14: all done", x.count(8), 11);
        BabyRound y = new BabyRound();
        due("14: without aunts", y.mother(true), false);
        due("14: now", y.now(9), 1);
    }

    private static void promise15() {
        BabyRound x = of("baby 5 6 7 8;" + ABC + "cries=1; spits=100;");
        x.hand(1);
        x.cloth(true);
        x.mother(true);
        x.nurse();
        x.minutes(3);
        x.lay();
        due("15: done", x.count(8), 6);
        due("15: lay undone", x.undo(), true);
        due("15: awake", x.now(7), 0);
        due("15: falls", x.count(5), 0);
        due("15: minutes undone", x.undo(), true);
        due("15: minute", x.count(1), 0);
        due("15: cry", x.count(2) + x.aunt(1, 0) + x.aunt(1, 6), 0);
        due("15: nurse undone", x.undo(), true);
        due("15: hunger", x.now(0), 5);
        due("15: mother undone", x.undo(), true);
        due("15: mother", x.now(9), 0);
        due("15: cloth undone", x.undo(), true);
        due("15: cloth", x.now(8), 0);
        due("15: hand undone", x.undo(), true);
        due("15: who", x.now(4), 0);
        due("15: who had it", x.count(13), 1);
        due("15: before", x.now(10), -2);
        due("15: none", x.undo(), false);
        for (int i = 1; i <= 55; i++) {
            x.minutes(1);
            due("15: at most 50", x.count(8), Math.min(50, i));
        }
        for (int i = 54; i >= 5; i--) {
            due("15: undone", x.undo(), true);
            due("15: minute", x.count(1), i);
        }
        due("15: no more", x.undo(), false);
        x.minutes(2);
        due("15: one more", x.undo(), true);
        due("15: minute 5", x.count(1), 5);
        due("15: none", x.undo(), false);
    }

    private static void promise16() {
        BabyRound x = of(ABC + "cries=hunger;");
        due("16: crying(0)", x.crying(0), 0);
        due("16: crying(3)", x.crying(3), 6);
        due("16: crying(240)", x.crying(240), 18909);
        for (int n : new int[] {-1, 241, MIN, MAX}) {
            due("16: crying(" + n + ")", x.crying(n), NONE);
        }
        x.minutes(2);
        due("16: from now on", x.crying(2), 7);
        x.lay();
        due("16: asleep", x.crying(60), 0);
        due("16: behind its sleep", x.crying(61), 63);
        due("16: nothing happened", x.count(1), 2);
        due("16: no aunts", new BabyRound().crying(240), 0);
    }

    private static void promise17() {
        BabyRound x = of("aunt a 5 0 0 0; aunt b 3 0 0 0; aunt c 3 0 0 0; cries=rock;");
        due("17: who", x.next(2, 0), 1);
        due("17: crying", x.next(2, 1), 6);
        due("17: long", x.next(120, 1), 360);
        x.hand(1);
        due("17: another one", x.next(2, 0), 2);
        due("17: n 0", x.next(0, 0), NONE);
        due("17: n 121", x.next(121, 0), NONE);
        due("17: n MIN", x.next(MIN, 0), NONE);
        due("17: what -1", x.next(1, -1), NONE);
        due("17: what 2", x.next(1, 2), NONE);
        x.lay();
        due("17: asleep", x.next(1, 0), -2);
        due("17: asleep, no such", x.next(0, 0), NONE);
        due("17: alone", of("aunt a 1 1 1 1;").next(1, 0), -2);
        due("17: no aunts", new BabyRound().next(1, 0), -2);
        BabyRound w = of("aunt a 0 0 0 0; aunt b 5 0 0 0; aunt c 4 0 0 0; cries=hunger+rock;");
        due("17: each from now on", w.next(1, 0), 2);
        due("17: each from now on", w.next(1, 1), 5);
        // the one who is new would be handed a merrier baby
        BabyRound y = of("aunt a 0 0 0 0; aunt b 0 0 0 0; aunt c 0 0 0 0; cries=30-wonder; fresh 10;");
        y.hand(1);
        due("17: the new one", y.next(1, 0), 2);
        due("17: her crying", y.next(1, 1), 10);
    }

    private static final String HUNGRY_ROUND = "aunt a 1 0 0 0; aunt b 0 0 0 0; aunt c 1 0 0 0; cries=if rock<1 then 0 else hunger;";

    private static void promises18And19() {
        due("19: asked first", of(HUNGRY_ROUND).orderAt(1, 1), 2);
        BabyRound x = of(HUNGRY_ROUND);
        due("18: order(1)", x.order(1), 3);
        due("19: first", x.orderAt(1, 0), 0);
        due("19: second", x.orderAt(1, 1), 2);
        due("19: third", x.orderAt(1, 2), 1);
        // 2 minutes each: a 1 + 2, c 3 + 4, b nothing
        due("18: order(2)", x.order(2), 10);
        due("19: none", x.orderAt(1, 3), NONE);
        due("19: none", x.orderAt(1, MAX), NONE);
        for (int m : new int[] {0, 11, -1, MIN, MAX}) {
            due("18: order(" + m + ")", x.order(m), NONE);
            due("19: orderAt(" + m + ", 0)", x.orderAt(m, 0), NONE);
        }
        due("19: i -1", x.orderAt(1, -1), NONE);
        due("19: i MIN", x.orderAt(1, MIN), NONE);
        x.lay();
        due("18: asleep", x.order(1), -2);
        due("18: asleep, no such m", x.order(11), NONE);
        due("19: asleep", x.orderAt(1, 9), -2);
        due("19: asleep, i -1", x.orderAt(1, -1), NONE);
        BabyRound none = new BabyRound();
        due("18: no aunts", none.order(10), -2);
        due("19: no aunts", none.orderAt(10, 0), -2);
        due("19: no aunts, no such m", none.orderAt(0, 0), NONE);
        // she who has it keeps it, HELD goes on; the other way it begins anew
        BabyRound y = of("aunt a 0 0 0 0; aunt b 0 0 0 0; cries=if held<4 then 0 else held;");
        y.minutes(3);
        due("18: held on", y.order(1), 0);
        due("19: handed on first", y.orderAt(1, 0), 1);
        // asleep with the first one behind her second minute, for 60 minutes that are none of hers
        BabyRound z = of("aunt a 0 0 0 0; aunt b 0 0 0 0; tires=1; sleeps=tired-1; cries=tired;");
        due("18: with sleep", z.order(3), 9);
        due("18: a sleep behind each minute", of("aunt a 0 0 0 0; sleeps=1; cries=5;").order(10), 50);
    }

    private static void promise20() {
        String laws = "tires=1; sleeps=tired-1;";
        BabyRound x = of("aunt a 0 0 0 0 sits; aunt b 0 0 0 0; aunt c 0 0 0 0;" + laws);
        due("20: the second one", x.sitters(1), 2);
        due("20: the first one", x.sitters(2), 2);
        BabyRound y = of("aunt a 0 0 0 0 sits; aunt b 0 0 0 0; aunt c 0 0 0 0 sits;" + laws);
        due("20: two who sit", y.sitters(1), 4);
        due("20: nobody sits", of("aunt a 0 0 0 0; aunt b 0 0 0 0;" + laws).sitters(1), 0);
        due("20: no sleep", of("aunt a 0 0 0 0 sits; aunt b 0 0 0 0 sits;").sitters(10), 0);
        due("20: m 0", x.sitters(0), NONE);
        due("20: m 11", x.sitters(11), NONE);
        x.lay();
        due("20: asleep", x.sitters(1), -2);
        due("20: asleep, m 0", x.sitters(0), NONE);
        due("20: no aunts", new BabyRound().sitters(1), -2);
    }

    private static void promise21() {
        BabyRound x = of(HUNGRY_ROUND);
        due("21: a", x.luck(0, 1), 0);
        due("21: b", x.luck(1, 1), 6);
        due("21: c", x.luck(2, 1), 0);
        // CRY is the minute: the first of the order has least
        BabyRound y = of("aunt a 0 0 0 0; aunt b 0 0 0 0; aunt c 0 0 0 0; cries=hunger;");
        x.minutes(4);
        for (int a = 0; a < 3; a++) {
            due("21: alike", y.luck(a, 2), 2);
        }
        BabyRound z = of("aunt a 0 0 0 0; aunt b 0 0 0 0; aunt c 0 0 0 0;");
        due("21: of alike ones the first", z.luck(0, 2), 6);
        due("21: not the second", z.luck(1, 2), 0);
        // what she had ahead counts not: in a's minutes it cried 9
        BabyRound w = of("aunt a 0 0 0 0; aunt b 0 0 0 0; cries=if hunger<4 then 3 else 1;");
        w.minutes(3);
        due("21: these minutes alone", w.luck(0, 1), 2);
        due("21: aunt 3", x.luck(3, 1), NONE);
        due("21: aunt -1", x.luck(-1, 1), NONE);
        due("21: m 0", x.luck(0, 0), NONE);
        due("21: m 11", x.luck(0, 11), NONE);
        x.lay();
        due("21: asleep", x.luck(0, 1), -2);
        due("21: asleep, no such aunt", x.luck(3, 1), NONE);
        due("21: no aunts", new BabyRound().luck(0, 1), NONE);
    }

    private static void promise22() {
        BabyRound x = of("baby 60 0 0 0; aunt a 0 0 0 0; cries=hunger-50;");
        due("22: feed", x.wants(2, 0), 1);
        due("22: crying", x.wants(2, 1), 0);
        BabyRound y = of("aunt a 5 0 0 0; aunt b 0 0 0 0; cries=rock*(1-seen);");
        due("22: lay", y.wants(60, 0), 2);
        due("22: mother", y.wants(70, 0), 3);
        due("22: crying", y.wants(70, 1), 0);
        BabyRound z = of("aunt a 5 0 0 0; aunt b 1 0 0 0; aunt c 0 0 0 0; cries=rock;");
        due("22: c", z.wants(70, 0), 6);
        z.hand(2);
        due("22: go on", z.wants(70, 0), 0);
        z.hand(1);
        z.undo();
        z.undo();
        BabyRound toA = of("aunt a 0 0 0 0; aunt b 5 0 0 0; cries=rock;");
        toA.hand(1);
        due("22: a of b", toA.wants(70, 0), 4);
        due("17: a of b", toA.next(70, 0), 0);
        due("17: crying with a", toA.next(70, 1), 0);
        z.hand(2);
        z.hand(1);
        due("22: c of b", z.wants(120, 0), 6);
        due("22: crying", z.wants(120, 1), 0);
        BabyRound w = of("aunt a 0 0 0 0; cries=5*seen;");
        w.mother(true);
        due("22: mother out of sight", w.wants(70, 0), 3);
        due("22: n 0", w.wants(0, 0), NONE);
        due("22: n 121", w.wants(121, 0), NONE);
        due("22: what 2", w.wants(1, 2), NONE);
        due("22: what -1", w.wants(1, -1), NONE);
        due("22: nothing happened", w.count(8), 1);
        w.lay();
        due("22: asleep", w.wants(1, 0), -2);
        due("22: asleep, no such", w.wants(1, 2), NONE);
        due("22: no aunts", new BabyRound().wants(1, 0), -2);
    }

    private static void promise23() {
        BabyRound x = of("aunt a 0 0 0 0; cries=5*seen+hunger;");
        due("23: moment(1)", x.moment(1), 5);
        due("23: moment(9)", x.moment(9), 5);
        x.mother(true);
        due("23: though she is in sight", x.moment(9), 5);
        due("23: below 0", of("aunt a 0 0 0 0; cries=5-5*seen;").moment(4), -5);
        // that moment makes it hungrier for all that follow
        due("23: dear", of("aunt a 0 0 0 0; hungers=seen; cries=hunger;").moment(120), 120);
        x.lay();
        due("23: asleep", x.moment(60), 0);
        for (int n : new int[] {0, 121, -1, MIN, MAX}) {
            due("23: moment(" + n + ")", x.moment(n), -100000);
        }
        due("23: no aunts", new BabyRound().moment(120), 0);
    }

    private static void promise24() {
        BabyRound x = of("aunt a 9 0 0 0; aunt b 9 0 0 0; cries=(rock-4)*(rock-4)+wonder/10;");
        due("24: beat of her who has it", x.beat(0, 3, 0), 4);
        due("24: crying", x.beat(0, 3, 1), 0);
        due("24: beat of another one", x.beat(1, 3, 0), 4);
        due("24: handed now", x.beat(1, 3, 1), 6);
        due("24: her rock is hers", x.aunt(0, 5), 9);
        due("24: by law yet", x.law(4), 25);
        BabyRound y = of("aunt a 0 0 0 0; cries=7-rock;");
        due("24: the least", y.beat(0, 120, 0), 7);
        due("24: 9", of("aunt a 0 0 0 0; cries=9-rock;").beat(0, 2, 0), 9);
        due("24: not 10", of("aunt a 0 0 0 0; cries=99-rock;").beat(0, 2, 1), 180);
        due("24: 0", of("aunt a 5 0 0 0; cries=rock;").beat(0, 2, 0), 0);
        due("24: aunt 1", y.beat(1, 1, 0), NONE);
        due("24: aunt -1", y.beat(-1, 1, 0), NONE);
        due("24: n 0", y.beat(0, 0, 0), NONE);
        due("24: n 121", y.beat(0, 121, 0), NONE);
        due("24: what 2", y.beat(0, 1, 2), NONE);
        y.lay();
        due("24: asleep", y.beat(0, 1, 0), -2);
        due("24: asleep, no such", y.beat(1, 1, 0), NONE);
        due("24: no aunts", new BabyRound().beat(0, 1, 0), NONE);
    }

    private static void ruled(BabyRound x, String call, int[] rule, int cry, int who) {
        due("25: " + call + ", cry", x.round(rule[0], rule[1], rule[2], 0), cry);
        due("25: " + call + ", who", x.round(rule[0], rule[1], rule[2], 2), who);
    }

    private static void promise25() {
        BabyRound x = of("aunt a 1 0 0 0; aunt b 2 0 0 0; aunt c 3 0 0 0; cries=rock;");
        ruled(x, "rule 0", new int[] {0, 2, 6}, 12, 2);
        ruled(x, "rule 0, once round", new int[] {0, 2, 7}, 13, 0);
        ruled(x, "rule 0, not yet", new int[] {0, 20, 20}, 20, 0);
        ruled(x, "rule 1, never so much", new int[] {1, 2, 4}, 4, 0);
        ruled(x, "rule 1", new int[] {1, 1, 4}, 7, 0);
        ruled(x, "rule 1, b cries", new int[] {1, 1, 2}, 3, 1);
        ruled(x, "rule 2", new int[] {2, 1, 4}, 7, 0);
        ruled(x, "rule 3", new int[] {3, 1, 240}, 240, 0);
        x.minutes(3);
        ruled(x, "rule 0, held longer", new int[] {0, 2, 1}, 2, 1);
        x.hand(1);
        x.minutes(1);
        // a 3, b 1, c 0: to c, then b and c are alike and c has it: to b
        ruled(x, "rule 2, fewest", new int[] {2, 1, 1}, 3, 2);
        ruled(x, "rule 2, fewest again", new int[] {2, 1, 2}, 5, 1);
        ruled(x, "rule 1, cry of the last minute", new int[] {1, 2, 1}, 3, 2);
        BabyRound y = of("baby 0 0 60 0; aunt a 0 0 0 0; aunt b 1 0 0 0; cries=rock;");
        due("25: laughs", y.round(0, 2, 7, 1), 4);
        due("25: laughs, never", y.round(3, 2, 7, 1), 7);
        y.lay();
        due("25: asleep, not handed on", y.round(0, 1, 60, 2), 0);
        due("25: awake, handed on", y.round(0, 1, 62, 2), 1);
        for (int[] wrong : new int[][] {{-1, 1, 1, 0}, {4, 1, 1, 0}, {0, 0, 1, 0}, {0, 21, 1, 0}, {3, 0, 1, 0}, {3, 21, 1, 0},
            {0, 1, 0, 0}, {0, 1, 241, 0}, {0, 1, 1, -1}, {0, 1, 1, 3}, {MIN, MIN, MIN, MIN}}) {
            due("25: no such ones", y.round(wrong[0], wrong[1], wrong[2], wrong[3]), NONE);
        }
        due("25: no aunts", new BabyRound().round(0, 1, 1, 0), NONE);
        due("25: alone", of("aunt a 4 0 0 0; cries=rock;").round(2, 1, 10, 0), 40);
        due("25: alone, who", of("aunt a 4 0 0 0; cries=rock;").round(1, 1, 10, 2), 0);
    }

    private static void promise26() {
        String laws = "baby 0 0 56 0; wonders=0-4; cries=rock; fresh 0;";
        BabyRound x = of("aunt a 1 0 0 0; aunt b 0 0 0 0;" + laws);
        due("26: apart", x.fairest(1, 0), 0);
        due("26: first", x.fairest(1, 1), 0);
        BabyRound y = of("aunt a 0 0 0 0; aunt b 1 0 0 0;" + laws);
        due("26: apart", y.fairest(1, 0), 0);
        due("26: first", y.fairest(1, 1), 1);
        BabyRound z = of("baby 0 0 99 0; aunt a 0 0 0 0; aunt b 1 0 0 0; cries=rock;");
        due("26: two minutes", z.fairest(2, 0), 2);
        due("26: never together", z.fairest(7, 0), 7);
        due("26: of alike ones the first", z.fairest(7, 1), 0);
        z.minutes(9);
        due("26: these minutes alone", z.fairest(7, 0), 7);
        BabyRound b = of("baby 0 0 99 0; aunt a 1 0 0 0; aunt b 0 0 0 0; cries=rock;");
        due("26: b laughs oftenest", b.fairest(7, 0), 7);
        due("26: alone", of("baby 0 0 99 0; aunt a 0 0 0 0;").fairest(5, 0), 0);
        due("26: m 0", z.fairest(0, 0), NONE);
        due("26: m 11", z.fairest(11, 0), NONE);
        due("26: what 2", z.fairest(1, 2), NONE);
        due("26: what -1", z.fairest(1, -1), NONE);
        z.lay();
        due("26: asleep", z.fairest(1, 0), -2);
        due("26: asleep, no such", z.fairest(1, 2), NONE);
        due("26: no aunts", new BabyRound().fairest(1, 0), -2);
    }

    private static void promise27() {
        BabyRound x = of("aunt a 1 0 0 0; aunt b 5 0 0 0; aunt c 3 0 0 0; cries=rock;");
        due("27: who", x.leftOut(2, 0), 1);
        due("27: crying", x.leftOut(2, 1), 8);
        BabyRound y = of("aunt a 5 0 0 0; aunt b 5 0 0 0; cries=rock;");
        x.minutes(5);
        x.hand(1);
        due("27: later, who", x.leftOut(1, 0), 1);
        due("27: later, crying", x.leftOut(1, 1), 4);
        due("27: of alike ones the first", y.leftOut(10, 0), 0);
        due("27: crying", y.leftOut(10, 1), 50);
        due("27: alone", of("aunt a 5 0 0 0; cries=rock;").leftOut(10, 1), 0);
        due("27: more crying than ahead", x.leftOut(10, 1), 40);
        due("27: m 0", x.leftOut(0, 0), NONE);
        due("27: m 11", x.leftOut(11, 0), NONE);
        due("27: what 2", x.leftOut(1, 2), NONE);
        x.lay();
        due("27: asleep", x.leftOut(1, 0), -2);
        due("27: asleep, no such", x.leftOut(1, -1), NONE);
        due("27: no aunts", new BabyRound().leftOut(1, 0), -2);
    }

    private static void promise28() {
        BabyRound x = of("aunt a 1 0 0 0; aunt b 2 0 0 0; aunt c 3 0 0 0; cries=rock;");
        due("28: she keeps it", x.bestRound(5, 0), 5);
        due("28: crying", x.bestRound(5, 1), 5);
        due("28: longer than any m: never handed on, by cry 2 or more", x.bestRound(60, 0), 102);
        due("28: crying", x.bestRound(60, 1), 60);
        BabyRound y = of("aunt a 4 0 0 0; aunt b 0 0 0 0; cries=rock;");
        due("28: away from her", y.bestRound(10, 0), 101);
        due("28: crying", y.bestRound(10, 1), 4);
        // each time it is handed on costs 1, and each minute beyond the 20th 50
        BabyRound z = of("aunt a 0 0 0 0; aunt b 0 0 0 0; cries=if held<2 then 1 else if held<21 then 0 else 50;");
        due("28: 20 minutes", z.bestRound(40, 0), 20);
        due("28: crying", z.bestRound(40, 1), 2);
        BabyRound w = of("aunt a 5 0 0 0; aunt b 9 0 0 0; aunt c 0 0 0 0; cries=rock*5;");
        w.minutes(1);
        w.hand(1);
        w.minutes(1);
        w.hand(0);
        w.minutes(1);
        due("28: her who had it least", w.bestRound(1, 0), 201);
        due("28: crying", w.bestRound(1, 1), 0);
        due("28: never", of("aunt a 6 0 0 0; aunt b 9 0 0 0; cries=rock*5;").bestRound(30, 0), 301);
        due("28: asleep too", sleeping().bestRound(60, 1), 0);
        due("28: n 0", x.bestRound(0, 0), NONE);
        due("28: n 121", x.bestRound(121, 0), NONE);
        due("28: what 2", x.bestRound(1, 2), NONE);
        due("28: what -1", x.bestRound(1, -1), NONE);
        due("28: no aunts", new BabyRound().bestRound(1, 0), NONE);
    }

    private static BabyRound sleeping() {
        BabyRound x = of("aunt a 4 0 0 0; aunt b 0 0 0 0; cries=rock;");
        x.lay();
        return x;
    }

    private static void promise29() {
        BabyRound x = of("aunt a 0 0 0 0; cries=hunger-3; feeds 0;");
        due("29: behind 3", x.feedAt(6, 0), 3);
        due("29: crying", x.feedAt(6, 1), 0);
        due("29: at once", x.feedAt(3, 0), 0);
        BabyRound y = of("aunt a 0 0 0 0; sleeps=1; cries=wind; feeds 30;");
        due("29: not asleep", y.feedAt(6, 0), 0);
        due("29: though dear", y.feedAt(6, 1), 30);
        BabyRound late = of("aunt a 0 0 0 0; cries=wind; feeds 30;");
        due("29: behind the last but one", late.feedAt(3, 0), 2);
        due("29: it is fed", late.feedAt(3, 1), 30);
        due("29: one minute", late.feedAt(1, 1), 30);
        due("29: n 0", x.feedAt(0, 0), NONE);
        due("29: n 61", x.feedAt(61, 0), NONE);
        due("29: what 2", x.feedAt(1, 2), NONE);
        due("29: asleep", sleeping().feedAt(1, 0), -2);
        due("29: asleep, no such", sleeping().feedAt(1, -1), NONE);
        due("29: no aunts", new BabyRound().feedAt(1, 0), -2);
        due("29: nothing happened", x.count(8), 0);
    }

    private static void promise30() {
        BabyRound x = of("aunt a 0 0 0 0; cries=if held<3 then 5-5*seen else 5*seen;");
        due("30: for two", x.inSight(4, 0), 2);
        due("30: crying", x.inSight(4, 1), 0);
        due("30: more crying than ahead", of("aunt a 0 0 0 0; cries=5;").inSight(1, 1), 5);
        due("30: one minute", x.inSight(1, 0), 1);
        due("30: all of them", of("aunt a 0 0 0 0; cries=5-5*seen;").inSight(60, 0), 60);
        due("30: none of them", of("aunt a 0 0 0 0; cries=5*seen;").inSight(60, 0), 0);
        due("30: the fewest", of("aunt a 0 0 0 0;").inSight(60, 0), 0);
        x.mother(true);
        due("30: though she is in sight", x.inSight(4, 0), 2);
        due("30: asleep", sleeping().inSight(60, 1), 0);
        due("30: n 0", x.inSight(0, 0), NONE);
        due("30: n 61", x.inSight(61, 0), NONE);
        due("30: what 2", x.inSight(1, 2), NONE);
        due("30: what -1", x.inSight(1, -1), NONE);
        due("30: no aunts", new BabyRound().inSight(60, 0), 0);
        due("30: she is in sight", x.now(9), 1);
    }

    private static void promise31() {
        BabyRound x = of("aunt a 0 0 0 0; cries=if held<3 then held else if held<4 then 1 else 2;");
        due("31: cry", x.peak(10, 0), 2);
        due("31: the first", x.peak(10, 1), 1);
        due("31: one minute", x.peak(1, 0), 1);
        due("31: 240", x.peak(240, 1), 1);
        BabyRound y = of("aunt a 0 0 0 0; cries=held-230;");
        due("31: late", y.peak(240, 1), 239);
        due("31: late", y.peak(240, 0), 10);
        due("31: no cry", sleeping().peak(60, 0), 0);
        due("31: no cry, in the first", sleeping().peak(60, 1), 0);
        due("31: asleep yet", sleeping().peak(61, 1), 60);
        due("31: n 0", x.peak(0, 0), NONE);
        due("31: n 241", x.peak(241, 0), NONE);
        due("31: what 2", x.peak(1, 2), NONE);
        due("31: what -1", x.peak(1, -1), NONE);
    }

    private static void promise32() {
        BabyRound x = of("aunt a 0 0 0 0; wonders=9;");
        due("32: merry", x.merry(), 6);
        x.minutes(10);
        due("32: merry at once", x.merry(), 1);
        due("32: not", of("aunt a 0 0 0 0;").merry(), -2);
        due("32: it cries", of("baby 0 0 99 0; aunt a 0 0 0 0; cries=1;").merry(), -2);
        due("32: behind 240", of("baby 0 0 49 0; aunt a 0 0 0 0; wonders=if held<239 then 0 else 1;").merry(), 240);
        due("32: behind 241", of("baby 0 0 49 0; aunt a 0 0 0 0; wonders=if held<240 then 0 else 1;").merry(), -2);
        x.lay();
        due("32: behind its sleep", x.merry(), 61);
        due("32: no aunts", new BabyRound().merry(), -2);
        due("32: without aunts", of("baby 0 0 99 0;").merry(), -2);
    }

    private static void promise33() {
        BabyRound x = of("baby 0 0 60 0; aunt a 0 0 0 0; aunt b 0 0 0 0; aunt c 0 0 0 0;");
        due("33: all keep it", x.rests(3, -1), 1);
        due("33: which", x.rests(3, 0), 7);
        due("33: no more", x.rests(3, 1), NONE);
        BabyRound y = of("aunt a 0 0 0 0; aunt b 0 0 0 0; aunt c 0 0 0 0; fresh 0;");
        due("33: all sets", y.rests(10, -1), 8);
        for (int i = 0; i < 8; i++) {
            due("33: the least first", y.rests(10, i), i);
        }
        due("33: no more", y.rests(10, 8), NONE);
        // it laughs in two minutes yet, b has it: she would keep it for both, a and c get none or less
        BabyRound z = of("baby 0 0 0 0; aunt a 0 0 0 0; aunt b 0 0 0 0; aunt c 0 0 0 0; fresh 0; wonders=held*0-4;");
        z.hand(1);
        due("33: none laughs", z.rests(1, -1), 8);
        BabyRound w = of("baby 0 0 59 0; aunt a 0 0 0 0; aunt b 0 0 0 0; aunt c 0 0 0 0; fresh 0; wonders=0-4;");
        w.hand(1);
        // wonder 55, 51, 47: twice as long gives b two; the others nothing whatever they do
        due("33: b keeps it", w.rests(1, -1), 4);
        due("33: sets with b", w.rests(1, 0), 2);
        due("33: sets with b", w.rests(1, 1), 3);
        due("33: sets with b", w.rests(1, 2), 6);
        due("33: sets with b", w.rests(1, 3), 7);
        // it laughs in four minutes yet, two for each
        BabyRound v = of("baby 0 0 66 0; aunt a 0 0 0 0; aunt b 0 0 0 0; fresh 0; wonders=0-4;");
        due("33: both twice as long", v.rests(1, -1), 1);
        due("33: both twice as long", v.rests(1, 0), 3);
        due("33: three of them", v.rests(2, 0), 1);
        due("33: b has none", v.rests(2, -1), 2);
        due("33: m 0", x.rests(0, -1), NONE);
        due("33: m 11", x.rests(11, -1), NONE);
        due("33: i -2", x.rests(1, -2), NONE);
        due("33: i MIN", x.rests(1, MIN), NONE);
        due("33: i MAX", x.rests(1, MAX), NONE);
        due("33: asleep", sleeping().rests(1, 99), -2);
        due("33: asleep, i -2", sleeping().rests(1, -2), NONE);
        due("33: no aunts", new BabyRound().rests(10, -1), -2);
    }

    private static void promise34() {
        BabyRound x = of("aunt a 0 0 0 7; spits=40; seed 9990;");
        x.minutes(5);
        int lost = 0;
        for (int i = 0; i < 20; i++) {
            for (int minute = 5; minute < 125; minute++) {
                lost += lot(100, 9990 + i, minute) < 40 ? 7 : 0;
            }
        }
        due("34: by seeds", x.silk(120, 20), lost);
        due("34: one minute, one seed", of("aunt a 0 0 0 7; spits=100;").silk(1, 1), 7);
        due("34: silk(0, 20)", x.silk(0, 20), 0);
        for (int[] wrong : new int[][] {{-1, 1}, {121, 1}, {1, 0}, {1, 21}, {MIN, MIN}, {MAX, MAX}}) {
            due("34: no such ones", x.silk(wrong[0], wrong[1]), NONE);
        }
        x.cloth(true);
        due("34: with a cloth", x.silk(120, 20), 0);
        due("34: no aunts", new BabyRound().silk(120, 20), 0);
        due("34: asleep", sleeping().silk(60, 2), 0);
    }

    private static void promise35() {
        BabyRound x = of("aunt a 0 0 0 0; aunt b 0 0 0 0; cries=if held<3 then 0 else 3;");
        due("35: not had", x.likes(0, true), -2);
        x.minutes(1);
        due("35: no cry, above", x.likes(0, false), 0);
        x.minutes(1);
        due("35: no cry, below", x.likes(0, true), 1);
        x.minutes(2);
        due("35: above", x.likes(0, false), 3);
        due("35: below", x.likes(0, true), 2);
        due("35: b", x.likes(1, true), -2);
        x.hand(1);
        x.lay();
        x.minutes(60);
        due("35: asleep is not had", x.likes(1, true), -2);
        x.minutes(3);
        due("35: b", x.likes(1, false), 1);
        due("35: b below", x.likes(1, true), 1);
        for (int a : new int[] {-1, 2, MIN, MAX}) {
            due("35: likes(" + a + ")", x.likes(a, false), NONE);
        }
    }

    private static void promise36() {
        BabyRound x = of("aunt a 0 0 0 0; tires=1; sleeps=tired-10;");
        due("36: sleeps", x.sleeps(), 11);
        x.minutes(10);
        due("36: next", x.sleeps(), 1);
        x.minutes(1);
        due("36: now", x.sleeps(), 0);
        due("36: not", of("aunt a 0 0 0 0;").sleeps(), -2);
        due("36: behind 240", of("aunt a 0 0 0 0; sleeps=held-239;").sleeps(), 240);
        due("36: behind 241", of("aunt a 0 0 0 0; sleeps=held-240;").sleeps(), -2);
        due("36: no aunts", new BabyRound().sleeps(), -2);
    }

    private static void promises37To39() {
        BabyRound x = of("baby 50 0 0 0; aunt a 0 0 0 0; aunt b 0 0 0 0; cries=hunger;");
        x.minutes(3);
        x.hand(1);
        due("37: tell", x.tell(0, 99), 0);
        due("39: hungers 98, 99", x.fed(1, -1), 2);
        due("39: the least first", x.fed(1, 0), 98);
        due("39: the second", x.fed(1, 1), 99);
        due("39: no more", x.fed(1, 2), NONE);
        due("37: tell", x.tell(59, 99), 1);
        due("39: both", x.fed(2, -1), 2);
        due("39: none known", x.fed(0, -1), 100);
        due("39: none known", x.fed(0, 57), 57);
        due("37: against it", x.tell(0, 98), 2);
        due("39: never", x.fed(3, -1), 0);
        due("39: never", x.fed(3, 0), NONE);
        due("39: k 4", x.fed(4, -1), NONE);
        due("39: k -1", x.fed(-1, -1), NONE);
        due("39: i -2", x.fed(0, -2), NONE);
        due("39: i 100", x.fed(0, 100), NONE);
        for (int[] wrong : new int[][] {{-1, 0}, {60, 0}, {0, -1}, {0, 100}, {MIN, MAX}}) {
            due("37: no such ones", x.tell(wrong[0], wrong[1]), NONE);
        }
        due("42: told", x.count(9), 3);
        for (int i = 3; i < 20; i++) {
            due("37: tell", x.tell(59, 0), i);
        }
        due("37: 20 are there", x.tell(0, 0), NONE);
        due("42: told", x.count(9), 20);
        due("38: forget", x.forget(), 20);
        due("38: all of it", x.forget(), 0);
        due("39: nothing known", x.fed(1, -1), NONE);
        due("37: again", x.tell(1, 12), 0);
        due("39: 10", x.fed(1, 0), 10);
        BabyRound none = new BabyRound();
        none.tell(5, 0);
        none.tell(6, 1);
        due("39: no aunts", none.fed(1, -1), 100);
        due("39: no aunts", none.fed(2, -1), 0);
        // as told: the mother out of sight, no cloth, from minute 0
        BabyRound y = of("aunt a 0 0 0 0; cries=hunger*(1-seen)+wind; winds=1; spits=40;");
        y.mother(true);
        y.minutes(7);
        y.tell(0, 5);
        due("39: of the beginning", y.fed(1, 0), 3);
    }

    private static void promises40And41() {
        BabyRound x = of("baby 5 6 7 8;" + ABC + "cries=2; spits=100;");
        due("40: hold(-1)", x.hold(-1), false);
        due("40: hold(3)", x.hold(3), false);
        due("40: hold(MAX)", x.hold(MAX), false);
        due("41: nothing held", x.restore(0), false);
        x.minutes(2);
        x.tell(0, 1);
        due("40: hold", x.hold(1), true);
        due("40: that is no thing done", x.count(8), 1);
        due("42: slots", x.count(10), 1);
        x.minutes(3);
        x.hand(2);
        x.cloth(true);
        x.lay();
        x.tell(0, 2);
        Check.put(x, "abc");
        due("40: hold another", x.hold(2), true);
        due("41: restore", x.restore(1), true);
        due("41: nothing undone", x.count(8), 0);
        due("41: undo", x.undo(), false);
        int[] nows = {7, 8, 7, 0, 0, 2, 2, 0, 0, 0, -2, -2};
        for (int i = 0; i < nows.length; i++) {
            due("41: now(" + i + ")", x.now(i), nows[i]);
        }
        int[] counts = {3, 2, 4, 0, 20, 0, 0, 3, 0, 2, 2, 20, 30, 1};
        for (int i = 0; i < counts.length; i++) {
            due("41: count(" + i + ")", x.count(i), counts[i]);
        }
        x.minutes(1);
        due("41: it stays there", x.restore(1), true);
        due("41: minute", x.count(1), 2);
        due("41: the other", x.restore(2), true);
        due("41: minute", x.count(1), 5);
        due("41: asleep", x.now(7), 60);
        for (int slot : new int[] {-1, 0, 3, MIN, MAX}) {
            due("41: restore(" + slot + ")", x.restore(slot), false);
        }
        x.minutes(1);
        due("41: nothing happens", x.restore(0), false);
        due("41: undone yet", x.count(8), 1);
        due("40: over it", x.hold(1), true);
        x.minutes(1);
        due("41: over it", x.restore(1), true);
        due("41: minute", x.count(1), 6);
    }

    private static void promise42() {
        BabyRound x = of("baby 0 0 60 0;" + ABC + "cries=if held<2 then 0 else rock; spits=100; fresh 3; feeds 4;");
        x.minutes(2);
        x.hand(2);
        x.minutes(1);
        x.lay();
        x.tell(3, 4);
        x.hold(0);
        x.hold(2);
        x.feed(1, 2, 3, 4, 5);
        int[] counts = {3, 3, 1, 2, 50, 1, 1, 20, 4, 1, 2, 3, 4, 5};
        for (int i = 0; i < counts.length; i++) {
            due("42: count(" + i + ")", x.count(i), counts[i]);
        }
        for (int what : new int[] {-1, 14, MIN, MAX}) {
            due("42: count(" + what + ")", x.count(what), NONE);
        }
    }

    /** One minute of sleep yet is asleep. */
    private static void lastMinuteOfSleep() {
        BabyRound x = of("aunt a 0 0 0 0; aunt b 0 0 0 0; aunt c 0 0 0 0;");
        x.lay();
        x.minutes(59);
        due("6: one minute yet", x.now(7), 1);
        due("10: asleep", x.hand(1), false);
        due("11: asleep", x.nurse(), false);
        due("12: asleep", x.lay(), false);
        due("17: asleep", x.next(1, 0), -2);
        due("18: asleep", x.order(1), -2);
        due("19: asleep", x.orderAt(1, 0), -2);
        due("20: asleep", x.sitters(1), -2);
        due("21: asleep", x.luck(0, 1), -2);
        due("22: asleep", x.wants(1, 0), -2);
        due("24: asleep", x.beat(0, 1, 0), -2);
        due("26: asleep", x.fairest(1, 0), -2);
        due("27: asleep", x.leftOut(1, 0), -2);
        due("29: asleep", x.feedAt(1, 0), -2);
        due("33: asleep", x.rests(1, -1), -2);
        due("36: asleep", x.sleeps(), 0);
        x.minutes(1);
        due("10: awake", x.hand(1), true);
        due("36: awake", x.sleeps(), -2);
    }

    /** What undo, hold and what would be must take with them: her ways, and who had it ahead. */
    private static void copies() {
        BabyRound x = of("aunt a 1 2 3 4; aunt b 5 6 7 8; aunt c 9 8 7 6; aunt d 1 1 1 1; cries=rock*9+show-beard; fresh 10;");
        due("15: by a", x.law(4), 8);
        x.hand(1);
        due("15: by b", x.law(4), 44);
        x.undo();
        due("15: by a again", x.law(4), 8);
        x.hand(1);
        x.hand(2);
        x.hand(3);
        x.hold(0);
        x.hand(0);
        x.hand(1);
        x.hand(0);
        x.restore(0);
        due("41: before", x.now(10), 2);
        due("41: ahead", x.now(11), 1);
        due("41: by d", x.law(4), 9);
        due("41: fresh", x.now(2), 30);
        x.hand(1);
        due("41: she had it ahead", x.now(2), 30);
        x.undo();
        due("15: before", x.now(10), 2);
        due("15: ahead", x.now(11), 1);
        due("17: what would be", x.next(1, 1), 9 + 2 - 3);
        due("6: is not", x.now(4), 3);
        BabyRound y = of("aunt a 1 2 3 1; spits=50; seed 1234;");
        y.hold(0);
        y.minutes(100);
        int sick = y.aunt(0, 6);
        y.restore(0);
        due("41: not sick yet", y.aunt(0, 6), 0);
        y.minutes(100);
        due("41: as sick", y.aunt(0, 6), sick);
        y.undo();
        y.silk(100, 20);
        y.minutes(100);
        due("34: the seed is told yet", y.aunt(0, 6), sick);
    }

    private static void asked(BabyRound x, String behind, int crying, int first) {
        due("18: order behind " + behind, x.order(1), crying);
        due("19: first behind " + behind, x.orderAt(1, 0), first);
    }

    /** Whatever changes, what is asked is of how it stands now. */
    private static void ordersAnew() {
        // of two: CRY of the first minute and of the second, times 1 with a and 3 with b
        String text = "aunt a 1 0 0 0; aunt b 3 0 0 0; cries=rock*(hunger+2*seen); feeds 0; sleeps=0;";
        BabyRound x = of("baby 9 0 0 0;" + text);
        asked(x, "read", 30 + 11, 1);
        x.hold(0);
        x.minutes(1);
        asked(x, "minutes", 33 + 12, 1);
        x.nurse();
        asked(x, "nurse", 3 + 2, 1);
        x.mother(true);
        asked(x, "mother", 9 + 4, 1);
        x.undo();
        asked(x, "undo", 3 + 2, 1);
        x.restore(0);
        asked(x, "restore", 30 + 11, 1);
        due("4: read", Check.tellText(x, text), 0);
        asked(x, "another text", 3 + 2, 1);
        due("4: read", Check.tellText(x, "aunt a 3 0 0 0; aunt b 1 0 0 0; cries=rock;"), 0);
        asked(x, "another text", 4, 0);
        due("4: read", Check.tellText(x, "aunt a 3 0 0 0; aunt b 1 0 0 0; cries=rock*hunger;"), 0);
        asked(x, "another text", 5, 0);
        BabyRound y = of("aunt a 0 0 0 0; aunt b 0 0 0 0; cries=held;");
        y.minutes(1);
        asked(y, "minutes", 2, 1);
        y.hand(1);
        asked(y, "hand", 2, 0);
        y.lay();
        due("18: order behind lay", y.order(1), -2);
        y.undo();
        asked(y, "undo", 2, 0);
        due("18: another m", y.order(2), 6);
        due("20: another m", y.sitters(3), 0);
        due("21: another m", y.luck(0, 4), 2);
        asked(y, "other ones", 2, 0);
        BabyRound z = of("aunt a 1 0 0 0; aunt b 1 0 0 0; winds=9; cries=wind; spits=50; seed 1234;");
        int crying = z.crying(60);
        z.silk(100, 20);
        due("16: by the text's seed", z.crying(60), crying);
        z.minutes(60);
        due("16: as it is", z.count(2), crying);
    }

    private static void sixAunts() {
        BabyRound x = of("aunt a 1 0 0 0; aunt b 2 0 0 0; aunt c 3 0 0 0; aunt d 4 0 0 0; aunt e 5 0 0 0; aunt f 6 0 0 0 sits;"
            + "cries=rock*hunger; tires=1; sleeps=tired-5;");
        due("18: of 720", x.order(1), 56);
        for (int i = 0; i < 6; i++) {
            due("19: the last one first", x.orderAt(1, i), 5 - i);
        }
        due("20: the last one of the order sits", x.sitters(1), 120);
        int all = 0;
        for (int a = 0; a < 6; a++) {
            all += x.luck(a, 1);
        }
        due("21: one of them in each order", all, 720);
        due("27: without f", x.leftOut(1, 0), 5);
        due("27: crying", x.leftOut(1, 1), 55);
        BabyRound y = of("baby 0 0 99 0; aunt a 1 0 0 0; aunt b 2 0 0 0; aunt c 3 0 0 0; aunt d 4 0 0 0; aunt e 5 0 0 0; aunt f 6 0 0 0;");
        due("33: all", y.rests(10, -1), 1);
        due("33: all", y.rests(10, 0), 63);
        BabyRound z = of("aunt a 1 0 0 0; aunt b 2 0 0 0; aunt c 3 0 0 0; aunt d 4 0 0 0; aunt e 5 0 0 0; aunt f 6 0 0 0; fresh 0;");
        due("33: each set", z.rests(1, -1), 64);
        due("33: the last one", z.rests(1, 63), 63);
        due("42: aunts", z.count(0), 6);
        for (int a = 1; a < 6; a++) {
            z.hand(a);
        }
        due("42: all had it", z.count(13), 63);
        due("25: round to the first one", z.round(0, 1, 2, 2), 0);
    }
}
