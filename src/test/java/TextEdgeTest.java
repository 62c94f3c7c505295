import java.util.ArrayList;
import java.util.Arrays;
import java.util.HashSet;
import java.util.List;
import java.util.Set;

/** The boundaries that Term I and promises 1 to 5 name: each sentence on its edge, just inside and just beyond. */
final class TextEdgeTest {
    private static final int NONE = -1;
    private static final int MIN = Integer.MIN_VALUE;
    private static final int MAX = Integer.MAX_VALUE;
    private static final int SYNTAX = 1;
    private static final int ROOM = 2;
    private static final int TWICE = 3;
    private static final int WRONG = 5;
    private static final Check CHECK = new Check("TextEdgeTest");
    private static final List<String> WORDS = List.of("baby", "aunt", "sits", "hungers", "tires", "wonders", "winds", "cries",
        "sleeps", "spits", "fresh", "feeds", "seed", "if", "then", "else", "hunger", "tired", "wonder", "wind", "held", "rock",
        "show", "beard", "seen");
    private static final List<String> LAWS = List.of("hungers", "tires", "wonders", "winds", "cries", "sleeps", "spits");
    private static final List<String> VARS = List.of("hunger", "tired", "wonder", "wind", "held", "rock", "show", "beard", "seen");

    private TextEdgeTest() {
    }

    public static void main(String[] args) {
        textOf2000Bytes();
        tokensAreTheLongest();
        blanks();
        lettersOfNames();
        lengthOfNames();
        namesAreNoWords();
        digitsOfInts();
        signs();
        whatGoesOn();
        emptyTexts();
        babyNumbers();
        sixAunts();
        auntNumbers();
        auntsSit();
        inARound();
        lawsNotTold();
        freshFeedsSeed();
        ofSeveralTheLastOne();
        firstByItsPlace();
        ofOnePlaceTheLeast();
        textsEnd();
        token401();
        token401OfEach();
        aunt7();
        if5();
        open7();
        twice();
        wrong();
        faultChangesNothing();
        elseInPlaceOfTheOneAhead();
        promise1();
        promise2Full();
        promise2HighestFirst();
        promise3();
        promise4();
        promise5();
        CHECK.end();
    }

    private static void due(String call, long got, long want) {
        CHECK.due(call, got, want);
    }

    private static void fault(String sentence, String text, int fault, int place) {
        BabyRound x = new BabyRound();
        due(sentence + ": read of " + text, Check.tellText(x, text), fault);
        due(sentence + ": place in " + text, x.place(), place);
    }

    private static BabyRound fine(String sentence, String text) {
        BabyRound x = new BabyRound();
        due(sentence + ": read of " + text, Check.tellText(x, text), 0);
        due(sentence + ": place in " + text, x.place(), NONE);
        return x;
    }

    private static String blank(int n) {
        return " ".repeat(n);
    }

    private static void textOf2000Bytes() {
        String s = "I: A TEXT has 2,000 bytes at most";
        due(s, fine(s, blank(1991) + "fresh 7;").count(11), 7);
        due(s, fine(s, blank(1992) + "fresh 7;").count(11), 7);
        due(s, fine(s, "fresh 7;" + blank(1992)).count(11), 7);
        fault(s, blank(1999) + "?", SYNTAX, 1999);
        fault(s, blank(1992) + "fresh 10", SYNTAX, 2000);
        fault(s, blank(1991) + "fresh 10", SYNTAX, 1999);
        fault(s, blank(1990) + "fresh 100;", WRONG, 1996);
        fault(s, blank(1991) + "fresh 10;", 0, NONE);
        // the tape takes no 2001st byte: the ; does not come, and the text is not at its end
        BabyRound x = new BabyRound();
        Check.put(x, blank(1993) + "fresh 7");
        due(s, x.feed(0x3b202020, 0, 0, 0, 0), NONE);
        due(s, x.read(), SYNTAX);
        due(s, x.place(), 2000);
    }

    private static void tokensAreTheLongest() {
        String s = "I: TOKENS, the longest that can be";
        fault(s, "freshfresh 7;", SYNTAX, 0);
        fault(s, "freshfre 7;", SYNTAX, 0);
        due(s, fine(s, "fresh7;feeds8;seed9;baby1 2 3 4;").count(12), 8);
        fault(s, "baby 1 23 4;", SYNTAX, 11);
        fault(s, "baby 1 2 3 4 5;", SYNTAX, 13);
        fault(s, "aunts 1 2 3 4;", SYNTAX, 0);
        fault(s, "aunt sits 1 2 3 4;", SYNTAX, 5);
        fault(s, "aunt sit 1 2 3 4 sits;", 0, NONE);
        fault(s, "aunt sitss 1 2 3 4sits;", 0, NONE);
        fault(s, "aunt a 1 2 3 4 sitss;", SYNTAX, 15);
        fault(s, "aunt a 1 2 3 4 sitssits;", SYNTAX, 15);
        fault(s, "cries=ifhunger<1 then 1 else 1;", SYNTAX, 6);
        fault(s, "cries=if hunger<1then 1else 1;", 0, NONE);
        fault(s, "cries=helds;", SYNTAX, 6);
        fault(s, "cries=hel;", SYNTAX, 6);
        due(s, fine(s, "aunt a 1 2 3 4;cries=12;").law(4), 12);
        fault(s, "cries=1 2;", SYNTAX, 8);
        // 1 to 4 digits, the longest: 12345 is not 1234 and 5
        fault(s, "baby 12345 6 7;", SYNTAX, 5);
    }

    private static void blanks() {
        String s = "I: blanks (9, 10, 13, 32)";
        for (int b = 0; b < 256; b++) {
            String c = String.valueOf((char) b);
            String text = "fresh" + c + "7;";
            if (b == 9 || b == 10 || b == 13 || b == 32) {
                due(s + " " + b, fine(s, text).count(11), 7);
                due(s + " " + b, fine(s, c + "fresh 7;").count(11), 7);
                due(s + " " + b, fine(s, "fresh 7;" + c).count(11), 7);
                due(s + " " + b, fine(s, "fresh 7" + c + c + ";").count(11), 7);
            } else if (b >= '0' && b <= '9') {
                due(s + " " + b, fine(s, text).count(11), 10 * (b - '0') + 7);
            } else {
                fault(s + " " + b, text, SYNTAX, b >= 'a' && b <= 'z' ? 0 : 5);
                fault(s + " " + b, c + ";", SYNTAX, 0);
                fault(s + " " + b, "fresh 7;" + c, SYNTAX, 8);
            }
        }
        due("I: with blanks between or not", fine(s, "baby1\t2\n3\r4;aunt\n\n\na1 2 3 4\rsits\t;").now(3), 4);
    }

    private static void lettersOfNames() {
        String s = "I: NAMES (letters a .. z";
        for (int b = 0; b < 256; b++) {
            String c = String.valueOf((char) b);
            boolean letter = b >= 'a' && b <= 'z';
            fault(s + " " + b, "aunt " + c + " 1 2 3 4;", letter ? 0 : SYNTAX,
                letter ? NONE : b == 9 || b == 10 || b == 13 || b == 32 ? 7 : 5);
            boolean between = b == 9 || b == 10 || b == 13 || b == 32;
            boolean digit = b >= '0' && b <= '9';
            // "q" + a digit is a NAME and its first INT; then there is one INT too many
            fault(s + " q" + b, "aunt q" + c + " 1 2 3 4;", letter || between ? 0 : SYNTAX,
                letter || between ? NONE : digit ? 14 : 6);
        }
    }

    private static void lengthOfNames() {
        String s = "I: NAMES (.. 8 at most";
        for (int n = 1; n <= 12; n++) {
            fault(s, "aunt " + "q".repeat(n) + " 1 2 3 4;", n <= 8 ? 0 : SYNTAX, n <= 8 ? NONE : 5);
        }
        fault(s, "aunt qqqqqqqq1 2 3 4;", 0, NONE);
        fault(s, "aunt qqqqqqqqq1 2 3 4;", SYNTAX, 5);
        fault(s, "aunt qqqqqqqq qqqqqqqq 2 3 4;", SYNTAX, 14);
        // a NAME is told by each of its letters
        String names = "aunt abcdefgh 1 1 1 1;";
        for (int i = 0; i < 8; i++) {
            char[] other = "abcdefgh".toCharArray();
            other[i] = 'z';
            fault(s, names + "aunt " + new String(other) + " 1 1 1 1;", 0, NONE);
            fault(s, names + "aunt " + "abcdefgh".substring(0, i + 1) + " 1 1 1 1;", i < 7 ? 0 : TWICE, i < 7 ? NONE : 27);
        }
        fault(s, "aunt zzzzzzzz 1 1 1 1;aunt zzzzzzzy 1 1 1 1;aunt aaaaaaaa 1 1 1 1;aunt zzzzzzzz 1 1 1 1;", TWICE, 71);
    }

    private static void namesAreNoWords() {
        String s = "I: NAMES (.. none of the words in quotes)";
        Set<String> words = new HashSet<>(WORDS);
        due(s, words.size(), 25);
        for (String word : WORDS) {
            fault(s, "aunt " + word + " 1 2 3 4;", SYNTAX, 5);
            String[] others = {word.substring(0, word.length() - 1), word.substring(1), word + "s", word + "x", "x" + word,
                word.substring(0, word.length() - 1) + "q", "q" + word.substring(1)};
            for (String other : others) {
                if (!words.contains(other) && other.length() <= 8) {
                    fault(s, "aunt " + other + " 1 2 3 4;", 0, NONE);
                    fault(s, other + " 1 2 3 4;", SYNTAX, 0);
                    fault(s, "cries=" + other + ";", SYNTAX, 6);
                }
            }
        }
    }

    private static void digitsOfInts() {
        String s = "I: INTS (1 to 4 digits)";
        due(s, fine(s, "fresh 7;").count(11), 7);
        due(s, fine(s, "fresh 07;").count(11), 7);
        due(s, fine(s, "fresh 0007;").count(11), 7);
        fault(s, "fresh 00007;", SYNTAX, 6);
        fault(s, "fresh ;", SYNTAX, 6);
        fault(s, "seed 9999;", 0, NONE);
        fault(s, "seed 10000;", SYNTAX, 5);
        fault(s, "cries=09999;", SYNTAX, 6);
        fault(s, "cries=9999+00000;", SYNTAX, 11);
        for (char digit = '0'; digit <= '9'; digit++) {
            due(s, fine(s, "fresh " + digit + ";").count(11), digit - '0');
        }
        due(s, fine(s, "aunt a 1 2 3 4;cries=9999-9989;").law(4), 10);
        due(s, fine(s, "aunt a 1 2 3 4;cries=0011;").law(4), 11);
    }

    private static void signs() {
        String s = "I: SIGNS ; = + - * / < ( )";
        for (int b = 33; b < 256; b++) {
            String c = String.valueOf((char) b);
            boolean digit = b >= '0' && b <= '9';
            boolean joins = "+-*/".indexOf(b) >= 0;
            // behind a number of a law: + - * / go on, ; ends it, all else stops the text at once
            int place = b == ';' ? 8 : 7;
            fault(s + " " + c, "cries=1" + c + "1;", digit || joins ? 0 : SYNTAX, digit || joins ? NONE : place);
            boolean opens = b == '(';
            fault(s + " " + c, "cries=" + c + "1);", opens ? 0 : SYNTAX, opens ? NONE : digit ? 8 : 6);
            fault(s + " " + c, "cries=(1" + c + ";", b == ')' ? 0 : SYNTAX,
                b == ')' ? NONE : digit || joins ? 9 : 8);
            fault(s + " " + c, "cries" + c + "1;", b == '=' ? 0 : SYNTAX, b == '=' ? NONE : b >= 'a' && b <= 'z' ? 0 : 5);
            boolean less = b == '<';
            fault(s + " " + c, "cries=if 1" + c + "2 then 3 else 4;", less ? 0 : SYNTAX,
                less ? NONE : digit || joins ? 13 : 10);
            fault(s + " " + c, "seed 1" + c, b == ';' ? 0 : SYNTAX, b == ';' ? NONE : digit ? 7 : 6);
        }
    }

    /** Every beginning of each TELL with every token behind it: the text goes on with those of the grammar alone. */
    private static void whatGoesOn() {
        String s = "I: SYNTAX: a TOKEN .. with which no text goes on";
        List<String> tokens = new ArrayList<>(WORDS);
        tokens.addAll(List.of("name", "1", ";", "=", "+", "-", "*", "/", "<", "(", ")"));
        List<String> starts = new ArrayList<>(List.of("baby", "aunt", "fresh", "feeds", "seed"));
        starts.addAll(LAWS);
        List<String> units = new ArrayList<>(VARS);
        units.addAll(List.of("1", "("));
        List<String> unitsOrIf = new ArrayList<>(units);
        unitsOrIf.add("if");
        goesOn(s, tokens, "", starts);
        String begun = "baby";
        for (int i = 0; i < 4; i++) {
            goesOn(s, tokens, begun, List.of("1"));
            begun += " " + i;
        }
        goesOn(s, tokens, begun, List.of(";"));
        goesOn(s, tokens, begun + " ;", starts);
        goesOn(s, tokens, "aunt", List.of("name"));
        begun = "aunt q";
        for (int i = 0; i < 4; i++) {
            goesOn(s, tokens, begun, List.of("1"));
            begun += " " + i;
        }
        goesOn(s, tokens, begun, List.of("sits", ";"));
        goesOn(s, tokens, begun + " sits", List.of(";"));
        goesOn(s, tokens, begun + " sits ;", starts);
        goesOn(s, tokens, begun + " ;", starts);
        for (String word : List.of("fresh", "feeds", "seed")) {
            goesOn(s, tokens, word, List.of("1"));
            goesOn(s, tokens, word + " 9", List.of(";"));
            goesOn(s, tokens, word + " 9 ;", starts);
        }
        for (String law : LAWS) {
            goesOn(s, tokens, law, List.of("="));
            goesOn(s, tokens, law + " =", unitsOrIf);
            expression(s, tokens, law + " =", units, List.of(";"));
            goesOn(s, tokens, law + " = 1 ;", starts);
            goesOn(s, tokens, law + " = if", units);
            expression(s, tokens, law + " = if", units, List.of("<"));
            goesOn(s, tokens, law + " = if 1 <", units);
            expression(s, tokens, law + " = if 1 <", units, List.of("then"));
            goesOn(s, tokens, law + " = if 1 < 2 then", units);
            expression(s, tokens, law + " = if 1 < 2 then", units, List.of("else"));
            goesOn(s, tokens, law + " = if 1 < 2 then 3 else", unitsOrIf);
            expression(s, tokens, law + " = if 1 < 2 then 3 else", units, List.of(";"));
            goesOn(s, tokens, law + " = if 1 < 2 then 3 else if", units);
        }
    }

    private static void expression(String s, List<String> tokens, String begun, List<String> units, List<String> ends) {
        List<String> behindUnit = new ArrayList<>(List.of("+", "-", "*", "/"));
        List<String> within = new ArrayList<>(behindUnit);
        within.add(")");
        behindUnit.addAll(ends);
        for (String unit : List.of("1", "hunger", "seen", "( 1 )", "( 1 + ( 2 ) )", "1 * 2", "1 - ( 2 )")) {
            goesOn(s, tokens, begun + " " + unit, behindUnit);
        }
        for (String unit : List.of("( 1", "( held", "( 1 - 2", "( ( 3 )")) {
            goesOn(s, tokens, begun + " " + unit, within);
        }
        for (String open : List.of("(", "1 +", "1 -", "1 *", "1 /", "( 1 /", "( (")) {
            goesOn(s, tokens, begun + " " + open, units);
        }
    }

    private static void goesOn(String s, List<String> tokens, String begun, List<String> with) {
        for (String token : tokens) {
            String text = begun + " " + token;
            BabyRound x = new BabyRound();
            int fault = Check.tellText(x, text);
            int place = x.place();
            if (with.contains(token)) {
                // it goes on: either the text is whole, or its end is what is in the way
                due(s + ": goes on, " + text, fault == 0 ? text.length() : place, text.length());
            } else {
                due(s + ": does not go on, " + text, fault, SYNTAX);
                due(s + ": at it, " + text, place, text.length() - token.length());
            }
        }
        for (String none : List.of("?", "12345", "abcdefghi", "A", "\u00e9")) {
            fault("I: .. or what is none, with which no text goes on", begun + " " + none, SYNTAX, begun.length() + 1);
        }
    }

    private static void emptyTexts() {
        String s = "I: text: {TELL}";
        BabyRound x = fine(s, "");
        due(s, x.count(0), 0);
        due(s, x.now(4), -2);
        fine(s, " ");
        fine(s, " \t\r\n \t\r\n");
        fault(s, ";", SYNTAX, 0);
        fault(s, "fresh 1;;", SYNTAX, 8);
    }

    private static void babyNumbers() {
        String s = "I: HUNGER, TIRED, WONDER, WIND 0 .. 99 each";
        for (int which = 0; which < 4; which++) {
            for (int number : new int[] {0, 1, 98, 99, 100, 101, 999, 9999}) {
                int[] all = {1, 2, 3, 4};
                all[which] = number;
                String ahead = "baby";
                for (int i = 0; i < which; i++) {
                    ahead += " " + all[i];
                }
                String text = "baby " + all[0] + " " + all[1] + " " + all[2] + " " + all[3] + ";";
                if (number > 99) {
                    fault(s, text, WRONG, ahead.length() + 1);
                } else {
                    BabyRound x = fine(s, text);
                    for (int i = 0; i < 4; i++) {
                        due(s + " now(" + i + ")", x.now(i), all[i]);
                    }
                }
            }
        }
        BabyRound none = fine("I: (0 each)", "aunt a 1 2 3 4;");
        for (int i = 0; i < 4; i++) {
            due("I: (0 each)", none.now(i), 0);
        }
    }

    private static String aunts(int n) {
        StringBuilder text = new StringBuilder();
        for (int i = 0; i < n; i++) {
            text.append("aunt ").append((char) ('a' + i)).append(" ").append(i).append(" 0 0 0;");
        }
        return text.toString();
    }

    private static void sixAunts() {
        String s = "I: AUNTS, 6 at most";
        for (int n = 0; n <= 6; n++) {
            BabyRound x = fine(s, aunts(n));
            due(s, x.count(0), n);
            for (int a = 0; a < n; a++) {
                due("I: numbered from 0 on as they stand", x.aunt(a, 5), a);
            }
            due(s, x.aunt(n, 5), NONE);
            due(s, x.now(4), n == 0 ? -2 : 0);
        }
        sixth();
        fault(s, aunts(7), ROOM, aunts(6).length());
        fault(s, aunts(8), ROOM, aunts(6).length());
        fault(s, aunts(5) + "fresh 1;" + "aunt q 1 2 3 4;" + "fresh 2;" + "aunt r 1 2 3 4;", ROOM, aunts(5).length() + 8 + 15 + 8);
    }

    /** Each of the sixth one's ways is hers. */
    private static void sixth() {
        String s = "I: AUNTS, 6 at most (a NAME, ROCK, SHOW, BEARD, SILK, whether she SITS), the sixth";
        BabyRound x = fine(s, aunts(5) + "aunt f 6 7 8 9 sits; cries=rock*10+show; tires=beard; spits=100; fresh 0;");
        due(s + ", SITS", x.sitters(1), 0);
        x.hand(5);
        due(s + ", ROCK, SHOW", x.law(4), 67);
        due(s + ", BEARD", x.law(1), 8);
        x.minutes(1);
        due(s + ", SILK", x.aunt(5, 4), 9);
        due(s + ", her tallies", x.aunt(5, 1), 67);
        due(s + ", SITS", fine(s, aunts(5) + "aunt f 6 7 8 9 sits; sleeps=hunger-5;").sitters(1), 120);
        due(s + ", SITS not", fine(s, "aunt q 1 1 1 1 sits;" + aunts(5) + "sleeps=hunger-5;").sitters(1), 120);
    }

    private static void auntNumbers() {
        String s = "I: ROCK, SHOW, BEARD 0 .. 9 each, SILK 0 .. 99";
        String[] ways = {"rock", "show", "beard"};
        for (int which = 0; which < 4; which++) {
            for (int number : new int[] {0, 1, 8, 9, 10, 11, 98, 99, 100, 101, 999, 9999}) {
                int[] all = {1, 2, 3, 4};
                all[which] = number;
                String ahead = "aunt a";
                for (int i = 0; i < which; i++) {
                    ahead += " " + all[i];
                }
                String law = which < 3 ? "cries=" + ways[which] + ";" : "spits=100;";
                String text = "aunt a " + all[0] + " " + all[1] + " " + all[2] + " " + all[3] + ";" + law;
                if (number > (which < 3 ? 9 : 99)) {
                    fault(s, text, WRONG, ahead.length() + 1);
                } else {
                    BabyRound x = fine(s, text);
                    x.minutes(1);
                    due(s + " " + text, which < 3 ? x.now(6) : x.aunt(0, 4), number);
                }
            }
        }
    }

    private static void auntsSit() {
        String s = "I: whether she SITS";
        due(s, fine(s, "aunt a 0 0 0 0 sits; sleeps=1;").sitters(1), 1);
        due(s, fine(s, "aunt a 0 0 0 0; sleeps=1;").sitters(1), 0);
        BabyRound x = fine(s, "aunt a 0 0 0 0 sits; aunt b 0 0 0 0; sleeps=1;");
        due(s, x.sitters(1), 1);
        due(s, Check.tellText(x, "aunt a 0 0 0 0; aunt b 0 0 0 0 sits; aunt c 0 0 0 0; sleeps=1;"), 0);
        due(s, x.sitters(1), 2);
        due(s, Check.tellText(x, "aunt a 0 0 0 0; aunt b 0 0 0 0; aunt c 0 0 0 0; sleeps=1;"), 0);
        due(s, x.sitters(1), 0);
    }

    private static void inARound() {
        String s = "I: in a round, the first one behind the last one";
        for (int n = 1; n <= 6; n++) {
            BabyRound x = fine(s, aunts(n) + "cries=1;");
            for (int minutes = 1; minutes <= 2 * n + 1; minutes++) {
                due(s + ", ROUND by 0 of " + n, x.round(0, 1, minutes, 2), (minutes - 1) % n);
                due(s + ", ROUND by 1 of " + n, x.round(1, 1, minutes, 2), (minutes - 1) % n);
            }
        }
        // LETTING GO goes round from her who has it: two minutes of laughing are hers, or one each
        BabyRound y = fine(s, "baby 0 0 57 0; aunt a 0 0 0 0; aunt b 0 0 0 0; aunt c 0 0 0 0; wonders=0-4; fresh 0;");
        y.hand(2);
        // wonder 53, 49: one laugh; c has it first
        due(s, y.rests(1, -1), 8);
        BabyRound z = fine(s, "baby 0 0 61 0; aunt a 0 0 0 0; aunt b 0 0 0 0; aunt c 0 0 0 0; wonders=0-4; fresh 0;");
        z.hand(2);
        // 57, 53, 49: two laughs; c takes both, nothing is left for a behind her, nor for b
        due(s, z.rests(1, 0), 4);
        due(s, z.rests(1, -1), 4);
        BabyRound w = fine(s, "baby 0 0 65 0; aunt a 0 0 0 0; aunt b 0 0 0 0; aunt c 0 0 0 0; wonders=0-4; fresh 0;");
        w.hand(2);
        // 61, 57, 53, 49: three laughs; c takes two, a, behind her, the third one; b has none
        due(s, w.rests(1, -1), 4);
        due(s, w.rests(1, 0), 4);
        BabyRound v = fine(s, "baby 0 0 69 0; aunt a 0 0 0 0; aunt b 0 0 0 0; aunt c 0 0 0 0; wonders=0-4; fresh 0;");
        v.hand(2);
        // four laughs: c two, a two
        due(s, v.rests(1, -1), 2);
        due(s, v.rests(1, 0), 5);
        due(s, v.rests(1, 1), 7);
    }

    private static void lawsNotTold() {
        String s = "I: HUNGERS 1, TIRES 1, WONDERS 0, WINDS 0, CRIES 0, SLEEPS 0, SPITS 0, if not told";
        int[] none = {1, 1, 0, 0, 0, 0, 0};
        int[] told = {5, 5, 5, 5, 5, 1, 5};
        for (int which = 0; which < 7; which++) {
            BabyRound x = fine(s, "aunt a 1 2 3 4; " + LAWS.get(which) + "=5;");
            for (int i = 0; i < 7; i++) {
                due(s + ", law(" + i + ")", x.law(i), i == which ? told[i] : none[i]);
            }
        }
        BabyRound y = fine(s, "aunt a 1 2 3 4;");
        y.minutes(3);
        int[] nows = {3, 3, 0, 0, 0, 3, 0, 0};
        for (int i = 0; i < nows.length; i++) {
            due(s + ", now(" + i + ")", y.now(i), nows[i]);
        }
        due(s, y.aunt(0, 6), 0);
    }

    private static void freshFeedsSeed() {
        String[] words = {"fresh", "feeds"};
        for (int i = 0; i < 2; i++) {
            String s = "I: " + words[i].toUpperCase() + " 0 .. 99";
            for (int number : new int[] {0, 1, 98, 99}) {
                due(s, fine(s, words[i] + " " + number + ";").count(11 + i), number);
            }
            for (int number : new int[] {100, 101, 999, 9999}) {
                fault(s, words[i] + " " + number + ";", WRONG, 6);
            }
        }
        due("I: FRESH .. (20)", fine("I", "feeds 1;").count(11), 20);
        due("I: FEEDS .. (30)", fine("I", "fresh 1;").count(12), 30);
        BabyRound x = fine("I", "aunt a 0 0 0 0; aunt b 0 0 0 0;");
        x.hand(1);
        due("I: FRESH .. (20): WONDER that is more", x.now(2), 20);
        x.nurse();
        due("I: FEEDS .. (30): WIND that is more", x.now(3), 30);
        String s = "I: SEED 0 .. 9999 (0)";
        String law = "aunt a 0 0 0 1; spits=50;";
        int[] seeds = {0, 1, 9998, 9999};
        Set<Integer> lots = new HashSet<>();
        for (int seed : seeds) {
            BabyRound y = fine(s, law + "seed " + seed + ";");
            due(s + " seed " + seed, lotsOf(y), lotsDue(seed));
            lots.add(lotsDue(seed));
        }
        due(s, lots.size(), 4);
        due(s, lotsOf(fine(s, law)), lotsDue(0));
        fault(s, "seed 10000;", SYNTAX, 5);
    }

    /** In which of 24 minutes it spits, as bits. */
    private static int lotsOf(BabyRound x) {
        int bits = 0;
        for (int minute = 0; minute < 24; minute++) {
            int sick = x.aunt(0, 6);
            x.minutes(1);
            bits |= x.aunt(0, 6) - sick << minute;
        }
        return bits;
    }

    private static int lotsDue(int seed) {
        int bits = 0;
        for (int minute = 0; minute < 24; minute++) {
            bits |= (Check.lot(100, seed, minute) < 50 ? 1 : 0) << minute;
        }
        return bits;
    }

    private static void ofSeveralTheLastOne() {
        String s = "I: Of several the last one";
        BabyRound x = fine(s, "baby 9 8 7 6; baby 1 2 3 4; fresh 5; fresh 6; feeds 7; feeds 8;");
        for (int i = 0; i < 4; i++) {
            due(s + ", BABY", x.now(i), i + 1);
        }
        due(s + ", FRESH", x.count(11), 6);
        due(s + ", FEEDS", x.count(12), 8);
        due(s + ", SEED", lotsOf(fine(s, "seed 5; aunt a 0 0 0 1; seed 4711; spits=50;")), lotsDue(4711));
        due(s + ", SEED", lotsOf(fine(s, "seed 5; aunt a 0 0 0 1; spits=50; seed 0;")), lotsDue(0));
        for (int which = 0; which < 7; which++) {
            String law = LAWS.get(which);
            int one = which == 5 ? 0 : 3;
            int two = which == 5 ? 1 : 4;
            String[] texts = {law + "=" + one + ";" + law + "=" + two + ";",
                law + "=if 1<2 then " + one + " else " + one + ";" + law + "=" + two + ";",
                law + "=" + one + ";" + law + "=if 2<1 then " + one + " else " + two + ";",
                law + "=1/0;" + law + "=" + one + ";" + law + "=" + two + ";"};
            for (String text : texts) {
                due(s + ", " + text, fine(s, "aunt a 0 0 0 0;" + text).law(which), two);
            }
            due(s + ", of another LAW", fine(s, "aunt a 0 0 0 0;" + texts[0]).law((which + 1) % 7), which == 6 || which == 0 ? 1 : 0);
            // whatever is told of others behind it, that it had an if is over
            String others = LAWS.get((which + 3) % 7) + "=99;" + LAWS.get((which + 4) % 7) + "=if 1<2 then 88 else 77;";
            due(s + ", its ifs are over", fine(s, "aunt a 0 0 0 0;" + texts[1] + others).law(which), two);
            String more = law + "=if 1<2 then " + one + " else if 1<3 then " + one + " else " + one + ";";
            due(s + ", its ifs are over", fine(s, "aunt a 0 0 0 0;" + more + texts[2] + others).law(which), two);
        }
    }

    private static void firstByItsPlace() {
        String s = "I: FAULTS, the first by its place";
        fault(s, "? ?", SYNTAX, 0);
        fault(s, " ? ;", SYNTAX, 1);
        fault(s, aunts(7) + "?", ROOM, aunts(6).length());
        fault(s, aunts(6) + "? aunt g 1 2 3 4;", SYNTAX, aunts(6).length());
        fault(s, "aunt a 1 2 3 4; aunt a 1 2 3 4; aunt b 10 2 3 4;", TWICE, 21);
        fault(s, "aunt a 10 2 3 4; aunt a 1 2 3 4; aunt a 1 2 3 4;", WRONG, 7);
        fault(s, "aunt a 1 2 3 4; aunt a 10 2 3 4;", TWICE, 21);
        fault(s, "baby 1 100 100 1;", WRONG, 7);
        fault(s, "aunt b 1 2 3 4; aunt a 1 2 3 4; aunt a 1 2 3 4; aunt b 1 2 3 4;", TWICE, 37);
        // a byte: each blank is one
        fault(s, "\n\r\t ?", SYNTAX, 4);
        fault("I: If there is none, likewise", "fresh 100; ?", SYNTAX, 11);
        fault("I: If there is none, likewise", "fresh 100;" + aunts(7), ROOM, 10 + aunts(6).length());
        fault("I: If there is none, likewise", "aunt a 1 2 3 4; aunt a 1 2 3 4", SYNTAX, 30);
        fault("I: If there is none, likewise", "aunt a 1 2 3 4; aunt a 1 2 3 4;", TWICE, 21);
    }

    private static String sum(int numbers) {
        return "1" + "+1".repeat(numbers - 1);
    }

    /** A law of 400 tokens. */
    private static String full() {
        return "cries=" + sum(199) + ";";
    }

    private static void ofOnePlaceTheLeast() {
        String s = "I: of one place the least";
        String full = full();
        // the 401st TOKEN is at the same place one with which no text goes on
        fault(s, full + "x", SYNTAX, full.length());
        fault(s, full + ";", SYNTAX, full.length());
        fault(s, full + "sits", SYNTAX, full.length());
        fault(s, full + "1", SYNTAX, full.length());
        fault(s, full + "baby", ROOM, full.length());
        fault(s, full + "aunt", ROOM, full.length());
        String six = aunts(6);
        fault(s, six + "aunts", SYNTAX, six.length());
        fault(s, six + "aunt", ROOM, six.length());
        fault(s, "cries=((((((1(", SYNTAX, 13);
        fault(s, "cries=((((((1)(", SYNTAX, 14);
        String four = "cries=" + "if 1<2 then 3 else ".repeat(4);
        fault(s, four + "4 if", SYNTAX, four.length() + 2);
        fault(s, four + "(if", SYNTAX, four.length() + 1);
    }

    private static void textsEnd() {
        String s = "I: the text's end: its length";
        for (String text : List.of("baby", "baby 1 2 3 4", "aunt", "aunt a", "aunt a 1 2 3 4", "aunt a 1 2 3 4 sits", "fresh",
            "fresh 1", "feeds 1", "seed 1", "cries", "cries=", "cries=1", "cries=(", "cries=(1)", "cries=if", "cries=if 1<2 then 3 else")) {
            fault(s, text, SYNTAX, text.length());
            fault(s, text + " ", SYNTAX, text.length() + 1);
            fault(s, "\n" + text + "\t\r\n", SYNTAX, text.length() + 4);
            fault(s, text + blank(2000 - text.length()), SYNTAX, 2000);
            fault(s, "fresh 100;" + text, SYNTAX, text.length() + 10);
        }
    }

    /** TELLs of so many tokens, 4 or more. */
    private static String padding(int tokens) {
        int numbers = (tokens % 2 == 0 ? tokens : tokens - 3) / 2 - 1;
        return (tokens % 2 == 0 ? "" : "fresh 1;") + "cries=" + sum(numbers) + ";";
    }

    private static void token401() {
        String s = "I: ROOM: a 401st TOKEN";
        String full = full();
        fault(s, full, 0, NONE);
        fault(s, full + " \n ", 0, NONE);
        fault(s, full + "fresh", ROOM, full.length());
        fault(s, full + "  fresh 1;", ROOM, full.length() + 2);
        fault(s, padding(397) + "fresh 2;", 0, NONE);
        fault(s, padding(398) + "fresh 2;", ROOM, padding(398).length() + 7);
        fault(s, padding(399) + "fresh 2;", ROOM, padding(399).length() + 6);
        fault(s, padding(400) + "fresh 2;", ROOM, padding(400).length());
        due(s, fine(s, padding(397) + "fresh 2;").count(11), 2);
        // what is no TOKEN is none of them, nor the end
        fault(s, full + "?", SYNTAX, full.length());
        fault(s, full + "abcdefghi", SYNTAX, full.length());
        String open = full.substring(0, full.length() - 1);
        fault(s, open, SYNTAX, open.length());
        fault(s, open + "+", SYNTAX, open.length() + 1);
        fault(s, open + "+1", ROOM, open.length() + 1);
        fault(s, open + "+1;", ROOM, open.length() + 1);
        // it is counted in the whole text, not in one TELL
        fault(s, "fresh 1;".repeat(133), 0, NONE);
        fault(s, "fresh 1;".repeat(133) + "fresh", SYNTAX, 133 * 8 + 5);
        fault(s, "fresh 1;".repeat(133) + "fresh 1;", ROOM, 133 * 8 + 6);
        fault(s, "seed 1;".repeat(285), ROOM, 133 * 7 + 5);
        fault(s, "cries=" + sum(900) + ";", ROOM, 6 + 398);
    }

    /** Each token of each TELL as the 400th, at which the text is cut off, and as the 401st. */
    private static void token401OfEach() {
        String s = "I: ROOM: a 401st TOKEN, whichever";
        for (String tell : List.of("baby 1 2 3 4 ;", "aunt z 1 2 3 4 sits ;", "aunt z 1 2 3 4 ;", "fresh 1 ;", "feeds 2 ;", "seed 3 ;",
            "spits = 1 ;", "hungers = if ( hunger + 1 ) * 2 < tired - 3 / wonder then wind else held ;")) {
            String[] tokens = tell.split(" ");
            int behind = 0;
            for (int i = 0; i < tokens.length; i++) {
                String padding = padding(400 - i);
                fault(s, padding + tell, ROOM, padding.length() + behind);
                fault(s, padding + tell + "?", ROOM, padding.length() + behind);
                behind += tokens[i].length() + 1;
                String one = padding(399 - i);
                fault(s + ": the 400th is none", one + tell.substring(0, Math.min(behind, tell.length())), i + 1 == tokens.length ? 0 : SYNTAX,
                    i + 1 == tokens.length ? NONE : one.length() + behind);
            }
        }
    }

    private static void aunt7() {
        String s = "I: ROOM: a 7th aunt (at its first TOKEN)";
        String six = aunts(6);
        fault(s, six, 0, NONE);
        fault(s, six + "  aunt", ROOM, six.length() + 2);
        fault(s, six + "aunt a 1 2 3 4;", ROOM, six.length());
        fault(s, six + "aunt ?", ROOM, six.length());
        fault(s, six + "fresh 1; aunt z 10 1 1 1;", ROOM, six.length() + 9);
        fault(s, six + "fresh 1; seed 2;", 0, NONE);
        fault(s, "aunt a 1 2 3 4;".repeat(7), ROOM, 90);
        fault(s, "aunt a 1 2 3 4;".repeat(6), TWICE, 20);
    }

    private static void if5() {
        String s = "I: ROOM: a 5th if of a LAW (at it)";
        String one = "if 1<2 then 3 else ";
        for (String law : LAWS) {
            String begun = law + "=";
            fault(s, begun + one.repeat(3) + "3;", 0, NONE);
            fault(s, begun + one.repeat(4) + "3;", 0, NONE);
            fault(s, begun + one.repeat(5) + "3;", ROOM, begun.length() + 4 * one.length());
            fault(s, begun + one.repeat(4) + "if", ROOM, begun.length() + 4 * one.length());
            fault(s, begun + one.repeat(4) + "if ?", ROOM, begun.length() + 4 * one.length());
            // those of another LAW, or of the same told again, are none of its
            String twice = begun + one.repeat(4) + "3;";
            fault(s, twice + twice + "tires=" + one.repeat(4) + "4;", 0, NONE);
        }
        // the 4th is looked at as well
        String law = "if 2<1 then 3 else if 2<1 then 4 else if 2<1 then 5 else ";
        due(s, fine(s, "aunt a 0 0 0 0; cries=" + law + "if 1<2 then 6 else 7;").law(4), 6);
        due(s, fine(s, "aunt a 0 0 0 0; cries=" + law + "if 2<1 then 6 else 7;").law(4), 7);
    }

    private static void open7() {
        String s = "I: ROOM: a 7th ( within one another (at it)";
        String six = "((((((1))))))";
        String seven = "(((((((1)))))))";
        String[] ahead = {"cries=", "cries=if ", "cries=if 1<", "cries=if 1<2 then ", "cries=if 1<2 then 3 else ", "cries=2+", "cries=2*",
            "cries=(2)+", "cries=" + six + "-"};
        String[] behind = {";", "<2 then 3 else 4;", " then 3 else 4;", " else 4;", ";", ";", ";", ";", ";"};
        for (int i = 0; i < ahead.length; i++) {
            fault(s, ahead[i] + six + behind[i], 0, NONE);
            fault(s, ahead[i] + seven + behind[i], ROOM, ahead[i].length() + 6);
            fault(s, ahead[i] + "(((((((", ROOM, ahead[i].length() + 6);
        }
        fault(s, "cries=" + "(1)+".repeat(20) + "1;", 0, NONE);
        fault(s, "cries=((((((1)+(2))+(3))+(4))+(5))+(6));", 0, NONE);
        fault(s, "cries=((((((1)+(2)+((3)", ROOM, 20);
        due(s, fine(s, "aunt a 0 0 0 0; cries=90-(80-(70-(60-(50-(40-30)))));").law(4), 90 - (80 - (70 - (60 - (50 - (40 - 30))))));
    }

    private static void twice() {
        String s = "I: TWICE: a NAME told already";
        fault(s, "aunt a 1 2 3 4; aunt a 1 2 3 4;", TWICE, 21);
        fault(s, "aunt a 1 2 3 4; aunt b 1 2 3 4; aunt  b 1 2 3 4;", TWICE, 38);
        fault(s, "aunt a 1 2 3 4; aunt aa 1 2 3 4; aunt b 1 2 3 4; aunt ab 1 2 3 4; aunt ba 1 2 3 4;", 0, NONE);
        fault(s, aunts(5) + "aunt e 1 2 3 4;", TWICE, aunts(5).length() + 5);
        fault(s, aunts(5) + "aunt a 1 2 3 4;", TWICE, aunts(5).length() + 5);
        // in this text: one of the text ahead is told anew
        BabyRound x = fine(s, "aunt a 1 2 3 4;");
        due(s, Check.tellText(x, "aunt a 5 2 3 4;"), 0);
        due(s, x.aunt(0, 5), 5);
        due(s, Check.tellText(x, "aunt b 1 2 3 4; aunt b 1 2 3 4;"), TWICE);
        due(s, Check.tellText(x, "aunt b 1 2 3 4;"), 0);
    }

    private static void wrong() {
        String s = "I: WRONG (at the INT): a number not as told above";
        fault(s, "aunt a  10  2 3 4;", WRONG, 8);
        fault(s, "aunt a 9 9 9 100;", WRONG, 13);
        fault(s, "baby 0 0 0\n0100;", WRONG, 11);
        fault(s, "fresh 99; feeds 100;", WRONG, 16);
        fault(s, "fresh 100; fresh 99;", WRONG, 6);
        // a LAW's INTs are of any height
        fault(s, "cries=9999; sleeps=100; spits=if 9999<100 then 101 else 9999;", 0, NONE);
    }

    private static final String RICH = "baby 10 20 30 40; aunt a 1 2 3 4 sits; aunt b 5 6 7 8; aunt c 9 8 7 6;"
        + "cries=hunger/4+held; wonders=show-3; winds=seen+beard; spits=wind; tires=2; sleeps=tired-80; fresh 7; feeds 8; seed 99;";

    private static BabyRound rich() {
        BabyRound x = Check.of(RICH);
        x.minutes(3);
        x.hand(1);
        x.cloth(true);
        x.minutes(4);
        x.mother(true);
        x.nurse();
        x.hand(2);
        x.lay();
        x.minutes(65);
        x.tell(0, 3);
        x.tell(7, 5);
        for (int slot = 0; slot < 3; slot++) {
            x.hold(slot);
        }
        return x;
    }

    private static void faultChangesNothing() {
        String s = "I: A text with a FAULT changes nothing but the tape";
        String other = "baby 1 1 1 1; aunt z 1 1 1 1; fresh 1; feeds 1; seed 1; hungers=9; tires=9; wonders=9; winds=9; cries=9; sleeps=1; spits=9;";
        String[] faulty = {other + "?", other + "fresh", aunts(7), other + full(), other + "aunt z 1 1 1 1;", other + "fresh 100;", "?",
            "baby 1 1 1 100;", other + "cries=(((((((1", other + "cries="};
        int[] faults = {SYNTAX, SYNTAX, ROOM, ROOM, TWICE, WRONG, SYNTAX, WRONG, ROOM, SYNTAX};
        for (int i = 0; i < faulty.length; i++) {
            BabyRound x = rich();
            String ahead = Check.all(x);
            due(s, Check.tellText(x, faulty[i]), faults[i]);
            due(s + ": the tape", x.count(7), 0);
            due(s + ": all is as ahead of " + faulty[i], Check.all(x).equals(ahead) ? 1 : 0, 1);
            due(s + ": what is done can be undone", x.undo() ? 1 : 0, 1);
            due(s + ": what is held is held", x.restore(1) ? 1 : 0, 1);
            due(s + ": it goes on from there", Check.all(x).equals(Check.all(restored())) ? 1 : 0, 1);
        }
    }

    private static BabyRound restored() {
        BabyRound x = rich();
        x.restore(1);
        return x;
    }

    private static void elseInPlaceOfTheOneAhead() {
        String s = "I: else it is in place of the one ahead";
        for (String text : List.of("", "aunt q 1 2 3 4;", "baby 1 2 3 4;", RICH, "fresh 1;", "aunt q 1 1 1 1; aunt r 2 2 2 2; tires=3; cries=rock;",
            "aunt q 1 2 3 4; spits=50;", "aunt q 1 2 3 4; seed 3; spits=50; winds=9; cries=wind;", "aunt q 1 2 3 4; aunt r 5 6 7 8; fresh 99; wonders=seen;")) {
            BabyRound x = rich();
            due(s, Check.tellText(x, text), 0);
            BabyRound y = Check.of(text);
            due(s + ": " + text, Check.all(x).equals(Check.all(y)) ? 1 : 0, 1);
            due(s + ": minute 0", x.count(1), 0);
            due(s + ": AUNT 0 has it (nobody, without AUNTS)", x.now(4), text.contains("aunt") ? 0 : -2);
            due(s + ": no cloth", x.now(8), 0);
            due(s + ": its mother not in sight", x.now(9), 0);
            due(s + ": nothing counted", x.count(2) + x.count(3) + x.count(4) + x.count(5) + x.count(6), 0);
            due(s + ": nothing can be undone", x.count(8), 0);
            due(s + ": nothing can be undone", x.undo() ? 1 : 0, 0);
            due(s + ": nothing is TOLD", x.count(9), 0);
            due(s + ": nothing is TOLD", x.fed(1, -1), NONE);
            due(s + ": SLOTS hold nothing", x.count(10), 0);
            for (int slot = 0; slot < 3; slot++) {
                due(s + ": SLOTS hold nothing", x.restore(slot) ? 1 : 0, 0);
            }
        }
    }

    private static void promise1() {
        String s = "1: Nothing is told";
        BabyRound x = new BabyRound();
        due(s, Check.all(x).equals(Check.all(Check.of(""))) ? 1 : 0, 1);
        int[] counts = {0, 0, 0, 0, 0, 0, 0, 0, 0, 0, 0, 20, 30, 0};
        for (int i = 0; i < counts.length; i++) {
            due(s + ", count(" + i + ")", x.count(i), counts[i]);
        }
        due(s, x.undo() ? 1 : 0, 0);
        due(s, x.forget(), 0);
        due(s, x.back(1), NONE);
        due(s, x.restore(0) ? 1 : 0, 0);
        due("1: NONE", BabyRound.NONE, -1);
    }

    private static void promise2Full() {
        String s = "2: NONE, and nothing comes, if it would have more than 2,000";
        for (int there = 1978; there <= 2000; there++) {
            BabyRound x = new BabyRound();
            for (int i = 0; i < 100; i++) {
                due("2: how many it has", x.feed(0x20202020, 0x20202020, 0x20202020, 0x20202020, 0x20202020), 20 * (i + 1));
            }
            due(s, x.back(2000 - there), there);
            due(s + ", with " + there, x.feed(-1, -1, -1, -1, -1), there <= 1980 ? there + 20 : NONE);
            due(s + ", with " + there, x.count(7), there <= 1980 ? there + 20 : there);
            due(s + ", with " + there, x.read(), there <= 1980 ? SYNTAX : 0);
            due(s + ", with " + there, x.place(), there <= 1980 ? there : NONE);
        }
    }

    private static void promise2HighestFirst() {
        String s = "2: Twenty bytes, the highest of a first";
        for (int at = 0; at < 20; at++) {
            int[] five = new int[5];
            Arrays.fill(five, 0x20202020);
            int shift = 24 - 8 * (at % 4);
            // 255 is the highest bit of an int, too
            five[at / 4] = five[at / 4] & ~(255 << shift) | 255 << shift;
            BabyRound x = new BabyRound();
            due(s, x.feed(five[0], five[1], five[2], five[3], five[4]), 20);
            due(s, x.read(), SYNTAX);
            due(s, x.place(), at);
        }
        BabyRound x = new BabyRound();
        x.feed(0x66726573, 0x68203132, 0x3b666565, 0x64732033, 0x343b2020);
        x.feed(0x73656564, 0x20313b20, 0x20202020, 0x62616279, 0x20312032);
        due("2: come behind the tape", x.feed(0x20332034, 0x3b202020, 0x20202020, 0x20202020, 0x20202020), 60);
        due("2: come behind the tape", x.read(), 0);
        due("2: come behind the tape", x.count(11), 12);
        due("2: come behind the tape", x.count(12), 34);
        due("2: come behind the tape", x.now(3), 4);
    }

    private static void promise3() {
        String s = "3: NONE, and nothing goes, if it has not so many, or n is below 0";
        BabyRound x = new BabyRound();
        due(s, x.back(1), NONE);
        due(s, x.back(0), 0);
        due(s, x.back(-1), NONE);
        x.feed(0x66726573, 0x6820373b, 0x3f3f3f3f, 0x20202020, 0x20202020);
        for (int n : new int[] {21, 22, -1, -20, MIN, MAX, MIN + 1}) {
            due(s + ", back(" + n + ")", x.back(n), NONE);
            due(s + ", nothing goes", x.count(7), 20);
        }
        due("3: back(0)", x.back(0), 20);
        due("3: The last n bytes go", x.back(8), 12);
        due("3: The last n bytes go", x.back(1), 11);
        due(s, x.back(12), NONE);
        due("3: The last n bytes go", x.back(3), 8);
        due("3: what is left is read", x.read(), 0);
        due("3: what is left is read", x.count(11), 7);
        x.feed(0x3f3f3f3f, 0x3f3f3f3f, 0x3f3f3f3f, 0x3f3f3f3f, 0x3f3f3f3f);
        due("3: all of it", x.back(20), 0);
        due("3: all of it", x.read(), 0);
        // what has gone is gone, though others come in its place
        x.feed(0x66726573, 0x68203b3b, 0x3b3b3b3b, 0x3b3b3b3b, 0x3b3b3b3b);
        x.back(14);
        x.feed(0x393b2020, 0x20202020, 0x20202020, 0x20202020, 0x20202020);
        due("3: and others come", x.count(7), 26);
        due("3: and others come", x.read(), 0);
        due("3: and others come", x.count(11), 9);
    }

    private static void promise4() {
        String s = "4: The tape, which is empty then, is read";
        BabyRound x = new BabyRound();
        due(s + ", empty", x.read(), 0);
        due(s, Check.tellText(x, "fresh 7;"), 0);
        due(s, x.count(7), 0);
        due(s, x.back(1), NONE);
        due(s, x.count(11), 7);
        due(s + ", empty again: a text of nothing", x.read(), 0);
        due(s, x.count(11), 20);
        due("4: or the number of its FAULT", Check.tellText(x, "fresh"), SYNTAX);
        due(s, x.count(7), 0);
        due(s, Check.tellText(x, "7;"), SYNTAX);
        due(s, x.place(), 0);
        due(s + ", full", Check.tellText(x, blank(1992) + "fresh 9;"), 0);
        due(s, x.count(7), 0);
        due(s, x.feed(0, 0, 0, 0, 0), 20);
        String t = "4: a text is read like the first one, whatever FAULT was ahead";
        for (String ahead : List.of("cries=((1-2*", "cries=1*(2+", "cries=if 1<(2*3", "cries=if 1<2 then (((", "aunt q 1", "baby 5 5", "fresh 100;",
            "aunt a 9 9 9 9; tires=5; winds=if 1<2 then 3 else 4; seed 5; ?", full() + "fresh", aunts(7))) {
            BabyRound y = new BabyRound();
            Check.tellText(y, ahead);
            due(t + ", " + ahead, Check.tellText(y, "aunt a 0 0 0 0; cries=7-2*3; tires=9/(1+2); spits=50;"), 0);
            due(t + ", " + ahead, y.law(4), 1);
            due(t + ", " + ahead, y.law(1), 3);
            due(t + ", " + ahead, y.law(3), 0);
            due(t + ", " + ahead, y.count(0), 1);
            due(t + ", " + ahead, lotsOf(y), lotsDue(0));
        }
    }

    private static void promise5() {
        String s = "5: The byte of the latest read()'s FAULT; NONE without";
        BabyRound x = new BabyRound();
        due(s + ", never read", x.place(), NONE);
        Check.tellText(x, "?");
        due(s, x.place(), 0);
        Check.put(x, "  ?");
        due(s + ", not read yet", x.place(), 0);
        due(s, x.back(0), 3);
        x.read();
        due(s, x.place(), 2);
        x.minutes(1);
        x.undo();
        due(s, x.place(), 2);
        x.read();
        due(s + ", no FAULT", x.place(), NONE);
        Check.tellText(x, "fresh 100;");
        due(s, x.place(), 6);
        Check.tellText(x, "fresh 99;");
        due(s, x.place(), NONE);
    }
}
