import java.util.Random;

/** Runs of calls by lot (always the same ones), answered by BabyRound and by the Oracle. */
final class OracleTest {
    private static final String[] VARS = {"hunger", "tired", "wonder", "wind", "held", "rock", "show", "beard", "seen"};
    private static final String[] NAMES = {"ada", "berta", "cleo", "dora", "a", "zwieback", "hung", "babys"};
    private static final int[] EDGES = {Integer.MIN_VALUE, -2, -1, 0, 1, 2, 9, 10, 11, 20, 21, 59, 60, 61, 119, 120, 121,
        239, 240, 241, Integer.MAX_VALUE};

    private final Random lot;
    private final Check check;
    private BabyRound x;
    private Oracle y;
    private final StringBuilder story = new StringBuilder();

    private OracleTest(long seed, Check check) {
        lot = new Random(seed);
        this.check = check;
    }

    public static void main(String[] args) {
        int runs = args.length > 0 ? Integer.parseInt(args[0]) : 200;
        int from = args.length > 1 ? Integer.parseInt(args[1]) : 0;
        Check check = new Check("OracleTest");
        for (int run = from; run < from + runs && !check.isWrong(); run++) {
            OracleTest one = new OracleTest(run, check);
            one.run();
            if (check.isWrong()) {
                System.out.println("run " + run + ":\n" + one.story);
            }
        }
        check.end();
    }

    private int n(int most) {
        return lot.nextInt(most);
    }

    private boolean one(int of) {
        return n(of) == 0;
    }

    // ---- texts

    private String blank() {
        return one(12) ? " \n" : " ";
    }

    private String unit(int open) {
        if (open < 7 && one(6)) {
            return "(" + expr(open + 1) + ")";
        }
        return one(2) ? "" + (one(5) ? n(10000) : n(12)) : VARS[n(VARS.length)];
    }

    private String expr(int open) {
        StringBuilder s = new StringBuilder(unit(open));
        for (int i = n(4); i > 0; i--) {
            s.append(one(3) ? " " : "").append("+-*/".charAt(n(4))).append(unit(open));
        }
        return s.toString();
    }

    private String ifs(String last) {
        StringBuilder s = new StringBuilder();
        for (int i = one(3) ? n(5) : 0; i > 0; i--) {
            s.append("if ").append(expr(0)).append(" < ").append(one(2) ? "" + n(60) : expr(0))
                .append(" then ").append(one(2) ? "0" : expr(0)).append(" else ");
        }
        return s + last;
    }

    private String law(String word) {
        switch (word) {
            case "cries":
                switch (n(6)) {
                    case 0: return ifs(expr(0));
                    case 1: return "hunger/" + (1 + n(5)) + "+wind/3-rock-seen*" + n(6);
                    case 2: return "if held < " + (1 + n(9)) + " then 0 else held*" + n(4) + "+beard-show";
                    case 3: return "(hunger-rock*" + n(12) + ")*(3-seen)";
                    case 4: return "if wonder < 50 then tired/4+" + n(4) + " else hunger/9-show";
                    default: return "beard*held/(1+rock)+wind/9";
                }
            case "sleeps":
                switch (n(5)) {
                    case 0: return ifs(expr(0));
                    case 1: return "tired-" + (10 + n(80));
                    case 2: return "if rock*held<" + (5 + n(40)) + " then 0 else 1";
                    default: return "0";
                }
            case "spits":
                return one(2) ? "wind" : one(2) ? "" + n(120) : ifs(expr(0));
            default:
                switch (n(4)) {
                    case 0: return ifs(expr(0));
                    case 1: return "" + n(4);
                    case 2: return "show/3-" + n(3);
                    default: return "if " + VARS[n(9)] + "<" + n(60) + " then " + n(3) + " else " + "0-" + n(9);
                }
        }
    }

    private String text() {
        StringBuilder s = new StringBuilder();
        int aunts = one(12) ? 0 : one(5) ? 5 + n(2) : 1 + n(4);
        if (!one(4)) {
            s.append("baby ").append(n(100)).append(" ").append(n(100)).append(" ").append(n(100)).append(" ").append(n(100)).append(";");
        }
        int shift = n(8);
        for (int i = 0; i < aunts; i++) {
            s.append(blank()).append("aunt ").append(NAMES[(i + shift) % 8]).append(" ").append(n(10)).append(" ").append(n(10))
                .append(" ").append(n(10)).append(" ").append(n(100)).append(one(2) ? " sits;" : ";");
        }
        for (String word : Oracle.LAW_WORDS) {
            for (int i = one(12) ? 2 : one(4) ? 0 : 1; i > 0; i--) {
                s.append(blank()).append(word).append(one(3) ? " = " : "=").append(law(word)).append(";");
            }
        }
        if (one(2)) {
            s.append("fresh ").append(n(one(8) ? 130 : 100)).append(";");
        }
        if (one(2)) {
            s.append("feeds ").append(n(100)).append(";");
        }
        if (one(2)) {
            s.append("seed ").append(n(10000)).append(";");
        }
        return s.toString();
    }

    private String spoilt(String text) {
        String[] bits = {"aunt ada 1 2 3 4;", "aunt x 10 2 3 4;", "baby 1 2 3 100;", ";", "(", ")", "if 1<2 then 3 else ", "sits",
            "12345", "abcdefghi", "abcdefgh", "\u00e9", "\u0000", "<", "+", "tired", "9999", "100", " ", "\t", "else", "fresh 100;",
            "cries=" + "1+".repeat(150) + "1;", "cries=((((((1))))));", "cries=(((((((1)))))));", "A", "seed 9999;", "0000", "=", "*"};
        StringBuilder s = new StringBuilder(text);
        for (int i = 1 + n(2); i > 0; i--) {
            int at = n(s.length() + 1);
            if (one(3) && s.length() > 0) {
                s.deleteCharAt(Math.min(at, s.length() - 1));
            } else if (one(8)) {
                s.setLength(at);
            } else {
                if (one(2)) {
                    int end = s.indexOf(";", at);
                    at = end < 0 ? at : end + 1;
                }
                s.insert(at, bits[n(bits.length)]);
            }
        }
        return s.length() > 2000 ? s.substring(0, 2000) : s.toString();
    }

    private void say(String call, long got, long want) {
        story.append(call).append(" -> ").append(got).append(got == want ? "" : "   due " + want).append("\n");
        check.due(call, got, want);
    }

    private void say(String call, boolean got, boolean want) {
        say(call, got ? 1 : 0, want ? 1 : 0);
    }

    private void tell(String text) {
        story.append("text: ").append(text).append("\n");
        for (int i = 0; i < text.length(); i += 20) {
            int[] five = new int[5];
            for (int j = 0; j < 20; j++) {
                five[j / 4] = five[j / 4] << 8 | (i + j < text.length() ? text.charAt(i + j) & 255 : 32);
            }
            say("feed", x.feed(five[0], five[1], five[2], five[3], five[4]), y.feed(five[0], five[1], five[2], five[3], five[4]));
        }
        int over = (20 - text.length() % 20) % 20;
        say("back(" + over + ")", x.back(over), y.back(over));
        say("read", x.read(), y.read());
        say("place", x.place(), y.place);
    }

    // ---- runs

    private void run() {
        x = new BabyRound();
        y = new Oracle();
        if (!one(20)) {
            String text = text();
            tell(one(3) ? spoilt(text) : text);
        }
        for (int i = 0; i < 120; i++) {
            if (one(60)) {
                String text = text();
                tell(one(2) ? spoilt(text) : text);
            }
            step();
            look();
            if (check.isWrong()) {
                return;
            }
        }
    }

    private int arg(int most) {
        return one(12) ? EDGES[n(EDGES.length)] : n(most);
    }

    /** m for what goes through all orders: little with many aunts, for the Oracle is slow. */
    private int kept() {
        int m = arg(12);
        return y.world.aunts() > 4 && m > 2 && m <= 10 ? 1 + n(2) : m;
    }

    private void look() {
        int what = n(14);
        say("count(" + what + ")", x.count(what), y.count(what));
        what = n(12);
        say("now(" + what + ")", x.now(what), y.now(what));
        int a = n(6);
        what = n(7);
        say("aunt(" + a + "," + what + ")", x.aunt(a, what), y.aunt(a, what));
        what = n(7);
        say("law(" + what + ")", x.law(what), y.law(what));
    }

    private void step() {
        if (one(2)) {
            change();
            return;
        }
        int a = arg(6);
        int m = kept();
        int k = arg(2);
        int i = arg(7) - 1;
        int few = arg(one(3) ? 62 : 12);
        int many = one(3) ? arg(122) : few;
        boolean b = one(2);
        switch (n(30)) {
            case 0: say("crying(" + many + ")", x.crying(many), y.crying(many)); break;
            case 1: say("next(" + many + "," + k + ")", x.next(many, k), y.next(many, k)); break;
            case 2: say("order(" + m + ")", x.order(m), y.order(m)); break;
            case 3: say("orderAt(" + m + "," + i + ")", x.orderAt(m, i), y.orderAt(m, i)); break;
            case 4: say("sitters(" + m + ")", x.sitters(m), y.sitters(m)); break;
            case 5: say("luck(" + a + "," + m + ")", x.luck(a, m), y.luck(a, m)); break;
            case 6: say("wants(" + many + "," + k + ")", x.wants(many, k), y.wants(many, k)); break;
            case 7: say("moment(" + many + ")", x.moment(many), y.moment(many)); break;
            case 8: say("beat(" + a + "," + many + "," + k + ")", x.beat(a, many, k), y.beat(a, many, k)); break;
            case 9: case 10: case 11:
                int rule = arg(4);
                int what = arg(3);
                int every = arg(one(3) ? 21 : 6);
                say("round(" + rule + "," + every + "," + many + "," + what + ")", x.round(rule, every, many, what),
                    y.round(rule, every, many, what));
                break;
            case 12: say("fairest(" + m + "," + k + ")", x.fairest(m, k), y.fairest(m, k)); break;
            case 13: say("leftOut(" + m + "," + k + ")", x.leftOut(m, k), y.leftOut(m, k)); break;
            case 14: say("bestRound(" + few + "," + k + ")", x.bestRound(few, k), y.bestRound(few, k)); break;
            case 15: say("feedAt(" + few + "," + k + ")", x.feedAt(few, k), y.feedAt(few, k)); break;
            case 16: say("inSight(" + few + "," + k + ")", x.inSight(few, k), y.inSight(few, k)); break;
            case 17: say("peak(" + many + "," + k + ")", x.peak(many, k), y.peak(many, k)); break;
            case 18: say("merry", x.merry(), y.merry()); break;
            case 19: say("rests(" + m + "," + i + ")", x.rests(m, i), y.rests(m, i)); break;
            case 20: say("silk(" + many + "," + few + ")", x.silk(many, few), y.silk(many, few)); break;
            case 21: say("likes(" + a + "," + b + ")", x.likes(a, b), y.likes(a, b)); break;
            case 22: say("sleeps", x.sleeps(), y.sleeps()); break;
            case 23: case 24: {
                int minute = arg(60);
                int cry = one(3) ? arg(100) : y.text.aunts.isEmpty() ? 0 : cryOf(minute);
                say("tell(" + minute + "," + cry + ")", x.tell(minute, cry), y.tell(minute, cry));
                break;
            }
            case 25: if (one(4)) { say("forget", x.forget(), y.forget()); } break;
            case 26: case 27: {
                int known = one(3) ? arg(21) : n(y.told.size() + 1);
                say("fed(" + known + "," + i + ")", x.fed(known, i), y.fed(known, i));
                break;
            }
            case 28: sameOrders(); break;
            default: {
                int asked = arg(15);
                say("count(" + asked + ")", x.count(asked), y.count(asked));
                say("now(" + asked + ")", x.now(asked), y.now(asked));
                say("law(" + asked + ")", x.law(asked), y.law(asked));
                say("aunt(" + a + "," + asked + ")", x.aunt(a, asked), y.aunt(a, asked));
            }
        }
    }

    /** The calls that go through the same orders, one behind the other, with a change between or not. */
    private void sameOrders() {
        int m = 1 + n(2);
        for (int i = 0; i < 3; i++) {
            say("order(" + m + ")", x.order(m), y.order(m));
            say("orderAt(" + m + "," + i + ")", x.orderAt(m, i), y.orderAt(m, i));
            say("sitters(" + m + ")", x.sitters(m), y.sitters(m));
            say("luck(" + i + "," + m + ")", x.luck(i, m), y.luck(i, m));
            say("fairest(" + m + ",0)", x.fairest(m, 0), y.fairest(m, 0));
            say("fairest(" + m + ",1)", x.fairest(m, 1), y.fairest(m, 1));
            if (one(2)) {
                change();
            }
        }
    }

    /** What it cries in a minute with a hunger by lot, so that FED has answers. */
    private int cryOf(int minute) {
        Oracle.World w = new Oracle.World(y.text);
        w.hunger = y.text.baby[0];
        w.go(Math.max(0, Math.min(60, minute + 1)));
        return w.cry;
    }

    private void change() {
        switch (n(12)) {
            case 0: case 1: case 2: case 3: {
                int n = one(6) ? arg(242) : n(8);
                say("minutes(" + n + ")", x.minutes(n), y.minutes(n));
                break;
            }
            case 4: case 5: {
                int a = arg(6);
                say("hand(" + a + ")", x.hand(a), y.hand(a));
                break;
            }
            case 6: say("nurse", x.nurse(), y.nurse()); break;
            case 7: if (one(3)) { say("lay", x.lay(), y.lay()); } break;
            case 8: {
                boolean on = one(2);
                say("cloth(" + on + ")", x.cloth(on), y.cloth(on));
                break;
            }
            case 9: {
                boolean seen = one(2);
                say("mother(" + seen + ")", x.mother(seen), y.mother(seen));
                break;
            }
            case 10: {
                for (int i = one(10) ? 60 : 1 + n(2); i > 0; i--) {
                    say("undo", x.undo(), y.undo());
                }
                break;
            }
            default: {
                int slot = one(6) ? arg(4) : n(3);
                if (one(2)) {
                    say("hold(" + slot + ")", x.hold(slot), y.hold(slot));
                } else {
                    say("restore(" + slot + ")", x.restore(slot), y.restore(slot));
                }
            }
        }
    }
}
