import java.util.ArrayList;
import java.util.HashMap;
import java.util.HashSet;
import java.util.List;
import java.util.Map;
import java.util.Set;
import java.util.function.Consumer;
import java.util.function.ToIntFunction;

/** The document told a second time, slowly and by other means: trees of laws, whole copies, all orders one by one. */
final class Oracle {
    static final class Fault extends RuntimeException {
        final int number;
        final int place;

        Fault(int number, int place) {
            super(null, null, false, false);
            this.number = number;
            this.place = place;
        }
    }

    static final class ByZero extends RuntimeException {
        ByZero() {
            super(null, null, false, false);
        }
    }

    interface Expr {
        int of(Map<String, Integer> vars);
    }

    static final class Clause {
        Expr left;
        Expr right;
        Expr value;
    }

    static final class Aunt {
        String name;
        int rock;
        int show;
        int beard;
        int silk;
        boolean sits;
    }

    static final String[] LAW_WORDS = {"hungers", "tires", "wonders", "winds", "cries", "sleeps", "spits"};
    static final Set<String> VARS = Set.of("hunger", "tired", "wonder", "wind", "held", "rock", "show", "beard", "seen");
    static final Set<String> OTHERS = Set.of("baby", "aunt", "sits", "fresh", "feeds", "seed", "if", "then", "else");

    static final class Text {
        int[] baby = {0, 0, 0, 0};
        List<Aunt> aunts = new ArrayList<>();
        Map<String, List<Clause>> laws = new HashMap<>();
        int fresh = 20;
        int feeds = 30;
        int seed = 0;
    }

    // ---- reading

    static final class Token {
        String text;
        int place;
        char kind; // w word, n name, i int, s sign, x none, e end
    }

    static boolean isWord(String s) {
        return VARS.contains(s) || OTHERS.contains(s) || List.of(LAW_WORDS).contains(s);
    }

    static List<Token> tokens(String text) {
        List<Token> all = new ArrayList<>();
        java.util.regex.Matcher m = java.util.regex.Pattern.compile("[a-z]+|[0-9]+|[^ \t\n\r]", java.util.regex.Pattern.DOTALL).matcher(text);
        while (m.find()) {
            Token t = new Token();
            t.text = m.group();
            t.place = m.start();
            char c = t.text.charAt(0);
            if (c >= 'a' && c <= 'z') {
                t.kind = t.text.length() > 8 ? 'x' : isWord(t.text) ? 'w' : 'n';
            } else if (c >= '0' && c <= '9') {
                t.kind = t.text.length() > 4 ? 'x' : 'i';
            } else {
                t.kind = ";=+-*/<()".indexOf(c) >= 0 ? 's' : 'x';
            }
            all.add(t);
        }
        Token end = new Token();
        end.text = "";
        end.place = text.length();
        end.kind = 'e';
        all.add(end);
        return all;
    }

    static final class Parser {
        final List<Token> tokens;
        int at = 0;
        final Text text = new Text();
        Fault later;
        final Set<String> names = new HashSet<>();

        Parser(String s) {
            tokens = tokens(s);
        }

        Token peek() {
            return tokens.get(at);
        }

        boolean is(String s) {
            return (peek().kind == 'w' || peek().kind == 's') && peek().text.equals(s);
        }

        Fault syntax() {
            return new Fault(1, peek().place);
        }

        void note(int number) {
            if (later == null) {
                later = new Fault(number, peek().place);
            }
        }

        Token take() {
            if (at == 400) {
                throw new Fault(2, peek().place);
            }
            return tokens.get(at++);
        }

        void expect(String s) {
            if (!is(s)) {
                throw syntax();
            }
            take();
        }

        int number(int most) {
            if (peek().kind != 'i') {
                throw syntax();
            }
            int n = Integer.parseInt(peek().text);
            if (n > most) {
                note(5);
            }
            take();
            return n;
        }

        Text parse() {
            while (peek().kind != 'e') {
                one();
            }
            if (later != null) {
                throw later;
            }
            return text;
        }

        void one() {
            if (is("baby")) {
                take();
                text.baby = new int[] {number(99), number(99), number(99), number(99)};
                expect(";");
            } else if (is("aunt")) {
                if (text.aunts.size() == 6) {
                    throw new Fault(2, peek().place);
                }
                take();
                if (peek().kind != 'n') {
                    throw syntax();
                }
                Aunt a = new Aunt();
                a.name = peek().text;
                if (!names.add(a.name)) {
                    note(3);
                }
                take();
                a.rock = number(9);
                a.show = number(9);
                a.beard = number(9);
                a.silk = number(99);
                if (is("sits")) {
                    take();
                    a.sits = true;
                }
                expect(";");
                text.aunts.add(a);
            } else if (is("fresh")) {
                take();
                text.fresh = number(99);
                expect(";");
            } else if (is("feeds")) {
                take();
                text.feeds = number(99);
                expect(";");
            } else if (is("seed")) {
                take();
                text.seed = number(9999);
                expect(";");
            } else {
                for (String w : LAW_WORDS) {
                    if (is(w)) {
                        take();
                        text.laws.put(w, law());
                        return;
                    }
                }
                throw syntax();
            }
        }

        List<Clause> law() {
            expect("=");
            List<Clause> all = new ArrayList<>();
            int ifs = 0;
            while (is("if")) {
                if (++ifs == 5) {
                    throw new Fault(2, peek().place);
                }
                take();
                Clause c = new Clause();
                c.left = sum(0);
                expect("<");
                c.right = sum(0);
                expect("then");
                c.value = sum(0);
                expect("else");
                all.add(c);
            }
            Clause last = new Clause();
            last.value = sum(0);
            expect(";");
            all.add(last);
            return all;
        }

        Expr sum(int open) {
            Expr e = part(open);
            while (is("+") || is("-")) {
                boolean plus = take().text.equals("+");
                Expr l = e;
                Expr r = part(open);
                e = v -> plus ? l.of(v) + r.of(v) : l.of(v) - r.of(v);
            }
            return e;
        }

        Expr part(int open) {
            Expr e = unit(open);
            while (is("*") || is("/")) {
                boolean times = take().text.equals("*");
                Expr l = e;
                Expr r = unit(open);
                e = v -> {
                    int a = l.of(v);
                    int b = r.of(v);
                    if (times) {
                        return a * b;
                    }
                    if (b == 0) {
                        throw new ByZero();
                    }
                    return (int) ((long) a / (long) b);
                };
            }
            return e;
        }

        Expr unit(int open) {
            if (peek().kind == 'i') {
                int n = Integer.parseInt(take().text);
                return v -> n;
            }
            if (peek().kind == 'w' && VARS.contains(peek().text)) {
                String name = take().text;
                return v -> v.get(name);
            }
            if (is("(")) {
                if (open == 6) {
                    throw new Fault(2, peek().place);
                }
                take();
                Expr e = sum(open + 1);
                expect(")");
                return e;
            }
            throw syntax();
        }
    }

    // ---- what goes on

    static final class World {
        Text text;
        int seed;
        int hunger;
        int tired;
        int wonder;
        int wind;
        int held;
        int cry;
        int asleep;
        int minute;
        int falls;
        int handed;
        boolean cloth;
        boolean seen;
        List<Integer> path = new ArrayList<>();
        int[][] tally = new int[6][7];
        int rockOf = -1;
        int rockAs = 0;
        List<Integer> fellWith = new ArrayList<>();

        World(Text text) {
            this.text = text;
            seed = text.seed;
            hunger = text.baby[0];
            tired = text.baby[1];
            wonder = text.baby[2];
            wind = text.baby[3];
            if (!text.aunts.isEmpty()) {
                path.add(0);
            }
        }

        World copy() {
            World w = new World(text);
            w.seed = seed;
            w.hunger = hunger;
            w.tired = tired;
            w.wonder = wonder;
            w.wind = wind;
            w.held = held;
            w.cry = cry;
            w.asleep = asleep;
            w.minute = minute;
            w.falls = falls;
            w.handed = handed;
            w.cloth = cloth;
            w.seen = seen;
            w.path = new ArrayList<>(path);
            for (int i = 0; i < 6; i++) {
                w.tally[i] = tally[i].clone();
            }
            w.rockOf = rockOf;
            w.rockAs = rockAs;
            w.fellWith = new ArrayList<>(fellWith);
            return w;
        }

        int back(int n) {
            return path.size() > n ? path.get(path.size() - 1 - n) : -2;
        }

        int who() {
            return back(0);
        }

        int aunts() {
            return text.aunts.size();
        }

        int law(int which) {
            Aunt a = text.aunts.get(who());
            Map<String, Integer> v = new HashMap<>();
            v.put("hunger", hunger);
            v.put("tired", tired);
            v.put("wonder", wonder);
            v.put("wind", wind);
            v.put("held", held);
            v.put("rock", who() == rockOf ? rockAs : a.rock);
            v.put("show", a.show);
            v.put("beard", a.beard);
            v.put("seen", seen ? 1 : 0);
            int told = which < 2 ? 1 : 0;
            List<Clause> law = text.laws.get(LAW_WORDS[which]);
            if (law != null) {
                try {
                    for (Clause c : law) {
                        if (c.left == null || c.left.of(v) < c.right.of(v)) {
                            told = c.value.of(v);
                            break;
                        }
                    }
                } catch (ByZero e) {
                    told = 0;
                }
            }
            if (which < 4) {
                return told < -9 ? -9 : told > 9 ? 9 : told;
            }
            int most = which == 4 ? 99 : which == 5 ? 1 : 100;
            return told < 0 ? 0 : told > most ? most : told;
        }

        static int hold(int n) {
            return n < 0 ? 0 : n > 99 ? 99 : n;
        }

        static long lot(int n, long seed, long which) {
            long h = seed;
            for (long it : new long[] {37, which}) {
                h = ((h ^ it) * 1103515245L + 12345L) & 0xffffffffL;
                h ^= h >> 15;
            }
            return (h >> 1) % n;
        }

        void minute() {
            if (aunts() > 0 && asleep > 0) {
                hunger = hold(hunger + law(0));
                tally[who()][3]++;
                asleep--;
                cry = 0;
                if (asleep == 0) {
                    tired = 0;
                    held = 0;
                }
            } else if (aunts() > 0) {
                int[] more = {law(0), law(1), law(2), law(3)};
                hunger = hold(hunger + more[0]);
                tired = hold(tired + more[1]);
                wonder = hold(wonder + more[2]);
                wind = hold(wind + more[3]);
                held++;
                cry = law(4);
                int[] t = tally[who()];
                t[0]++;
                t[1] += cry;
                if (cry == 0 && wonder >= 50) {
                    t[2]++;
                }
                if (lot(100, seed, minute) < law(6)) {
                    wind = 0;
                    t[6]++;
                    if (!cloth) {
                        t[4] += text.aunts.get(who()).silk;
                    }
                }
                if (law(5) > 0) {
                    fall();
                }
            }
            minute++;
        }

        void fall() {
            asleep = 60;
            falls++;
            fellWith.add(who());
        }

        void go(int n) {
            for (int i = 0; i < n; i++) {
                minute();
            }
        }

        void hand(int a) {
            if (a != back(1) && a != back(2)) {
                wonder = Math.min(99, wonder + text.fresh);
            }
            path.add(a);
            held = 0;
            handed++;
        }

        void nurse() {
            hunger = 0;
            wind = Math.min(99, wind + text.feeds);
        }

        void keep(int a, int m) {
            if (who() != a) {
                hand(a);
            }
            for (int i = 0; i < m; i++) {
                minute();
                while (asleep > 0) {
                    minute();
                }
            }
        }

        int sum(int what) {
            int all = 0;
            for (int[] t : tally) {
                all += t[what];
            }
            return all;
        }
    }

    final StringBuilder tape = new StringBuilder();
    int place = -1;
    Text text = new Text();
    World world = new World(text);
    List<World> undone = new ArrayList<>();
    World[] slots = new World[3];
    List<int[]> told = new ArrayList<>();

    // ---- the calls

    int feed(int a, int b, int c, int d, int e) {
        if (tape.length() > 1980) {
            return -1;
        }
        for (int w : new int[] {a, b, c, d, e}) {
            for (int i = 3; i >= 0; i--) {
                tape.append((char) (w >> 8 * i & 0xff));
            }
        }
        return tape.length();
    }

    int back(int n) {
        if (n < 0 || n > tape.length()) {
            return -1;
        }
        tape.setLength(tape.length() - n);
        return tape.length();
    }

    int read() {
        String s = tape.toString();
        tape.setLength(0);
        try {
            text = new Parser(s).parse();
        } catch (Fault f) {
            place = f.place;
            return f.number;
        }
        place = -1;
        world = new World(text);
        undone.clear();
        slots = new World[3];
        told.clear();
        return 0;
    }

    int now(int what) {
        World w = world;
        int[] all = {w.hunger, w.tired, w.wonder, w.wind, w.who(), w.held, w.cry, w.asleep,
            w.cloth ? 1 : 0, w.seen ? 1 : 0, w.back(1), w.back(2)};
        return what < 0 || what > 11 ? -1 : all[what];
    }

    boolean noAunt(int a) {
        return a < 0 || a >= world.aunts();
    }

    int aunt(int a, int what) {
        if (noAunt(a) || what < 0 || what > 6) {
            return -1;
        }
        return what == 5 ? text.aunts.get(a).rock : world.tally[a][what];
    }

    int law(int which) {
        return which < 0 || which > 6 || world.aunts() == 0 ? -10000 : world.law(which);
    }

    void doing() {
        undone.add(world.copy());
        if (undone.size() > 50) {
            undone.remove(0);
        }
    }

    int minutes(int n) {
        if (n < 0 || n > 240) {
            return -1;
        }
        if (n > 0) {
            doing();
            world.go(n);
        }
        return world.minute;
    }

    boolean hand(int a) {
        if (noAunt(a) || world.who() == a || world.asleep > 0) {
            return false;
        }
        doing();
        world.hand(a);
        return true;
    }

    boolean out() {
        return world.asleep > 0 || world.aunts() == 0;
    }

    boolean nurse() {
        if (out()) {
            return false;
        }
        doing();
        world.nurse();
        return true;
    }

    boolean lay() {
        if (out()) {
            return false;
        }
        doing();
        world.fall();
        return true;
    }

    boolean cloth(boolean on) {
        boolean was = world.cloth;
        doing();
        world.cloth = on;
        return was;
    }

    boolean mother(boolean seen) {
        boolean was = world.seen;
        doing();
        world.seen = seen;
        return was;
    }

    boolean undo() {
        if (undone.isEmpty()) {
            return false;
        }
        world = undone.remove(undone.size() - 1);
        return true;
    }

    /** All CRY from now on in what is done to a copy. */
    int would(Consumer<World> doing) {
        return would(doing, w -> w.sum(1)) - world.sum(1);
    }

    int would(Consumer<World> doing, ToIntFunction<World> asked) {
        World w = world.copy();
        doing.accept(w);
        return asked.applyAsInt(w);
    }

    /** The index of the first least of a list whose nulls are not there. */
    static int first(List<Integer> all) {
        int best = -1;
        for (int i = 0; i < all.size(); i++) {
            if (all.get(i) != null && (best < 0 || all.get(i) < all.get(best))) {
                best = i;
            }
        }
        return best;
    }

    static int pick(List<Integer> all, int what) {
        int best = first(all);
        return what == 0 ? best : all.get(best);
    }

    static boolean not(int n, int least, int most) {
        return n < least || n > most;
    }

    int crying(int n) {
        return not(n, 0, 240) ? -1 : would(w -> w.go(n));
    }

    int next(int n, int what) {
        if (not(n, 1, 120) || not(what, 0, 1)) {
            return -1;
        }
        if (world.asleep > 0 || world.aunts() < 2) {
            return -2;
        }
        List<Integer> all = new ArrayList<>();
        for (int a = 0; a < world.aunts(); a++) {
            int to = a;
            all.add(a == world.who() ? null : would(w -> {
                w.hand(to);
                w.go(n);
            }));
        }
        return pick(all, what);
    }

    List<List<Integer>> orders() {
        List<List<Integer>> all = new ArrayList<>();
        orders(new ArrayList<>(), all);
        return all;
    }

    private void orders(List<Integer> begun, List<List<Integer>> all) {
        if (begun.size() == world.aunts()) {
            all.add(new ArrayList<>(begun));
        }
        for (int a = 0; a < world.aunts(); a++) {
            if (!begun.contains(a)) {
                begun.add(a);
                orders(begun, all);
                begun.remove(begun.size() - 1);
            }
        }
    }

    World through(List<Integer> order, int m) {
        World w = world.copy();
        w.fellWith.clear();
        for (int a : order) {
            w.keep(a, m);
        }
        return w;
    }

    private List<World> throughAll(int m) {
        List<World> all = new ArrayList<>();
        for (List<Integer> o : orders()) {
            all.add(through(o, m));
        }
        return all;
    }

    private List<Integer> cryings(int m) {
        List<Integer> all = new ArrayList<>();
        for (World w : throughAll(m)) {
            all.add(w.sum(1) - world.sum(1));
        }
        return all;
    }

    int order(int m) {
        return not(m, 1, 10) ? -1 : out() ? -2 : pick(cryings(m), 1);
    }

    int orderAt(int m, int i) {
        if (not(m, 1, 10) || i < 0) {
            return -1;
        }
        if (out()) {
            return -2;
        }
        return i >= world.aunts() ? -1 : orders().get(pick(cryings(m), 0)).get(i);
    }

    int sitters(int m) {
        if (not(m, 1, 10)) {
            return -1;
        }
        if (out()) {
            return -2;
        }
        int n = 0;
        for (World w : throughAll(m)) {
            if (!w.fellWith.isEmpty() && text.aunts.get(w.fellWith.get(0)).sits) {
                n++;
            }
        }
        return n;
    }

    private List<Integer> shares(World w, int what) {
        List<Integer> all = new ArrayList<>();
        for (int a = 0; a < world.aunts(); a++) {
            all.add(w.tally[a][what] - world.tally[a][what]);
        }
        return all;
    }

    int luck(int aunt, int m) {
        if (noAunt(aunt) || not(m, 1, 10)) {
            return -1;
        }
        if (out()) {
            return -2;
        }
        int n = 0;
        for (World w : throughAll(m)) {
            if (first(shares(w, 1)) == aunt) {
                n++;
            }
        }
        return n;
    }

    int wants(int n, int what) {
        if (not(n, 1, 120) || not(what, 0, 1)) {
            return -1;
        }
        if (out()) {
            return -2;
        }
        List<Integer> all = new ArrayList<>();
        all.add(crying(n));
        all.add(would(w -> {
            w.nurse();
            w.go(n);
        }));
        all.add(would(w -> {
            w.fall();
            w.go(n);
        }));
        all.add(would(w -> {
            w.seen = !w.seen;
            w.go(n);
        }));
        for (int a = 0; a < world.aunts(); a++) {
            int to = a;
            all.add(a == world.who() ? null : would(w -> {
                w.hand(to);
                w.go(n);
            }));
        }
        return pick(all, what);
    }

    private int seenFor(int k, int n) {
        return would(w -> {
            for (int i = 0; i < n; i++) {
                w.seen = i < k;
                w.minute();
            }
        });
    }

    int moment(int n) {
        return not(n, 1, 120) ? -100000 : seenFor(1, n) - seenFor(0, n);
    }

    int beat(int aunt, int n, int what) {
        if (noAunt(aunt) || not(n, 1, 120) || not(what, 0, 1)) {
            return -1;
        }
        if (world.asleep > 0) {
            return -2;
        }
        List<Integer> all = new ArrayList<>();
        for (int rock = 0; rock < 10; rock++) {
            int as = rock;
            all.add(would(w -> {
                w.rockOf = aunt;
                w.rockAs = as;
                if (w.who() != aunt) {
                    w.hand(aunt);
                }
                w.go(n);
            }));
        }
        return pick(all, what);
    }

    World byRule(int rule, int m, int n) {
        World w = world.copy();
        for (int i = 0; i < n; i++) {
            if (w.asleep == 0) {
                int following = (w.who() + 1) % w.aunts();
                boolean due = rule == 1 ? w.cry >= m : rule != 3 && w.held >= m;
                List<Integer> had = new ArrayList<>();
                for (int a = 0; a < w.aunts(); a++) {
                    had.add(a == w.who() ? null : w.tally[a][0]);
                }
                int to = rule == 2 ? first(had) : following;
                if (due && w.aunts() > 1) {
                    w.hand(to);
                }
            }
            w.minute();
        }
        return w;
    }

    int round(int rule, int m, int n, int what) {
        if (not(rule, 0, 3) || not(m, 1, 20) || not(n, 1, 240) || not(what, 0, 2) || world.aunts() == 0) {
            return -1;
        }
        World w = byRule(rule, m, n);
        return what == 2 ? w.who() : w.sum(what + 1) - world.sum(what + 1);
    }

    int fairest(int m, int what) {
        if (not(m, 1, 10) || not(what, 0, 1)) {
            return -1;
        }
        if (out()) {
            return -2;
        }
        List<Integer> apart = new ArrayList<>();
        for (World w : throughAll(m)) {
            List<Integer> laughs = shares(w, 2);
            apart.add(java.util.Collections.max(laughs) - java.util.Collections.min(laughs));
        }
        return what == 0 ? pick(apart, 1) : orders().get(pick(apart, 0)).get(0);
    }

    int leftOut(int m, int what) {
        if (not(m, 1, 10) || not(what, 0, 1)) {
            return -1;
        }
        if (out()) {
            return -2;
        }
        List<Integer> all = new ArrayList<>();
        for (int a = 0; a < world.aunts(); a++) {
            List<Integer> others = new ArrayList<>();
            for (int b = 0; b < world.aunts(); b++) {
                if (b != a) {
                    others.add(b);
                }
            }
            all.add(through(others, m).sum(1) - world.sum(1));
        }
        return pick(all, what);
    }

    int bestRound(int n, int what) {
        if (not(n, 1, 120) || not(what, 0, 1) || world.aunts() == 0) {
            return -1;
        }
        List<Integer> all = new ArrayList<>();
        for (int i = 0; i < 80; i++) {
            all.add(byRule(i / 20, i % 20 + 1, n).sum(1) - world.sum(1));
        }
        int best = pick(all, 0);
        return what == 1 ? all.get(best) : best / 20 * 100 + best % 20 + 1;
    }

    int feedAt(int n, int what) {
        if (not(n, 1, 60) || not(what, 0, 1)) {
            return -1;
        }
        if (out()) {
            return -2;
        }
        List<Integer> all = new ArrayList<>();
        for (int k = 0; k < n; k++) {
            World w = world.copy();
            w.go(k);
            if (w.asleep > 0) {
                all.add(null);
            } else {
                w.nurse();
                w.go(n - k);
                all.add(w.sum(1) - world.sum(1));
            }
        }
        return pick(all, what);
    }

    int inSight(int n, int what) {
        if (not(n, 1, 60) || not(what, 0, 1)) {
            return -1;
        }
        List<Integer> all = new ArrayList<>();
        for (int k = 0; k <= n; k++) {
            all.add(seenFor(k, n));
        }
        return pick(all, what);
    }

    int peak(int n, int what) {
        if (not(n, 1, 240) || not(what, 0, 1)) {
            return -1;
        }
        List<Integer> less = new ArrayList<>();
        World w = world.copy();
        for (int i = 0; i < n; i++) {
            w.minute();
            less.add(-w.cry);
        }
        return what == 0 ? -pick(less, 1) : pick(less, 0);
    }

    int merry() {
        for (int k = 1; k <= 240; k++) {
            int n = k;
            if (would(w -> w.go(n), w -> w.sum(2)) > world.sum(2)) {
                return k;
            }
        }
        return -2;
    }

    private int laughsIn(int set, int aunt, int m) {
        World w = world.copy();
        for (int i = 0; i < w.aunts(); i++) {
            int a = (world.who() + i) % w.aunts();
            w.keep(a, (set & 1 << a) != 0 ? 2 * m : m);
        }
        return w.tally[aunt][2] - world.tally[aunt][2];
    }

    int rests(int m, int i) {
        if (not(m, 1, 10) || i < -1) {
            return -1;
        }
        if (out()) {
            return -2;
        }
        List<Integer> all = new ArrayList<>();
        for (int set = 0; set < 1 << world.aunts(); set++) {
            boolean rest = true;
            for (int a = 0; a < world.aunts(); a++) {
                rest &= laughsIn(set ^ 1 << a, a, m) <= laughsIn(set, a, m);
            }
            if (rest) {
                all.add(set);
            }
        }
        return i == -1 ? all.size() : i < all.size() ? all.get(i) : -1;
    }

    int silk(int n, int s) {
        if (not(n, 0, 120) || not(s, 1, 20)) {
            return -1;
        }
        int all = 0;
        for (int i = 0; i < s; i++) {
            int more = i;
            all += would(w -> {
                w.seed = text.seed + more;
                w.go(n);
            }, w -> w.sum(4)) - world.sum(4);
        }
        return all;
    }

    int likes(int aunt, boolean below) {
        if (noAunt(aunt)) {
            return -1;
        }
        int had = world.tally[aunt][0];
        int cry = world.tally[aunt][1];
        if (had == 0) {
            return -2;
        }
        int g = java.math.BigInteger.valueOf(had).gcd(java.math.BigInteger.valueOf(cry)).intValue();
        return (below ? had : cry) / g;
    }

    int sleeps() {
        for (int k = 0; k <= 240; k++) {
            int n = k;
            if (would(w -> w.go(n), w -> w.asleep) > 0) {
                return k;
            }
        }
        return -2;
    }

    int tell(int minute, int cry) {
        if (told.size() == 20 || not(minute, 0, 59) || not(cry, 0, 99)) {
            return -1;
        }
        told.add(new int[] {minute, cry});
        return told.size() - 1;
    }

    int forget() {
        int n = told.size();
        told.clear();
        return n;
    }

    int fed(int k, int i) {
        if (k < 0 || k > told.size() || i < -1) {
            return -1;
        }
        List<Integer> all = new ArrayList<>();
        for (int hunger = 0; hunger < 100; hunger++) {
            World w = new World(text);
            w.hunger = hunger;
            int[] cries = new int[60];
            for (int t = 0; t < 60; t++) {
                w.minute();
                cries[t] = w.cry;
            }
            boolean so = true;
            for (int[] one : told.subList(0, k)) {
                so &= cries[one[0]] == one[1];
            }
            if (so) {
                all.add(hunger);
            }
        }
        return i == -1 ? all.size() : i < all.size() ? all.get(i) : -1;
    }

    boolean hold(int slot) {
        if (not(slot, 0, 2)) {
            return false;
        }
        slots[slot] = world.copy();
        return true;
    }

    boolean restore(int slot) {
        if (not(slot, 0, 2) || slots[slot] == null) {
            return false;
        }
        world = slots[slot].copy();
        undone.clear();
        return true;
    }

    int count(int what) {
        int had = 0;
        for (int a : world.path) {
            had |= 1 << a;
        }
        int held = 0;
        for (World w : slots) {
            held += w == null ? 0 : 1;
        }
        int[] all = {world.aunts(), world.minute, world.sum(1), world.sum(2), world.sum(4), world.falls, world.handed,
            tape.length(), undone.size(), told.size(), held, text.fresh, text.feeds, had};
        return not(what, 0, 13) ? -1 : all[what];
    }
}
