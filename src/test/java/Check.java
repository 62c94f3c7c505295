import java.nio.charset.StandardCharsets;

/** What the tests share: counting wrong answers, and telling an object a text. */
final class Check {
    private int wrong = 0;
    private int asked = 0;
    private final String name;

    Check(String name) {
        this.name = name;
    }

    void due(String call, long got, long want) {
        asked++;
        if (got != want) {
            wrong++;
            if (wrong <= 40) {
                String end = call.length() > 200 ? call.substring(0, 40) + " .. " + call.substring(call.length() - 100) : call;
                System.out.println(name + ": " + end + " answered " + got + ", due is " + want);
            }
        }
    }

    void due(String call, boolean got, boolean want) {
        due(call, got ? 1 : 0, want ? 1 : 0);
    }

    void end() {
        System.out.println(name + ": " + asked + " answers, " + wrong + " wrong");
        if (wrong != 0) {
            System.exit(1);
        }
    }

    boolean isWrong() {
        return wrong != 0;
    }

    /** Puts a text on the tape (its characters as bytes), the last twenty cut by back(). */
    static void put(BabyRound x, String text) {
        byte[] bytes = text.getBytes(StandardCharsets.ISO_8859_1);
        for (int i = 0; i < bytes.length; i += 20) {
            int[] five = new int[5];
            for (int j = 0; j < 20; j++) {
                int b = i + j < bytes.length ? bytes[i + j] & 255 : ' ';
                five[j / 4] = five[j / 4] << 8 | b;
            }
            x.feed(five[0], five[1], five[2], five[3], five[4]);
        }
        x.back((20 - bytes.length % 20) % 20);
    }

    static int tellText(BabyRound x, String text) {
        put(x, text);
        return x.read();
    }

    /** LOT of the document, in longs. */
    static int lot(int n, long seed, long which) {
        long h = seed;
        for (long it : new long[] {37, which}) {
            h = (((h ^ it) & 0xffffffffL) * 1103515245L + 12345L) & 0xffffffffL;
            h = h ^ (h >> 15);
        }
        return (int) ((h >> 1) % n);
    }

    /** All that an object answers of how it stands (not of its tape), in fewer than a hundred calls. */
    static String all(BabyRound x) {
        StringBuilder all = new StringBuilder();
        for (int what = 0; what <= 12; what++) {
            all.append(x.now(what)).append(' ');
        }
        for (int aunt = 0; aunt < x.count(0); aunt++) {
            for (int what = 0; what <= 7; what++) {
                all.append(x.aunt(aunt, what)).append(' ');
            }
        }
        for (int which = 0; which <= 6; which++) {
            all.append(x.law(which)).append(' ');
        }
        for (int what = 0; what <= 13; what++) {
            all.append(what == 7 ? 0 : x.count(what)).append(' ');
        }
        all.append(x.crying(240)).append(' ').append(x.silk(120, 2)).append(' ').append(x.next(20, 1)).append(' ');
        all.append(x.round(0, 3, 30, 0)).append(' ').append(x.fed(x.count(9), 0)).append(' ').append(x.merry());
        return all.toString();
    }

    /** A new object that has read a text, which has no fault. */
    static BabyRound of(String text) {
        BabyRound x = new BabyRound();
        int fault = tellText(x, text);
        if (fault != 0) {
            throw new IllegalStateException("fault " + fault + " at " + x.place() + " of " + text);
        }
        return x;
    }
}
