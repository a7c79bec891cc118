import java.util.NoSuchElementException;
import java.util.Random;

/** Runs of calls from fixed seeds, on the class and on PlainTurner: all answers must be the same. */
public final class SameAsPlainTest {
    private static final int RUNS = 1500;
    private static final int ACTS = 110;
    private static final String[] RULES = {
        "*>$1", "#>%1", "#>%2", "*>%1", "*#>$1%1", "?*>$2$1", "??>$2$1", "*>!1", "*>^1", "*>$1$1", "a*>b$1", "*a*>$2a$1",
        "?#>%1%1", "?#*>^1%1$3", "*?>$2$1", "*.#>$2.$1", "#*>$2$1", "a#>a%1", "?*>$2", "*b>$1", "?*?>$3$2$1", "?#>a$2",
        "?>%1", "**>$2", "##*>$2$1$3", "*>x", "?*>A$2", "?*>!2^1", "#?*>$1%1", "a>b", "b>a", "*>$1%1", "?*>%2$2",
    };

    private static final String BEHIND = "1$1>x%2^1!1*#?ab>$1%1.-_Zz12>a$1>x%2";

    private final Random random;
    private final NameTurner x = new NameTurner();
    private final PlainTurner y = new PlainTurner();
    private final StringBuilder told = new StringBuilder();
    private final int run;
    private int wrong = 0;
    private static long[] seen = new long[16];

    private SameAsPlainTest(int run) {
        this.run = run;
        random = new Random(run);
    }

    public static void main(String[] args) {
        int wrong = 0;
        for (int run = 0; run < RUNS && wrong == 0; run++) {
            SameAsPlainTest test = new SameAsPlainTest(run);
            test.go();
            wrong += test.wrong;
        }
        System.out.println("SameAsPlainTest: " + RUNS + " runs, " + wrong + " not the same; plans " + seen[0]
                + ", with trouble 1 " + seen[1] + ", 2 " + seen[2] + ", 3 " + seen[3] + ", with spare names " + seen[4]
                + ", stuck 1 " + seen[5] + ", 2 " + seen[6] + ", 3 " + seen[7]);
        for (int i = 0; i < 8; i++) {
            if (seen[i] == 0) {
                System.out.println("nothing of kind " + i + " was seen");
                wrong++;
            }
        }
        if (wrong != 0) {
            System.exit(1);
        }
    }

    private int same(String call, int got, int want) {
        told.append(call).append(" = ").append(want).append('\n');
        if (got != want) {
            if (wrong == 0) {
                System.out.println("run " + run + ":\n" + told + "but it answered " + got);
            }
            wrong++;
        }
        return want;
    }

    private void go() {
        if (random.nextInt(2) == 0) {
            same("folds(true)", x.folds(true) ? 1 : 0, y.folds(true) ? 1 : 0);
        }
        int first = run % 20 == 0 ? 60 : random.nextInt(12);
        for (int i = 0; i < first; i++) {
            file(folder());
        }
        for (int i = 0; i < ACTS && wrong == 0; i++) {
            act(random.nextInt(100));
            counts();
        }
        lookAround();
        farNumbers();
        lookAround();
    }

    private void act(int which) {
        if (which < 14) {
            file(folder());
        } else if (which < 17) {
            int file = number(12);
            same("remove(" + file + ")", x.remove(file) ? 1 : 0, y.remove(file) ? 1 : 0);
        } else if (which < 23) {
            text(name());
            int file = number(12);
            int folder = folder();
            same("hand(" + file + ", " + folder + ")", x.hand(file, folder), y.hand(file, folder));
        } else if (which < 26) {
            text(name());
            int folder = folder();
            same("at(" + folder + ")", x.at(folder), y.at(folder));
        } else if (which < 38) {
            text(random.nextInt(8) == 0 ? noise() : RULES[random.nextInt(RULES.length)]);
            same("rule()", x.rule(), y.rule());
            same("place()", x.place(), y.place());
        } else if (which < 42) {
            fits();
        } else if (which < 60) {
            plan();
        } else if (which < 78) {
            int n = random.nextInt(5) - (random.nextInt(20) == 0 ? 9 : 0);
            same("go(" + n + ")", x.go(n), y.go(n));
            stuck();
        } else if (which < 86) {
            int n = random.nextInt(5) - (random.nextInt(20) == 0 ? 9 : 0);
            same("back(" + n + ")", x.back(n), y.back(n));
            stuck();
        } else if (which < 92) {
            text(name());
            int folder = folder();
            same("link(" + folder + ")", x.link(folder), y.link(folder));
        } else if (which < 94) {
            boolean is = random.nextBoolean();
            same("folds(" + is + ")", x.folds(is) ? 1 : 0, y.folds(is) ? 1 : 0);
        } else if (which < 96) {
            int n = random.nextInt(100) - 10;
            same("end(" + n + ")", x.end(n), y.end(n));
        } else {
            lookAround();
        }
    }

    private void stuck() {
        int by = same("stuck()", x.stuck(), y.stuck());
        if (by > 0) {
            seen[4 + by]++;
        }
    }

    private int number(int below) {
        return random.nextInt(below + 2) - 1;
    }

    private int folder() {
        return random.nextInt(25) == 0 ? random.nextInt(20) - 7 : random.nextInt(10) < 7 ? 0 : random.nextInt(3);
    }

    private String name() {
        if (random.nextInt(25) == 0) {
            return noise();
        }
        String signs = random.nextInt(3) == 0 ? "123" : "ab1A2B.";
        StringBuilder s = new StringBuilder();
        int length = random.nextInt(12) == 0 ? 1 + random.nextInt(12) : 1 + random.nextInt(3);
        for (int i = 0; i < length; i++) {
            s.append(signs.charAt(random.nextInt(signs.length())));
        }
        return s.toString();
    }

    /** A text that looks like a rule with something wrong, most times. */
    private String noise() {
        String signs = "?*#ab1>>$1$2^1!3%1%2$~ .-_Zz";
        StringBuilder s = new StringBuilder();
        int length = random.nextInt(30);
        for (int i = 0; i < length; i++) {
            s.append(random.nextInt(30) == 0 ? (char) random.nextInt(256) : signs.charAt(random.nextInt(signs.length())));
        }
        return s.toString();
    }

    private void text(String text) {
        same("end(0)", x.end(0), y.end(0));
        // Bytes that are cut off must not be read, so they are such as a rule could go on with.
        String behind = text + BEHIND.substring(random.nextInt(BEHIND.length() - 20));
        for (int at = 0; at < text.length(); at += 20) {
            int[] n = new int[5];
            for (int i = 0; i < 5; i++) {
                n[i] = Calls.number(behind, at + 4 * i);
            }
            same("feed " + text, x.feed(n[0], n[1], n[2], n[3], n[4]), y.feed(n));
        }
        same("end(" + text.length() + ")", x.end(text.length()), y.end(text.length()));
    }

    private void file(int folder) {
        text(name());
        same("file(" + folder + ")", x.file(folder), y.file(folder));
    }

    private void fits() {
        for (int file = -1; file < 12; file++) {
            for (int what = -1; what < 44; what++) {
                same("fits(" + file + ", " + what + ")", x.fits(file, what), y.fits(file, what));
            }
        }
    }

    private void plan() {
        boolean odd = random.nextInt(20) == 0;
        int from = folder();
        int to = random.nextInt(3) == 0 ? folder() : from;
        int start = odd ? random.nextInt(1100) - 50 : random.nextInt(4);
        int step = odd ? random.nextInt(110) - 5 : 1 + random.nextInt(2);
        boolean byNames = random.nextBoolean();
        int size = same("plan(" + from + ", " + to + ", " + start + ", " + step + ", " + byNames + ")",
                x.plan(from, to, start, step, byNames), y.plan(from, to, start, step, byNames));
        if (size > 0) {
            seen[0]++;
        }
        lookAtPlan();
    }

    private void lookAtPlan() {
        int size = Math.max(0, y.count(4));
        for (int k = -1; k <= size; k++) {
            for (int what = -1; what < 8; what++) {
                int got = same("planned(" + k + ", " + what + ")", x.planned(k, what), y.planned(k, what));
                if (what == 1 && got > 0) {
                    seen[got]++;
                }
            }
            for (int i = -1; i < 14; i++) {
                same("newName(" + k + ", " + i + ")", x.newName(k, i), y.newName(k, i));
            }
        }
        int steps = same("steps()", x.steps(), y.steps());
        for (int i = -1; i <= steps + 1; i++) {
            for (int what = -1; what < 4; what++) {
                int got = same("step(" + i + ", " + what + ")", x.step(i, what), y.step(i, what));
                if (what == 1 && got == 1) {
                    seen[4]++;
                }
            }
        }
    }

    private void counts() {
        for (int what = -1; what < 11; what++) {
            same("count(" + what + ")", x.count(what), y.count(what));
        }
    }

    private void lookAround() {
        lookAtPlan();
        for (int link = -1; link < 31; link++) {
            for (int what = -1; what < 24; what++) {
                same("linkOf(" + link + ", " + what + ")", x.linkOf(link, what), y.linkOf(link, what));
            }
        }
        for (int file = -1; file < 41; file++) {
            for (int what = -1; what < 24; what++) {
                same("of(" + file + ", " + what + ")", ofClass(file, what), ofPlain(file, what));
            }
        }
    }

    /** Numbers far off every bound: nothing but the document's exception may come out of a call. */
    private void farNumbers() {
        int[] far = {Integer.MIN_VALUE, Integer.MIN_VALUE + 9, -3, 40, 81, Integer.MAX_VALUE - 9, Integer.MAX_VALUE};
        for (int m : far) {
            for (int n : far) {
                same("fits(" + m + ", " + n + ")", x.fits(m, n), y.fits(m, n));
                same("fits(0, " + n + ")", x.fits(0, n), y.fits(0, n));
                same("planned(" + m + ", " + n + ")", x.planned(m, n), y.planned(m, n));
                same("planned(0, " + n + ")", x.planned(0, n), y.planned(0, n));
                same("newName(" + m + ", " + n + ")", x.newName(m, n), y.newName(m, n));
                same("newName(0, " + n + ")", x.newName(0, n), y.newName(0, n));
                same("step(" + m + ", " + n + ")", x.step(m, n), y.step(m, n));
                same("linkOf(" + m + ", " + n + ")", x.linkOf(m, n), y.linkOf(m, n));
                same("linkOf(0, " + n + ")", x.linkOf(0, n), y.linkOf(0, n));
                same("of(" + m + ", " + n + ")", ofClass(m, n), ofPlain(m, n));
                same("of(0, " + n + ")", ofClass(0, n), ofPlain(0, n));
                same("hand(" + m + ", " + n + ")", x.hand(m, n), y.hand(m, n));
                same("plan(" + m + ", 0, 0, " + n + ", true)", x.plan(m, 0, 0, n, true), y.plan(m, 0, 0, n, true));
                same("plan(0, " + m + ", " + n + ", 1, true)", x.plan(0, m, n, 1, true), y.plan(0, m, n, 1, true));
            }
            same("end(" + m + ")", x.end(m), y.end(m));
            same("count(" + m + ")", x.count(m), y.count(m));
            same("file(" + m + ")", x.file(m), y.file(m));
            same("at(" + m + ")", x.at(m), y.at(m));
            same("link(" + m + ")", x.link(m), y.link(m));
            same("remove(" + m + ")", x.remove(m) ? 1 : 0, y.remove(m) ? 1 : 0);
            same("go(" + m + ")", x.go(m), y.go(m));
            same("back(" + m + ")", x.back(m), y.back(m));
        }
    }

    private int ofClass(int file, int what) {
        try {
            return x.of(file, what);
        } catch (NoSuchElementException e) {
            return -1000;
        }
    }

    private int ofPlain(int file, int what) {
        try {
            return y.of(file, what);
        } catch (NoSuchElementException e) {
            return -1000;
        }
    }
}
