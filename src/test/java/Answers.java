/** Counts answers that are not the ones that are due, and writes texts onto tapes. */
final class Answers {
    private int wrong = 0;
    private int asked = 0;

    void due(String call, int got, int want) {
        asked++;
        if (got != want) {
            wrong++;
            System.out.println(call + " answered " + got + ", due is " + want);
        }
    }

    void due(String call, boolean got, boolean want) {
        due(call, got ? 1 : 0, want ? 1 : 0);
    }

    void due(String call, String got, String want) {
        asked++;
        if (!got.equals(want)) {
            wrong++;
            System.out.println(call + " answered " + got + ", due is " + want);
        }
    }

    void dueThrows(NameTurner x, int file, int what) {
        asked++;
        try {
            int got = x.of(file, what);
            wrong++;
            System.out.println("of(" + file + ", " + what + ") answered " + got + ", due is a throw");
        } catch (java.util.NoSuchElementException e) {
            return;
        }
    }

    void finish(String test) {
        System.out.println(test + ": " + asked + " answers, " + wrong + " not as due");
        if (wrong != 0 || asked == 0) {
            System.exit(1);
        }
    }

    static int number(String text, int at) {
        int number = 0;
        for (int i = at; i < at + 4; i++) {
            number = number << 8 | (i < text.length() ? text.charAt(i) : ' ');
        }
        return number;
    }

    /** Puts a text onto an empty tape. */
    static NameTurner tape(NameTurner x, String text) {
        for (int at = 0; at < text.length(); at += 20) {
            x.feed(number(text, at), number(text, at + 4), number(text, at + 8),
                    number(text, at + 12), number(text, at + 16));
        }
        x.end(text.length());
        return x;
    }

    static int file(NameTurner x, int folder, String name) {
        return tape(x, name).file(folder);
    }

    static int hand(NameTurner x, int file, int folder, String name) {
        return tape(x, name).hand(file, folder);
    }

    static int at(NameTurner x, int folder, String name) {
        return tape(x, name).at(folder);
    }

    static int link(NameTurner x, int folder, String name) {
        return tape(x, name).link(folder);
    }

    static int rule(NameTurner x, String text) {
        return tape(x, text).rule();
    }

    /** A file's place as folder/name. */
    static String of(NameTurner x, int file) {
        StringBuilder s = new StringBuilder().append(x.of(file, 0)).append('/');
        int length = x.of(file, 1);
        for (int i = 0; i < length; i++) {
            s.append((char) x.of(file, 10 + i));
        }
        return s.toString();
    }

    /** A link's place as folder/name. */
    static String linkOf(NameTurner x, int link) {
        StringBuilder s = new StringBuilder().append(x.linkOf(link, 0)).append('/');
        int length = x.linkOf(link, 2);
        for (int i = 0; i < length; i++) {
            s.append((char) x.linkOf(link, 10 + i));
        }
        return s.toString();
    }

    static String newName(NameTurner x, int k) {
        StringBuilder s = new StringBuilder();
        for (int i = 0; x.newName(k, i) != NameTurner.NONE; i++) {
            s.append((char) x.newName(k, i));
        }
        return s.toString();
    }

    /** All steps, each as its file, with ~ behind it to a spare name and ~ before it from one. */
    static String steps(NameTurner x) {
        StringBuilder s = new StringBuilder();
        for (int i = 0; i < x.steps(); i++) {
            s.append(i == 0 ? "" : " ").append(x.step(i, 2) == 1 ? "~" : "");
            s.append(x.step(i, 0)).append(x.step(i, 1) == 1 ? "~" : "");
        }
        return s.toString();
    }
}
