import java.util.NoSuchElementException;

/** Calls that belong together: texts over the tape, places as texts, all that can be seen of an object. */
abstract class Calls {
    static final int NONE = NameTurner.NONE;

    /** Numbers round every bound of the document, and at both ends of int. */
    static final int[] NUMBERS = {
        Integer.MIN_VALUE, Integer.MIN_VALUE + 1, -256, -41, -10, -3, -2, -1, 0, 1, 2, 3, 4, 5, 6, 7, 8, 9, 10, 11, 12, 13,
        20, 21, 22, 23, 29, 30, 31, 39, 40, 41, 42, 43, 79, 80, 81, 98, 99, 100, 255, 256, 998, 999, 1000, 65536,
        Integer.MAX_VALUE - 1, Integer.MAX_VALUE,
    };

    /** The bytes of names, written out. */
    static final String OF_NAMES = "abcdefghijklmnopqrstuvwxyzABCDEFGHIJKLMNOPQRSTUVWXYZ0123456789.-_";

    static boolean isOfNames(int b) {
        return OF_NAMES.indexOf(b) >= 0;
    }

    static boolean isFigure(int b) {
        return "0123456789".indexOf(b) >= 0;
    }

    static boolean isFolder(int folder) {
        return folder == 0 || folder == 1 || folder == 2 || folder == 3 || folder == 4 || folder == 5;
    }

    /** A store with the names as files 0 and on of folder 0. */
    static NameTurner with(String... names) {
        return filled(new NameTurner(), names);
    }

    static NameTurner folding(String... names) {
        NameTurner x = new NameTurner();
        x.folds(true);
        return filled(x, names);
    }

    private static NameTurner filled(NameTurner x, String... names) {
        for (String name : names) {
            file(x, 0, name);
        }
        return x;
    }

    /** Plans folder 0 by a rule, with the counter from 1 on. */
    static int plan(NameTurner x, String rule) {
        rule(x, rule);
        return x.plan(0, 0, 1, 1, false);
    }

    /** The same store, behind a plan by a rule. */
    static NameTurner planned(NameTurner x, String rule) {
        plan(x, rule);
        return x;
    }

    static int number(String text, int at) {
        int number = 0;
        for (int i = at; i < at + 4; i++) {
            number = number << 8 | (i < text.length() ? text.charAt(i) : ' ');
        }
        return number;
    }

    /** Puts a text onto an empty tape. */
    static NameTurner tape(NameTurner x, String text) {
        for (int at = 0; at < text.length(); at += 20) {
            x.feed(number(text, at), number(text, at + 4), number(text, at + 8),
                    number(text, at + 12), number(text, at + 16));
        }
        x.end(text.length());
        return x;
    }

    static int file(NameTurner x, int folder, String name) {
        return tape(x, name).file(folder);
    }

    static int hand(NameTurner x, int file, int folder, String name) {
        return tape(x, name).hand(file, folder);
    }

    static int at(NameTurner x, int folder, String name) {
        return tape(x, name).at(folder);
    }

    static int link(NameTurner x, int folder, String name) {
        return tape(x, name).link(folder);
    }

    static int rule(NameTurner x, String text) {
        return tape(x, text).rule();
    }

    /** A file's place as folder/name. */
    static String of(NameTurner x, int file) {
        StringBuilder s = new StringBuilder().append(x.of(file, 0)).append('/');
        int length = x.of(file, 1);
        for (int i = 0; i < length; i++) {
            s.append((char) x.of(file, 10 + i));
        }
        return s.toString();
    }

    /** A link's place as folder/name. */
    static String linkOf(NameTurner x, int link) {
        StringBuilder s = new StringBuilder().append(x.linkOf(link, 0)).append('/');
        int length = x.linkOf(link, 2);
        for (int i = 0; i < length; i++) {
            s.append((char) x.linkOf(link, 10 + i));
        }
        return s.toString();
    }

    static String newName(NameTurner x, int k) {
        StringBuilder s = new StringBuilder();
        for (int i = 0; x.newName(k, i) != NameTurner.NONE; i++) {
            s.append((char) x.newName(k, i));
        }
        return s.toString();
    }

    /** All steps, each as its file, with ~ behind it to a spare name and ~ before it from one. */
    static String steps(NameTurner x) {
        StringBuilder s = new StringBuilder();
        for (int i = 0; i < x.steps(); i++) {
            s.append(i == 0 ? "" : " ").append(x.step(i, 2) == 1 ? "~" : "");
            s.append(x.step(i, 0)).append(x.step(i, 1) == 1 ? "~" : "");
        }
        return s.toString();
    }

    /** The trouble of the k-th one planned, and with which file. */
    static String trouble(NameTurner x, int k) {
        return x.planned(k, 1) + " with " + x.planned(k, 2);
    }

    /** How many bytes each item took, or no. */
    static String took(NameTurner x, int file) {
        if (x.fits(file, 0) != 1) {
            return x.fits(file, 0) == 0 ? "no" : "none";
        }
        StringBuilder s = new StringBuilder();
        for (int i = 0; x.fits(file, 10 + i) != NONE; i++) {
            s.append(i == 0 ? "" : " ").append(x.fits(file, 10 + i));
        }
        return s.toString();
    }

    /** All that can be seen of an object without changing it, its tape's length too. */
    static String state(NameTurner x) {
        StringBuilder s = new StringBuilder();
        for (int what = 0; what <= 9; what++) {
            s.append(x.count(what)).append(' ');
        }
        s.append("place ").append(x.place()).append(" stuck ").append(x.stuck()).append(" steps ").append(steps(x));
        for (int k = 0; k < x.count(4); k++) {
            s.append("; ").append(k).append(' ').append(newName(x, k));
            for (int what = 0; what <= 6; what++) {
                s.append(' ').append(x.planned(k, what));
            }
        }
        for (int file = 0; file < x.count(0); file++) {
            s.append("; ").append(ofOrGone(x, file)).append(' ').append(took(x, file));
        }
        for (int link = 0; link < x.count(7); link++) {
            s.append("; ").append(linkOf(x, link)).append(' ').append(x.linkOf(link, 1));
        }
        return s.toString();
    }

    private static String ofOrGone(NameTurner x, int file) {
        try {
            return of(x, file);
        } catch (NoSuchElementException e) {
            return "gone";
        }
    }
}
