/** The terms: folders, files, names, and which names are alike. */
final class NameSentences extends Calls {
    static void all(Answers a) {
        calls512(a);
        none(a);
        folders(a);
        files40(a);
        numbersOnce(a);
        bytes1To12(a);
        bytesOfNames(a);
        places(a);
        foldsNotAtFirst(a);
        alikeByteByByte(a);
        alikeFolding(a);
        noTwoAlike(a);
    }

    private static void calls512(Answers a) {
        a.sentence("What it is", "An object is used for at most 512 calls after it has been made");
        NameTurner x = with("2", "1");
        plan(x, "#>%1");
        // Two files take three calls each, a rule and its plan four.
        for (int call = 11; call <= 512; call++) {
            a.due("call " + call, call % 2 == 1 ? x.go(3) : x.back(3), 3);
        }
        NameTurner y = new NameTurner();
        for (int call = 1; call <= 510; call += 3) {
            a.due("calls to " + call, file(y, 5, "n" + call), call <= 118 ? call / 3 : NONE);
        }
        a.due("call 511", y.count(0), 40);
        a.due("call 512", y.of(39, 1), 4);
    }

    private static void none(Answers a) {
        a.sentence("Terms", "The constants: NONE = -1: There is none.");
        a.due("NONE", NameTurner.NONE, -1);
    }

    private static void folders(Answers a) {
        a.sentence("Terms", "FOLDERS 0 to 5.");
        for (int n : NUMBERS) {
            boolean is = isFolder(n);
            NameTurner x = with("a", "b");
            a.due("file to " + n, file(x, n, "c"), is ? 2 : NONE);
            a.due("at in " + n, at(x, n, "c"), is ? 2 : NONE);
            a.due("link to " + n, link(x, n, "c"), is ? 0 : NONE);
            a.due("hand to " + n, hand(x, 0, n, "d"), is ? 0 : NONE);
            a.due("the hand's file", of(x, 0), is ? n + "/d" : "0/a");
            rule(x, "b>e");
            a.due("plan of " + n, x.plan(n, 0, 0, 1, false), !is ? NONE : n == 0 ? 1 : 0);
            a.due("plan to " + n, x.plan(0, n, 0, 1, false), is ? 1 : NONE);
            a.due("its folder", x.planned(0, 3), is ? n : NONE);
        }
    }

    private static void files40(Answers a) {
        a.sentence("Terms", "FILES, at most 40, numbered as they come");
        NameTurner x = new NameTurner();
        for (int i = 0; i < 40; i++) {
            a.due("the next number", file(x, i % 6, "n" + i), i);
        }
        for (int folder = 0; folder < 6; folder++) {
            a.due("the 41st to " + folder, file(x, folder, "new"), NONE);
        }
        a.due("how many came", x.count(0), 40);
        a.due("how many are", x.count(1), 40);
        a.due("the first", of(x, 0), "0/n0");
        a.due("the 40th", of(x, 39), "3/n39");
        a.dueThrows(x, 40, 0);
    }

    private static void numbersOnce(Answers a) {
        a.sentence("Terms", "(a number is not given again)");
        NameTurner x = with("a");
        for (int i = 1; i < 40; i++) {
            x.remove(i - 1);
            a.due("behind a removed one", file(x, 0, "a"), i);
        }
        a.due("one is left", x.count(1), 1);
        a.due("40 came, one is", file(x, 1, "b"), NONE);
        x.remove(39);
        a.due("40 came, none is", file(x, 1, "b"), NONE);
        a.due("none came to be", x.count(1), 0);
    }

    private static String times(int n, String text) {
        return text.repeat(n);
    }

    private static void bytes1To12(Answers a) {
        a.sentence("Terms", "lie each in a FOLDER under a NAME: 1 to 12 bytes");
        for (int n = 0; n <= 80; n++) {
            String name = times(n, "a");
            boolean is = n == 1 || n > 1 && n < 12 || n == 12;
            NameTurner x = with("b");
            a.due("file with " + n + " bytes", file(x, 0, name), is ? 1 : NONE);
            a.due("at with " + n + " bytes", at(x, 0, name), is ? 1 : NONE);
            a.due("link with " + n + " bytes", link(x, 0, name), is ? 0 : NONE);
            a.due("hand with " + n + " bytes", hand(x, 0, 1, name), is ? 0 : NONE);
            a.due("where it lies", of(x, 0), is ? "1/" + name : "0/b");
        }
        NameTurner y = with("abcdefghijkl");
        a.due("13 bytes are not their first 12", at(y, 0, "abcdefghijklm"), NONE);
        a.due("all 12 are told", of(y, 0), "0/abcdefghijkl");
    }

    private static void bytesOfNames(Answers a) {
        a.sentence("Terms", "of a to z, A to Z, 0 to 9 and . - _ .");
        a.due("they are 65", OF_NAMES.length(), 65);
        for (int b = 0; b < 256; b++) {
            char sign = (char) b;
            boolean is = isOfNames(b);
            for (String name : new String[] {"" + sign, sign + "bcdefghijkl", "bcdef" + sign + "ghijkl", "bcdefghijkl" + sign}) {
                NameTurner x = with("Q1Q");
                a.due("file with byte " + b, file(x, 1, name), is ? 1 : NONE);
                a.due("at with byte " + b, at(x, 1, name), is ? 1 : NONE);
                a.due("link with byte " + b, link(x, 1, name), is ? 0 : NONE);
                a.due("hand with byte " + b, hand(x, 0, 2, name), is ? 0 : NONE);
                a.due("where it lies", of(x, 0), is ? "2/" + name : "0/Q1Q");
            }
        }
    }

    private static void places(Answers a) {
        a.sentence("Terms", "FOLDER and NAME are its PLACE.");
        NameTurner x = new NameTurner();
        for (int folder = 0; folder < 6; folder++) {
            a.due("one name in each folder", file(x, folder, "a"), folder);
            a.due("another name there", at(x, folder, "b"), NONE);
        }
        for (int folder = 0; folder < 6; folder++) {
            a.due("at in folder " + folder, at(x, folder, "a"), folder);
            a.due("again in folder " + folder, file(x, folder, "a"), -2 - folder);
            a.due("place of " + folder, of(x, folder), folder + "/a");
        }
    }

    private static void foldsNotAtFirst(Answers a) {
        a.sentence("Terms", "The store FOLDS or not (at first it doesn't)");
        NameTurner x = new NameTurner();
        a.due("count(2)", x.count(2), 0);
        a.due("a", file(x, 0, "a"), 0);
        a.due("A", file(x, 0, "A"), 1);
        NameTurner y = folding();
        a.due("count(2)", y.count(2), 1);
        a.due("a", file(y, 0, "a"), 0);
        a.due("A", file(y, 0, "A"), -2);
    }

    private static void alikeByteByByte(Answers a) {
        a.sentence("Terms", "two NAMES are alike if they are byte by byte");
        NameTurner x = with("ab", "abcdefghijkl");
        a.due("itself", at(x, 0, "ab"), 0);
        a.due("all 12", at(x, 0, "abcdefghijkl"), 1);
        for (String other : new String[] {"a", "b", "abb", "aab", "ba", "Ab", "aB", "AB", "ab.", "abcdefghijk", "abcdefghijkL",
            "Abcdefghijkl", "abcdefghijkm", "bbcdefghijkl"}) {
            a.due(other, at(x, 0, other), NONE);
        }
        for (int i = 0; i < OF_NAMES.length(); i++) {
            NameTurner y = with(OF_NAMES.substring(i, i + 1));
            for (int k = 0; k < OF_NAMES.length(); k++) {
                a.due("byte " + i + " with " + k, at(y, 0, OF_NAMES.substring(k, k + 1)), i == k ? 0 : NONE);
            }
        }
    }

    private static void alikeFolding(Answers a) {
        a.sentence("Terms", "or, if it FOLDS, but for small letters and capitals.");
        for (int i = 0; i < OF_NAMES.length(); i++) {
            NameTurner y = folding(OF_NAMES.substring(i, i + 1));
            for (int k = 0; k < OF_NAMES.length(); k++) {
                // Both alphabets stand at the head of the row, 26 letters each.
                boolean alike = i == k || i + 26 == k && i < 26 || k + 26 == i && k < 26;
                a.due("byte " + i + " with " + k, at(y, 0, OF_NAMES.substring(k, k + 1)), alike ? 0 : NONE);
            }
        }
        NameTurner x = folding("aBcDeFgHiJkL");
        a.due("all 12", at(x, 0, "AbCdEfGhIjKl"), 0);
        a.due("one less", at(x, 0, "AbCdEfGhIjK"), NONE);
        a.due("another last one", at(x, 0, "AbCdEfGhIjKm"), NONE);
        a.due("the name stays as it came", of(x, 0), "0/aBcDeFgHiJkL");
    }

    private static void noTwoAlike(Answers a) {
        a.sentence("Terms", "No two FILES of one FOLDER have NAMES that are alike.");
        NameTurner x = folding("a", "b");
        a.due("a third that comes", file(x, 0, "A"), -2);
        a.due("one by hand", hand(x, 1, 0, "A"), -2);
        plan(x, "b>c");
        file(x, 0, "C");
        a.due("one by a step", x.go(1), 0);
        x.remove(2);
        a.due("the step, when it is free", x.go(1), 1);
        file(x, 0, "B");
        a.due("one by a step back", x.back(1), 0);
        a.due("how many are", x.count(1), 3);
        a.due("0", of(x, 0), "0/a");
        a.due("1", of(x, 1), "0/c");
        a.due("3", of(x, 3), "0/B");
    }
}
