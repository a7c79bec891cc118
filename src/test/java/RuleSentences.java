/** The terms: the rule, its faults, and when a name fits. */
final class RuleSentences extends Calls {
    static void all(Answers a) {
        atMost80(a);
        signBetween(a);
        items1To12(a);
        oneByte(a);
        anyBytes(a);
        figures(a);
        parts1To12(a);
        whatItemTook(a);
        capitals(a);
        smallLetters(a);
        counter(a);
        firstFault(a);
        fault1(a);
        fault2(a);
        fault3(a);
        faultChangesNothing(a);
        fitsAllBytes(a);
        firstWay(a);
    }

    /** What rule() answers and where its fault is, as "answer at place". */
    private static String read(String text) {
        NameTurner x = new NameTurner();
        return rule(x, text) + " at " + x.place();
    }

    private static String newNameBy(String name, String rule) {
        return newName(planned(with(name), rule), 0);
    }

    private static String tookBy(String name, String items) {
        NameTurner x = with(name);
        rule(x, items + ">x");
        return took(x, 0);
    }

    private static void atMost80(Answers a) {
        a.sentence("Terms", "RULE: a text of at most 80 bytes:");
        String longest = "*?#*?#*?#*?#>$1^2!3%4$4^5!6%1$7^8!9%2";
        a.due("the longest without a fault has 37", longest.length(), 37);
        a.due("it", read(longest), "12 at -1");
        a.due("no bytes", read(""), "-2 at 0");
        a.due("80 blanks", read(" ".repeat(80)), "-2 at 0");
        a.due("80 bytes of names", read("a".repeat(80)), "-3 at 12");
        a.due("80 with > in the midst", read("a>" + "b".repeat(78)), "-3 at 14");
        a.due("80 with blanks behind a rule", read(longest + " ".repeat(43)), "-2 at 37");
        a.due("80 with parts behind a rule", read(longest + "$".repeat(43)), "-3 at 37");
    }

    private static void signBetween(Answers a) {
        a.sentence("Terms", "ITEMS > PARTS (with the sign > between, no blanks).");
        a.due("a>b", read("a>b"), "1 at -1");
        a.due("no sign", read("ab"), "-2 at 2");
        a.due("two signs", read("a>>b"), "-2 at 2");
        a.due("a sign behind", read("a>b>"), "-2 at 3");
        a.due("a sign ahead", read(">a>b"), "-2 at 0");
        a.due("the sign alone", read(">"), "-2 at 0");
        a.due("blank at 0", read(" a>b"), "-2 at 0");
        a.due("blank at 1", read("a >b"), "-2 at 1");
        a.due("blank at 2", read("a> b"), "-2 at 2");
        a.due("blank at 3", read("a>b "), "-2 at 3");
        a.due("blank behind $", read("*>$ 1"), "-2 at 3");
    }

    private static void items1To12(Answers a) {
        a.sentence("Terms", "ITEMS, 1 to 12: a byte of NAMES (itself);");
        a.due("none", read(">x"), "-2 at 0");
        String row = "a?*#b?*#c?*#d?*#";
        for (int n = 1; n <= 16; n++) {
            a.due(n + " items", read(row.substring(0, n) + ">x"), n <= 12 ? n + " at -1" : "-3 at 12");
        }
        for (int b = 0; b < 256; b++) {
            boolean is = isOfNames(b) || b == '?' || b == '*' || b == '#';
            a.due("item " + b, read((char) b + ">x"), is ? "1 at -1" : "-2 at 0");
            a.due("second item " + b, read("a" + (char) b + ">x"), is ? "2 at -1" : b == '>' ? "-2 at 2" : "-2 at 1");
        }
        for (int i = 0; i < OF_NAMES.length(); i++) {
            NameTurner x = folding(OF_NAMES.substring(i, i + 1));
            for (int k = 0; k < OF_NAMES.length(); k++) {
                rule(x, OF_NAMES.substring(k, k + 1) + ">x");
                a.due("byte " + i + " by item " + k, x.fits(0, 0), i == k ? 1 : 0);
            }
        }
    }

    private static void oneByte(Answers a) {
        a.sentence("Terms", "? one byte;");
        for (int i = 0; i < OF_NAMES.length(); i++) {
            a.due("any byte", tookBy(OF_NAMES.substring(i, i + 1), "?"), "1");
        }
        a.due("two bytes", tookBy("ab", "?"), "no");
        a.due("none", tookBy("a", "a?"), "no");
        a.due("none", tookBy("a", "?a"), "no");
        a.due("12", tookBy("abcdefghijkl", "????????????"), "1 1 1 1 1 1 1 1 1 1 1 1");
        a.due("11", tookBy("abcdefghijk", "????????????"), "no");
        a.due("12 of 11", tookBy("abcdefghijkl", "???????????"), "no");
    }

    private static void anyBytes(Answers a) {
        a.sentence("Terms", "* any bytes, none too;");
        for (int n = 1; n <= 12; n++) {
            a.due(n + " bytes", tookBy("a.-_Z9abcdef".substring(0, n), "*"), "" + n);
        }
        a.due("none behind", tookBy("a", "a*"), "1 0");
        a.due("none ahead", tookBy("a", "*a"), "0 1");
        a.due("none between", tookBy("ab", "a*b"), "1 0 1");
        a.due("none of 12", tookBy("abcdefghijkl", "abcdefghijk*"), "1 1 1 1 1 1 1 1 1 1 1 1");
        a.due("none at all", tookBy("a", "*?*"), "0 1 0");
    }

    private static void figures(Answers a) {
        a.sentence("Terms", "# one figure (0 to 9) or more.");
        for (int i = 0; i < OF_NAMES.length(); i++) {
            String name = OF_NAMES.substring(i, i + 1);
            a.due("byte " + name, tookBy(name, "#"), isFigure(name.charAt(0)) ? "1" : "no");
        }
        for (int n = 1; n <= 12; n++) {
            a.due(n + " figures", tookBy("908172635445".substring(0, n), "#"), "" + n);
        }
        a.due("none", tookBy("a", "a#"), "no");
        a.due("none", tookBy("a", "#a"), "no");
        a.due("a letter behind", tookBy("1a", "#"), "no");
        a.due("a letter between", tookBy("1a1", "#"), "no");
    }

    private static void parts1To12(Answers a) {
        a.sentence("Terms", "PARTS, 1 to 12: a byte of NAMES (itself);");
        a.due("none", read("a>"), "-2 at 2");
        for (int n = 1; n <= 16; n++) {
            a.due(n + " bytes", read("a>" + "bcdefghijklmnopq".substring(0, n)), n <= 12 ? "1 at -1" : "-3 at 14");
            a.due(n + " figures", read("*>" + "$1".repeat(n)), n <= 12 ? "1 at -1" : "-3 at 26");
        }
        for (int b = 0; b < 256; b++) {
            boolean hasFigure = b == '$' || b == '^' || b == '!' || b == '%';
            a.due("part " + b, read("*>" + (char) b), isOfNames(b) ? "1 at -1" : hasFigure ? "-2 at 3" : "-2 at 2");
            if (isOfNames(b)) {
                a.due("new name by " + b, newNameBy("q", "*>" + (char) b), "" + (char) b);
            }
        }
        a.due("12 bytes", newNameBy("q", "*>aZ09.-_xyz12"), "aZ09.-_xyz12");
    }

    private static void whatItemTook(Answers a) {
        a.sentence("Terms", "$ and a figure n: what the n-th of the ITEMS ? * # took;");
        a.due("bytes are not counted", newNameBy("axb12c", "a?b*#c>$1.$2.$3"), "x..12");
        a.due("in any order, again too", newNameBy("ab12", "?*#>$3$2$1$3"), "12ba12");
        a.due("the ninth", newNameBy("abcdefghijkl", "????????????>$9$1"), "ia");
        a.due("one that took none", newNameBy("a", "*a>$1x"), "x");
        a.due("12 bytes", newNameBy("aB.-_9aB.-_9", "*>$1"), "aB.-_9aB.-_9");
        figuresBehind(a, '$');
    }

    /** Each byte behind a sign that wants an item's number, with none to 12 of such items. */
    private static void figuresBehind(Answers a, char sign) {
        for (int b = 0; b < 256; b++) {
            for (int wild = 0; wild <= 12; wild++) {
                boolean isItem = isFigure(b) && b != '0' && b - '0' <= wild;
                String items = "?*#?*#?*#?*#".substring(0, wild) + "abcdefghijkl".substring(wild);
                String due = isItem ? "12 at -1" : isFigure(b) ? "-4 at 14" : "-2 at 14";
                a.due("byte " + b + " behind " + sign + " with " + wild, read(items + ">" + sign + (char) b), due);
            }
        }
    }

    private static void capitals(Answers a) {
        a.sentence("Terms", "^ and n: that with capitals for small letters;");
        for (int i = 0; i < OF_NAMES.length(); i++) {
            String due = OF_NAMES.substring(i < 26 ? i + 26 : i, (i < 26 ? i + 26 : i) + 1);
            a.due("byte " + i, newNameBy(OF_NAMES.substring(i, i + 1), "?>^1"), due);
        }
        a.due("among others", newNameBy("az.AZ-09_m", "*>^1"), "AZ.AZ-09_M");
        a.due("no others", newNameBy("abc", "?b*>$2^1"), "cA");
        figuresBehind(a, '^');
    }

    private static void smallLetters(Answers a) {
        a.sentence("Terms", "! and n: that with small letters for capitals;");
        for (int i = 0; i < OF_NAMES.length(); i++) {
            int at = i >= 26 && i < 52 ? i - 26 : i;
            a.due("byte " + i, newNameBy(OF_NAMES.substring(i, i + 1), "?>!1"), OF_NAMES.substring(at, at + 1));
        }
        a.due("among others", newNameBy("az.AZ-09_M", "*>!1"), "az.az-09_m");
        a.due("no others", newNameBy("ABC", "?B*>$2!1"), "Ca");
        figuresBehind(a, '!');
    }

    private static void counter(Answers a) {
        a.sentence("Terms", "% and a figure w: the COUNTER, with 0s ahead if it has fewer than w figures (w 1 to 4).");
        for (int b = 0; b < 256; b++) {
            boolean is = b == '1' || b == '2' || b == '3' || b == '4';
            a.due("byte " + b, read("*>%" + (char) b), is ? "1 at -1" : "-2 at 3");
        }
        for (int w = 1; w <= 4; w++) {
            for (int start : new int[] {0, 1, 9, 10, 11, 99, 100, 101, 900, 999}) {
                NameTurner x = with("a", "b");
                rule(x, "?>%" + w);
                x.plan(0, 0, start, 1, false);
                a.due(start + " with " + w, newName(x, 0), String.format("%0" + w + "d", start));
                a.due(start + 1 + " with " + w, newName(x, 1), String.format("%0" + w + "d", start + 1));
            }
        }
    }

    private static void firstFault(Answers a) {
        a.sentence("Terms", "FAULTS, the first from the left, of one place the least:");
        a.due("1 ahead of 3", read("~>$9"), "-2 at 0");
        a.due("3 ahead of 1", read("*>$9~"), "-4 at 3");
        a.due("3 ahead of 1 at the end", read("*>$9$"), "-4 at 3");
        a.due("1 ahead of 3 among the parts", read("*>~$9"), "-2 at 2");
        a.due("2 ahead of 1", read("abcdefghijklm~>x"), "-3 at 12");
        a.due("1 ahead of 2", read("abcdefg~hijklmnop>x"), "-2 at 7");
        a.due("2 ahead of 3", read("a>abcdefghijkl$9"), "-3 at 14");
        a.due("3 ahead of 2", read("a>abcdefghij$9klm"), "-4 at 13");
        a.due("2 of the items ahead of 3", read("abcdefghijklm>$9"), "-3 at 12");
        a.due("1 and 2 of one place, items", read("abcdefghijkl~>x"), "-2 at 12");
        a.due("1 and 2 of one place, parts", read("a>abcdefghijkl~"), "-2 at 14");
        a.due("1 and 3 of one place", read("a>$~"), "-2 at 3");
        a.due("two of kind 3", read("*>$2$3"), "-4 at 3");
    }

    private static void fault1(Answers a) {
        a.sentence("Terms", "1 a byte with which no RULE goes on (the end: at how many bytes there are);");
        String whole = "a*#>x$1^2%3";
        String[] due = {"-2 at 0", "-2 at 1", "-2 at 2", "-2 at 3", "-2 at 4", "3 at -1", "-2 at 6", "3 at -1", "-2 at 8",
            "3 at -1", "-2 at 10", "3 at -1"};
        for (int n = 0; n <= whole.length(); n++) {
            a.due("its first " + n, read(whole.substring(0, n)), due[n]);
        }
        for (String cut : new String[] {"*|>x", "*>|x", "*>$|1", "*>^|1", "*>!|1", "*>%|1", "*>x$|1"}) {
            NameTurner x = tape(new NameTurner(), cut.replace("|", ""));
            x.end(cut.indexOf('|'));
            a.due("what was cut doesn't count: " + cut, x.rule(), -2);
            a.due("the end of " + cut, x.place(), cut.indexOf('|'));
        }
        a.due("12 items and the end", read("abcdefghijkl"), "-2 at 12");
        a.due("12 items, > and the end", read("abcdefghijkl>"), "-2 at 13");
        for (int b = 0; b < 256; b++) {
            if (isOfNames(b)) {
                continue;
            }
            boolean isItem = b == '?' || b == '*' || b == '#' || b == '>';
            boolean isPart = b == '$' || b == '^' || b == '!' || b == '%';
            if (!isItem) {
                a.due("among the items " + b, read("a*" + (char) b + ">x"), "-2 at 2");
                a.due("behind 12 items " + b, read("abcdefghijk*" + (char) b + ">x"), "-2 at 12");
            }
            if (!isPart) {
                a.due("behind > " + b, read("a*>" + (char) b + "x"), "-2 at 3");
                a.due("among the parts " + b, read("a*>x" + (char) b + "x"), "-2 at 4");
                a.due("behind 12 parts " + b, read("a*>abcdefghijkl" + (char) b), "-2 at 15");
            }
        }
    }

    private static void fault2(Answers a) {
        a.sentence("Terms", "2 a 13th ITEM or PART;");
        for (String item : new String[] {"a", "Z", "0", ".", "-", "_", "?", "*", "#"}) {
            a.due("the 12th " + item, read("abcdefghijk" + item + ">x"), "12 at -1");
            a.due("the 13th " + item, read("abcdefghijkl" + item + ">x"), "-3 at 12");
            a.due("the 13th at the end " + item, read("abcdefghijkl" + item), "-3 at 12");
        }
        for (String part : new String[] {"a", "Z", "0", ".", "-", "_", "$1", "^1", "!1", "%1", "%4"}) {
            a.due("the 12th " + part, read("*>abcdefghijk" + part), "1 at -1");
            a.due("the 13th " + part, read("*>abcdefghijkl" + part), "-3 at 14");
            a.due("its first byte", read("*>abcdefghijkl" + part.charAt(0)), "-3 at 14");
            a.due("12 of it", read("*>" + part.repeat(12)), "1 at -1");
            a.due("13 of it", read("*>" + part.repeat(13)), "-3 at " + (2 + 12 * part.length()));
        }
        a.due("> behind the 12th", read("abcdefghijkl>abcdefghijkl"), "12 at -1");
    }

    private static void fault3(Answers a) {
        a.sentence("Terms", "3 a figure n of an ITEM that there isn't (at the figure).");
        for (String sign : new String[] {"$", "^", "!"}) {
            a.due("0", read("*>" + sign + "0"), "-4 at 3");
            a.due("1 of none", read("abc>" + sign + "1"), "-4 at 5");
            a.due("1 of one", read("abc*>" + sign + "1"), "4 at -1");
            a.due("2 of one", read("abc*>" + sign + "2"), "-4 at 6");
            a.due("9 of eight", read("********>" + sign + "9"), "-4 at 10");
            a.due("9 of nine", read("*********>" + sign + "9"), "9 at -1");
            a.due("behind a right one", read("?>" + sign + "1" + sign + "2"), "-4 at 5");
            a.due("as the 12th part", read("?>abcdefghijk" + sign + "2"), "-4 at 14");
        }
        NameTurner x = new NameTurner();
        rule(x, "***>$3");
        a.due("the items of the rule before don't count", rule(x, "*>$3"), -4);
        rule(x, "***>~");
        a.due("nor those of a text with a fault", rule(x, "*>$3"), -4);
    }

    private static void faultChangesNothing(Answers a) {
        a.sentence("Terms", "A text with a FAULT changes nothing.");
        for (String text : new String[] {"", "~", "*?*>", "*?*>~", "???????????????>x", "**>abcdefghijklmn", "***>$4", "?*>%9"}) {
            NameTurner x = with("2", "1", "ab");
            link(x, 0, "2");
            plan(x, "#>%1");
            x.go(1);
            String before = state(x);
            a.due("it is refused", rule(x, text) < NONE, true);
            a.due("all behind " + text, state(x).replace("place " + x.place(), "place -1"), before);
            a.due("its plan goes on", x.go(9), 2);
            a.due("its rule is in force", x.plan(0, 0, 1, 1, false), 2);
            a.due("with its parts", newName(x, 1), "2");
        }
        NameTurner y = with("a");
        rule(y, "a>");
        a.due("no rule before, none behind", y.fits(0, 0), NONE);
        a.due("no plan either", y.plan(0, 0, 1, 1, false), NONE);
    }

    private static void fitsAllBytes(Answers a) {
        a.sentence("Terms", "A NAME FITS a RULE if its ITEMS take all its bytes one behind the other.");
        a.due("all", tookBy("abc", "abc"), "1 1 1");
        a.due("one is left", tookBy("abcd", "abc"), "no");
        a.due("one is left ahead", tookBy("abc", "bc"), "no");
        a.due("one is left between", tookBy("abc", "ac"), "no");
        a.due("one is wanting", tookBy("ab", "abc"), "no");
        a.due("another order", tookBy("ba", "ab"), "no");
        a.due("12 by 12", tookBy("abcdefghijkl", "abcdefghijkl"), "1 1 1 1 1 1 1 1 1 1 1 1");
        a.due("12 and another last one", tookBy("abcdefghijkx", "abcdefghijkl"), "no");
        a.due("one by 12", tookBy("a", "***********a"), "0 0 0 0 0 0 0 0 0 0 0 1");
        a.due("12 by one", tookBy("abcdefghijkl", "*"), "12");
        NameTurner x = with("aa", "11", "a", "1");
        for (String items : new String[] {"a?", "?a", "??", "#1", "1#", "##", "#?", "?#", "a*a", "1*1", "?*?", "#*#"}) {
            rule(x, items + ">x");
            x.fits(0, 0);
            x.fits(1, 0);
            a.due("a shorter one behind a longer one by " + items, x.fits(2, 0), 0);
            x.fits(1, 0);
            a.due("a shorter one behind a longer one by " + items, x.fits(3, 0), 0);
        }
        NameTurner y = with("aaa", "b", "123", "x");
        rule(y, "*a>x");
        y.fits(0, 0);
        a.due("a shorter one behind a longer one", y.fits(1, 0), 0);
        rule(y, "*#>x");
        y.fits(2, 0);
        a.due("a shorter one behind a longer one", y.fits(3, 0), 0);
        a.due("no end in sight", tookBy("aaaaaaaaaaaa", "*a*a*a*a*a*b"), "no");
    }

    private static void firstWay(Answers a) {
        a.sentence("Terms", "Of several ways the first holds: ITEM by ITEM from the left each * takes as few bytes as it can,"
                + " each # as many as it can.");
        a.due("* as few", tookBy("a.b.c", "*.*"), "1 1 3");
        a.due("* as few as it can", tookBy("a.b.c", "*.c"), "3 1 1");
        a.due("the first * first", tookBy("abc", "**"), "0 3");
        a.due("the first of three", tookBy("abc", "***"), "0 0 3");
        a.due("# as many", tookBy("123", "#*"), "3 0");
        a.due("# as many as it can", tookBy("123", "#?"), "2 1");
        a.due("# as many as it can", tookBy("1233", "#3"), "3 1");
        a.due("the first # first", tookBy("123", "##"), "2 1");
        a.due("the first of three", tookBy("1234", "###"), "2 1 1");
        a.due("* ahead of #", tookBy("123", "*#"), "0 3");
        a.due("# ahead of *", tookBy("12a", "#*a"), "2 0 1");
        a.due("* left of # wins", tookBy("a12b34", "*#*"), "1 2 3");
        a.due("# must leave one", tookBy("11", "#*#"), "1 0 1");
        a.due("# short for what is behind", tookBy("12121", "#2#"), "3 1 1");
        a.due("12 of *", tookBy("abcdefghijkl", "************"), "0 0 0 0 0 0 0 0 0 0 0 12");
        a.due("12 of #", tookBy("123456789012", "############"), "1 1 1 1 1 1 1 1 1 1 1 1");
        a.due("11 of #", tookBy("123456789012", "###########"), "2 1 1 1 1 1 1 1 1 1 1");
    }
}
