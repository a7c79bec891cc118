/** Each promise of the document by its number: ordinary inputs, the edges, wrong inputs. */
public final class PromisesTest extends Calls {
    private static final Answers a = new Answers();

    public static void main(String[] args) {
        promise1();
        promise2();
        promise3();
        promise4();
        promise5();
        promise6();
        promise7();
        promise8();
        promise9();
        promise9Faults();
        promise10();
        promise11();
        promise11Ways();
        promise12();
        promise12Order();
        promise13();
        promise13Rivals();
        promise13Taken();
        promise13Folding();
        promise14();
        promise15();
        promise16();
        promise16Rings();
        promise17();
        promise18();
        promise19();
        promise20();
        promise20Going();
        promise21();
        promise22();
        promise23();
        a.finish("PromisesTest");
    }

    private static void promise1() {
        NameTurner x = new NameTurner();
        for (int what = 0; what <= 9; what++) {
            a.due("1: count(" + what + ")", x.count(what), 0);
        }
        a.due("1: place()", x.place(), NONE);
        a.due("1: stuck()", x.stuck(), 0);
        a.due("1: steps()", x.steps(), NONE);
        a.due("1: plan() without a rule", x.plan(0, 0, 1, 1, false), NONE);
        a.due("1: planned()", x.planned(0, 0), NONE);
        a.due("1: linkOf()", x.linkOf(0, 0), NONE);
        a.due("1: NONE", NameTurner.NONE, -1);
    }

    private static void promise2() {
        NameTurner x = new NameTurner();
        a.due("2: folds(true)", x.folds(true), true);
        a.due("2: count(2)", x.count(2), 1);
        a.due("2: file Ab", file(x, 0, "Ab"), 0);
        a.due("2: aB is alike", file(x, 0, "aB"), -2);
        a.due("2: there are files", x.folds(true), false);
        a.due("2: there are files", x.folds(false), false);
        a.due("2: count(2)", x.count(2), 1);
        x.remove(0);
        a.due("2: there are no more", x.folds(false), true);
        a.due("2: file Ab", file(x, 0, "Ab"), 1);
        a.due("2: aB is another one", file(x, 0, "aB"), 2);
        NameTurner y = folding("a-Z_", "a.Z_");
        a.due("2: only letters are alike", y.count(1), 2);
        a.due("2: A@ is no letter's pair", at(y, 0, "A-z_"), 0);
    }

    private static void promise3() {
        NameTurner x = new NameTurner();
        a.due("3: feed", x.feed(0x61622E2D, 0x5F303941, 0x5A7A7978, 0x20202020, -1), 20);
        x.end(12);
        a.due("3: highest first", x.file(0), 0);
        a.due("3: bytes", of(x, 0), "0/ab.-_09AZzyx");
        for (int n = 20; n <= 80; n += 20) {
            a.due("3: feed to " + n, x.feed(1, 2, 3, 4, 5), n);
        }
        a.due("3: over 80", x.feed(1, 2, 3, 4, 5), NONE);
        a.due("3: nothing changed", x.count(3), 80);
        x.end(61);
        a.due("3: 61 and 20", x.feed(1, 2, 3, 4, 5), NONE);
        x.end(60);
        a.due("3: 60 and 20", x.feed(1, 2, 3, 4, 5), 80);
        NameTurner y = tape(new NameTurner(), "ab");
        y.feed(0x63646566, 0, 0, 0, 0);
        y.end(6);
        y.file(3);
        a.due("3: behind the tape", of(y, 0), "3/abcdef");
    }

    private static void promise4() {
        NameTurner x = new NameTurner();
        a.due("4: end(0)", x.end(0), 0);
        a.due("4: end(1) of none", x.end(1), NONE);
        x.feed(0x61626364, 0, 0, 0, 0);
        a.due("4: end(-1)", x.end(-1), NONE);
        a.due("4: end(21)", x.end(21), NONE);
        a.due("4: count(3)", x.count(3), 20);
        a.due("4: end(20)", x.end(20), 20);
        a.due("4: end(3)", x.end(3), 3);
        a.due("4: end(4)", x.end(4), NONE);
        a.due("4: end(2)", x.end(2), 2);
        x.file(0);
        a.due("4: the first ones", of(x, 0), "0/ab");
    }

    private static void promise5() {
        NameTurner x = new NameTurner();
        a.due("5: empty", x.file(0), NONE);
        a.due("5: a", file(x, 0, "a"), 0);
        a.due("5: 12 bytes", file(x, 5, "azAZ09.-_xyz"), 1);
        a.due("5: 13 bytes", file(x, 5, "azAZ09.-_xyzz"), NONE);
        a.due("5: folder 6", file(x, 6, "b"), NONE);
        a.due("5: the tape is empty", x.count(3), 0);
        a.due("5: folder -1", file(x, -1, "b"), NONE);
        for (String bad : new String[] {"~0", "a b", "a/b", "a:", "@", "[", "`", "{", ",", "a>b", "\u00e9", "\0"}) {
            a.due("5: " + bad, file(x, 0, bad), NONE);
        }
        a.due("5: a again", file(x, 0, "a"), -2);
        a.due("5: the tape is empty", x.count(3), 0);
        a.due("5: A is another", file(x, 0, "A"), 2);
        a.due("5: A again", file(x, 0, "A"), -4);
        a.due("5: a elsewhere", file(x, 1, "a"), 3);
        x.remove(0);
        a.due("5: numbers are not given again", file(x, 0, "a"), 4);
        for (int i = 5; i < 40; i++) {
            a.due("5: file " + i, file(x, 2, "n" + i), i);
        }
        a.due("5: 40 came", file(x, 3, "z"), NONE);
        a.due("5: 40 came, and one is alike", file(x, 0, "a"), NONE);
        a.due("5: the tape is empty", x.count(3), 0);
        x.remove(39);
        a.due("5: 40 came still", file(x, 3, "z"), NONE);
    }

    private static void promise6() {
        NameTurner x = with("a", "b");
        a.due("6: -1", x.remove(-1), false);
        a.due("6: 2", x.remove(2), false);
        a.due("6: 0", x.remove(0), true);
        a.due("6: 0 again", x.remove(0), false);
        a.due("6: count(0)", x.count(0), 2);
        a.due("6: count(1)", x.count(1), 1);
        a.due("6: at a", at(x, 0, "a"), NONE);
        a.due("6: its links stay", link(x, 0, "b"), 0);
        x.remove(1);
        a.due("6: its links stay", linkOf(x, 0), "0/b");
        a.due("6: max", x.remove(Integer.MAX_VALUE), false);
    }

    private static void promise7() {
        NameTurner x = folding("a", "b");
        a.due("7: to c", hand(x, 0, 4, "c"), 0);
        a.due("7: it is there", of(x, 0), "4/c");
        a.due("7: tape", x.count(3), 0);
        a.due("7: onto another one", hand(x, 0, 0, "B"), -3);
        a.due("7: tape", x.count(3), 0);
        a.due("7: it stays", of(x, 0), "4/c");
        a.due("7: over itself", hand(x, 1, 0, "B"), 0);
        a.due("7: its letter", of(x, 1), "0/B");
        a.due("7: no file", hand(x, 2, 0, "d"), NONE);
        a.due("7: tape", x.count(3), 0);
        a.due("7: no folder", hand(x, 0, 6, "d"), NONE);
        a.due("7: no folder", hand(x, 0, -1, "d"), NONE);
        a.due("7: no name", hand(x, 0, 0, "~0"), NONE);
        a.due("7: no name", x.hand(0, 0), NONE);
        x.remove(0);
        a.due("7: no more", hand(x, 0, 0, "d"), NONE);
        a.due("7: no more, and another is there", hand(x, 0, 0, "b"), NONE);
        link(x, 0, "B");
        link(x, 0, "b");
        hand(x, 1, 3, "q");
        a.due("7: links go along", linkOf(x, 0), "3/q");
        a.due("7: only those just there", linkOf(x, 1), "0/b");
    }

    private static void promise8() {
        NameTurner x = with("a", "A");
        a.due("8: a", at(x, 0, "a"), 0);
        a.due("8: tape", x.count(3), 0);
        a.due("8: A", at(x, 0, "A"), 1);
        a.due("8: b", at(x, 0, "b"), NONE);
        a.due("8: another folder", at(x, 1, "a"), NONE);
        a.due("8: no folder", at(x, 6, "a"), NONE);
        a.due("8: tape", x.count(3), 0);
        a.due("8: no folder", at(x, -1, "a"), NONE);
        a.due("8: no name", x.at(0), NONE);
        a.due("8: a beginning", at(x, 0, "aa"), NONE);
        a.due("8: alike", at(folding("aB"), 0, "Ab"), 0);
    }

    private static void promise9() {
        NameTurner x = new NameTurner();
        a.due("9: a>b", rule(x, "a>b"), 1);
        a.due("9: tape", x.count(3), 0);
        a.due("9: 12 items and parts", rule(x, "?*#?*#?*#?*#>$1^2!3%1$4^5!6%4$7^8!9x"), 12);
        a.due("9: all bytes", rule(x, "azAZ09.-_>azAZ09.-_"), 9);
        a.due("9: > is the 13th byte", rule(x, "abcdefghijkl>x"), 12);
        a.due("9: items", rule(x, "?a#>$2"), 3);
        rule(x, "??>$2");
        rule(x, "??>$2");
        a.due("9: an earlier rule's items", rule(x, "?>$2"), -4);
        rule(x, "??>$2");
        a.due("9: an earlier rule's items", rule(x, "?>$2"), -4);
    }

    private static void fault(String text, int answer, int place) {
        NameTurner x = with("ab");
        rule(x, "ab>c");
        a.due("9: rule " + text, rule(x, text), answer);
        a.due("10: place of " + text, x.place(), place);
        a.due("9: the tape behind " + text, x.count(3), 0);
        a.due("9: the rule behind " + text, x.fits(0, 0), 1);
    }

    private static void promise9Faults() {
        fault("", -2, 0);
        fault(">", -2, 0);
        fault(">a", -2, 0);
        fault("a", -2, 1);
        fault("a>", -2, 2);
        fault("a>>", -2, 2);
        fault("a>b>", -2, 3);
        fault("a$1>b", -2, 1);
        fault("a%1>b", -2, 1);
        fault("*>*", -2, 2);
        fault("*>?", -2, 2);
        fault("*>#", -2, 2);
        fault("*>a$", -2, 4);
        fault("*>$$", -2, 3);
        fault("*>%", -2, 3);
        fault("*>%0", -2, 3);
        fault("*>%5", -2, 3);
        fault("*>%x", -2, 3);
        fault("*>^>", -2, 3);
        fault("* >a", -2, 1);
        fault("a>~", -2, 2);
        fault("\u00ff>a", -2, 0);
        fault("abcdefghijklm>x", -3, 12);
        fault("abcdefghijkl", -2, 12);
        fault("abcdefghijkl~>x", -2, 12);
        fault("abcdefghijkl>abcdefghijklm", -3, 25);
        fault("a>abcdefghijkl$", -3, 14);
        fault("a>abcdefghijkl$9", -3, 14);
        fault("a>abcdefghijkl>", -2, 14);
        fault("a>$1", -4, 3);
        fault("*>$0", -4, 3);
        fault("*>$2", -4, 3);
        fault("*>^2", -4, 3);
        fault("*>!9", -4, 3);
        fault("*a?>$3~", -4, 5);
        fault("*>~$2", -2, 2);
    }

    private static void promise10() {
        NameTurner x = new NameTurner();
        a.due("10: at first", x.place(), NONE);
        rule(x, "ab>");
        a.due("10: a fault", x.place(), 3);
        rule(x, "a~");
        a.due("10: the latest", x.place(), 1);
        a.due("10: asked again", x.place(), 1);
        rule(x, "a>b");
        a.due("10: without one", x.place(), NONE);
    }

    private static void promise11() {
        NameTurner x = with("ab12c");
        a.due("11: no rule", x.fits(0, 0), NONE);
        rule(x, "*#?>x");
        a.due("11: fits", x.fits(0, 0), 1);
        a.due("11: * took", x.fits(0, 10), 2);
        a.due("11: # took", x.fits(0, 11), 2);
        a.due("11: ? took", x.fits(0, 12), 1);
        a.due("11: no item", x.fits(0, 13), NONE);
        a.due("11: * from", x.fits(0, 30), 0);
        a.due("11: # from", x.fits(0, 31), 2);
        a.due("11: ? from", x.fits(0, 32), 4);
        a.due("11: no item", x.fits(0, 33), NONE);
        for (int what : new int[] {-1, 1, 9, 22, 29, 42, Integer.MAX_VALUE, Integer.MIN_VALUE}) {
            a.due("11: what " + what, x.fits(0, what), NONE);
        }
        a.due("11: no file", x.fits(1, 0), NONE);
        a.due("11: no file", x.fits(-1, 0), NONE);
        rule(x, "*x>x");
        a.due("11: doesn't fit", x.fits(0, 0), 0);
        a.due("11: took", x.fits(0, 10), NONE);
        a.due("11: from", x.fits(0, 30), NONE);
        hand(x, 0, 0, "x");
        a.due("11: as it is", x.fits(0, 0), 1);
        x.remove(0);
        a.due("11: no more", x.fits(0, 0), NONE);
        NameTurner y = folding("Ab");
        rule(y, "ab>c");
        a.due("11: a byte takes itself", y.fits(0, 0), 0);
        NameTurner z = with("1", "0");
        plan(z, "#>%1");
        hand(z, 0, 0, "2");
        hand(z, 1, 0, "1");
        plan(z, "#>%1");
        z.go(1);
        rule(z, "?#>x");
        a.due("11: a spare name as it is", z.fits(0, 0), 1);
    }

    /** How many bytes each item of a rule took of a name, or no. */
    private static String took(String name, String items) {
        NameTurner x = with(name);
        int count = rule(x, items + ">x");
        if (x.fits(0, 0) == 0) {
            return "no";
        }
        StringBuilder s = new StringBuilder();
        int from = 0;
        for (int i = 0; i < count; i++) {
            s.append(i == 0 ? "" : " ").append(x.fits(0, 10 + i));
            a.due("11: from of item " + i + " of " + items, x.fits(0, 30 + i), from);
            from += x.fits(0, 10 + i);
        }
        return s.toString();
    }

    private static void promise11Ways() {
        String[][] ways = {
            {"abc", "*", "3"}, {"abc", "**", "0 3"}, {"abc", "*?*", "0 1 2"}, {"a", "?", "1"}, {"ab", "?", "no"},
            {"123", "##", "2 1"}, {"123", "#*", "3 0"}, {"123", "*#", "0 3"}, {"123", "###", "1 1 1"},
            {"12", "###", "no"}, {"123", "#3", "2 1"}, {"12x", "#?", "2 1"}, {"123", "#?", "2 1"},
            {"123", "*#*", "0 3 0"}, {"a1b22", "*#", "3 2"}, {"a1b22", "*#*", "1 1 3"}, {"x", "#", "no"},
            {"aab", "*ab", "1 1 1"}, {"abab", "*ab", "2 1 1"}, {"abab", "*a*b", "0 1 2 1"}, {"a", "a*", "1 0"},
            {"a", "*a*", "0 1 0"}, {"ba", "a*", "no"}, {"a.b.c", "*.*", "1 1 3"}, {"1212", "#2#2", "1 1 1 1"}, {"1222", "#2#2", "1 1 1 1"}, {"12222", "#2#2", "2 1 1 1"},
            {"12121", "#2#", "3 1 1"}, {"aaaaaaaaaaaa", "***********b", "no"},
            {"aaaaaaaaaaaa", "************", "0 0 0 0 0 0 0 0 0 0 0 12"},
            {"111111111111", "############", "1 1 1 1 1 1 1 1 1 1 1 1"}, {"11111", "#*#", "4 0 1"},
        };
        for (String[] way : ways) {
            a.due("11: " + way[0] + " by " + way[1], took(way[0], way[1]), way[2]);
        }
    }

    private static void promise12() {
        NameTurner x = with("a1", "b2", "c");
        a.due("12: no rule", x.plan(0, 0, 1, 1, false), NONE);
        rule(x, "*#>$2$1");
        int[][] bad = {{-1, 0, 1, 1}, {6, 0, 1, 1}, {0, -1, 1, 1}, {0, 6, 1, 1}, {0, 0, -1, 1},
            {0, 0, 1000, 1}, {0, 0, 1, 0}, {0, 0, 1, -1}, {0, 0, 1, 100}};
        for (int[] b : bad) {
            a.due("12: other numbers", x.plan(b[0], b[1], b[2], b[3], false), NONE);
        }
        a.due("12: none was made", x.steps(), NONE);
        a.due("12: two fit", x.plan(0, 0, 0, 1, false), 2);
        a.due("12: the edges", x.plan(0, 5, 999, 99, false), 2);
        a.due("12: none in folder 5", x.plan(5, 0, 0, 1, false), 0);
        a.due("12: a plan of none", x.steps(), 0);
        x.plan(0, 0, 0, 1, false);
        a.due("12: other numbers leave the plan", x.plan(0, 0, 0, 0, false), NONE);
        a.due("12: planned still", x.count(4), 2);
        x.go(1);
        a.due("12: under way", x.plan(0, 0, 0, 1, false), -2);
        a.due("12: other numbers and under way", x.plan(0, 6, 0, 1, false), NONE);
        a.due("12: still under way", x.count(8), 1);
        x.go(1);
        a.due("12: all done", x.plan(0, 0, 0, 1, false), 0);
        NameTurner y = with("a", "b", "c");
        y.remove(1);
        rule(y, "*>%1");
        a.due("12: without those that are no more", y.plan(0, 0, 0, 1, false), 2);
        a.due("12: the second", y.planned(1, 0), 2);
        rule(y, "a>q");
        a.due("12: a plan keeps its rule", newName(y, 1), "1");
    }

    private static String order(NameTurner x, boolean byNames) {
        rule(x, "*>%1");
        int size = x.plan(0, 0, 1, 1, byNames);
        StringBuilder s = new StringBuilder();
        for (int k = 0; k < size; k++) {
            s.append(k == 0 ? "" : " ").append(x.planned(k, 0));
        }
        return s.toString();
    }

    private static void promise12Order() {
        String[] names = {"b", "ab", "a", "B", "a.", "Z", "_", "9", "a-"};
        a.due("12: by numbers", order(with(names), false), "0 1 2 3 4 5 6 7 8");
        a.due("12: by names", order(with(names), true), "7 3 5 6 2 8 4 1 0");
        a.due("12: by names byte by byte, folding too", order(folding("b", "A", "C", "a1"), true), "1 2 3 0");
    }

    private static void promise13() {
        NameTurner x = with("a7", "b", "a10");
        rule(x, "a#>n$1%3");
        a.due("13: no plan", x.planned(0, 0), NONE);
        x.plan(0, 3, 998, 7, false);
        int[] first = {0, 0, NONE, 3, 5, 0, 998, NONE};
        int[] second = {2, 0, NONE, 3, 7, 0, 1005, NONE};
        for (int what = 0; what <= 7; what++) {
            a.due("13: planned(0, " + what + ")", x.planned(0, what), first[what]);
            a.due("13: planned(1, " + what + ")", x.planned(1, what), second[what]);
            a.due("13: planned(2, " + what + ")", x.planned(2, what), NONE);
            a.due("13: planned(-1, " + what + ")", x.planned(-1, what), NONE);
        }
        a.due("13: what -1", x.planned(0, -1), NONE);
        x.go(2);
        x.remove(0);
        a.due("13: as it was planned", x.planned(0, 0), 0);
        NameTurner y = with("ab", "b", "abcdefg");
        plan(y, "*b*>$1$2$2$2");
        a.due("13: stays not", y.planned(0, 5), 0);
        a.due("13: no bytes", y.planned(1, 1), 1);
        a.due("13: no bytes", y.planned(1, 4), 0);
        a.due("13: 16 bytes", y.planned(2, 1), 1);
        a.due("13: 16 bytes", y.planned(2, 4), 16);
        a.due("13: with none", y.planned(2, 2), NONE);
        NameTurner z = with("abcdefghijkl");
        plan(z, "*>$1$1$1$1$1$1$1$1$1$1$1$1");
        a.due("13: 144 bytes", z.planned(0, 4), 144);
        plan(z, "*>$1");
        a.due("13: 12 bytes", z.planned(0, 1), 0);
        a.due("13: stays", z.planned(0, 5), 1);
        z.plan(0, 1, 0, 1, false);
        a.due("13: another folder, so it stays not", z.planned(0, 5), 0);
        plan(z, "*>$1x");
        a.due("13: begins with its old name", z.planned(0, 5), 0);
        a.due("13: 13 bytes", z.planned(0, 1), 1);
    }

    private static void trouble(NameTurner x, int k, int kind, int with) {
        a.due("13: trouble of " + k, x.planned(k, 1), kind);
        a.due("13: trouble of " + k + " with", x.planned(k, 2), with);
    }

    private static void promise13Rivals() {
        NameTurner x = with("c1", "b1", "a1");
        rule(x, "??>x");
        x.plan(0, 0, 1, 1, true);
        trouble(x, 0, 2, 1);
        trouble(x, 1, 2, 2);
        trouble(x, 2, 2, 2);
        NameTurner y = with("aa", "ab", "abbbbbbbbbb");
        plan(y, "a*>$1$1$1$1$1$1");
        trouble(y, 2, 1, NONE);
        NameTurner z = with("ax", "x", "x.x");
        plan(z, "*x>$1");
        trouble(z, 1, 1, NONE);
        trouble(z, 0, 0, NONE);
        NameTurner w = with("b.", "a");
        plan(w, "*>b");
        trouble(w, 0, 2, 1);
        trouble(w, 1, 2, 0);
        NameTurner empty = with("x", "xx");
        plan(empty, "x*>$1$1$1$1$1$1$1$1$1$1$1$1");
        trouble(empty, 0, 1, NONE);
        trouble(empty, 1, 0, NONE);
        NameTurner both = with("abcdefg", "abcdefh");
        plan(both, "abcdef?>abcdefghijkl");
        trouble(both, 0, 2, 1);
        NameTurner tooLong = with("abcdefg", "abcdefgh");
        plan(tooLong, "abcdef*>abcdefghijk$1");
        trouble(tooLong, 0, 0, NONE);
        trouble(tooLong, 1, 1, NONE);
    }

    private static void promise13Taken() {
        NameTurner x = with("a1", "b", "c1");
        plan(x, "a1>b");
        trouble(x, 0, 3, 1);
        plan(x, "?1>$1");
        trouble(x, 0, 0, NONE);
        file(x, 4, "c");
        rule(x, "?1>$1");
        x.plan(0, 4, 1, 1, false);
        trouble(x, 0, 0, NONE);
        trouble(x, 1, 3, 3);
        NameTurner y = with("ab", "b");
        plan(y, "*b>$1$1b");
        trouble(y, 0, 0, NONE);
        NameTurner z = with("xab", "x");
        plan(z, "x*>$1");
        trouble(z, 1, 1, NONE);
        NameTurner w = with("a", "axxxxxx");
        plan(w, "a*>a$1$1x");
        trouble(w, 1, 1, NONE);
        trouble(w, 0, 0, NONE);
        NameTurner held = with("bc", "bbc");
        plan(held, "*c>$1$1c");
        trouble(held, 0, 0, NONE);
        trouble(held, 1, 0, NONE);
        NameTurner byTrouble = with("bb", "b");
        plan(byTrouble, "b*>$1");
        trouble(byTrouble, 0, 3, 1);
        trouble(byTrouble, 1, 1, NONE);
        NameTurner stays = with("a", "A");
        plan(stays, "?>!1");
        trouble(stays, 0, 2, 1);
        trouble(stays, 1, 2, 0);
        a.due("13: stays in trouble", stays.planned(0, 5), 1);
    }

    private static void promise13Folding() {
        NameTurner x = folding("aB", "x");
        plan(x, "a*>A$1");
        trouble(x, 0, 0, NONE);
        a.due("13: other letters are another place", x.planned(0, 5), 0);
        plan(x, "x>Ab");
        trouble(x, 0, 3, 0);
        NameTurner y = folding("a1", "b2");
        plan(y, "?#>%1q");
        trouble(y, 0, 0, NONE);
        plan(y, "a1>B2");
        trouble(y, 0, 3, 1);
        NameTurner z = folding("ax", "bx");
        plan(z, "?x>Q");
        trouble(z, 0, 2, 1);
        NameTurner w = folding("1ab", "2AB");
        plan(w, "?*>$2");
        trouble(w, 0, 2, 1);
        NameTurner not = with("1ab", "2AB");
        plan(not, "?*>$2");
        trouble(not, 0, 0, NONE);
    }

    private static void newNameDue(String name, String rule, int start, String want) {
        NameTurner x = with(name);
        rule(x, rule);
        x.plan(0, 0, start, 1, false);
        a.due("14: " + name + " by " + rule, newName(x, 0), want);
    }

    private static void promise14() {
        newNameDue("aB.9", "*>$1", 1, "aB.9");
        newNameDue("aB.9", "*>^1", 1, "AB.9");
        newNameDue("aB.9", "*>!1", 1, "ab.9");
        newNameDue("azAZ", "*>^1!1", 1, "AZAZazaz");
        newNameDue("a12b", "?#*>$3$2$1", 1, "b12a");
        newNameDue("a", "*>%1%2%3%4", 7, "7070070007");
        newNameDue("a", "*>%1-%2-%3", 123, "123-123-123");
        newNameDue("a", "*>%4", 0, "0000");
        newNameDue("a", "*>%1", 0, "0");
        newNameDue("a", "*>%2", 10, "10");
        newNameDue("a", "*>%1", 10, "10");
        newNameDue("a", "*>%2", 100, "100");
        newNameDue("a", "*>%2", 999, "999");
        newNameDue("abcdefgh", "*>$1$1", 1, "abcdefghabcd");
        newNameDue("ab", "a*b>$1", 1, "");
        newNameDue("a1b2c3d4e5f6", "????????????>$9$8$7$1", 1, "e4da");
        NameTurner x = with("a", "b");
        a.due("14: no plan", x.newName(0, 0), NONE);
        rule(x, "*>%4");
        x.plan(0, 0, 999, 99, false);
        a.due("14: over 999", newName(x, 1), "1098");
        rule(x, "*>%3");
        x.plan(0, 0, 999, 1, false);
        a.due("14: just 1000", newName(x, 1), "1000");
        a.due("14: behind the end", x.newName(0, 4), NONE);
        a.due("14: -1", x.newName(0, -1), NONE);
        a.due("14: no such one", x.newName(2, 0), NONE);
        a.due("14: no such one", x.newName(-1, 0), NONE);
        a.due("14: far", x.newName(0, Integer.MAX_VALUE), NONE);
    }

    private static void promise15() {
        NameTurner x = with("a", "b");
        a.due("15: no plan", x.steps(), NONE);
        plan(x, "*>x");
        a.due("15: trouble", x.steps(), -2);
        plan(x, "*>$1");
        a.due("15: all stay", x.steps(), 0);
        plan(x, "*>$1x");
        a.due("15: two", x.steps(), 2);
        plan(x, "q>x");
        a.due("15: none planned", x.steps(), 0);
        NameTurner one = with("b", "bb", "c");
        plan(one, "b*>c$1");
        a.due("15: one of two has trouble", one.count(5), 1);
        a.due("15: trouble of one is enough", one.steps(), -2);
        a.due("15: no step", one.step(0, 0), NONE);
        a.due("15: no going", one.go(1), NONE);
    }

    private static void promise16() {
        NameTurner x = with("a", "b", "c");
        a.due("16: no plan", x.step(0, 0), NONE);
        plan(x, "?>x");
        a.due("16: trouble", x.step(0, 0), NONE);
        plan(x, "?>$1x");
        a.due("16: step(1, 0)", x.step(1, 0), 1);
        a.due("16: step(1, 1)", x.step(1, 1), 0);
        a.due("16: step(1, 2)", x.step(1, 2), 0);
        a.due("16: what 3", x.step(1, 3), NONE);
        a.due("16: what -1", x.step(1, -1), NONE);
        a.due("16: step 3", x.step(3, 0), NONE);
        a.due("16: step -1", x.step(-1, 0), NONE);
    }

    private static void stepsDue(NameTurner x, String rule, int start, boolean byNames, String want) {
        rule(x, rule);
        x.plan(0, 0, start, 1, byNames);
        a.due("16: steps by " + rule, steps(x), want);
    }

    private static void promise16Rings() {
        stepsDue(with("1", "2", "3"), "#>%1", 2, false, "2 1 0");
        stepsDue(with("3", "2", "1"), "#>%1", 2, true, "0 1 2");
        stepsDue(with("2", "1"), "#>%1", 1, false, "0~ 1 ~0");
        stepsDue(with("2", "3", "1"), "#>%1", 1, false, "0~ 1 2 ~0");
        stepsDue(with("2", "1", "4", "3", "x"), "#>%1", 1, false, "0~ 1 ~0 2~ 3 ~2");
        stepsDue(with("2", "1", "3", "5"), "#>%1", 1, false, "3 0~ 1 ~0");
        stepsDue(with("ab", "ba", "aa", "bb"), "??>$2$1", 1, false, "0~ 1 ~0");
        stepsDue(folding("ab", "BA"), "??>$2$1", 1, false, "0~ 1 ~0");
        stepsDue(folding("Ab"), "*>!1", 1, false, "0");
        stepsDue(with("ab", "ba"), "??>^2$1", 1, false, "0 1");
        stepsDue(folding("ab", "ba"), "??>^2$1", 1, false, "0~ 1 ~0");
        NameTurner again = with("2", "1");
        stepsDue(again, "#>%1", 1, false, "0~ 1 ~0");
        stepsDue(again, "#>$1x", 1, false, "0 1");
        stepsDue(again, "#>%1", 1, false, "0~ 1 ~0");
        again.go(3);
        stepsDue(again, "#>%1", 2, false, "1 0");
        stepsDue(again, "#>%1", 1, false, "");
        NameTurner x = new NameTurner();
        for (char c = 'b'; c <= 'u'; c++) {
            file(x, 0, "a" + c);
            file(x, 0, c + "a");
        }
        rule(x, "??>$2$1");
        a.due("16: 40 in twenty rings", x.plan(0, 0, 1, 1, false), 40);
        a.due("16: three steps a ring", x.steps(), 60);
        a.due("16: all are done", x.go(60), 60);
        a.due("16: the last one", of(x, 39), "0/au");
        a.due("16: and taken back", x.back(60), 60);
        a.due("16: as at first", of(x, 39), "0/ua");
    }

    private static void promise17() {
        NameTurner x = with("2", "1");
        a.due("17: no plan", x.go(1), NONE);
        plan(x, "#>x");
        a.due("17: trouble", x.go(1), NONE);
        plan(x, "#>%1");
        a.due("17: -1", x.go(-1), NONE);
        a.due("17: 0", x.go(0), 0);
        a.due("17: 1", x.go(1), 1);
        a.due("17: spare", of(x, 0), "0/~0");
        a.due("17: 1", x.go(1), 1);
        a.due("17: the other", of(x, 1), "0/2");
        a.due("17: max", x.go(Integer.MAX_VALUE), 1);
        a.due("17: from spare", of(x, 0), "0/1");
        a.due("17: all done", x.go(1), 0);
        NameTurner y = with("a", "b", "c");
        rule(y, "?>$1$1");
        y.plan(0, 2, 0, 1, false);
        y.remove(1);
        a.due("17: up to the stuck one", y.go(3), 1);
        a.due("17: another folder", of(y, 0), "2/aa");
        a.due("17: no more", of(y, 2), "0/c");
        a.due("17: done", y.count(6), 1);
        NameTurner z = new NameTurner();
        for (int i = 0; i < 12; i++) {
            file(z, 5, "f" + (i == 10 ? 11 : i == 11 ? 10 : i));
        }
        rule(z, "f1#>f%2");
        z.plan(5, 5, 10, 1, false);
        z.go(1);
        a.due("17: a spare name of two figures", of(z, 10), "5/~10");
    }

    private static void promise18() {
        NameTurner x = with("2", "1");
        a.due("18: no plan", x.back(1), NONE);
        plan(x, "#>x");
        a.due("18: trouble", x.back(1), NONE);
        plan(x, "#>%1");
        a.due("18: nothing done", x.back(1), 0);
        x.go(3);
        a.due("18: -1", x.back(-1), NONE);
        a.due("18: 0", x.back(0), 0);
        a.due("18: the latest first", x.back(1), 1);
        a.due("18: spare again", of(x, 0), "0/~0");
        a.due("18: max", x.back(Integer.MAX_VALUE), 2);
        a.due("18: as at first", of(x, 0), "0/2");
        a.due("18: as at first", of(x, 1), "0/1");
        a.due("18: go again", x.go(9), 3);
        hand(x, 1, 1, "q");
        a.due("18: stuck in the midst", x.back(9), 1);
        a.due("18: done", x.count(6), 2);
    }

    private static void promise19() {
        NameTurner x = with("a", "b");
        plan(x, "?>$1$1");
        hand(x, 1, 0, "c");
        a.due("19: go", x.go(2), 1);
        a.due("19: it isn't where it was", x.stuck(), 2);
        x.go(-1);
        a.due("19: NONE leaves it", x.stuck(), 2);
        a.due("19: go(0)", x.go(0), 0);
        a.due("19: not stuck", x.stuck(), 0);
        x.go(1);
        a.due("19: stuck again", x.stuck(), 2);
        x.remove(1);
        x.go(1);
        a.due("19: no more", x.stuck(), 1);
        file(x, 0, "a");
        x.back(1);
        a.due("19: another lies there", x.stuck(), 3);
        a.due("19: nothing changed", of(x, 0), "0/aa");
        hand(x, 0, 1, "aa");
        x.back(1);
        a.due("19: another folder first", x.stuck(), 2);
        x.remove(0);
        x.back(1);
        a.due("19: no more first", x.stuck(), 1);
        x.back(0);
        a.due("19: back(0)", x.stuck(), 0);
        x.back(1);
        x.back(-1);
        a.due("19: NONE leaves it", x.stuck(), 1);
        NameTurner y = folding("a");
        plan(y, "a>b");
        file(y, 0, "B");
        y.go(1);
        a.due("19: alike is enough", y.stuck(), 3);
        hand(y, 0, 0, "A");
        y.go(1);
        a.due("19: its place must be just that", y.stuck(), 2);
        rule(y, "q>r");
        y.plan(0, 0, 0, 1, false);
        a.due("19: a new plan leaves it", y.stuck(), 2);
        y.go(5);
        a.due("19: nothing to do", y.stuck(), 0);
    }

    private static void promise20() {
        NameTurner x = with("a");
        a.due("20: a", link(x, 0, "a"), 0);
        a.due("20: tape", x.count(3), 0);
        a.due("20: no file there", link(x, 5, "zz"), 1);
        a.due("20: twice", link(x, 0, "a"), 2);
        a.due("20: folder 6", link(x, 6, "a"), NONE);
        a.due("20: tape", x.count(3), 0);
        a.due("20: folder -1", link(x, -1, "a"), NONE);
        a.due("20: no name", link(x, 0, "~0"), NONE);
        a.due("20: no name", x.link(0), NONE);
        for (int i = 3; i < 30; i++) {
            a.due("20: link " + i, link(x, 1, "l" + i), i);
        }
        a.due("20: 30 are there", link(x, 1, "m"), NONE);
        a.due("20: tape", x.count(3), 0);
    }

    private static void promise20Going() {
        NameTurner x = with("2", "1");
        link(x, 0, "1");
        link(x, 0, "2");
        link(x, 1, "2");
        plan(x, "#>%1");
        x.go(1);
        a.due("20: a link at a spare name", linkOf(x, 1), "0/~0");
        x.go(2);
        a.due("20: went along", linkOf(x, 0), "0/2");
        a.due("20: went along", linkOf(x, 1), "0/1");
        a.due("20: another folder", linkOf(x, 2), "1/2");
        x.back(3);
        a.due("20: came back", linkOf(x, 0), "0/1");
        a.due("20: came back", linkOf(x, 1), "0/2");
        NameTurner y = with("a");
        link(y, 0, "a");
        link(y, 3, "b");
        rule(y, "a>b");
        y.plan(0, 3, 0, 1, false);
        y.go(1);
        y.back(1);
        a.due("20: one that was there goes back too", linkOf(y, 1), "0/a");
        NameTurner z = folding("a");
        link(z, 0, "A");
        hand(z, 0, 0, "b");
        a.due("20: alike is not just there", linkOf(z, 0), "0/A");
    }

    private static void promise21() {
        NameTurner x = folding("ab");
        link(x, 0, "ab");
        link(x, 4, "A.-_");
        link(x, 0, "AB");
        a.due("21: folder", x.linkOf(1, 0), 4);
        a.due("21: file", x.linkOf(0, 1), 0);
        a.due("21: none", x.linkOf(1, 1), NONE);
        a.due("21: just there", x.linkOf(2, 1), NONE);
        a.due("21: bytes", x.linkOf(1, 2), 4);
        a.due("21: name", linkOf(x, 1), "4/A.-_");
        for (int what : new int[] {-1, 3, 9, 14, Integer.MAX_VALUE, Integer.MIN_VALUE}) {
            a.due("21: what " + what, x.linkOf(1, what), NONE);
        }
        a.due("21: link 3", x.linkOf(3, 0), NONE);
        a.due("21: link -1", x.linkOf(-1, 0), NONE);
        x.remove(0);
        a.due("21: no more", x.linkOf(0, 1), NONE);
        file(x, 0, "ab");
        a.due("21: another one now", x.linkOf(0, 1), 1);
    }

    private static void promise22() {
        NameTurner x = with("2", "1");
        file(x, 5, "a.-_");
        a.due("22: folder", x.of(2, 0), 5);
        a.due("22: bytes", x.of(2, 1), 4);
        a.due("22: spare", x.of(2, 2), 0);
        a.due("22: byte 3", x.of(2, 13), '_');
        for (int what : new int[] {-1, 3, 9, 14, 22, Integer.MAX_VALUE, Integer.MIN_VALUE}) {
            a.dueThrows(x, 2, what);
        }
        a.dueThrows(x, 3, 0);
        a.dueThrows(x, -1, 0);
        a.dueThrows(x, Integer.MAX_VALUE, 0);
        plan(x, "#>%1");
        x.go(1);
        a.due("22: spare", x.of(0, 2), 1);
        hand(x, 0, 0, "q");
        a.due("22: no more spare", x.of(0, 2), 0);
        x.remove(0);
        a.dueThrows(x, 0, 0);
    }

    private static void promise23() {
        NameTurner x = with("2", "1", "a", "b");
        x.remove(2);
        link(x, 0, "a");
        plan(x, "#>%1");
        x.go(1);
        x.feed(0, 0, 0, 0, 0);
        int[] want = {4, 3, 0, 20, 2, 0, 1, 1, 1, 1, NONE};
        for (int what = 0; what <= 10; what++) {
            a.due("23: count(" + what + ")", x.count(what), want[what]);
        }
        a.due("23: count(-1)", x.count(-1), NONE);
        x.remove(0);
        a.due("23: a spare name that is no more", x.count(9), 0);
        a.due("23: still under way", x.count(8), 1);
        NameTurner y = folding("a", "b", "c");
        plan(y, "*>x");
        a.due("23: trouble", y.count(5), 3);
        a.due("23: folds", y.count(2), 1);
        plan(y, "*>$1$1");
        a.due("23: no trouble now", y.count(5), 0);
        y.go(3);
        a.due("23: all done", y.count(6), 3);
        a.due("23: not under way", y.count(8), 0);
        plan(y, "q>q");
        a.due("23: a new plan", y.count(6), 0);
        a.due("23: planned", y.count(4), 0);
    }
}
