/** Promises 9 to 11: the rule, its fault's place, and what its items took. */
final class RuleCallSentences extends Calls {
    static void all(Answers a) {
        rule(a);
        ruleWithFault(a);
        place(a);
        placeNone(a);
        whetherItFits(a);
        howManyTook(a);
        firstBytes(a);
        fitsNone(a);
        fitsNotTold(a);
    }

    private static void rule(Answers a) {
        a.sentence("Promise 9: rule", "The TAPE (empty then) is the RULE: how many ITEMS;");
        String items = "?*#a?*#b?*#c";
        for (int n = 1; n <= 12; n++) {
            NameTurner x = new NameTurner();
            a.due(n + " items", rule(x, items.substring(0, n) + ">x"), n);
            a.due("empty then", x.count(3), 0);
        }
        NameTurner x = with("a", "b");
        rule(x, "a>x");
        a.due("the first rule", x.fits(0, 0) * 10 + x.fits(1, 0), 10);
        rule(x, "b>x");
        a.due("the next takes its place", x.fits(0, 0) * 10 + x.fits(1, 0), 1);
        NameTurner shorter = with("ab");
        rule(shorter, "????????????>abcdefghijkl");
        rule(shorter, "??>$2$1");
        a.due("nothing is left of a longer one", took(shorter, 0), "1 1");
        for (int n = 12; n >= 1; n--) {
            rule(shorter, "*".repeat(n) + ">x");
            a.due("nor of what it took", took(shorter, 0), "0 ".repeat(n - 1) + "2");
        }
        rule(shorter, "??>$2$1");
        shorter.plan(0, 0, 0, 1, false);
        a.due("nor of its parts", newName(shorter, 0), "ba");
        NameTurner under = planned(with("a", "b"), "?>$1x");
        under.go(1);
        a.due("while a plan is under way", rule(under, "*>y"), 1);
        a.due("the plan goes on by its own", under.go(1), 1);
        a.due("as it was planned", of(under, 1), "0/bx");
    }

    private static void ruleWithFault(Answers a) {
        a.sentence("Promise 9: rule", "with a FAULT 1 less than minus its kind (-2 to -4).");
        NameTurner x = new NameTurner();
        a.due("kind 1", rule(x, "a>~"), -2);
        a.due("empty then", x.count(3), 0);
        a.due("kind 2", rule(x, "abcdefghijklm>x"), -3);
        a.due("empty then", x.count(3), 0);
        a.due("kind 3", rule(x, "a>$1"), -4);
        a.due("empty then", x.count(3), 0);
        a.due("an empty tape is kind 1", x.rule(), -2);
        tape(x, "a".repeat(80));
        a.due("80 bytes", x.rule(), -3);
        a.due("empty then", x.count(3), 0);
        a.due("there is no rule", x.plan(0, 0, 0, 1, false), NONE);
    }

    private static void place(Answers a) {
        a.sentence("Promise 10: place", "The place of the FAULT of the latest rule();");
        NameTurner x = new NameTurner();
        rule(x, "~");
        a.due("0", x.place(), 0);
        rule(x, "abcdefghijkl>abcdefghijk$0");
        a.due("25", x.place(), 25);
        a.due("asked again", x.place(), 25);
        rule(x, "????????????>$1$1$1$1$1$1$1$1$1$1$1$");
        a.due("the end at 36", x.place(), 36);
        rule(x, "????????????>$1$1$1$1$1$1$1$1$1$1$1$1$1");
        a.due("the greatest there is: 37", x.place(), 37);
        file(x, 0, "a");
        x.plan(0, 0, 0, 1, false);
        a.due("other calls leave it", x.place(), 37);
    }

    private static void placeNone(Answers a) {
        a.sentence("Promise 10: place", "NONE without one.");
        NameTurner x = new NameTurner();
        a.due("before any rule()", x.place(), NONE);
        rule(x, "a>b");
        a.due("behind one without a fault", x.place(), NONE);
        rule(x, "a>");
        rule(x, "a>b");
        a.due("behind a fault and one without", x.place(), NONE);
    }

    private static void whetherItFits(Answers a) {
        a.sentence("Promise 11: fits", "Of a FILE's NAME as it is, by the RULE: what 0 whether it FITS (1, 0),");
        NameTurner x = with("a1", "b");
        file(x, 5, "c2");
        rule(x, "?#>x");
        a.due("it does", x.fits(0, 0), 1);
        a.due("it doesn't", x.fits(1, 0), 0);
        a.due("in another folder", x.fits(2, 0), 1);
        hand(x, 1, 0, "b3");
        a.due("as it is now", x.fits(1, 0), 1);
        rule(x, "b#>x");
        a.due("by the rule now", x.fits(0, 0) * 10 + x.fits(1, 0), 1);
        NameTurner ring = planned(with("2", "1"), "#>%1");
        a.due("before", ring.fits(0, 0), 1);
        ring.go(1);
        a.due("its spare name", ring.fits(0, 0), 0);
        rule(ring, "*>x");
        a.due("by any bytes", took(ring, 0), "2");
        rule(ring, "?#>x");
        a.due("by one byte and its number", took(ring, 0), "1 1");
    }

    private static void howManyTook(Answers a) {
        a.sentence("Promise 11: fits", "10 and i how many bytes its i-th ITEM took (from 0 on),");
        NameTurner x = with("ab12c", "abcdefghijkl");
        rule(x, "*#?*>x");
        int[] due = {2, 2, 1, 0};
        for (int i = 0; i < 4; i++) {
            a.due("item " + i, x.fits(0, 10 + i), due[i]);
        }
        a.due("before the first", x.fits(0, 9), NONE);
        a.due("behind the last", x.fits(0, 14), NONE);
        rule(x, "????????????>x");
        a.due("the 12th", x.fits(1, 21), 1);
        a.due("no 13th", x.fits(1, 22), NONE);
        rule(x, "a***********>x");
        a.due("all the rest", x.fits(1, 21), 11);
    }

    private static void firstBytes(Answers a) {
        a.sentence("Promise 11: fits", "30 and i its first byte's place in the NAME (from 0 on; of one that took none where it would be).");
        NameTurner x = with("ab12c", "abcdefghijkl", "a");
        rule(x, "*#?*>x");
        int[] due = {0, 2, 4, 5};
        for (int i = 0; i < 4; i++) {
            a.due("item " + i, x.fits(0, 30 + i), due[i]);
        }
        a.due("before the first", x.fits(0, 29), NONE);
        a.due("behind the last", x.fits(0, 34), NONE);
        rule(x, "????????????>x");
        a.due("the 12th", x.fits(1, 41), 11);
        a.due("no 13th", x.fits(1, 42), NONE);
        rule(x, "*?*>x");
        a.due("none, ahead of all", x.fits(2, 30), 0);
        a.due("the one byte", x.fits(2, 31), 0);
        rule(x, "abcdefghijkl>x");
        rule(x, "abcdefghijk*>x");
        a.due("the last", x.fits(1, 41), 11);
        rule(x, "*l*>x");
        a.due("none, behind 12 bytes", x.fits(1, 32), 12);
        rule(x, "a*b*>x");
        a.due("none, between", x.fits(1, 31), 1);
    }

    private static void fitsNone(Answers a) {
        a.sentence("Promise 11: fits", "NONE: no such FILE, no RULE, others;");
        NameTurner x = with("a", "b", "c");
        x.remove(1);
        for (int what : new int[] {0, 10, 30}) {
            a.due("no rule", x.fits(0, what), NONE);
        }
        rule(x, "a>");
        a.due("a text with a fault is no rule", x.fits(0, 0), NONE);
        rule(x, "*>x");
        for (int n : NUMBERS) {
            if (n != 0 && n != 2) {
                a.due("file " + n, x.fits(n, 0), NONE);
                a.due("file " + n, x.fits(n, 10), NONE);
                a.due("file " + n, x.fits(n, 30), NONE);
            }
            if (n != 0 && n != 10 && n != 30) {
                a.due("what " + n, x.fits(0, n), NONE);
            }
        }
        for (int what = 1; what < 64; what++) {
            if (what != 10 && what != 30) {
                a.due("what " + what, x.fits(0, what), NONE);
            }
        }
    }

    private static void fitsNotTold(Answers a) {
        a.sentence("Promise 11: fits", "10 and on, if it doesn't FIT.");
        NameTurner x = with("abc", "ab");
        rule(x, "*b>x");
        a.due("one that fits", took(x, 1), "1 1");
        a.due("it doesn't", x.fits(0, 0), 0);
        for (int what = 1; what < 64; what++) {
            a.due("what " + what, x.fits(0, what), NONE);
        }
        a.due("one that fits, still", took(x, 1), "1 1");
    }
}
