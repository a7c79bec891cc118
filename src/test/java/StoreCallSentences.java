/** Promises 1 to 8: a new object, the tape, files, hands. */
final class StoreCallSentences extends Calls {
    static void all(Answers a) {
        newObject(a);
        folds(a);
        foldsNot(a);
        feed(a);
        feedNot(a);
        end(a);
        endNot(a);
        file(a);
        fileNot(a);
        fileAlike(a);
        remove(a);
        removeNot(a);
        hand(a);
        handNot(a);
        handAlike(a);
        at(a);
        atNot(a);
    }

    private static void newObject(Answers a) {
        a.sentence("Promise 1: A new object", "No FILES, RULE, PLAN, LINKS; an empty TAPE.");
        NameTurner x = new NameTurner();
        for (int what = 0; what <= 9; what++) {
            a.due("count(" + what + ")", x.count(what), 0);
        }
        a.due("no file", x.remove(0), false);
        a.dueThrows(x, 0, 0);
        a.due("no rule to fit", x.fits(0, 0), NONE);
        a.due("no rule to plan by", x.plan(0, 0, 0, 1, false), NONE);
        a.due("no plan", x.steps(), NONE);
        a.due("none planned", x.planned(0, 0), NONE);
        a.due("no new name", x.newName(0, 0), NONE);
        a.due("no step", x.step(0, 0), NONE);
        a.due("none to do", x.go(0), NONE);
        a.due("none to take back", x.back(0), NONE);
        a.due("not stuck", x.stuck(), 0);
        a.due("no fault", x.place(), NONE);
        a.due("no link", x.linkOf(0, 0), NONE);
        a.due("the tape has no byte", x.end(1), NONE);
        a.due("the tape is no name", x.file(0), NONE);
        a.due("the tape is no rule", x.rule(), -2);
        a.due("a fault at its end", x.place(), 0);
        file(x, 0, "a");
        NameTurner y = new NameTurner();
        a.due("another object has its own", y.count(0), 0);
    }

    private static void folds(Answers a) {
        a.sentence("Promise 2: folds", "The store FOLDS, or not.");
        NameTurner x = new NameTurner();
        a.due("folds(true)", x.folds(true), true);
        a.due("it does", x.count(2), 1);
        a.due("again", x.folds(true), true);
        a.due("folds(false)", x.folds(false), true);
        a.due("it doesn't", x.count(2), 0);
        a.due("again", x.folds(false), true);
        x.folds(true);
        file(x, 0, "a");
        a.due("alike now", file(x, 0, "A"), -2);
    }

    private static void foldsNot(Answers a) {
        a.sentence("Promise 2: folds", "False: there are FILES.");
        for (boolean is : new boolean[] {false, true}) {
            NameTurner x = new NameTurner();
            x.folds(is);
            file(x, 5, "a");
            a.due("one file", x.folds(!is), false);
            a.due("the same again", x.folds(is), false);
            a.due("as it was", x.count(2), is ? 1 : 0);
            file(x, 0, "b");
            x.remove(0);
            a.due("one of two", x.folds(!is), false);
            x.remove(1);
            a.due("none is any more", x.folds(!is), true);
            a.due("so it changed", x.count(2), is ? 0 : 1);
        }
        NameTurner y = new NameTurner();
        link(y, 0, "a");
        a.due("a link is no file", y.folds(true), true);
        a.due("a file that was refused is none", file(y, 6, "a"), NONE);
        a.due("so it may", y.folds(false), true);
    }

    private static void feed(Answers a) {
        a.sentence("Promise 3: feed", "Twenty bytes come behind the TAPE, of each number the highest first: how many it has;");
        NameTurner x = new NameTurner();
        for (int n = 20; n <= 80; n += 20) {
            a.due("feed", x.feed(-1, Integer.MIN_VALUE, 0, Integer.MAX_VALUE, 1), n);
            a.due("count(3)", x.count(3), n);
        }
        String letters = "abcdefghijklmnopqrst";
        for (int at = 0; at < 20; at++) {
            NameTurner y = new NameTurner();
            y.feed(number(letters, 0), number(letters, 4), number(letters, 8), number(letters, 12), number(letters, 16));
            y.end(Math.min(at + 1, 12));
            y.file(0);
            a.due("the first bytes", of(y, 0), "0/" + letters.substring(0, Math.min(at + 1, 12)));
        }
        // Where the byte stands that no rule has, the fault is: so each of the twenty is seen by itself.
        for (int at = 0; at < 12; at++) {
            for (int odd : new int[] {0, 127, 128, 225, 255}) {
                String text = letters.substring(0, at) + (char) odd + letters.substring(at + 1);
                a.due("byte " + odd + " at " + at, rulePlace(text), at);
            }
        }
        String parts = "a>bcdefghijklm>qrstu";
        a.due("byte 14", rulePlace(parts), 14);
        String figures = "**********>$1$2$3$4~";
        a.due("byte 19", rulePlace(figures), 19);
        NameTurner z = tape(new NameTurner(), "ab");
        a.due("behind two", z.feed(0x63646566, 0, 0, 0, 0), 22);
        z.end(6);
        z.file(0);
        a.due("in their order", of(z, 0), "0/abcdef");
    }

    private static int rulePlace(String text) {
        NameTurner x = new NameTurner();
        rule(x, text);
        return x.place();
    }

    private static void feedNot(Answers a) {
        a.sentence("Promise 3: feed", "NONE if these would be more than 80.");
        for (int n = 0; n <= 80; n++) {
            NameTurner x = tape(new NameTurner(), "a".repeat(n));
            a.due("behind " + n, x.feed(1, 2, 3, 4, 5), n <= 60 ? n + 20 : NONE);
            a.due("it has", x.count(3), n <= 60 ? n + 20 : n);
        }
        NameTurner y = tape(new NameTurner(), "a>" + "b".repeat(78));
        a.due("a refused one", y.feed(0, 0, 0, 0, 0), NONE);
        y.end(3);
        a.due("changes no byte", y.rule(), 1);
    }

    private static void end(Answers a) {
        a.sentence("Promise 4: end", "The TAPE has its first n bytes alone: n;");
        for (int n = 0; n <= 80; n++) {
            NameTurner x = tape(new NameTurner(), "a".repeat(80));
            a.due("end(" + n + ")", x.end(n), n);
            a.due("it has", x.count(3), n);
        }
        NameTurner y = tape(new NameTurner(), "abcdef");
        y.end(3);
        y.feed(0x78797A78, 0, 0, 0, 0);
        y.end(5);
        y.file(0);
        a.due("what was cut doesn't come again", of(y, 0), "0/abcxy");
    }

    private static void endNot(Answers a) {
        a.sentence("Promise 4: end", "NONE if it has less, or n is below 0.");
        for (int has = 0; has <= 80; has += 4) {
            for (int n : NUMBERS) {
                NameTurner x = tape(new NameTurner(), "a".repeat(has));
                boolean is = n >= 0 && n <= has;
                a.due("end(" + n + ") of " + has, x.end(n), is ? n : NONE);
                a.due("it has", x.count(3), is ? n : has);
            }
        }
        NameTurner y = tape(new NameTurner(), "ab");
        a.due("one more", y.end(3), NONE);
        a.due("just that", y.end(2), 2);
    }

    private static void file(Answers a) {
        a.sentence("Promise 5: file", "A FILE with the NAME that the TAPE is (empty then, in any case) comes to a FOLDER: its number.");
        NameTurner x = new NameTurner();
        a.due("a file", file(x, 3, "abc"), 0);
        a.due("its place", of(x, 0), "3/abc");
        a.due("empty then", x.count(3), 0);
        a.due("alike", file(x, 3, "abc"), -2);
        a.due("empty then", x.count(3), 0);
        a.due("no folder", file(x, 6, "abc"), NONE);
        a.due("empty then", x.count(3), 0);
        a.due("no name", file(x, 0, "a b"), NONE);
        a.due("empty then", x.count(3), 0);
        a.due("neither", file(x, -1, "a".repeat(80)), NONE);
        a.due("empty then", x.count(3), 0);
        a.due("an empty one", x.file(0), NONE);
        a.due("the next number", file(x, 0, "abc"), 1);
    }

    private static void fileNot(Answers a) {
        a.sentence("Promise 5: file", "NONE: no such FOLDER, it is no NAME, 40 came;");
        NameTurner x = with("a");
        link(x, 0, "a");
        plan(x, "a>b");
        String before = state(x);
        for (int n : NUMBERS) {
            if (!isFolder(n)) {
                a.due("folder " + n, file(x, n, "c"), NONE);
            }
        }
        for (String no : new String[] {"", "a b", "~0", "a/b", "*", "a".repeat(13), "b".repeat(80), "\u00e1"}) {
            a.due("name " + no, file(x, 0, no), NONE);
        }
        a.due("nothing changed", state(x), before);
        for (int i = 1; i < 40; i++) {
            file(x, 1 + i % 5, "n" + i);
        }
        a.due("40 came", file(x, 0, "c"), NONE);
        a.due("40 came, and one lies alike", file(x, 0, "a"), NONE);
        a.due("empty then", x.count(3), 0);
        a.due("still 40", x.count(0), 40);
        x.remove(17);
        a.due("40 came, 39 are", file(x, 0, "c"), NONE);
    }

    private static void fileAlike(Answers a) {
        a.sentence("Promise 5: file", "-2 less the number of the FILE that lies there alike.");
        NameTurner x = new NameTurner();
        x.folds(true);
        for (int i = 0; i < 39; i++) {
            file(x, i % 6, "n" + i);
        }
        for (int i = 0; i < 39; i++) {
            a.due("one like " + i, file(x, i % 6, "N" + i), -2 - i);
        }
        a.due("none came", x.count(0), 39);
        a.due("it is as it was", of(x, 38), "2/n38");
        x.remove(38);
        a.due("it is no more", file(x, 2, "N38"), 39);
    }

    private static void remove(Answers a) {
        a.sentence("Promise 6: remove", "A FILE is no more.");
        NameTurner x = with("a", "b");
        link(x, 0, "a");
        a.due("the first", x.remove(0), true);
        a.due("one is left", x.count(1), 1);
        a.due("two came", x.count(0), 2);
        a.dueThrows(x, 0, 0);
        a.due("not there", at(x, 0, "a"), NONE);
        a.due("its link is", linkOf(x, 0), "0/a");
        a.due("no file there", x.linkOf(0, 1), NONE);
        a.due("its place is free", hand(x, 1, 0, "a"), 0);
        a.due("the last", x.remove(1), true);
        a.due("none is left", x.count(1), 0);
        NameTurner ring = planned(with("2", "1"), "#>%1");
        ring.go(1);
        a.due("one with a spare name", ring.remove(0), true);
        a.due("no spare name now", ring.count(9), 0);
    }

    private static void removeNot(Answers a) {
        a.sentence("Promise 6: remove", "False: no such one, or it is no more already.");
        NameTurner x = with("a", "b", "c");
        x.remove(1);
        String before = state(x);
        for (int n : NUMBERS) {
            if (n != 0 && n != 2) {
                a.due("file " + n, x.remove(n), false);
            }
        }
        a.due("nothing changed", state(x), before);
        a.due("of none", new NameTurner().remove(0), false);
    }

    private static void hand(Answers a) {
        a.sentence("Promise 7: hand", "By hand a FILE gets the NAME that the TAPE is (empty then, in any case), and a FOLDER: 0.");
        NameTurner x = with("a", "b");
        a.due("another name", hand(x, 0, 0, "c"), 0);
        a.due("its place", of(x, 0), "0/c");
        a.due("empty then", x.count(3), 0);
        a.due("another folder", hand(x, 0, 5, "c"), 0);
        a.due("its place", of(x, 0), "5/c");
        a.due("its own place", hand(x, 0, 5, "c"), 0);
        a.due("12 bytes", hand(x, 0, 5, "abcdefghijkl"), 0);
        a.due("one byte again", hand(x, 0, 0, "a"), 0);
        a.due("its place", of(x, 0), "0/a");
        a.due("onto another", hand(x, 0, 0, "b"), -3);
        a.due("empty then", x.count(3), 0);
        a.due("no file", hand(x, 2, 0, "d"), NONE);
        a.due("empty then", x.count(3), 0);
        a.due("no folder", hand(x, 0, 6, "d"), NONE);
        a.due("empty then", x.count(3), 0);
        a.due("no name", hand(x, 0, 0, "~0"), NONE);
        a.due("empty then", x.count(3), 0);
        NameTurner ring = planned(with("2", "1"), "#>%1");
        ring.go(1);
        a.due("from a spare name", hand(ring, 0, 0, "q"), 0);
        a.due("no spare name now", ring.of(0, 2), 0);
    }

    private static void handNot(Answers a) {
        a.sentence("Promise 7: hand", "NONE: no such ones;");
        NameTurner x = with("a", "b", "c");
        x.remove(1);
        link(x, 0, "a");
        String before = state(x);
        for (int n : NUMBERS) {
            if (n != 0 && n != 2) {
                a.due("file " + n, hand(x, n, 0, "d"), NONE);
                a.due("file " + n + " onto another", hand(x, n, 0, "a"), NONE);
            }
            if (!isFolder(n)) {
                a.due("folder " + n, hand(x, 0, n, "d"), NONE);
            }
        }
        for (String no : new String[] {"", "a b", "~0", "a/b", "*", "a".repeat(13), "b".repeat(80), "\u00e1"}) {
            a.due("name " + no, hand(x, 0, 0, no), NONE);
        }
        a.due("nothing changed", state(x), before);
    }

    private static void handAlike(Answers a) {
        a.sentence("Promise 7: hand", "-2 less the number of another FILE that lies there alike.");
        NameTurner x = new NameTurner();
        x.folds(true);
        for (int i = 0; i < 40; i++) {
            file(x, i % 6, "n" + i);
        }
        link(x, 0, "n0");
        String before = state(x);
        for (int i = 1; i < 40; i++) {
            a.due("onto " + i, hand(x, 0, i % 6, "N" + i), -2 - i);
        }
        a.due("nothing changed", state(x), before);
        a.due("itself is no other", hand(x, 0, 0, "N0"), 0);
        a.due("it has its capital", of(x, 0), "0/N0");
        x.remove(39);
        a.due("one that is no more", hand(x, 0, 3, "N39"), 0);
        NameTurner y = with("a", "b");
        a.due("not folding", hand(y, 0, 0, "B"), 0);
    }

    private static void at(Answers a) {
        a.sentence("Promise 8: at", "The FILE that lies alike at the PLACE of the NAME that the TAPE is (empty then, in any case).");
        NameTurner x = new NameTurner();
        x.folds(true);
        for (int i = 0; i < 40; i++) {
            file(x, i % 6, "n" + i);
        }
        for (int i = 0; i < 40; i++) {
            a.due("file " + i, at(x, i % 6, "n" + i), i);
            a.due("alike " + i, at(x, i % 6, "N" + i), i);
            a.due("empty then", x.count(3), 0);
        }
        a.due("none there", at(x, 0, "q"), NONE);
        a.due("empty then", x.count(3), 0);
        a.due("no folder", at(x, 6, "n0"), NONE);
        a.due("empty then", x.count(3), 0);
        a.due("no name", at(x, 0, "n 0"), NONE);
        a.due("empty then", x.count(3), 0);
    }

    private static void atNot(Answers a) {
        a.sentence("Promise 8: at", "NONE.");
        NameTurner x = with("a", "b");
        x.remove(1);
        String before = state(x);
        for (String name : new String[] {"b", "A", "aa", "c", "", "~0", "a b", "a".repeat(13), "a".repeat(80)}) {
            a.due("at " + name, at(x, 0, name), NONE);
        }
        for (int n : NUMBERS) {
            if (n != 0) {
                a.due("folder " + n, at(x, n, "a"), NONE);
            }
        }
        a.due("nothing changed", state(x), before);
        NameTurner ring = planned(with("2", "1"), "#>%1");
        ring.go(1);
        a.due("where one was that has a spare name", at(ring, 0, "2"), NONE);
        a.due("a spare name is no name on the tape", at(ring, 0, "~0"), NONE);
    }
}
