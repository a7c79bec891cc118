/** Promises 20 to 23: links, and what is told of links, files and all together. */
final class LookCallSentences extends Calls {
    static void all(Answers a) {
        link(a);
        linkNone(a);
        linkFolder(a);
        linkFile(a);
        linkBytes(a);
        linkName(a);
        linkOfNone(a);
        ofFolder(a);
        ofBytes(a);
        ofSpare(a);
        ofName(a);
        ofThrows(a);
        countCame(a);
        countAre(a);
        countFolds(a);
        countTape(a);
        countPlanned(a);
        countTrouble(a);
        countDone(a);
        countLinks(a);
        countUnderWay(a);
        countSpare(a);
        countNone(a);
    }

    private static void link(Answers a) {
        a.sentence("Promise 20: link", "A LINK to the PLACE of the NAME that the TAPE is (empty then, in any case),"
                + " whether a FILE is there or not: its number.");
        NameTurner x = with("a");
        a.due("a file is there", link(x, 0, "a"), 0);
        a.due("empty then", x.count(3), 0);
        a.due("none is there", link(x, 5, "abcdefghijkl"), 1);
        a.due("where a link is already", link(x, 0, "a"), 2);
        a.due("no folder", link(x, 6, "a"), NONE);
        a.due("empty then", x.count(3), 0);
        a.due("no name", link(x, 0, "a b"), NONE);
        a.due("empty then", x.count(3), 0);
        a.due("the next number", link(x, 0, "b"), 3);
        for (int i = 4; i < 30; i++) {
            a.due("link " + i, link(x, i % 6, "n" + i), i);
        }
        a.due("all are there", x.count(7), 30);
        a.due("the last", linkOf(x, 29), "5/n29");
        a.due("one too many", link(x, 0, "z"), NONE);
        a.due("empty then", x.count(3), 0);
        a.due("no file came", x.count(0), 1);
    }

    private static void linkNone(Answers a) {
        a.sentence("Promise 20: link", "NONE: no such FOLDER, no NAME, 30 are there.");
        NameTurner x = with("a");
        link(x, 0, "a");
        String before = state(x);
        for (int n : NUMBERS) {
            if (!isFolder(n)) {
                a.due("folder " + n, link(x, n, "a"), NONE);
            }
        }
        for (String no : new String[] {"", "a b", "~0", "a/b", "*", "a".repeat(13), "b".repeat(80), "\u00e1"}) {
            a.due("name " + no, link(x, 0, no), NONE);
        }
        a.due("nothing changed", state(x), before);
        for (int i = 1; i < 30; i++) {
            link(x, 0, "a");
        }
        String full = state(x);
        a.due("30 are there", link(x, 0, "b"), NONE);
        a.due("30 are there, one just so", link(x, 0, "a"), NONE);
        a.due("nothing changed", state(x), full);
        x.remove(0);
        a.due("a file less is no link less", link(x, 0, "b"), NONE);
    }

    private static void linkFolder(Answers a) {
        a.sentence("Promise 21: linkOf", "Of a LINK what 0 its FOLDER,");
        NameTurner x = with("a");
        for (int i = 0; i < 30; i++) {
            link(x, i % 6, "a");
        }
        for (int i = 0; i < 30; i++) {
            a.due("link " + i, x.linkOf(i, 0), i % 6);
        }
        hand(x, 0, 5, "a");
        a.due("gone along", x.linkOf(0, 0), 5);
    }

    private static void linkFile(Answers a) {
        a.sentence("Promise 21: linkOf", "1 the FILE that lies just there (NONE),");
        NameTurner x = folding("ab", "c");
        link(x, 0, "ab");
        link(x, 0, "AB");
        link(x, 1, "ab");
        link(x, 0, "a");
        link(x, 0, "abc");
        link(x, 0, "c");
        int[] due = {0, NONE, NONE, NONE, NONE, 1};
        for (int i = 0; i < due.length; i++) {
            a.due("link " + i, x.linkOf(i, 1), due[i]);
        }
        x.remove(0);
        a.due("it is no more", x.linkOf(0, 1), NONE);
        file(x, 0, "AB");
        a.due("another one, alike", x.linkOf(0, 1), NONE);
        a.due("another one, just there", x.linkOf(1, 1), 2);
        NameTurner full = new NameTurner();
        for (int i = 0; i < 40; i++) {
            file(full, i % 6, "n" + i);
        }
        link(full, 3, "n39");
        link(full, 3, "n40");
        a.due("the last of 40", full.linkOf(0, 1), 39);
        a.due("none of 40", full.linkOf(1, 1), NONE);
        NameTurner ring = with("2", "1");
        link(ring, 0, "2");
        plan(ring, "#>%1");
        ring.go(1);
        a.due("at its spare name", ring.linkOf(0, 1), 0);
        ring.remove(0);
        a.due("no more there", ring.linkOf(0, 1), NONE);
    }

    private static void linkBytes(Answers a) {
        a.sentence("Promise 21: linkOf", "2 bytes of its NAME,");
        NameTurner x = new NameTurner();
        for (int n = 1; n <= 12; n++) {
            link(x, 0, "abcdefghijkl".substring(0, n));
            a.due(n + " bytes", x.linkOf(n - 1, 2), n);
        }
        NameTurner ring = new NameTurner();
        for (int i = 0; i < 10; i++) {
            file(ring, 1, "n" + i);
        }
        file(ring, 0, "2");
        file(ring, 0, "1");
        link(ring, 0, "2");
        plan(ring, "#>%1");
        ring.go(1);
        a.due("at a spare name of two figures", ring.linkOf(0, 2), 3);
        a.due("it", linkOf(ring, 0), "0/~10");
    }

    private static void linkName(Answers a) {
        a.sentence("Promise 21: linkOf", "10 and i byte i of that.");
        NameTurner x = new NameTurner();
        link(x, 0, "aZ09.-_bcdef");
        for (int i = 0; i < 12; i++) {
            a.due("byte " + i, x.linkOf(0, 10 + i), "aZ09.-_bcdef".charAt(i));
        }
        a.due("no byte 12", x.linkOf(0, 22), NONE);
        link(x, 0, "b");
        a.due("byte 0 of one", x.linkOf(1, 10), 'b');
        a.due("no byte 1 of one", x.linkOf(1, 11), NONE);
    }

    private static void linkOfNone(Answers a) {
        a.sentence("Promise 21: linkOf", "NONE for others.");
        NameTurner x = with("ab");
        for (int n : NUMBERS) {
            a.due("no links: " + n, x.linkOf(n, 0), NONE);
        }
        link(x, 0, "ab");
        link(x, 1, "cd");
        for (int n : NUMBERS) {
            if (n != 0 && n != 1) {
                a.due("link " + n, x.linkOf(n, 0), NONE);
                a.due("link " + n, x.linkOf(n, 10), NONE);
            }
            if (n != 0 && n != 1 && n != 2 && n != 10 && n != 11) {
                a.due("what " + n, x.linkOf(0, n), NONE);
            }
        }
    }

    private static void ofFolder(Answers a) {
        a.sentence("Promise 22: of", "Of a FILE what 0 its FOLDER,");
        NameTurner x = new NameTurner();
        for (int i = 0; i < 40; i++) {
            file(x, i % 6, "n" + i);
        }
        for (int i = 0; i < 40; i++) {
            a.due("file " + i, x.of(i, 0), i % 6);
        }
        hand(x, 39, 5, "q");
        a.due("as it is now", x.of(39, 0), 5);
    }

    private static void ofBytes(Answers a) {
        a.sentence("Promise 22: of", "1 bytes of its NAME,");
        NameTurner x = new NameTurner();
        for (int n = 1; n <= 12; n++) {
            file(x, 0, "abcdefghijkl".substring(0, n));
            a.due(n + " bytes", x.of(n - 1, 1), n);
        }
        hand(x, 11, 0, "z");
        a.due("fewer now", x.of(11, 1), 1);
        NameTurner ring = planned(with("2", "1"), "#>%1");
        ring.go(1);
        a.due("of a spare name", ring.of(0, 1), 2);
    }

    private static void ofSpare(Answers a) {
        a.sentence("Promise 22: of", "2 whether it has a SPARE NAME (1, 0),");
        NameTurner x = planned(with("2", "1"), "#>%1");
        int[] due = {0, 1, 1, 0};
        for (int done = 0; done <= 3; done++) {
            a.due("the spared one with " + done, x.of(0, 2), due[done]);
            a.due("the other one with " + done, x.of(1, 2), 0);
            x.go(1);
        }
        x.back(1);
        a.due("back", x.of(0, 2), 1);
        x.back(2);
        a.due("all the way back", x.of(0, 2), 0);
    }

    private static void ofName(Answers a) {
        a.sentence("Promise 22: of", "10 and i byte i of its NAME.");
        NameTurner x = with("aZ09.-_bcdef", "b");
        for (int i = 0; i < 12; i++) {
            a.due("byte " + i, x.of(0, 10 + i), "aZ09.-_bcdef".charAt(i));
        }
        a.due("byte 0 of one", x.of(1, 10), 'b');
        NameTurner ring = planned(with("2", "1"), "#>%1");
        ring.go(1);
        a.due("~", ring.of(0, 10), '~');
        a.due("its number", ring.of(0, 11), '0');
    }

    private static void ofThrows(Answers a) {
        a.sentence("Promise 22: of", "NoSuchElementException: no such FILE (any more), what.");
        NameTurner x = with("ab", "c", "abcdefghijkl");
        x.remove(1);
        for (int n : NUMBERS) {
            if (n != 0 && n != 2) {
                for (int what : new int[] {0, 1, 2, 3, 10}) {
                    a.dueThrows(x, n, what);
                }
            }
            if (n != 0 && n != 1 && n != 2 && n != 10 && n != 11) {
                a.dueThrows(x, 0, n);
            }
        }
        for (int what = 3; what < 64; what++) {
            if (what < 10 || what > 11) {
                a.dueThrows(x, 0, what);
            }
            if (what < 10 || what > 21) {
                a.dueThrows(x, 2, what);
            }
        }
        hand(x, 2, 0, "z");
        a.dueThrows(x, 2, 11);
        a.dueThrows(new NameTurner(), 0, 0);
        a.due("a throw leaves all as it is", of(x, 0), "0/ab");
    }

    private static void countCame(Answers a) {
        a.sentence("Promise 23: count", "what 0 FILES that came,");
        NameTurner x = new NameTurner();
        for (int i = 0; i < 42; i++) {
            a.due("with " + i, x.count(0), Math.min(i, 40));
            file(x, 0, "n" + i);
            x.remove(i - 1);
        }
        file(x, 6, "q");
        a.due("a refused one didn't", x.count(0), 40);
    }

    private static void countAre(Answers a) {
        a.sentence("Promise 23: count", "1 that are,");
        NameTurner x = new NameTurner();
        for (int i = 0; i < 40; i++) {
            a.due("with " + i, x.count(1), i);
            file(x, 0, "n" + i);
        }
        for (int i = 39; i >= 0; i--) {
            a.due("with " + (i + 1), x.count(1), i + 1);
            x.remove(i);
            x.remove(i);
        }
        a.due("none is", x.count(1), 0);
    }

    private static void countFolds(Answers a) {
        a.sentence("Promise 23: count", "2 whether it FOLDS (1, 0),");
        NameTurner x = new NameTurner();
        a.due("at first", x.count(2), 0);
        x.folds(true);
        a.due("it does", x.count(2), 1);
        file(x, 0, "a");
        x.folds(false);
        a.due("a refused change", x.count(2), 1);
        x.remove(0);
        x.folds(false);
        a.due("it doesn't", x.count(2), 0);
    }

    private static void countTape(Answers a) {
        a.sentence("Promise 23: count", "3 bytes of the TAPE,");
        for (int n = 0; n <= 80; n++) {
            a.due("with " + n, tape(new NameTurner(), "a".repeat(n)).count(3), n);
        }
        NameTurner x = tape(new NameTurner(), "a".repeat(80));
        x.rule();
        a.due("behind rule()", x.count(3), 0);
    }

    private static void countPlanned(Answers a) {
        a.sentence("Promise 23: count", "4 planned ones,");
        NameTurner x = new NameTurner();
        a.due("no plan", x.count(4), 0);
        for (int i = 1; i <= 40; i++) {
            file(x, 0, "n" + i);
            plan(x, "*>$1");
            a.due("with " + i, x.count(4), i);
        }
        x.remove(0);
        a.due("the plan as it was made", x.count(4), 40);
        plan(x, "*>$1");
        a.due("planned anew", x.count(4), 39);
    }

    private static void countTrouble(Answers a) {
        a.sentence("Promise 23: count", "5 those with TROUBLE,");
        NameTurner x = with("b", "bb", "bbb", "c");
        a.due("no plan", x.count(5), 0);
        plan(x, "b*>$1");
        a.due("1, 3 with it, and one that is free to go", x.count(5), 2);
        plan(x, "b*>c");
        a.due("all three", x.count(5), 3);
        plan(x, "bb>c");
        a.due("one", x.count(5), 1);
        plan(x, "b*>d$1");
        a.due("none", x.count(5), 0);
        NameTurner all = new NameTurner();
        for (int i = 0; i < 40; i++) {
            file(all, 0, "n" + i);
        }
        plan(all, "*>x");
        a.due("all 40", all.count(5), 40);
    }

    private static void countDone(Answers a) {
        a.sentence("Promise 23: count", "6 STEPS done,");
        NameTurner x = with("2", "1");
        a.due("no plan", x.count(6), 0);
        plan(x, "#>%1");
        for (int done = 0; done <= 3; done++) {
            a.due("with " + done, x.count(6), done);
            x.go(1);
        }
        a.due("all, and no more", x.count(6), 3);
        for (int done = 3; done >= 0; done--) {
            a.due("back with " + done, x.count(6), done);
            x.back(1);
        }
        x.go(3);
        plan(x, "#>x$1");
        a.due("of a new plan", x.count(6), 0);
    }

    private static void countLinks(Answers a) {
        a.sentence("Promise 23: count", "7 LINKS,");
        NameTurner x = new NameTurner();
        for (int i = 0; i < 32; i++) {
            a.due("with " + i, x.count(7), Math.min(i, 30));
            link(x, 0, "a");
        }
    }

    private static void countUnderWay(Answers a) {
        a.sentence("Promise 23: count", "8 whether a PLAN is under way (1, 0),");
        NameTurner x = with("2", "1");
        a.due("no plan", x.count(8), 0);
        plan(x, "#>%1");
        int[] due = {0, 1, 1, 0};
        for (int done = 0; done <= 3; done++) {
            a.due("with " + done, x.count(8), due[done]);
            x.go(1);
        }
        for (int done = 3; done >= 0; done--) {
            a.due("back with " + done, x.count(8), due[done]);
            x.back(1);
        }
    }

    private static void countSpare(Answers a) {
        a.sentence("Promise 23: count", "9 FILES that have a SPARE NAME now.");
        NameTurner x = with("2", "1", "4", "3");
        plan(x, "#>%1");
        int[] due = {0, 1, 1, 0, 1, 1, 0};
        for (int done = 0; done <= 6; done++) {
            a.due("with " + done, x.count(9), due[done]);
            x.go(1);
        }
        x.back(1);
        a.due("back", x.count(9), 1);
        hand(x, 2, 0, "q");
        a.due("by hand it has none", x.count(9), 0);
        NameTurner y = planned(with("2", "1"), "#>%1");
        y.go(1);
        y.remove(0);
        a.due("one that is no more has none", y.count(9), 0);
    }

    private static void countNone(Answers a) {
        a.sentence("Promise 23: count", "NONE for others.");
        NameTurner x = with("a");
        for (int n : NUMBERS) {
            if (n < 0 || n > 9) {
                a.due("count(" + n + ")", x.count(n), NONE);
            }
        }
    }
}
