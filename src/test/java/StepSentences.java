/** The terms: steps, spare names, being under way, being stuck, and the links that go along. */
final class StepSentences extends Calls {
    static void all(Answers a) {
        leastThatCanGo(a);
        spareNames(a);
        underWay(a);
        doneAsPlanned(a);
        stuckChangesNothing(a);
        takenBack(a);
        linksByStep(a);
        linksByHand(a);
    }

    /** The steps by a rule, with the counter from START on. */
    private static String stepsOf(NameTurner x, String rule, int start) {
        rule(x, rule);
        x.plan(0, 0, start, 1, false);
        return steps(x);
    }

    private static void leastThatCanGo(Answers a) {
        a.sentence("Terms", "STEPS of a PLAN without TROUBLE, in order: again and again the FILE with the least number that does"
                + " not STAY and isn't at its new PLACE yet, at which, as it is then, no other FILE lies alike, goes there;");
        a.due("no files", stepsOf(with(), "#>%1", 1), "");
        a.due("all free: by numbers", stepsOf(with("a", "b", "c"), "?>x$1", 1), "0 1 2");
        a.due("all stay", stepsOf(with("1", "2", "3"), "#>%1", 1), "");
        a.due("one stays", stepsOf(with("1", "5", "3"), "#>%1", 1), "1");
        a.due("each waits for the next", stepsOf(with("1", "2", "3"), "#>%1", 2), "2 1 0");
        a.due("each waits for the one ahead", stepsOf(with("2", "3", "4"), "#>%1", 1), "0 1 2");
        a.due("the least one again when it can go", stepsOf(with("1", "2", "9", "8"), "#>%1", 2), "1 0 2 3");
        NameTurner names = with("1", "2", "3");
        rule(names, "#>%1");
        names.plan(0, 0, 2, 1, true);
        a.due("by names the least number is first all the same", steps(names), "2 1 0");
        NameTurner free = with("c", "b", "a");
        rule(free, "?>x%1");
        free.plan(0, 0, 1, 1, true);
        a.due("by names, all free: by numbers", steps(free), "0 1 2");
        a.due("folding, alike is in the way", stepsOf(folding("A", "xa"), "*>x$1", 1), "1 0");
        a.due("not folding, it isn't", stepsOf(with("A", "xa"), "*>x$1", 1), "0 1");
        NameTurner self = folding("Ab", "Cd");
        a.due("its own letters are not in its way", stepsOf(self, "*>!1", 1), "0 1");
        NameTurner trouble = with("a", "b");
        plan(trouble, "?>x");
        a.due("with trouble there are none", trouble.step(0, 0), NONE);
    }

    private static void spareNames(Answers a) {
        a.sentence("Terms", "if there is none, but some are left, the one with the least number of those that are not SPARED goes"
                + " to its SPARE NAME: ~ and its number, in the FOLDER where it is (no other NAME has ~).");
        a.due("a ring of two", stepsOf(with("2", "1"), "#>%1", 1), "0~ 1 ~0");
        a.due("a ring of three", stepsOf(with("2", "3", "1"), "#>%1", 1), "0~ 1 2 ~0");
        a.due("the other way round", stepsOf(with("3", "1", "2"), "#>%1", 1), "0~ 2 1 ~0");
        a.due("two rings, one spare name each", stepsOf(with("2", "1", "4", "3"), "#>%1", 1), "0~ 1 ~0 2~ 3 ~2");
        a.due("rings that lie between one another", stepsOf(with("3", "4", "1", "2"), "#>%1", 1), "0~ 2 ~0 1~ 3 ~1");
        a.due("a free one first", stepsOf(with("2", "1", "5"), "#>%1", 1), "2 0~ 1 ~0");
        a.due("one that stays is no ring", stepsOf(with("1", "3", "2"), "#>%1", 1), "1~ 2 ~1");
        a.due("folding", stepsOf(folding("ab", "BA"), "??>$2$1", 1), "0~ 1 ~0");
        NameTurner x = new NameTurner();
        for (int i = 0; i < 40; i++) {
            file(x, 4, "n" + i);
        }
        for (int i : new int[] {0, 9, 10, 38}) {
            hand(x, i, 5, "2");
            hand(x, i + 1, 5, "1");
            rule(x, "#>%1");
            x.plan(5, 5, 1, 1, false);
            a.due("one to a spare name", x.go(1), 1);
            a.due("spare name of " + i, of(x, i), "5/~" + i);
            a.due("and from it", x.go(2), 2);
            a.due("new name of " + i, of(x, i), "5/1");
            hand(x, i, 4, "n" + i);
            hand(x, i + 1, 4, "n" + (i + 1));
        }
        hand(x, 39, 5, "1");
        a.due("file with ~", file(with("a"), 0, "~1"), NONE);
        a.due("hand with ~", hand(x, 39, 5, "~39"), NONE);
        a.due("link with ~", link(x, 5, "~39"), NONE);
        a.due("at with ~", at(x, 5, "~39"), NONE);
    }

    private static void underWay(Answers a) {
        a.sentence("Terms", "The PLAN is under way as long as some, but not all, of its STEPS are done.");
        NameTurner x = with("a", "b", "c");
        a.due("no plan", x.count(8), 0);
        plan(x, "?>$1$1");
        a.due("none of three", x.count(8), 0);
        int[] due = {1, 1, 0};
        for (int done = 1; done <= 3; done++) {
            x.go(1);
            a.due(done + " of three", x.count(8), due[done - 1]);
            a.due("another plan with " + done, x.plan(1, 1, 0, 1, false) == -2, due[done - 1] == 1);
            if (due[done - 1] == 0) {
                a.due("that one took its place", x.count(4), 0);
            }
        }
        NameTurner y = with("a", "b");
        plan(y, "?>$1$1");
        y.go(2);
        y.back(1);
        a.due("one taken back", y.count(8), 1);
        a.due("so there is no other plan", y.plan(0, 0, 1, 1, false), -2);
        y.back(1);
        a.due("all taken back", y.count(8), 0);
        a.due("so there is another one", y.plan(0, 0, 1, 1, false), 2);
        NameTurner one = with("a");
        plan(one, "?>$1$1");
        one.go(1);
        a.due("one of one", one.count(8), 0);
        plan(one, "q>r");
        a.due("none of none", one.count(8), 0);
        NameTurner gone = with("a", "b");
        plan(gone, "?>$1$1");
        gone.go(1);
        gone.remove(0);
        gone.remove(1);
        a.due("under way though its files are no more", gone.count(8), 1);
    }

    private static void doneAsPlanned(Answers a) {
        a.sentence("Terms", "A STEP is done as it was planned: the FILE is there still, its PLACE is just that from which it is to go,"
                + " and no other FILE lies alike where it goes;");
        NameTurner gone = planned(with("a"), "a>b");
        gone.remove(0);
        a.due("no more", gone.go(1) * 10 + gone.stuck(), 1);
        NameTurner other = planned(with("a"), "a>b");
        hand(other, 0, 0, "c");
        a.due("another name", other.go(1) * 10 + other.stuck(), 2);
        hand(other, 0, 1, "a");
        a.due("another folder", other.go(1) * 10 + other.stuck(), 2);
        hand(other, 0, 0, "b");
        a.due("where it goes already", other.go(1) * 10 + other.stuck(), 2);
        hand(other, 0, 0, "a");
        a.due("just there again", other.go(1) * 10 + other.stuck(), 10);
        NameTurner fold = planned(folding("a"), "a>b");
        hand(fold, 0, 0, "A");
        a.due("alike is not just there", fold.go(1) * 10 + fold.stuck(), 2);
        hand(fold, 0, 0, "a");
        file(fold, 0, "B");
        a.due("one lies alike", fold.go(1) * 10 + fold.stuck(), 3);
        hand(fold, 1, 1, "b");
        a.due("in another folder it doesn't", fold.go(1) * 10 + fold.stuck(), 10);
        NameTurner self = planned(folding("a"), "a>A");
        a.due("it itself is no other", self.go(1) * 10 + self.stuck(), 10);
        NameTurner ruled = planned(with("a"), "a>b");
        rule(ruled, "a>z");
        ruled.go(1);
        a.due("by the rule it was planned with", of(ruled, 0), "0/b");
        NameTurner came = planned(with("a"), "a>b");
        came.remove(0);
        file(came, 0, "a");
        a.due("another file where it lay is not it", came.go(1) * 10 + came.stuck(), 1);
    }

    private static void stuckChangesNothing(Answers a) {
        a.sentence("Terms", "else the PLAN is STUCK there (nothing changes).");
        for (int why = 1; why <= 3; why++) {
            NameTurner x = with("a", "b", "c");
            link(x, 0, "b");
            link(x, 0, "bb");
            plan(x, "?>$1$1");
            if (why == 1) {
                x.remove(1);
            } else if (why == 2) {
                hand(x, 1, 2, "b");
            } else {
                file(x, 0, "bb");
            }
            a.due("up to there", x.go(3), 1);
            a.due("why", x.stuck(), why);
            String there = state(x);
            a.due("there again", x.go(3), 0);
            a.due("nothing changed", state(x), there);
            a.due("one behind it is not done", of(x, 2), "0/c");
            a.due("one is done", x.count(6), 1);
            a.due("it is under way", x.count(8), 1);
        }
    }

    private static void takenBack(Answers a) {
        a.sentence("Terms", "Taken back likewise, the other way round.");
        for (int why = 0; why <= 3; why++) {
            NameTurner x = with("a", "b", "c");
            link(x, 0, "b");
            plan(x, "?>$1$1");
            x.go(3);
            if (why == 1) {
                x.remove(1);
            } else if (why == 2) {
                hand(x, 1, 2, "bb");
            } else if (why == 3) {
                file(x, 0, "b");
            }
            a.due("back", x.back(3), why == 0 ? 3 : 1);
            a.due("why", x.stuck(), why);
            a.due("done are", x.count(6), why == 0 ? 0 : 2);
            a.due("the last one is back", of(x, 2), "0/c");
            a.due("the first one", of(x, 0), why == 0 ? "0/a" : "0/aa");
            String there = state(x);
            a.due("again", x.back(3), 0);
            a.due("nothing changed", state(x), there);
        }
        NameTurner ring = planned(with("2", "3", "1"), "#>%1");
        String before = state(ring);
        a.due("a ring", ring.go(9), 4);
        a.due("its steps back", ring.back(9), 4);
        a.due("all as before", state(ring), before);
        NameTurner fold = planned(folding("a"), "a>A");
        fold.go(1);
        a.due("its own letters are not in its way", fold.back(1), 1);
        a.due("small again", of(fold, 0), "0/a");
        fold.go(1);
        hand(fold, 0, 0, "a");
        a.due("it isn't just where it went", fold.back(1) * 10 + fold.stuck(), 2);
    }

    private static void linksByStep(Answers a) {
        a.sentence("Terms", "Each STEP (both ways)");
        NameTurner x = with("2", "1");
        link(x, 0, "2");
        link(x, 0, "1");
        link(x, 1, "2");
        link(x, 0, "22");
        plan(x, "#>%1");
        String[][] due = {
            {"0/2", "0/1"}, {"0/~0", "0/1"}, {"0/~0", "0/2"}, {"0/1", "0/2"},
        };
        for (int done = 0; done <= 3; done++) {
            a.due("link 0 with " + done, linkOf(x, 0), due[done][0]);
            a.due("link 1 with " + done, linkOf(x, 1), due[done][1]);
            a.due("the file of link 0", x.linkOf(0, 1), 0);
            x.go(1);
        }
        for (int done = 3; done >= 0; done--) {
            a.due("back: link 0 with " + done, linkOf(x, 0), due[done][0]);
            a.due("back: link 1 with " + done, linkOf(x, 1), due[done][1]);
            x.back(1);
        }
        a.due("another folder", linkOf(x, 2), "1/2");
        a.due("a longer name", linkOf(x, 3), "0/22");
        x.go(1);
        hand(x, 0, 3, "q");
        a.due("by hand from a spare name", linkOf(x, 0), "3/q");
    }

    private static void linksByHand(Answers a) {
        a.sentence("Terms", "and each change by hand, takes LINKS with it: each LINK that is just the PLACE from which a FILE goes"
                + " becomes the one to which it goes.");
        NameTurner x = folding("a");
        for (int i = 0; i < 28; i++) {
            link(x, 0, "a");
        }
        link(x, 0, "A");
        link(x, 1, "a");
        hand(x, 0, 5, "bcdefghijklm");
        for (int i = 0; i < 28; i++) {
            a.due("link " + i, linkOf(x, i), "5/bcdefghijklm");
        }
        a.due("alike is not just there", linkOf(x, 28), "0/A");
        a.due("nor is another folder", linkOf(x, 29), "1/a");
        a.due("a hand that is refused", hand(x, 0, 6, "c"), NONE);
        a.due("takes none", linkOf(x, 0), "5/bcdefghijklm");
        file(x, 2, "c");
        a.due("a hand onto another one", hand(x, 0, 2, "C"), -3);
        a.due("takes none", linkOf(x, 0), "5/bcdefghijklm");
        a.due("a hand to its own place", hand(x, 0, 5, "bcdefghijklm"), 0);
        a.due("leaves it", linkOf(x, 0), "5/bcdefghijklm");
        a.due("a hand to its own place with capitals", hand(x, 0, 5, "BCDEFGHIJKLM"), 0);
        a.due("takes it", linkOf(x, 27), "5/BCDEFGHIJKLM");
        hand(x, 0, 0, "A");
        a.due("one that was there before", linkOf(x, 28), "0/A");
        hand(x, 0, 3, "z");
        a.due("goes along from then on", linkOf(x, 28), "3/z");
        x.remove(0);
        a.due("a file that is no more takes none", linkOf(x, 0), "3/z");
        NameTurner y = with("a", "b");
        link(y, 0, "c");
        hand(y, 0, 0, "c");
        hand(y, 0, 0, "d");
        a.due("a link to where none lay", linkOf(y, 0), "0/d");
    }
}
