/** Promises 12 to 19: plans, their steps, going and coming back, being stuck. */
final class PlanCallSentences extends Calls {
    static void all(Answers a) {
        plan(a);
        startAndStep(a);
        planNone(a);
        planUnderWay(a);
        plannedFile(a);
        plannedTrouble(a);
        plannedWith(a);
        plannedFolder(a);
        plannedLength(a);
        plannedStays(a);
        plannedCounter(a);
        plannedNone(a);
        newName(a);
        newNameNone(a);
        steps(a);
        stepsNone(a);
        stepsTrouble(a);
        stepFile(a);
        stepToSpare(a);
        stepFromSpare(a);
        stepNone(a);
        go(a);
        goNone(a);
        back(a);
        backNone(a);
        stuckByLatest(a);
        stuckNot(a);
        stuckGone(a);
        stuckElsewhere(a);
        stuckTaken(a);
    }

    private static void plan(Answers a) {
        a.sentence("Promise 12: plan", "A PLAN by the RULE for a FOLDER, to another one or the same: how many FILES are planned.");
        for (int from = 0; from <= 5; from++) {
            for (int to = 0; to <= 5; to++) {
                NameTurner x = new NameTurner();
                rule(x, "*>$1x");
                a.due("none", x.plan(from, to, 0, 1, false), 0);
                for (int n = 1; n <= 3; n++) {
                    file(x, from, "n" + n);
                    a.due(n + " from " + from + " to " + to, x.plan(from, to, 0, 1, n == 2), n);
                    a.due("how many", x.count(4), n);
                }
                x.go(3);
                a.due("there it lies", of(x, 0), to + "/n1x");
            }
        }
        NameTurner y = planned(with("a", "b"), "?>x");
        a.due("with trouble they are planned too", y.count(4), 2);
        a.due("the next plan takes its place", plan(y, "a>x"), 1);
        a.due("how many", y.count(4), 1);
        a.due("with trouble", y.count(5), 0);
    }

    private static void startAndStep(Answers a) {
        a.sentence("Promise 12: plan", "START 0 to 999, STEP 1 to 99.");
        NameTurner x = with("a", "b");
        rule(x, "*>%4");
        for (int n : NUMBERS) {
            boolean isStart = n >= 0 && n <= 999;
            a.due("start " + n, x.plan(0, 0, n, 1, false), isStart ? 2 : NONE);
            if (isStart) {
                a.due("its first counter", x.planned(0, 6), n);
            }
            boolean isStep = n >= 1 && n <= 99;
            a.due("step " + n, x.plan(0, 0, 0, n, false), isStep ? 2 : NONE);
            if (isStep) {
                a.due("its second counter", x.planned(1, 6), n);
            }
        }
    }

    private static void planNone(Answers a) {
        a.sentence("Promise 12: plan", "NONE: other numbers, no RULE;");
        NameTurner none = with("a");
        a.due("no rule", none.plan(0, 0, 0, 1, false), NONE);
        rule(none, "a>");
        a.due("a text with a fault", none.plan(0, 0, 0, 1, false), NONE);
        a.due("no plan was made", none.steps(), NONE);
        a.due("none planned", none.count(4), 0);
        NameTurner x = planned(with("2", "1"), "#>%1");
        for (int done = 0; done <= 3; done++) {
            String before = state(x);
            for (int n : NUMBERS) {
                if (!isFolder(n)) {
                    a.due("folder " + n, x.plan(n, 0, 0, 1, false), NONE);
                    a.due("to " + n, x.plan(0, n, 0, 1, false), NONE);
                }
                if (n < 0 || n > 999) {
                    a.due("start " + n, x.plan(0, 0, n, 1, true), NONE);
                }
                if (n < 1 || n > 99) {
                    a.due("step " + n, x.plan(0, 0, 0, n, true), NONE);
                }
            }
            a.due("the plan before holds", state(x), before);
            x.go(1);
        }
    }

    private static void planUnderWay(Answers a) {
        a.sentence("Promise 12: plan", "-2 a PLAN is under way.");
        NameTurner x = planned(with("2", "1"), "#>%1");
        x.go(1);
        String before = state(x);
        for (int folder = 0; folder <= 5; folder++) {
            a.due("of folder " + folder, x.plan(folder, 5 - folder, 0, 1, true), -2);
        }
        a.due("nothing changed", state(x), before);
        x.go(1);
        a.due("two of three", x.plan(0, 0, 1, 1, false), -2);
        x.go(1);
        a.due("three of three", x.plan(0, 0, 1, 1, false), 2);
        a.due("none done of the new one", x.count(6), 0);
        NameTurner y = planned(with("a", "b"), "?>$1$1");
        y.remove(0);
        y.go(2);
        a.due("stuck before the first", y.plan(0, 0, 1, 1, false), 1);
        NameTurner z = planned(with("a", "b"), "?>$1$1");
        z.remove(1);
        z.go(2);
        a.due("stuck behind the first", z.plan(0, 0, 1, 1, false), -2);
        z.back(1);
        a.due("taken back", z.plan(0, 0, 1, 1, false), 1);
    }

    /** Three planned ones of five files: 1, 3 and 4, with counters 7, 9 and 11, to folder 2. */
    private static NameTurner three() {
        NameTurner x = with("q", "a1", "r", "a12", "a123");
        rule(x, "a#>n$1");
        x.plan(0, 2, 7, 2, false);
        return x;
    }

    private static void plannedFile(Answers a) {
        a.sentence("Promise 13: planned", "Of the k-th one planned what 0 its FILE,");
        NameTurner x = three();
        a.due("the first", x.planned(0, 0), 1);
        a.due("the second", x.planned(1, 0), 3);
        a.due("the last", x.planned(2, 0), 4);
        x.remove(3);
        a.due("though it is no more", x.planned(1, 0), 3);
        x.plan(0, 2, 7, 2, true);
        a.due("planned anew", x.planned(1, 0), 4);
    }

    private static void plannedTrouble(Answers a) {
        a.sentence("Promise 13: planned", "1 TROUBLE (0 none),");
        NameTurner x = with("ac", "c", "bc", "dd");
        plan(x, "*c>$1");
        a.due("none", x.planned(0, 1), 0);
        a.due("1", x.planned(1, 1), 1);
        a.due("none", x.planned(2, 1), 0);
        file(x, 0, "a");
        plan(x, "*c>$1");
        a.due("3", x.planned(0, 1), 3);
        plan(x, "?c>x");
        a.due("2", x.planned(0, 1), 2);
        a.due("2", x.planned(1, 1), 2);
    }

    private static void plannedWith(Answers a) {
        a.sentence("Promise 13: planned", "2 with which FILE (2, 3; else NONE),");
        NameTurner x = with("ac", "c", "bc", "dd");
        plan(x, "*c>$1");
        a.due("without trouble", x.planned(0, 2), NONE);
        a.due("1 is with none", x.planned(1, 2), NONE);
        file(x, 0, "a");
        plan(x, "*c>$1");
        a.due("3 is with the one that lies there", x.planned(0, 2), 4);
        plan(x, "?c>x");
        a.due("2 is with the other one", x.planned(0, 2), 2);
        a.due("2 is with the first one", x.planned(1, 2), 0);
        plan(x, "?c>$1$1");
        a.due("none again", x.planned(0, 2), NONE);
    }

    private static void plannedFolder(Answers a) {
        a.sentence("Promise 13: planned", "3 its new FOLDER,");
        NameTurner x = with("a");
        rule(x, "*>$1");
        for (int to = 0; to <= 5; to++) {
            x.plan(0, to, 0, 1, false);
            a.due("to " + to, x.planned(0, 3), to);
        }
        rule(x, "a*>$1");
        x.plan(0, 4, 0, 1, false);
        a.due("in trouble", x.planned(0, 1) * 10 + x.planned(0, 3), 14);
    }

    private static void plannedLength(Answers a) {
        a.sentence("Promise 13: planned", "4 how many bytes its new NAME has (also above 12),");
        for (int n = 1; n <= 12; n++) {
            for (int times = 1; times <= 12; times++) {
                NameTurner x = planned(with("abcdefghijkl".substring(0, n)), "*>" + "$1".repeat(times));
                a.due(n + " bytes " + times + " times", x.planned(0, 4), n * times);
            }
        }
        NameTurner none = planned(with("a"), "a*>$1");
        a.due("empty", none.planned(0, 4), 0);
    }

    private static void plannedStays(Answers a) {
        a.sentence("Promise 13: planned", "5 whether it STAYS (1, 0),");
        NameTurner x = planned(with("1", "3"), "#>%1");
        a.due("it does", x.planned(0, 5), 1);
        a.due("it doesn't", x.planned(1, 5), 0);
        x.go(1);
        a.due("as it was planned, though it is there now", x.planned(1, 5), 0);
        plan(x, "#>%1");
        a.due("planned anew it does", x.planned(1, 5), 1);
        NameTurner empty = planned(with("a"), "a*>$1");
        a.due("one in trouble doesn't", empty.planned(0, 5), 0);
    }

    private static void plannedCounter(Answers a) {
        a.sentence("Promise 13: planned", "6 its COUNTER.");
        NameTurner x = three();
        a.due("the first", x.planned(0, 6), 7);
        a.due("the second", x.planned(1, 6), 9);
        a.due("the last", x.planned(2, 6), 11);
        x.plan(0, 0, 999, 99, false);
        a.due("above 999", x.planned(2, 6), 1197);
        x.plan(0, 0, 0, 1, false);
        a.due("0", x.planned(0, 6), 0);
    }

    private static void plannedNone(Answers a) {
        a.sentence("Promise 13: planned", "NONE for others.");
        NameTurner none = with("a");
        for (int what = -1; what <= 7; what++) {
            a.due("no plan", none.planned(0, what), NONE);
        }
        plan(none, "q>r");
        a.due("a plan of none", none.planned(0, 0), NONE);
        NameTurner x = three();
        for (int n : NUMBERS) {
            for (int what = 0; what <= 6; what++) {
                if (n < 0 || n > 2) {
                    a.due("planned(" + n + ", " + what + ")", x.planned(n, what), NONE);
                }
            }
            if (n < 0 || n > 6) {
                a.due("what " + n, x.planned(0, n), NONE);
            }
        }
        plan(x, "a#>x%1");
        plan(x, "a1>y");
        a.due("those of an earlier plan", x.planned(1, 0), NONE);
    }

    private static void newName(Answers a) {
        a.sentence("Promise 14: newName", "Byte i of its new NAME (the first 12 are told);");
        NameTurner x = planned(with("abcdefghijkl", "mnop"), "*>$1$1");
        for (int i = 0; i < 12; i++) {
            a.due("byte " + i + " of 24", x.newName(0, i), 'a' + i);
        }
        a.due("byte 12 of 24", x.newName(0, 12), NONE);
        for (int i = 0; i < 8; i++) {
            a.due("byte " + i + " of 8", x.newName(1, i), "mnopmnop".charAt(i));
        }
        NameTurner all = planned(with("a"), "*>aZ09.-_bcd12");
        a.due("12 of 12", newName(all, 0), "aZ09.-_bcd12");
        a.due("no 13th", all.newName(0, 12), NONE);
        NameTurner most = planned(with("abcdefghijkl"), "*>" + "$1".repeat(12));
        a.due("12 of 144", newName(most, 0), "abcdefghijkl");
    }

    private static void newNameNone(Answers a) {
        a.sentence("Promise 14: newName", "NONE.");
        NameTurner none = with("a");
        a.due("no plan", none.newName(0, 0), NONE);
        NameTurner empty = planned(with("a", "ab"), "a*>$1");
        a.due("an empty one", empty.newName(0, 0), NONE);
        a.due("one byte", empty.newName(1, 0), 'b');
        a.due("no second", empty.newName(1, 1), NONE);
        for (int n : NUMBERS) {
            if (n != 0) {
                a.due("byte " + n, empty.newName(1, n), NONE);
            }
            if (n != 0 && n != 1) {
                a.due("the one at " + n, empty.newName(n, 0), NONE);
            }
        }
    }

    private static void steps(Answers a) {
        a.sentence("Promise 15: steps", "How many STEPS.");
        a.due("of no files", planned(with(), "*>x").steps(), 0);
        a.due("all stay", planned(with("a", "b"), "*>$1").steps(), 0);
        a.due("one", planned(with("a"), "*>x").steps(), 1);
        a.due("two", planned(with("a", "b"), "*>$1x").steps(), 2);
        a.due("a ring of two", planned(with("2", "1"), "#>%1").steps(), 3);
        NameTurner x = new NameTurner();
        for (char c = 'b'; c <= 'u'; c++) {
            file(x, 0, "a" + c);
            file(x, 0, c + "a");
        }
        plan(x, "??>$2$1");
        a.due("40 in twenty rings: the most there are", x.steps(), 60);
        x.go(7);
        a.due("those done count too", x.steps(), 60);
        NameTurner one = new NameTurner();
        for (int i = 0; i < 40; i++) {
            file(one, 0, "" + (i + 1) % 40);
        }
        rule(one, "#>%1");
        one.plan(0, 0, 0, 1, false);
        a.due("40 in one ring", one.steps(), 41);
        a.due("they can be done", one.go(99), 41);
        a.due("the last one", of(one, 39), "0/39");
        a.due("and taken back", one.back(99), 41);
        a.due("the last one", of(one, 39), "0/0");
    }

    private static void stepsNone(Answers a) {
        a.sentence("Promise 15: steps", "NONE: no PLAN;");
        NameTurner x = with("a");
        a.due("a new object", x.steps(), NONE);
        rule(x, "a>b");
        a.due("a rule is no plan", x.steps(), NONE);
        x.plan(6, 0, 0, 1, false);
        a.due("a refused one is none", x.steps(), NONE);
        x.plan(1, 0, 0, 1, false);
        a.due("one of no files is one", x.steps(), 0);
    }

    private static void stepsTrouble(Answers a) {
        a.sentence("Promise 15: steps", "-2 some have TROUBLE.");
        a.due("1", planned(with("a"), "a*>$1").steps(), -2);
        a.due("1 of one among two", planned(with("a", "ab"), "a*>$1").steps(), -2);
        a.due("2", planned(with("a", "b"), "?>x").steps(), -2);
        a.due("3", planned(with("a", "b"), "a>b").steps(), -2);
        NameTurner x = planned(with("a", "b"), "a>b");
        x.remove(1);
        a.due("though its cause is no more", x.steps(), -2);
        x.plan(0, 0, 1, 1, false);
        a.due("planned anew", x.steps(), 1);
    }

    private static void stepFile(Answers a) {
        a.sentence("Promise 16: step", "Of STEP i what 0 its FILE,");
        NameTurner x = planned(with("2", "3", "1", "9"), "#>%1");
        int[] due = {3, 0, 1, 2, 0};
        for (int i = 0; i < 5; i++) {
            a.due("step " + i, x.step(i, 0), due[i]);
        }
        x.go(5);
        x.remove(3);
        a.due("done, and its file is no more", x.step(0, 0), 3);
    }

    private static void stepToSpare(Answers a) {
        a.sentence("Promise 16: step", "1 whether it goes to a SPARE NAME (1, 0),");
        NameTurner x = planned(with("2", "3", "1", "9"), "#>%1");
        int[] due = {0, 1, 0, 0, 0};
        for (int i = 0; i < 5; i++) {
            a.due("step " + i, x.step(i, 1), due[i]);
        }
        rule(x, "#>x$1");
        x.plan(0, 0, 1, 1, false);
        for (int i = 0; i < 4; i++) {
            a.due("none of another plan", x.step(i, 1), 0);
        }
    }

    private static void stepFromSpare(Answers a) {
        a.sentence("Promise 16: step", "2 whether it comes from one.");
        NameTurner x = planned(with("2", "3", "1", "9"), "#>%1");
        int[] due = {0, 0, 0, 0, 1};
        for (int i = 0; i < 5; i++) {
            a.due("step " + i, x.step(i, 2), due[i]);
        }
        rule(x, "#>x$1");
        x.plan(0, 0, 1, 1, false);
        for (int i = 0; i < 4; i++) {
            a.due("none of another plan", x.step(i, 2), 0);
        }
    }

    private static void stepNone(Answers a) {
        a.sentence("Promise 16: step", "NONE for others.");
        NameTurner x = with("a", "b", "c");
        for (int what = -1; what <= 3; what++) {
            a.due("no plan", x.step(0, what), NONE);
        }
        plan(x, "?>x");
        for (int what = -1; what <= 3; what++) {
            a.due("with trouble", x.step(0, what), NONE);
        }
        NameTurner one = planned(with("b", "bb", "c"), "b*>c$1");
        a.due("one of two has trouble", one.count(5), 1);
        for (int what = -1; what <= 3; what++) {
            a.due("with trouble of one", one.step(0, what), NONE);
        }
        plan(x, "?>$1x");
        for (int n : NUMBERS) {
            for (int what = 0; what <= 2; what++) {
                if (n < 0 || n > 2) {
                    a.due("step " + n, x.step(n, what), NONE);
                }
            }
            if (n < 0 || n > 2) {
                a.due("what " + n, x.step(2, n), NONE);
            }
        }
        plan(x, "a>z");
        a.due("those of an earlier plan", x.step(1, 0), NONE);
    }

    private static void go(Answers a) {
        a.sentence("Promise 17: go", "Up to n STEPS more are done: how many.");
        for (int n = 0; n <= 5; n++) {
            NameTurner x = planned(with("a", "b", "c"), "?>$1$1");
            a.due("go(" + n + ") of three", x.go(n), Math.min(n, 3));
            a.due("done", x.count(6), Math.min(n, 3));
            a.due("go(" + n + ") more", x.go(n), Math.min(n, 3 - Math.min(n, 3)));
        }
        NameTurner x = planned(with("a", "b", "c"), "?>$1$1");
        a.due("the greatest number", x.go(Integer.MAX_VALUE), 3);
        a.due("again", x.go(Integer.MAX_VALUE), 0);
        a.due("the last one", of(x, 2), "0/cc");
        NameTurner none = planned(with("a"), "?>$1");
        a.due("of none", none.go(5), 0);
        NameTurner stuck = planned(with("a", "b", "c"), "?>$1$1");
        stuck.remove(1);
        a.due("up to where it is stuck", stuck.go(3), 1);
    }

    private static void goNone(Answers a) {
        a.sentence("Promise 17: go", "NONE: n below 0, no PLAN, some have TROUBLE.");
        NameTurner x = with("a", "b");
        for (int n : NUMBERS) {
            a.due("no plan: go(" + n + ")", x.go(n), NONE);
        }
        plan(x, "?>x");
        for (int n : NUMBERS) {
            a.due("with trouble: go(" + n + ")", x.go(n), NONE);
        }
        plan(x, "?>$1$1");
        String before = state(x);
        for (int n : NUMBERS) {
            if (n < 0) {
                a.due("go(" + n + ")", x.go(n), NONE);
            }
        }
        a.due("nothing changed", state(x), before);
        a.due("go(0) is none of these", x.go(0), 0);
    }

    private static void back(Answers a) {
        a.sentence("Promise 18: back", "Up to n STEPS are taken back, the latest first: how many.");
        for (int n = 0; n <= 5; n++) {
            NameTurner x = planned(with("a", "b", "c"), "?>$1$1");
            a.due("nothing is done", x.back(n), 0);
            x.go(3);
            a.due("back(" + n + ") of three", x.back(n), Math.min(n, 3));
            a.due("done", x.count(6), 3 - Math.min(n, 3));
            a.due("the first", of(x, 0), n >= 3 ? "0/a" : "0/aa");
            a.due("the last", of(x, 2), n >= 1 ? "0/c" : "0/cc");
        }
        NameTurner x = planned(with("2", "1"), "#>%1");
        x.go(2);
        a.due("the greatest number", x.back(Integer.MAX_VALUE), 2);
        a.due("again", x.back(Integer.MAX_VALUE), 0);
        a.due("as at first", of(x, 0), "0/2");
        a.due("and on", x.go(3), 3);
        a.due("one back", x.back(1), 1);
        a.due("to its spare name", of(x, 0), "0/~0");
        a.due("and forth", x.go(1), 1);
        NameTurner other = planned(with("a"), "?>$1$1");
        other.go(1);
        plan(other, "*>$1$1");
        a.due("those of an earlier plan are not taken back", other.back(1), 0);
        a.due("it stays there", of(other, 0), "0/aa");
    }

    private static void backNone(Answers a) {
        a.sentence("Promise 18: back", "NONE likewise.");
        NameTurner x = with("a", "b");
        for (int n : NUMBERS) {
            a.due("no plan: back(" + n + ")", x.back(n), NONE);
        }
        plan(x, "?>x");
        for (int n : NUMBERS) {
            a.due("with trouble: back(" + n + ")", x.back(n), NONE);
        }
        plan(x, "?>$1$1");
        x.go(2);
        String before = state(x);
        for (int n : NUMBERS) {
            if (n < 0) {
                a.due("back(" + n + ")", x.back(n), NONE);
            }
        }
        a.due("nothing changed", state(x), before);
        a.due("back(0) is none of these", x.back(0), 0);
    }

    private static void stuckByLatest(Answers a) {
        a.sentence("Promise 19: stuck", "By the latest go() or back() that was not NONE:");
        NameTurner x = planned(with("a", "b"), "?>$1$1");
        a.due("before any", x.stuck(), 0);
        x.remove(1);
        x.go(2);
        a.due("stuck", x.stuck(), 1);
        a.due("asked again", x.stuck(), 1);
        x.go(-1);
        a.due("go() that was NONE", x.stuck(), 1);
        x.back(-1);
        a.due("back() that was NONE", x.stuck(), 1);
        x.back(1);
        a.due("back() that wasn't", x.stuck(), 0);
        x.go(2);
        a.due("go() that wasn't", x.stuck(), 1);
        a.due("a plan that is refused", x.plan(0, 0, 1, 1, false), -2);
        a.due("leaves it", x.stuck(), 1);
        NameTurner y = planned(with("a"), "a>b");
        y.remove(0);
        y.go(1);
        file(y, 0, "a");
        plan(y, "a>b");
        a.due("a new plan leaves it", y.stuck(), 1);
        file(y, 0, "b");
        plan(y, "a>b");
        a.due("go() in trouble is NONE", y.go(1), NONE);
        a.due("and leaves it", y.stuck(), 1);
    }

    private static void stuckNot(Answers a) {
        a.sentence("Promise 19: stuck", "0 it wasn't STUCK,");
        NameTurner x = planned(with("a", "b"), "?>$1$1");
        x.remove(1);
        x.go(1);
        a.due("it stopped ahead of it", x.stuck(), 0);
        x.go(1);
        a.due("it is stuck", x.stuck(), 1);
        x.go(0);
        a.due("go(0) tries none", x.stuck(), 0);
        x.go(1);
        x.back(0);
        a.due("back(0) tries none", x.stuck(), 0);
        x.go(1);
        x.back(1);
        a.due("one back", x.stuck(), 0);
        x.back(1);
        a.due("none to take back", x.stuck(), 0);
        NameTurner y = planned(with("a"), "?>$1$1");
        y.go(1);
        y.remove(0);
        y.go(1);
        a.due("none to do", y.stuck(), 0);
    }

    private static void stuckGone(Answers a) {
        a.sentence("Promise 19: stuck", "1 the FILE is no more,");
        NameTurner x = planned(with("a"), "a>b");
        x.remove(0);
        a.due("go", x.go(1), 0);
        a.due("stuck", x.stuck(), 1);
        file(x, 0, "b");
        x.go(1);
        a.due("ahead of 3", x.stuck(), 1);
        NameTurner y = planned(with("a"), "a>b");
        y.go(1);
        hand(y, 0, 0, "c");
        y.remove(0);
        a.due("back", y.back(1), 0);
        a.due("ahead of 2", y.stuck(), 1);
    }

    private static void stuckElsewhere(Answers a) {
        a.sentence("Promise 19: stuck", "2 it isn't where it was,");
        NameTurner x = planned(with("a"), "a>b");
        hand(x, 0, 1, "a");
        a.due("go", x.go(1), 0);
        a.due("another folder", x.stuck(), 2);
        file(x, 0, "b");
        x.go(1);
        a.due("ahead of 3", x.stuck(), 2);
        NameTurner y = planned(folding("a"), "a>b");
        y.go(1);
        hand(y, 0, 0, "B");
        a.due("back", y.back(1), 0);
        a.due("other letters", y.stuck(), 2);
        NameTurner ring = planned(with("2", "1"), "#>%1");
        ring.go(2);
        hand(ring, 0, 0, "1");
        a.due("from its spare name to where it goes", ring.go(1), 0);
        a.due("stuck", ring.stuck(), 2);
        a.due("so the other one can't go back", ring.back(2), 0);
        a.due("for it lies there", ring.stuck(), 3);
    }

    private static void stuckTaken(Answers a) {
        a.sentence("Promise 19: stuck", "3 another FILE lies where it goes.");
        NameTurner x = planned(with("a"), "a>b");
        file(x, 0, "b");
        a.due("go", x.go(1), 0);
        a.due("stuck", x.stuck(), 3);
        hand(x, 1, 0, "B");
        a.due("not folding it isn't alike", x.go(1), 1);
        file(x, 0, "a");
        a.due("back", x.back(1), 0);
        a.due("stuck", x.stuck(), 3);
        x.remove(2);
        a.due("it is no more", x.back(1), 1);
        NameTurner y = planned(folding("a"), "a>b");
        file(y, 0, "B");
        y.go(1);
        a.due("alike", y.stuck(), 3);
        NameTurner z = new NameTurner();
        file(z, 0, "a");
        rule(z, "a>b");
        z.plan(0, 3, 0, 1, false);
        file(z, 0, "b");
        a.due("in another folder than it goes to", z.go(1), 1);
    }
}
