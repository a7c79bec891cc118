/** The terms: a plan, its order and counter, and the trouble of each one planned. */
final class PlanSentences extends Calls {
    static void all(Answers a) {
        allThatFit(a);
        byNumbers(a);
        byNames(a);
        counterOfEach(a);
        newPlaces(a);
        firstTrouble(a);
        trouble1(a);
        trouble2(a);
        trouble3(a);
        stays(a);
    }

    private static String order(NameTurner x, boolean byNames) {
        int size = x.plan(0, 0, 0, 1, byNames);
        StringBuilder s = new StringBuilder();
        for (int k = 0; k < size; k++) {
            s.append(k == 0 ? "" : " ").append(x.planned(k, 0));
        }
        return s.toString();
    }

    private static String orderBy(String rule, boolean byNames, String... names) {
        NameTurner x = with(names);
        rule(x, rule);
        return order(x, byNames);
    }

    private static void allThatFit(Answers a) {
        a.sentence("Terms", "A PLAN: of one FOLDER all FILES whose NAMES FIT the RULE");
        NameTurner none = new NameTurner();
        a.due("no files", plan(none, "*>x"), 0);
        a.due("a plan all the same", none.steps(), 0);
        NameTurner x = with("a1", "b", "a2", "a");
        file(x, 1, "a3");
        file(x, 5, "a4");
        a.due("two fit", plan(x, "a#>%1"), 2);
        a.due("the first", x.planned(0, 0), 0);
        a.due("the second", x.planned(1, 0), 2);
        a.due("no third", x.planned(2, 0), NONE);
        a.due("folder 1", x.plan(1, 0, 0, 1, false), 1);
        a.due("folder 5", x.plan(5, 0, 0, 1, false), 1);
        a.due("its file", x.planned(0, 0), 5);
        a.due("folder 3", x.plan(3, 0, 0, 1, false), 0);
        a.due("none fits", plan(x, "q>x"), 0);
        x.remove(0);
        a.due("one is no more", plan(x, "a#>%1"), 1);
        hand(x, 4, 0, "a5");
        a.due("one came by hand", plan(x, "a#>%1"), 2);
        NameTurner full = new NameTurner();
        for (int i = 0; i < 40; i++) {
            file(full, 0, "n" + i);
        }
        a.due("all 40", plan(full, "*>x%2"), 40);
        a.due("the last", full.planned(39, 0), 39);
        a.due("no 41st", full.planned(40, 0), NONE);
        a.due("all 40 go", full.go(40), 40);
        a.due("the last one's name", of(full, 39), "0/x40");
    }

    private static void byNumbers(Answers a) {
        a.sentence("Terms", "in their order: by numbers,");
        a.due("not by names", orderBy("*>%1", false, "c", "b", "a"), "0 1 2");
        NameTurner x = with("c", "b", "a");
        x.remove(0);
        file(x, 0, "A");
        rule(x, "*>%1");
        a.due("one came late", order(x, false), "1 2 3");
        hand(x, 1, 1, "b");
        hand(x, 1, 0, "z");
        a.due("one went and came by hand", order(x, false), "1 2 3");
    }

    private static void byNames(Answers a) {
        a.sentence("Terms", "or by NAMES byte by byte (a shorter one that begins a longer one is ahead).");
        a.due("by names", orderBy("*>%1", true, "c", "b", "a"), "2 1 0");
        a.due("a shorter one", orderBy("*>%1", true, "aaa", "aa", "a"), "2 1 0");
        a.due("its first byte all the same", orderBy("*>%1", true, "b", "aaa"), "1 0");
        a.due("- . 0 9 A Z _ a z", orderBy("*>%1", true, "z", "a", "_", "Z", "A", "9", "0", ".", "-"), "8 7 6 5 4 3 2 1 0");
        a.due("the 12th byte", orderBy("*>%1", true, "abcdefghijkm", "abcdefghijkl", "abcdefghijk"), "2 1 0");
        a.due("figures are no numbers", orderBy("*>%1", true, "n10", "n9", "n1"), "2 0 1");
        NameTurner x = folding("b", "A", "C", "a1");
        rule(x, "*>%1");
        a.due("folding changes nothing in it", order(x, true), "1 2 3 0");
        NameTurner all = new NameTurner();
        for (int i = 39; i >= 0; i--) {
            file(all, 0, "n" + (char) ('A' + i % 26) + (i < 26 ? "" : "x"));
        }
        rule(all, "*>%1");
        a.due("all 40", all.plan(0, 0, 0, 1, true), 40);
        a.due("the first is nA", all.planned(0, 0), 39);
        a.due("behind it nAx", all.planned(1, 0), 13);
        a.due("the last is nZ", all.planned(39, 0), 14);
    }

    private static void counterOfEach(Answers a) {
        a.sentence("Terms", "The k-th of them (from 0 on) gets the COUNTER START and k times STEP;");
        NameTurner x = new NameTurner();
        for (int i = 0; i < 40; i++) {
            file(x, 0, "n" + i);
        }
        rule(x, "n*>%4");
        for (int[] n : new int[][] {{0, 1}, {0, 99}, {999, 1}, {999, 99}, {7, 10}}) {
            x.plan(0, 0, n[0], n[1], false);
            for (int k = 0; k < 40; k++) {
                a.due("counter of " + k, x.planned(k, 6), n[0] + k * n[1]);
                a.due("new name of " + k, newName(x, k), String.format("%04d", n[0] + k * n[1]));
            }
        }
        rule(x, "n?9>%1");
        x.plan(0, 0, 999, 99, false);
        a.due("only those that fit are counted", newName(x, 2), "1197");
        NameTurner y = with("b", "x", "a");
        rule(y, "*>%1");
        y.plan(0, 0, 5, 2, true);
        a.due("by names a is the first", y.planned(0, 0) * 100 + y.planned(0, 6), 205);
        a.due("by names x is the last", y.planned(2, 0) * 100 + y.planned(2, 6), 109);
    }

    private static void newPlaces(Answers a) {
        a.sentence("Terms", "the new NAME is all PARTS together, the new FOLDER as told.");
        for (int to = 0; to <= 5; to++) {
            NameTurner x = with("ab12");
            rule(x, "?*#>$3-$2.^1_!1%2");
            x.plan(0, to, 7, 1, false);
            a.due("new name", newName(x, 0), "12-b.A_a07");
            a.due("new folder", x.planned(0, 3), to);
            x.go(1);
            a.due("there it lies", of(x, 0), to + "/12-b.A_a07");
        }
    }

    private static void firstTrouble(Answers a) {
        a.sentence("Terms", "TROUBLE of each, the first that holds:");
        NameTurner x = with("a1", "b1", "c");
        plan(x, "?1>c");
        a.due("2 ahead of 3", trouble(x, 0), "2 with 1");
        a.due("2 ahead of 3", trouble(x, 1), "2 with 0");
        NameTurner y = with("1234a", "1234b");
        plan(y, "#?>$1$1$1$1");
        a.due("1 ahead of 2", trouble(y, 0), "1 with -1");
        a.due("1 ahead of 2", trouble(y, 1), "1 with -1");
        NameTurner z = with("ab", "b");
        plan(z, "ab>b");
        a.due("3 where neither 1 nor 2 holds", trouble(z, 0), "3 with 1");
        plan(z, "ab>c");
        a.due("none", trouble(z, 0), "0 with -1");
    }

    private static void trouble1(Answers a) {
        a.sentence("Terms", "1 the new NAME is empty or has more than 12 bytes;");
        for (int n = 0; n <= 12; n++) {
            NameTurner x = with("x" + "abcdefghijk".substring(0, Math.min(n, 11)));
            plan(x, n == 12 ? "x*>1$1" : "x*>$1");
            a.due(n + " bytes", trouble(x, 0), n == 0 ? "1 with -1" : "0 with -1");
            a.due("how many", x.planned(0, 4), n);
        }
        for (int n = 13; n <= 15; n++) {
            NameTurner x = with("abcdefghijkl");
            plan(x, "*>$1" + "xyz".substring(0, n - 12));
            a.due(n + " bytes", trouble(x, 0), "1 with -1");
            a.due("how many", x.planned(0, 4), n);
            a.due("no steps", x.steps(), -2);
        }
        NameTurner most = with("abcdefghijkl");
        plan(most, "*>" + "$1".repeat(12));
        a.due("144 bytes", trouble(most, 0), "1 with -1");
        a.due("how many", most.planned(0, 4), 144);
        NameTurner counter = with("a", "b");
        rule(counter, "*>abcdefghi%1");
        counter.plan(0, 0, 999, 1, false);
        a.due("12 with 999", trouble(counter, 0), "0 with -1");
        a.due("13 with 1000", trouble(counter, 1), "1 with -1");
    }

    private static void trouble2(Answers a) {
        a.sentence("Terms", "2 another one that is planned, without TROUBLE 1, gets a PLACE that is alike"
                + " (the first such in the PLAN's order is told with it);");
        NameTurner x = with("c1", "b1", "a1");
        plan(x, "??>x");
        a.due("the first is told the second", trouble(x, 0), "2 with 1");
        a.due("the second is told the first", trouble(x, 1), "2 with 0");
        a.due("the third is told the first", trouble(x, 2), "2 with 0");
        x.plan(0, 0, 1, 1, true);
        a.due("by names: the first is told the second", trouble(x, 0), "2 with 1");
        a.due("by names: the second is told the first", trouble(x, 1), "2 with 2");
        a.due("by names: the third is told the first", trouble(x, 2), "2 with 2");
        x.plan(0, 4, 1, 1, false);
        a.due("in another folder", trouble(x, 0), "2 with 1");
        NameTurner longer = with("abcdefg", "abcdefgh");
        plan(longer, "abcdef*>abcdefghijk$1");
        a.due("12 bytes that begin 13", trouble(longer, 0), "0 with -1");
        a.due("13 bytes", trouble(longer, 1), "1 with -1");
        NameTurner stays = with("b", "bb");
        plan(stays, "b*>b");
        a.due("one that stays has it too", trouble(stays, 0), "2 with 1");
        a.due("with one that stays", trouble(stays, 1), "2 with 0");
        NameTurner not = with("1ab", "2AB");
        plan(not, "?*>$2");
        a.due("capitals are not alike", trouble(not, 0), "0 with -1");
        NameTurner fold = folding("1ab", "2AB");
        plan(fold, "?*>$2");
        a.due("folding they are", trouble(fold, 0), "2 with 1");
        a.due("both", trouble(fold, 1), "2 with 0");
        NameTurner unplanned = with("1ab", "ab");
        plan(unplanned, "1*>$1");
        a.due("one that isn't planned is no rival", trouble(unplanned, 0), "3 with 1");
    }

    private static void trouble3(Answers a) {
        a.sentence("Terms", "3 a FILE lies at a PLACE alike that stays there: one that isn't planned, has TROUBLE 1,"
                + " or whose new PLACE is just its old one (and isn't it itself).");
        NameTurner x = with("a1", "b");
        file(x, 2, "b");
        plan(x, "a1>b");
        a.due("not planned", trouble(x, 0), "3 with 1");
        x.plan(0, 2, 1, 1, false);
        a.due("not planned, in the new folder", trouble(x, 0), "3 with 2");
        x.plan(0, 3, 1, 1, false);
        a.due("none in that folder", trouble(x, 0), "0 with -1");
        x.remove(1);
        plan(x, "a1>b");
        a.due("it is no more", trouble(x, 0), "0 with -1");
        NameTurner before = planned(with("a", "b"), "?>x$1");
        plan(before, "a>b");
        a.due("planned before, but not now", trouble(before, 0), "3 with 1");
        NameTurner byTrouble = with("bb", "b");
        plan(byTrouble, "b*>$1");
        a.due("one that has trouble 1", trouble(byTrouble, 0), "3 with 1");
        a.due("that one", trouble(byTrouble, 1), "1 with -1");
        NameTurner stays = with("bb", "b");
        plan(stays, "b*>b");
        a.due("one that stays gets that place as well: the first that holds is 2", trouble(stays, 0), "2 with 1");
        NameTurner goes = with("1", "2");
        rule(goes, "#>%1");
        goes.plan(0, 0, 2, 1, false);
        a.due("one that goes away", trouble(goes, 0), "0 with -1");
        NameTurner inTrouble = with("abc", "ab", "ax");
        plan(inTrouble, "*?>$1");
        a.due("one that has trouble 2 doesn't stay there", trouble(inTrouble, 0), "0 with -1");
        a.due("its trouble", trouble(inTrouble, 1), "2 with 2");
        NameTurner fold = folding("a1", "B");
        plan(fold, "a1>b");
        a.due("alike is enough", trouble(fold, 0), "3 with 1");
        NameTurner self = folding("aB");
        plan(self, "*>^1");
        a.due("it isn't it itself", trouble(self, 0), "0 with -1");
        NameTurner not = with("a1", "B");
        plan(not, "a1>b");
        a.due("not folding it isn't alike", trouble(not, 0), "0 with -1");
    }

    private static void stays(Answers a) {
        a.sentence("Terms", "One whose new PLACE is just its old one STAYS, and has no TROUBLE 3.");
        NameTurner x = with("ab");
        plan(x, "*>$1");
        a.due("it stays", x.planned(0, 5), 1);
        a.due("no trouble", trouble(x, 0), "0 with -1");
        a.due("no step", x.steps(), 0);
        x.plan(0, 1, 1, 1, false);
        a.due("in another folder it doesn't", x.planned(0, 5), 0);
        plan(x, "*>^1");
        a.due("with capitals it doesn't", x.planned(0, 5), 0);
        NameTurner fold = folding("ab");
        plan(fold, "*>^1");
        a.due("with capitals it doesn't, folding too", fold.planned(0, 5), 0);
        a.due("it goes", fold.go(1), 1);
        a.due("to its capitals", of(fold, 0), "0/AB");
        plan(fold, "*>^1");
        a.due("now it stays", fold.planned(0, 5), 1);
        NameTurner longest = with("abcdefghijkl");
        plan(longest, "*>$1");
        a.due("12 bytes stay", longest.planned(0, 5), 1);
        plan(longest, "*>$1x");
        a.due("12 that begin 13 don't", longest.planned(0, 5), 0);
    }
}
