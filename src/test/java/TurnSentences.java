/** Sentences of promises 35 to 38, and in the terms of forcing and of lots. */
final class TurnSentences {
    private static final int[] NO_AIMS = {-1, 2, 3, Integer.MIN_VALUE, Integer.MAX_VALUE};
    private static final int[] NO_LOTS = {-1, 8, 9, Integer.MIN_VALUE, Integer.MAX_VALUE};

    private TurnSentences() {
    }

    static void all() {
        forcingTerms();
        forcesSentences();
        bestSentences();
        chanceTerms();
        chanceSentences();
        meanSentences();
    }

    private static void forcingTerms() {
        Sentence.terms(3, "FORCING: two SWAP by turns two DRAWERS (or none), the first one first;");
        DrawerNames x = Checks.at("desk drawers 3 opens 1;name 0 1;name 1 2;name 2 0;");
        Checks.due("the other one swaps back, or lets it be", x.forces(0), -1);
        Checks.due("the first one begins", behindSwap().forces(0), 1);

        Sentence.terms(3, "it FORCES an AIM within n SWAPS, if it can do so that it is so some time by then (behind a SWAP, or now),"
                + " whatever the other one does.");
        Checks.due("now", new DrawerNames().forces(0), 0);
        Checks.due("behind a swap", behindSwap().forces(0), 1);
        Checks.due("now for nobody", x.forces(1), 0);
        DrawerNames four = Checks.at("desk drawers 4 opens 1;");
        Checks.due("two swaps away: the other one won't", four.forces(1), -1);
        Checks.due("nothing was done", x.count(5), 0);
    }

    private static DrawerNames behindSwap() {
        DrawerNames x = Checks.at("desk drawers 3 opens 1;");
        x.swap(0, 2);
        return x;
    }

    private static void forcesSentences() {
        Sentence.promise(35, "FORCING an AIM: within how many SWAPS, at fewest (0: it is so).");
        Moved.alike(desk -> desk.forces(0), desk -> desk.forces(1));
        DrawerNames x = Checks.at("desk drawers 4 opens 1;");
        Checks.due("it is so", x.forces(0), 0);
        x.swap(0, 1);
        Checks.due("one to all", x.forces(0), 1);
        Checks.due("one to nobody", x.forces(1), 1);
        x.swap(2, 3);
        Checks.due("it is so", x.forces(1), 0);

        Sentence.promise(35, "NONE: never;");
        Checks.due("two swaps to all", x.forces(0), -1);
        Checks.due("no swaps there", new DrawerNames().forces(1), -1);
        Checks.due("in no row", Checks.at("desk drawers 6 opens 6;").forces(1), -1);

        Sentence.promise(35, "-2.");
        for (int aim : NO_AIMS) {
            Checks.due("aim " + aim, x.forces(aim), -2);
            Checks.due("aim " + aim, new DrawerNames().forces(aim), -2);
        }
    }

    private static void bestSentences() {
        Sentence.promise(36, "The first SWAP by which it does within as few (100: it lets it be, behind all others).");
        Moved.alike(desk -> desk.best(0), desk -> desk.best(1));
        DrawerNames x = Checks.at("desk drawers 4 opens 2;name 0 1;name 1 2;name 2 3;name 3 0;");
        Checks.due("of 2 and 13", x.best(0), 2);
        x.swap(0, 2);
        Checks.due("of many", x.best(1), 1);
        DrawerNames y = Checks.at("desk drawers 6 opens 1;name 4 5;name 5 4;");
        Checks.due("the last one", y.best(0), 45);
        everyRowOfFour();

        Sentence.promise(36, "NONE: it doesn't, it is so;");
        DrawerNames z = Checks.at("desk drawers 4 opens 1;");
        Checks.due("it is so", z.best(0), -1);
        Checks.due("it doesn't", z.best(1), -1);
        Checks.due("no swaps there", new DrawerNames().best(1), -1);
        Checks.due("one alone is let off", new DrawerNames().best(0), -1);

        Sentence.promise(36, "-2.");
        for (int aim : NO_AIMS) {
            Checks.due("aim " + aim, x.best(aim), -2);
            Checks.due("aim " + aim, new DrawerNames().best(aim), -2);
        }
    }

    /** Where the first one forces it by one swap, that is the first which does; to let it be never helps. */
    private static void everyRowOfFour() {
        int[][] pairs = {{0, 1}, {0, 2}, {0, 3}, {1, 2}, {1, 3}, {2, 3}};
        for (int seed = 0; seed < 40; seed++) {
            DrawerNames x = Checks.at("desk drawers 4 opens 2;next:found+clue;stops:me=tries+1;");
            x.year(seed, 40);
            for (int aim = 0; aim < 2; aim++) {
                int goal = aim == 0 ? 15 : 0;
                int due = -1;
                boolean isSo = x.letOff() == goal;
                for (int[] pair : pairs) {
                    x.swap(pair[0], pair[1]);
                    if (!isSo && due < 0 && x.letOff() == goal) {
                        due = 10 * pair[0] + pair[1];
                    }
                    x.undo(1);
                }
                Checks.due("best by seed " + seed, x.best(aim), due);
                Checks.due("forces by seed " + seed, x.forces(aim), isSo ? 0 : due < 0 ? -1 : 1);
            }
        }
    }

    private static void chances(DrawerNames x, int aim, int n, int above, int below) {
        Checks.due("above, aim " + aim + " behind " + n, x.chance(aim, n, 0), above);
        Checks.due("below, aim " + aim + " behind " + n, x.chance(aim, n, 1), below);
    }

    private static void means(DrawerNames x, int n, int above, int below) {
        Checks.due("above, behind " + n, x.mean(n, 0), above);
        Checks.due("below, behind " + n, x.mean(n, 1), below);
    }

    private static void chanceTerms() {
        Sentence.terms(3, "CHANCE: n times one of ten lots is drawn, each as likely:");
        DrawerNames x = Checks.at("desk drawers 2 opens 1;");
        chances(x, 0, 0, 1, 1);
        chances(x, 0, 1, 9, 10);
        chances(x, 0, 2, 41, 50);
        chances(x, 0, 3, 189, 250);
        Checks.due("nothing was done", x.count(5), 0);
        Checks.due("nothing was done", x.lies(0), 0);

        Sentence.terms(3, "by lot v DRAWERS v and v + 1 are SWAPPED (nothing, if there are no such).");
        for (int n = 1; n <= 6; n++) {
            DrawerNames y = Checks.at("desk drawers " + n + " opens 1;");
            int above = 11 - n;
            int divisor = above % 10 == 0 ? 10 : above % 5 == 0 ? 5 : above % 2 == 0 ? 2 : 1;
            chances(y, 0, 1, above / divisor, 10 / divisor);
        }
        DrawerNames far = Checks.at("desk drawers 6 opens 1;name 0 5;name 5 0;");
        chances(far, 0, 1, 0, 1);
        DrawerNames near = Checks.at("desk drawers 6 opens 1;name 4 5;name 5 4;");
        chances(near, 0, 1, 1, 10);
    }

    private static void chanceSentences() {
        Sentence.promise(37, "CHANCE that it is as an AIM tells behind n lots (0 to 7), what 0: the number above, 1: below, in lowest"
                + " terms.");
        Moved.alike(desk -> desk.chance(0, 1, 0), desk -> desk.chance(1, 2, 0), desk -> desk.chance(0, 2, 1));
        DrawerNames x = Checks.at("desk drawers 2 opens 1;");
        int[] all = {1, 9, 41, 189, 881, 4149, 19721, 94509};
        int[] nobody = {0, 1, 9, 61, 369, 2101, 11529, 61741};
        int[] below = {1, 10, 50, 250, 1250, 6250, 31250, 156250};
        for (int n = 0; n <= 7; n++) {
            chances(x, 0, n, all[n], below[n]);
            chances(x, 1, n, nobody[n], below[n]);
        }
        DrawerNames sure = Checks.at("desk drawers 6 opens 6;");
        chances(sure, 0, 7, 1, 1);
        chances(sure, 1, 7, 0, 1);

        Sentence.promise(37, "-2: the AIM, what;");
        for (int wrong : NO_AIMS) {
            Checks.due("aim " + wrong, x.chance(wrong, 0, 0), -2);
            Checks.due("what " + wrong, x.chance(0, 0, wrong), -2);
            Checks.due("what " + wrong + " ahead of n", x.chance(0, 8, wrong), -2);
        }

        Sentence.promise(37, "-3: n.");
        for (int n : NO_LOTS) {
            Checks.due("lots " + n, x.chance(0, n, 0), -3);
            Checks.due("lots " + n, x.chance(1, n, 1), -3);
        }
    }

    private static void meanSentences() {
        Sentence.promise(38, "How many are LET OFF on the mean behind n lots (0 to 7), what 0: above, 1: below, in lowest terms.");
        Moved.alike(desk -> desk.mean(0, 0), desk -> desk.mean(1, 0), desk -> desk.mean(2, 1));
        DrawerNames x = Checks.at("desk drawers 2 opens 1;");
        int[] above = {2, 9, 41, 189, 881, 4149, 19721, 94509};
        int[] below = {1, 5, 25, 125, 625, 3125, 15625, 78125};
        for (int n = 0; n <= 7; n++) {
            means(x, n, above[n], below[n]);
        }
        means(Checks.at("desk drawers 6 opens 1;"), 0, 6, 1);
        means(Checks.at("desk drawers 6 opens 1;"), 1, 5, 1);
        means(Checks.at("desk drawers 6 opens 6;"), 7, 6, 1);
        means(Checks.at("desk drawers 6 opens 6;stops:1=1;"), 7, 0, 1);

        Sentence.promise(38, "-2: what;");
        for (int what : NO_AIMS) {
            Checks.due("what " + what, x.mean(0, what), -2);
            Checks.due("what " + what + " ahead of n", x.mean(8, what), -2);
        }

        Sentence.promise(38, "-3: n.");
        for (int n : NO_LOTS) {
            Checks.due("lots " + n, x.mean(n, 0), -3);
            Checks.due("lots " + n, x.mean(n, 1), -3);
        }
    }
}
