/** Promises 32 and 33 at their edges: DAYS DRAWN by a seed, against draws made here and lived by other calls. */
public final class EdgeDrawnTest {
    private static final int[] SEEDS = {0, 1, -1, 12345, Integer.MAX_VALUE, Integer.MIN_VALUE, Integer.MAX_VALUE - 1,
        Integer.MIN_VALUE + 1};
    private static final String POND = "cells 3;shown 2;keeps 4;nights 7;ice 10 5;cue bell;cue moon;"
        + "lesson ring bell 0 1 1 2 2 3;lesson swim bell 0 3 1 2;lesson wave moon 2 2;teacher ann;teacher bob;"
        + "boat tub 1;boat gig 0;";

    private static int x;

    private static int draw(int n) {
        x = x * 1103515245 + 12345;
        return (x >>> 8) % n;
    }

    private static void liveByDraws(LakeLearns lake, int days, int seed) {
        x = seed;
        for (int i = 0; i < days; i++) {
            for (int t = 0; t < lake.count(5); t++) {
                if (draw(2) == 0) {
                    lake.show(t, draw(lake.count(4)));
                }
            }
            if (draw(3) == 0) {
                lake.ring(draw(lake.count(3)));
            }
            lake.days(1);
        }
    }

    public static void main(String[] args) {
        refused();
        howManyDays();
        wrapping();
        sizes();
        whileThereIsIce();
        lastDays();
        oddsRefused();
        oddsSeeds();
        oddsOfTheLast();
        Check.close("EdgeDrawnTest");
    }

    private static void refused() {
        LakeLearns lake = Check.lakeOf(POND);
        lake.show(0, 0);
        Check.by(32, "NONE: not as told");
        for (int n : new int[] {0, -1, 61, 62, Integer.MIN_VALUE, Integer.MAX_VALUE}) {
            Check.refused(lake, "drawn(" + n + ", 1)", -1, () -> lake.drawn(n, 1));
        }
        Check.due("the latest act is yet the showing", lake.undo(), 0);
        Check.by(32, "NONE: no LESSONS");
        for (String text : new String[] {"", "cue a;", "cue a;teacher t;boat b 0;"}) {
            LakeLearns none = Check.lakeOf(text);
            Check.refused(none, "drawn(1, 1) of " + text, -1, () -> none.drawn(1, 1));
            Check.refused(none, "drawn(60, 1) of " + text, -1, () -> none.drawn(60, 1));
            Check.due("nothing to undo", none.undo(), -1);
        }
        Check.due("one LESSON", Check.lakeOf("cue a;lesson b a;").drawn(1, 1), 1);
    }

    private static void howManyDays() {
        for (int n : new int[] {1, 2, 59, 60}) {
            Check.by(32, "n (1 to 60) DAYS DRAWN by a seed: how many went by");
            LakeLearns drawn = Check.lakeOf(POND);
            LakeLearns lived = Check.lakeOf(POND);
            Check.due("drawn(" + n + ", 77)", drawn.drawn(n, 77), n);
            liveByDraws(lived, n, 77);
            Check.due("all is as lived by draws", Check.allOf(drawn), Check.allOf(lived));
            Check.by(15, "drawn() above 0");
            Check.due("undo()", drawn.undo(), 0);
            Check.due("all is as at first", Check.allOf(drawn), Check.allOf(Check.lakeOf(POND)));
        }
    }

    private static void wrapping() {
        Check.by(32, "x becomes x * 1103515245 + 12345 (an int, wrapping), the draw is (x >>> 8) % n");
        for (int seed : SEEDS) {
            LakeLearns drawn = Check.lakeOf(POND);
            LakeLearns lived = Check.lakeOf(POND);
            drawn.show(1, 2);
            lived.show(1, 2);
            drawn.drawn(60, seed);
            liveByDraws(lived, 60, seed);
            Check.due("seed " + seed, Check.allOf(drawn), Check.allOf(lived));
            drawn.drawn(60, seed);
            liveByDraws(lived, 60, seed);
            Check.due("seed " + seed + " again, from the seed anew", Check.allOf(drawn), Check.allOf(lived));
        }
    }

    /** One of each and as many as there may be, and none of what may be missing. */
    private static void sizes() {
        Check.by(32, "for each TEACHER a draw of 2: 0: a draw of all LESSONS; then a draw of 3: 0: a draw of all CUES");
        String[] lakes = {"shown 1;cue a;lesson b a 0 2;", "shown 1;cue a;lesson b a 0 2;teacher t;boat c 0;",
            "shown 1;cells 8;cue a;cue b;cue c;cue d;cue e;cue f;lesson g a 0 2;lesson h b 1 2;lesson i c 2 2;lesson j d 3 2;"
                + "lesson k e 4 2;lesson l f 5 2;lesson m a 6 2;lesson n f 7 2;teacher o;teacher p;teacher q;teacher r;"
                + "boat s 0;boat t 1;boat u 2;boat v 3;boat w 4;boat x 5;"};
        for (String text : lakes) {
            for (int seed : SEEDS) {
                LakeLearns drawn = Check.lakeOf(text);
                LakeLearns lived = Check.lakeOf(text);
                drawn.drawn(60, seed);
                liveByDraws(lived, 60, seed);
                Check.due("seed " + seed + " of " + text, Check.allOf(drawn), Check.allOf(lived));
            }
        }
    }

    /** On ice he can't show and it can't be rung, but the draws are made all the same. */
    private static void whileThereIsIce() {
        Check.by(32, "he shows it, if he can; it is rung, if it can");
        String text = "ice 0 3;" + POND.replace("ice 10 5;", "");
        for (int seed : SEEDS) {
            LakeLearns drawn = Check.lakeOf(text);
            drawn.drawn(3, seed);
            Check.due("seed " + seed + ": nothing is shown or rung on ice", drawn.now(5) + drawn.now(7), 0);
            drawn.undo();
            drawn.drawn(20, seed);
            LakeLearns lived = Check.lakeOf(text);
            liveByDraws(lived, 20, seed);
            Check.due("seed " + seed + ": over the ice", Check.allOf(drawn), Check.allOf(lived));
        }
    }

    private static void lastDays() {
        Check.by(32, "how many went by: DAYS 0 to 599 (600: all are over)");
        for (int left = 0; left <= 62; left++) {
            LakeLearns lake = Check.lakeOf(POND);
            Check.till(lake, 600 - left);
            Check.due(left + " are left: drawn(60, 5)", lake.drawn(60, 5), Math.min(60, left));
            Check.due(left + " are left: the DAY then", lake.now(0), Math.min(600, 660 - left));
        }
        LakeLearns over = Check.lakeOf(POND);
        Check.till(over, 600);
        Check.refused(over, "drawn(1, 5) on 600", 0, () -> over.drawn(1, 5));
        Check.refused(over, "drawn(60, 5) on 600", 0, () -> over.drawn(60, 5));
        Check.refused(over, "drawn(0, 5) on 600", -1, () -> over.drawn(0, 5));
        Check.refused(over, "drawn(61, 5) on 600", -1, () -> over.drawn(61, 5));
    }

    private static void oddsRefused() {
        LakeLearns lake = Check.lakeOf(POND);
        lake.show(0, 0);
        Check.by(33, "NONE: no such ones");
        for (int l : new int[] {3, 4, 8, -1, Integer.MIN_VALUE, Integer.MAX_VALUE}) {
            Check.refused(lake, "odds(" + l + ", 1, 1)", -1, () -> lake.odds(l, 1, 1));
        }
        for (int n : new int[] {0, -1, 31, 32, Integer.MIN_VALUE, Integer.MAX_VALUE}) {
            Check.refused(lake, "odds(2, " + n + ", 1)", -1, () -> lake.odds(2, n, 1));
        }
        Check.due("no LESSONS", Check.lakeOf("cue a;teacher t;").odds(0, 1, 1), -1);
        Check.due("the latest act is yet the showing", lake.undo(), 0);
    }

    private static void oddsSeeds() {
        Check.by(33, "Of n (1 to 30) seeds x, x and 1, .. by how many a LESSON is KNOWN behind 30 DAYS DRAWN from now on");
        for (int seed : new int[] {0, 40, -3, Integer.MAX_VALUE - 1, Integer.MIN_VALUE}) {
            int[] known = new int[3];
            for (int n = 1; n <= 30; n++) {
                LakeLearns lived = Check.lakeOf(POND);
                lived.show(0, 1);
                lived.days(4);
                liveByDraws(lived, 30, seed + n - 1);
                for (int l = 0; l < 3; l++) {
                    known[l] += lived.now(2) >> l & 1;
                }
                if (n > 2 && n < 29) {
                    continue;
                }
                LakeLearns lake = Check.lakeOf(POND);
                lake.show(0, 1);
                lake.days(4);
                for (int l = 0; l < 3; l++) {
                    int of = l;
                    int seeds = n;
                    Check.refused(lake, "odds(" + l + ", " + n + ", " + seed + ")", known[l], () -> lake.odds(of, seeds, seed));
                }
            }
        }
    }

    private static void oddsOfTheLast() {
        Check.by(33, "30 DAYS DRAWN from now on: fewer, if fewer are left");
        String text = "shown 1;keeps 9;cue a;lesson b a;lesson c a;teacher t;";
        for (int left : new int[] {0, 1, 2, 29, 30, 31}) {
            int[] known = new int[2];
            for (int i = 0; i < 30; i++) {
                LakeLearns lived = Check.lakeOf(text);
                Check.till(lived, 599 - left);
                lived.show(0, 0);
                lived.days(1);
                liveByDraws(lived, Math.min(30, left), 9 + i);
                known[0] += lived.now(2) & 1;
                known[1] += lived.now(2) >> 1 & 1;
            }
            LakeLearns lake = Check.lakeOf(text);
            Check.till(lake, 599 - left);
            lake.show(0, 0);
            lake.days(1);
            Check.due(left + " are left: odds(0, 30, 9)", lake.odds(0, 30, 9), known[0]);
            Check.due(left + " are left: odds(1, 30, 9)", lake.odds(1, 30, 9), known[1]);
        }
    }
}
