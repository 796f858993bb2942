/** Promises 32 and 33: drawn and odds, against DAYS drawn here and lived by calls. */
public final class DrawnTest {
    private static final String POND = "cells 3;shown 2;keeps 4;nights 7;ice 10 5;cue bell;cue moon;"
        + "lesson ring bell 0 1 1 2 2 3;lesson swim bell 0 3 1 2;lesson wave moon 2 2;teacher ann;teacher bob;"
        + "boat tub 1;boat gig 0;";

    private static int seed;

    private static int draw(int n) {
        seed = seed * 1103515245 + 12345;
        return (seed >>> 8) % n;
    }

    private static void liveDay(LakeLearns x) {
        int teachers = x.count(5);
        for (int t = 0; t < teachers; t++) {
            if (draw(2) == 0) {
                x.show(t, draw(x.count(4)));
            }
        }
        if (draw(3) == 0) {
            x.ring(draw(x.count(3)));
        }
        x.days(1);
    }

    private static void same(String when, LakeLearns x, LakeLearns y) {
        for (int what = 0; what < 8; what++) {
            Check.due(when + ": now(" + what + ")", x.now(what), y.now(what));
            for (int l = 0; l < y.count(4); l++) {
                Check.due(when + ": lesson(" + l + ", " + what + ")", Check.lesson(x, l, what), Check.lesson(y, l, what));
            }
        }
        for (int b = 0; b < y.count(6); b++) {
            for (int what = 0; what < 4; what++) {
                Check.due(when + ": boat(" + b + ", " + what + ")", x.boat(b, what), y.boat(b, what));
            }
        }
    }

    public static void main(String[] args) {
        int[] seeds = {0, 1, 2, -1, 12345, Integer.MAX_VALUE, Integer.MIN_VALUE, 99, 2026};
        int[] lengths = {1, 2, 7, 30, 60};
        for (int s : seeds) {
            for (int n : lengths) {
                LakeLearns x = Check.lakeOf(POND);
                LakeLearns y = Check.lakeOf(POND);
                x.show(0, 2);
                y.show(0, 2);
                Check.due("drawn(" + n + ", " + s + ")", x.drawn(n, s), n);
                seed = s;
                for (int i = 0; i < n; i++) {
                    liveDay(y);
                }
                same("drawn(" + n + ", " + s + ")", x, y);
                Check.due("undo", x.undo(), 1);
                Check.due("DAY 0", x.now(0), 0);
            }
        }
        odds(seeds);
        edges();
        Check.close("DrawnTest");
    }

    private static void odds(int[] seeds) {
        for (int s : seeds) {
            for (int n : new int[] {1, 2, 9}) {
                int[] known = new int[3];
                for (int i = 0; i < n; i++) {
                    LakeLearns y = Check.lakeOf(POND);
                    y.days(3);
                    y.drawn(30, s + i);
                    for (int l = 0; l < 3; l++) {
                        known[l] += Check.lesson(y, l, 3);
                    }
                }
                LakeLearns x = Check.lakeOf(POND);
                x.days(3);
                for (int l = 0; l < 3; l++) {
                    Check.due("odds(" + l + ", " + n + ", " + s + ")", x.odds(l, n, s), known[l]);
                }
                Check.due("nothing changes", x.now(0) * 10 + x.undo(), 30);
            }
        }
    }

    private static void edges() {
        LakeLearns x = Check.lakeOf(POND);
        Check.due("drawn(0)", x.drawn(0, 1), -1);
        Check.due("drawn(61)", x.drawn(61, 1), -1);
        Check.due("drawn(-1)", x.drawn(-1, 1), -1);
        int[][] none = {{3, 1}, {-1, 1}, {0, 0}, {0, 31}, {0, -1}};
        for (int[] n : none) {
            Check.due("odds(" + n[0] + ", " + n[1] + ", 1)", x.odds(n[0], n[1], 1), -1);
        }
        Check.due("odds of 30 seeds", x.odds(0, 30, 1) >= 0, true);
        LakeLearns empty = Check.lakeOf("cue a;teacher t;");
        Check.due("no LESSONS", empty.drawn(1, 1), -1);
        Check.due("no LESSONS", empty.odds(0, 1, 1), -1);
        for (int i = 0; i < 9; i++) {
            x.days(60);
        }
        x.days(40);
        Check.due("20 are left", x.drawn(60, 1), 20);
        Check.due("all are over", x.now(0), 600);
        int known = x.now(2);
        Check.due("none is left", x.drawn(60, 1), 0);
        for (int l = 0; l < 3; l++) {
            Check.due("as it is", x.odds(l, 5, 1), (known >> l & 1) * 5);
        }
        Check.due("drawn() of 0 is nothing to undo", x.undo(), 7);
        Check.due("DAY 580", x.now(0), 580);
        LakeLearns quiet = Check.lakeOf("cue a;lesson b a;");
        Check.due("no TEACHERS", quiet.drawn(10, 3), 10);
        Check.due("nothing is shown", quiet.now(7), 0);
    }
}
