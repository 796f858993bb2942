/** Promises 16 to 19: does, waves, dry, havens. */
public final class WaterTest {
    private static final String POND = "cells 3;shown 1;keeps 99;cue bell;cue moon;lesson ring bell 0 1 1 2 2 3;"
        + "lesson swim bell 0 3 1 2;lesson wave moon 2 2;teacher ann;";

    public static void main(String[] args) {
        does();
        waves();
        dryAndHavens();
        Check.close("WaterTest");
    }

    private static void does() {
        LakeLearns x = Check.lakeOf(POND);
        int[][] due = {{0, 57, 11, 48, 0, 57, 11, 48}, {0, 0, 0, 0, 32, 32, 32, 32}};
        for (int c = 0; c < 2; c++) {
            for (int set = 0; set < 8; set++) {
                Check.due("does(" + c + ", " + set + ")", x.does(c, set), due[c][set]);
            }
        }
        int[][] none = {{2, 0}, {-1, 0}, {0, 8}, {0, -1}, {0, Integer.MIN_VALUE}, {Integer.MAX_VALUE, 0}};
        for (int[] n : none) {
            Check.due("does(" + n[0] + ", " + n[1] + ")", x.does(n[0], n[1]), -1);
            Check.due("waves(" + n[0] + ", " + n[1] + ")", x.waves(n[0], n[1]), -1);
        }
        LakeLearns y = Check.lakeOf("cells 8;cue a;lesson b a 7 3 7 3 7 3 6 1 0 2;lesson c a 7 3 0 3;"
            + "lesson d a;lesson e a;lesson f a;lesson g a;lesson h a;lesson i a 5 2;");
        Check.due("cell 7 by 4", y.does(0, 1), (1 << 14) + (1 << 12) + 2);
        Check.due("all cells mixed", y.does(0, 255), (1 << 12) + (2 << 10) + 1);
        Check.due("no such lessons", y.does(0, 256), -1);
    }

    private static void waves() {
        LakeLearns x = Check.lakeOf(POND);
        int[][] due = {{0, 6, 3, 4, 0, 6, 3, 4}, {0, 0, 0, 0, 4, 4, 4, 4}};
        for (int c = 0; c < 2; c++) {
            for (int set = 0; set < 8; set++) {
                Check.due("waves(" + c + ", " + set + ")", x.waves(c, set), due[c][set]);
            }
        }
        LakeLearns y = Check.lakeOf("cells 8;cue a;lesson b a 7 1 7 1 7 2;lesson c a 6 3 6 1;lesson d a 6 2;lesson e a;");
        Check.due("in the middle alone", y.waves(0, 1), 128);
        Check.due("it is flat behind it", y.does(0, 1), 0);
        Check.due("behind the first", y.waves(0, 2), 64);
        Check.due("3 and 2 are 1, then 2", y.waves(0, 6), 64);
        Check.due("no steps", y.waves(0, 8), 0);
    }

    private static void dryAndHavens() {
        LakeLearns x = Check.lakeOf(POND);
        for (int cell = 0; cell < 3; cell++) {
            Check.due("nothing is known: dry(" + cell + ")", x.dry(cell), 3);
        }
        Check.due("dry(3)", x.dry(3), -1);
        Check.due("dry(-1)", x.dry(-1), -1);
        x.show(0, 0);
        x.show(0, 2);
        x.days(1);
        int[] dry = {3, 2, 0};
        for (int cell = 0; cell < 3; cell++) {
            Check.due("ring and wave: dry(" + cell + ")", x.dry(cell), dry[cell]);
        }
        int[] havens = {7, 1, 3, 1};
        for (int cues = 0; cues < 4; cues++) {
            Check.due("havens(" + cues + ")", x.havens(cues), havens[cues]);
        }
        Check.due("havens(4)", x.havens(4), -1);
        Check.due("havens(-1)", x.havens(-1), -1);
        x.show(0, 1);
        x.days(1);
        Check.due("ring and swim mixed: dry(1)", x.dry(1), 3);
        Check.due("ring and swim mixed: havens(3)", x.havens(3), 3);
        Check.due("nothing was rung", x.now(5), 0);
        LakeLearns y = new LakeLearns();
        Check.due("no cues: dry(0)", y.dry(0), 0);
        Check.due("no cues: havens(0)", y.havens(0), 15);
        Check.due("no cues: havens(1)", y.havens(1), -1);
    }
}
