/** Promises 16 to 19 at their edges: does, waves, dry, havens. */
public final class EdgeWaterTest {
    private static final int[] FAR = {-1, -2, Integer.MIN_VALUE, Integer.MAX_VALUE};

    public static void main(String[] args) {
        noSuchSets();
        doesEdges();
        wavesEdges();
        askingChangesNothing();
        dryEdges();
        havensEdges();
        Check.close("EdgeWaterTest");
    }

    private static LakeLearns ofLessons(int lessons) {
        StringBuilder text = new StringBuilder("cells 8;shown 1;cue a;cue b;teacher t;");
        for (int l = 0; l < lessons; l++) {
            text.append("lesson l").append((char) ('a' + l)).append(l % 2 == 0 ? " a " : " b ").append(l).append(" 3;");
        }
        return Check.lakeOf(text.toString());
    }

    private static void noSuchSets() {
        for (int lessons = 0; lessons <= 8; lessons++) {
            LakeLearns x = ofLessons(lessons);
            int all = (1 << lessons) - 1;
            Check.by(16, "if some LESSONS (bits) were KNOWN alone; NONE: no such ones");
            Check.due("does(0, 0)", x.does(0, 0), 0);
            Check.due("does(0, " + all + ") of " + lessons, x.does(0, all) >= 0, true);
            Check.due("does(0, " + (all + 1) + ") of " + lessons, x.does(0, all + 1), -1);
            Check.by(17, "CELLS, as bits; NONE: no such ones");
            Check.due("waves(0, 0)", x.waves(0, 0), 0);
            Check.due("waves(0, " + all + ") of " + lessons, x.waves(0, all), all & 0x55);
            Check.due("waves(1, " + all + ") of " + lessons, x.waves(1, all), all & 0xaa);
            Check.due("waves(0, " + (all + 1) + ") of " + lessons, x.waves(0, all + 1), -1);
            for (int far : new int[] {-1, 256, 257, Integer.MIN_VALUE, Integer.MAX_VALUE, 1 << 8, 1 << 30, all + 2, ~all}) {
                Check.due("does(0, " + far + ")", x.does(0, far), -1);
                Check.due("waves(1, " + far + ")", x.waves(1, far), -1);
            }
            for (int c : new int[] {2, 3, 6, -1, Integer.MIN_VALUE, Integer.MAX_VALUE}) {
                Check.due("does(" + c + ", 0)", x.does(c, 0), -1);
                Check.due("waves(" + c + ", " + all + ")", x.waves(c, all), -1);
            }
        }
        LakeLearns six = Check.lakeOf("cue a;cue b;cue c;cue d;cue e;cue f;");
        Check.by(16, "of a CUE; NONE: no such ones");
        Check.due("6 CUES: does(5, 0)", six.does(5, 0), 0);
        Check.due("6 CUES: does(6, 0)", six.does(6, 0), -1);
        Check.by(17, "of it; NONE: no such ones");
        Check.due("6 CUES: waves(5, 0)", six.waves(5, 0), 0);
        Check.due("6 CUES: waves(6, 0)", six.waves(6, 0), -1);
        Check.due("no CUES: waves(0, 0)", new LakeLearns().waves(0, 0), -1);
        Check.due("no CUES: does(0, 0)", new LakeLearns().does(0, 0), -1);
    }

    private static void doesEdges() {
        Check.by(16, "CELL 0 times 1, CELL 1 times 4, .. in all");
        for (int cell = 0; cell < 8; cell++) {
            for (int high = 1; high <= 3; high++) {
                LakeLearns x = Check.lakeOf("cells 8;cue a;lesson b a " + cell + " " + high + ";");
                Check.due("CELL " + cell + " HIGH " + high, x.does(0, 1), high << 2 * cell);
            }
        }
        LakeLearns all = Check.lakeOf("cells 8;cue a;lesson b a 0 3 1 3 2 3 3 3 4 3 5 3 6 3 7 3;lesson c a 0 1 1 1 2 1 3 1 4 1 5 1 6 1 7 1;");
        Check.due("3 in all CELLS", all.does(0, 1), 65535);
        Check.due("1 in all CELLS", all.does(0, 2), 21845);
        Check.due("by 4: 0 in all CELLS", all.does(0, 3), 0);
        Check.due("no LESSON", all.does(0, 0), 0);
        Check.by(16, "HEIGHTS behind a RING: more by HIGH, by 4 (the rest)");
        for (int n = 0; n <= 8; n++) {
            LakeLearns x = Check.lakeOf("cells 8;cue a;lesson b a" + Check.times(" 3 3", n) + ";lesson c a 2 3 4 3;");
            Check.due(n + " times 3 in CELL 3", x.does(0, 1), 3 * n % 4 << 6);
            Check.due("the CELLS beside it", x.does(0, 3), (3 * n % 4 << 6) + (3 << 4) + (3 << 8));
        }
    }

    private static void wavesEdges() {
        Check.by(17, "CELLS whose HEIGHT would be 2 at least behind some STEP of it, as bits");
        for (int cell = 0; cell < 8; cell++) {
            for (int high = 1; high <= 3; high++) {
                LakeLearns x = Check.lakeOf("cells 8;cue a;lesson b a " + cell + " " + high + ";");
                Check.due("CELL " + cell + " HIGH " + high, x.waves(0, 1), high >= 2 ? 1 << cell : 0);
            }
        }
        LakeLearns x = Check.lakeOf("cells 8;cue a;lesson b a 7 1 7 1;lesson c a 7 3;lesson d a 0 1 0 1 0 1 0 1;"
            + "lesson e a 5 1 5 3 5 1 5 3 5 1 5 3 5 1 5 1;lesson f a;lesson g a 0 3 0 1;lesson h a 7 2 7 2;");
        int[][] due = {{0, 0}, {1, 128}, {2, 128}, {3, 0}, {4, 1}, {8, 32}, {16, 0}, {17, 128}, {32, 1}, {36, 1}, {64, 128},
            {65, 128}, {66, 128}, {67, 128}, {127, 128 + 32 + 1}};
        for (int[] d : due) {
            Check.due("waves(0, " + d[0] + ")", x.waves(0, d[0]), d[1]);
        }
        LakeLearns y = Check.lakeOf("cells 1;cue a;lesson b a 0 3;lesson c a 0 1 0 2;lesson d a 0 2;");
        Check.due("3 and 1 in STEP 0, 2 in STEP 1", y.waves(0, 3), 1);
        Check.due("3 and 2 in STEP 0", y.waves(0, 5), 0);
        Check.due("1 and 2 in STEP 0", y.waves(0, 6), 1);
    }

    private static void askingChangesNothing() {
        LakeLearns x = ofLessons(8);
        x.show(0, 0);
        x.days(1);
        x.ring(0);
        Check.by(16, "if: nothing is rung");
        Check.refused(x, "does(0, 4)", 3 << 4, () -> x.does(0, 4));
        Check.by(17, "would be: nothing is rung");
        Check.refused(x, "waves(0, 4)", 4, () -> x.waves(0, 4));
        Check.by(18, "DRY: nothing is rung");
        Check.refused(x, "dry(0)", 2, () -> x.dry(0));
        Check.by(19, "dry at all CUES of some: nothing is rung");
        Check.refused(x, "havens(3)", 254, () -> x.havens(3));
        Check.due("the RING is yet the latest act", x.undo(), 2);
    }

    private static void dryEdges() {
        Check.by(18, "CUES, as bits; NONE: no such one");
        for (int cells = 1; cells <= 8; cells++) {
            LakeLearns x = Check.lakeOf("cells " + cells + ";cue a;cue b;");
            Check.due("dry(" + (cells - 1) + ") of " + cells, x.dry(cells - 1), 3);
            Check.due("dry(" + cells + ") of " + cells, x.dry(cells), -1);
            for (int far : FAR) {
                Check.due("dry(" + far + ")", x.dry(far), -1);
            }
        }
        for (int cues = 0; cues <= 6; cues++) {
            LakeLearns x = Check.lakeOf("cue a;cue b;cue c;cue d;cue e;cue f;".substring(0, 6 * cues));
            Check.due(cues + " CUES: dry(0)", x.dry(0), (1 << cues) - 1);
        }
        Check.by(18, "DRY of a CELL by what is KNOWN: HEIGHT 1 is dry, 2 is not");
        LakeLearns x = Check.lakeOf("cells 4;shown 1;keeps 3;cue a;cue b;lesson c a 0 1 1 2 2 3 3 1 3 1 3 2;lesson d a 1 2 0 1;teacher t;");
        x.show(0, 0);
        for (int cell = 0; cell < 4; cell++) {
            Check.due("shown, not KNOWN: dry(" + cell + ")", x.dry(cell), 3);
        }
        x.days(1);
        int[] alone = {3, 2, 2, 2};
        for (int cell = 0; cell < 4; cell++) {
            Check.due("KNOWN: dry(" + cell + ")", x.dry(cell), alone[cell]);
        }
        x.show(0, 1);
        x.days(1);
        int[] both = {2, 2, 2, 2};
        for (int cell = 0; cell < 4; cell++) {
            Check.due("both KNOWN: dry(" + cell + ")", x.dry(cell), both[cell]);
        }
        x.days(4);
        for (int cell = 0; cell < 4; cell++) {
            Check.due("forgotten: dry(" + cell + ")", x.dry(cell), 3);
        }
    }

    private static void havensEdges() {
        Check.by(19, "of some (bits); NONE: no such ones");
        for (int cues = 0; cues <= 6; cues++) {
            LakeLearns x = Check.lakeOf("cue a;cue b;cue c;cue d;cue e;cue f;".substring(0, 6 * cues));
            Check.due(cues + " CUES: havens(0)", x.havens(0), 15);
            Check.due(cues + " CUES: havens of all", x.havens((1 << cues) - 1), 15);
            Check.due(cues + " CUES: havens of one more", x.havens(1 << cues), -1);
            for (int far : new int[] {-1, -2, 64, 65, 1 << 30, Integer.MIN_VALUE, Integer.MAX_VALUE}) {
                Check.due(cues + " CUES: havens(" + far + ")", x.havens(far), -1);
            }
        }
        Check.by(19, "CELLS that are dry at all CUES, as bits");
        for (int cells = 1; cells <= 8; cells++) {
            LakeLearns x = Check.lakeOf("cells " + cells + ";cue a;");
            Check.due(cells + " CELLS: havens(1)", x.havens(1), (1 << cells) - 1);
            Check.due(cells + " CELLS: havens(0)", x.havens(0), (1 << cells) - 1);
        }
        LakeLearns y = Check.lakeOf("cells 8;shown 1;cue a;cue b;lesson c a 0 2 7 2 3 1;lesson d b 7 3 6 1 6 1;teacher t;");
        y.show(0, 0);
        y.show(0, 1);
        y.days(1);
        int[] due = {255, 255 - 129, 255 - 192, 255 - 193};
        for (int cues = 0; cues < 4; cues++) {
            Check.due("havens(" + cues + ")", y.havens(cues), due[cues]);
        }
    }
}
