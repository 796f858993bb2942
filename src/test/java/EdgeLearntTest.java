import java.util.Arrays;

/** Promises 20 to 25 at their edges: learnt, surely, never, ask, teach, taught. */
public final class EdgeLearntTest {
    private static final String POND = "cells 3;shown 2;keeps 4;cue bell;cue moon;lesson ring bell 0 1 1 2 2 3;"
        + "lesson swim bell 0 3 1 2;lesson wave moon 2 2;teacher ann;";

    private static void learnt(LakeLearns x, int want, int... tape) {
        String before = Check.allOf(x);
        Check.tape(x, tape);
        Check.due("learnt() by " + Arrays.toString(tape), x.learnt(), want);
        Check.due("the tape is empty", x.count(7), 0);
        Check.due("all stays", Check.allOf(x), before);
    }

    private static void told(LakeLearns x, int surely, int never, int ask) {
        Check.due("surely()", x.surely(), surely);
        Check.due("never()", x.never(), never);
        Check.due("ask()", x.ask(), ask);
    }

    private static void teach(LakeLearns x, int c, int want, int taught, int... tape) {
        String before = Check.allOf(x);
        Check.tape(x, tape);
        Check.due("teach(" + c + ") by " + Arrays.toString(tape), x.teach(c), want);
        Check.due("taught() behind it", x.taught(), taught);
        Check.due("the tape is empty", x.count(7), 0);
        Check.due("all stays", Check.allOf(x), before);
    }

    public static void main(String[] args) {
        tapeLengths();
        tapeBytes();
        heardTwice();
        howManySets();
        latestOfOneOrMore();
        aheadOfAny();
        askEdges();
        byWhatIsDone();
        teachTape();
        teachFewest();
        teachLeastBits();
        taughtEdges();
        Check.close("EdgeLearntTest");
    }

    private static void tapeLengths() {
        Check.by(20, "NONE: not as told (one CUE and its CELLS, or more)");
        for (int cells = 1; cells <= 8; cells++) {
            LakeLearns x = Check.lakeOf("cells " + cells + ";cue a;lesson b a 0 1 0 3;");
            for (int bytes = 0; bytes <= 3 * cells + 5; bytes++) {
                boolean asTold = bytes > 0 && bytes % (cells + 1) == 0;
                learnt(x, asTold ? 2 : -1, new int[bytes]);
            }
            int most = 940 / (cells + 1) * (cells + 1);
            learnt(x, 2, new int[most]);
            learnt(x, -1, new int[most - 1]);
            if (most < 940) {
                learnt(x, -1, new int[most + 1]);
            }
        }
        LakeLearns none = new LakeLearns();
        for (int bytes : new int[] {0, 1, 4, 5, 10}) {
            learnt(none, -1, new int[bytes]);
        }
        LakeLearns quiet = Check.lakeOf("cells 2;cue a;");
        learnt(quiet, 1, 0, 0, 0);
        told(quiet, 0, 0, 0);
        learnt(quiet, 0, 0, 0, 1);
    }

    private static void tapeBytes() {
        LakeLearns x = Check.lakeOf(POND);
        Check.by(20, "a byte for a CUE: not as told, if there is none such");
        int[] none = {2, 3, 5, 6, 7, 127, 128, 129, 254, 255};
        learnt(x, 2, 0, 0, 0, 0);
        learnt(x, 4, 1, 0, 0, 0);
        for (int c : none) {
            learnt(x, -1, c, 0, 0, 0);
            learnt(x, -1, 0, 0, 0, 0, c, 0, 0, 0);
            learnt(x, -1, c, 0, 0, 0, 0, 0, 0, 0);
        }
        LakeLearns six = Check.lakeOf("cells 1;cue a;cue b;cue c;cue d;cue e;cue f;");
        learnt(six, 1, 5, 0);
        learnt(six, -1, 6, 0);
        Check.by(20, "HEIGHTS of all CELLS behind it: 0 to 3");
        for (int cell = 1; cell <= 3; cell++) {
            for (int high : new int[] {0, 1, 2, 3, 4, 5, 127, 128, 252, 255}) {
                int[] tape = {1, 0, 0, 0, 0, 0, 0, 0};
                tape[cell] = high;
                int want = high > 3 ? -1 : high == 0 ? 1 : cell == 3 && high == 2 ? 1 : 0;
                learnt(x, want, tape);
                tape[cell] = 0;
                tape[cell + 4] = high;
                int[] bell = {0, 0, 0, 0, 1, 0, 0, 0};
                bell[cell] = high;
                learnt(x, high > 3 ? -1 : high == 0 ? 1 : cell == 3 && high == 3 ? 1 : 0, bell);
                learnt(x, high > 3 ? -1 : high == 0 ? 1 : cell == 3 && high == 3 ? 1 : 0, tape);
            }
        }
    }

    private static void heardTwice() {
        Check.by(20, "sets of LESSONS by which all that is so");
        LakeLearns x = Check.lakeOf(POND);
        learnt(x, 2, 0, 1, 2, 3, 0, 1, 2, 3);
        learnt(x, 0, 0, 1, 2, 3, 0, 0, 0, 0);
        learnt(x, 0, 0, 0, 0, 0, 0, 1, 2, 3);
        learnt(x, 0, 0, 1, 2, 3, 0, 3, 2, 0, 0, 1, 2, 3);
        learnt(x, 1, 0, 1, 2, 3, 1, 0, 0, 2, 0, 1, 2, 3);
        learnt(x, -1, 0, 1, 2, 3, 0, 0, 0, 0, 2, 0, 0, 0);
    }

    private static void howManySets() {
        Check.by(20, "how many sets");
        for (int lessons = 0; lessons <= 8; lessons++) {
            StringBuilder text = new StringBuilder("cells 1;cue a;cue b;");
            for (int l = 0; l < lessons; l++) {
                text.append("lesson l").append((char) ('a' + l)).append(" a 0 2;");
            }
            LakeLearns x = Check.lakeOf(text.toString());
            int all = 1 << lessons;
            learnt(x, all, 1, 0);
            told(x, 0, 0, 0);
            learnt(x, lessons == 0 ? 1 : all / 2, 0, 0);
            learnt(x, lessons == 0 ? 0 : all / 2, 0, 2);
            learnt(x, 0, 0, 1);
            learnt(x, 0, 0, 3);
            learnt(x, 0, 1, 2);
        }
    }

    private static void latestOfOneOrMore() {
        LakeLearns x = Check.lakeOf(POND);
        learnt(x, 2, 0, 1, 2, 3);
        Check.by(21, "LESSONS in each of these sets, by the latest learnt() that was 1 or more");
        Check.due("surely()", x.surely(), 1);
        Check.by(22, "LESSONS in none of these sets, by that");
        Check.due("never()", x.never(), 2);
        Check.by(23, "the CUE, by that");
        Check.due("ask()", x.ask(), 1);
        Check.by(21, "a learnt() of 0 or NONE leaves it");
        learnt(x, 0, 0, 1, 1, 1);
        told(x, 1, 2, 1);
        learnt(x, -1, 9, 0, 0, 0);
        told(x, 1, 2, 1);
        learnt(x, -1);
        told(x, 1, 2, 1);
        learnt(x, 1, 0, 0, 0, 3, 1, 0, 0, 2);
        told(x, 7, 0, 0);
        learnt(x, 1, 0, 0, 0, 0, 1, 0, 0, 0);
        told(x, 0, 7, 0);
    }

    private static void aheadOfAny() {
        LakeLearns x = Check.lakeOf(POND);
        int[][] tapes = {{}, {0, 0, 0}, {2, 0, 0, 0}, {0, 1, 1, 1}, {0, 0, 0, 0, 0, 1, 2, 3}};
        for (int[] tape : tapes) {
            Check.by(21, "NONE ahead of any");
            Check.due("surely()", x.surely(), -1);
            Check.by(22, "NONE ahead of any");
            Check.due("never()", x.never(), -1);
            Check.by(23, "NONE: ahead of any");
            Check.due("ask()", x.ask(), -1);
            Check.tape(x, tape);
            Check.due("of no set", x.learnt() <= 0, true);
        }
    }

    private static void askEdges() {
        Check.by(23, "the CUE at which most unlike HEIGHTS can come by these sets (of like ones the first)");
        LakeLearns x = Check.lakeOf("cells 2;cue a;cue b;cue c;cue d;lesson e b 0 1;lesson f c 0 1;lesson g c 1 1;lesson h d 0 2;"
            + "lesson i d 1 2;lesson j b 0 1;lesson k b 0 2;");
        learnt(x, 128, 0, 0, 0);
        told(x, 0, 0, 1);
        learnt(x, 32, 1, 1, 0);
        told(x, 0, 64, 2);
        learnt(x, 32, 1, 0, 0, 0, 0, 0);
        told(x, 0, 0, 2);
    }

    private static void byWhatIsDone() {
        Check.by(23, "of like ones the first");
        LakeLearns like = Check.lakeOf("cells 1;cue a;cue b;cue c;lesson d c 0 1;lesson e b 0 1;lesson f a;lesson g a 0 2 0 2;");
        learnt(like, 8, 0, 0, 1, 0);
        told(like, 0, 2, 2);
        learnt(like, 16, 0, 0);
        told(like, 0, 0, 1);
        learnt(like, 4, 1, 1, 2, 1);
        told(like, 3, 0, 0);
        Check.by(20, "LEARNT by the tape alone, not by what is KNOWN");
        LakeLearns x = Check.lakeOf(POND);
        x.show(0, 0);
        x.days(1);
        x.show(0, 0);
        x.days(1);
        Check.due("KNOWN", x.now(2), 1);
        learnt(x, 2, 0, 0, 0, 0);
        told(x, 0, 3, 1);
    }

    private static void teachTape() {
        LakeLearns x = Check.lakeOf(POND);
        teach(x, 0, 4, 3, 0, 0, 3);
        Check.by(24, "NONE: not as told (HEIGHTS 0 to 3)");
        for (int bytes : new int[] {0, 1, 2, 4, 6, 940}) {
            teach(x, 0, -1, 3, new int[bytes]);
        }
        for (int cell = 0; cell < 3; cell++) {
            for (int high : new int[] {4, 5, 127, 128, 255}) {
                int[] tape = new int[3];
                tape[cell] = high;
                teach(x, 0, -1, 3, tape);
            }
        }
        Check.by(24, "NONE: no such one");
        for (int c : new int[] {2, 3, 6, -1, Integer.MIN_VALUE, Integer.MAX_VALUE}) {
            teach(x, c, -1, 3, 0, 0, 0);
        }
        teach(x, 1, 2, 4, 0, 0, 2);
        Check.by(24, "NONE: never");
        teach(x, 0, -1, 4, 0, 0, 2);
        teach(x, 1, -1, 4, 0, 0, 3);
        for (int cells = 1; cells <= 8; cells++) {
            LakeLearns y = Check.lakeOf("cells " + cells + ";cue a;lesson b a " + (cells - 1) + " 3;");
            int[] tape = new int[cells];
            teach(y, 0, 0, 0, tape);
            tape[cells - 1] = 3;
            teach(y, 0, 3, 1, tape);
            teach(y, 0, -1, 1, new int[cells - 1]);
            teach(y, 0, -1, 1, new int[cells + 1]);
        }
        LakeLearns six = Check.lakeOf("cells 1;cue a;cue b;cue c;cue d;cue e;cue f;");
        teach(six, 5, 0, 0, 0);
        teach(six, 6, -1, 0, 0);
        teach(new LakeLearns(), 0, -1, -1, 0, 0, 0, 0);
    }

    private static void teachFewest() {
        Check.by(24, "those by the fewest showings that are yet needed");
        LakeLearns x = Check.lakeOf("cells 1;shown 3;keeps 9;cue a;cue b;lesson c a 0 2;lesson d a 0 1;lesson e a 0 1;lesson f b 0 2;"
            + "teacher t;");
        teach(x, 0, 0, 0, 0);
        teach(x, 0, 3, 1, 2);
        x.show(0, 1);
        teach(x, 0, 3, 1, 2);
        x.days(1);
        teach(x, 0, 3, 1, 2);
        x.show(0, 1);
        x.days(1);
        x.show(0, 2);
        x.days(1);
        teach(x, 0, 3, 1, 2);
        x.show(0, 2);
        x.days(1);
        teach(x, 0, 2, 6, 2);
        x.show(0, 1);
        x.days(1);
        Check.due("KNOWN", x.now(2), 2);
        Check.by(24, "which LESSONS of that CUE must be KNOWN besides those that are");
        teach(x, 0, 0, 0, 1);
        teach(x, 0, 1, 4, 2);
        teach(x, 0, 3, 1, 3);
        teach(x, 0, 4, 5, 0);
        x.show(0, 2);
        x.days(1);
        teach(x, 0, 0, 0, 2);
        teach(x, 0, 3, 1, 0);
        teach(x, 0, -1, 1, 1);
        teach(x, 1, 3, 8, 2);
    }

    private static void teachLeastBits() {
        Check.by(24, "of like ones the least as bits");
        LakeLearns x = Check.lakeOf("cells 1;shown 1;cue a;lesson b a 0 1;lesson c a 0 1;lesson d a 0 2;lesson e a 0 2;lesson f a 0 3;"
            + "lesson g a 0 3;lesson h a 0 1;lesson i a 0 3;teacher t;");
        teach(x, 0, 1, 1, 1);
        teach(x, 0, 1, 4, 2);
        teach(x, 0, 1, 16, 3);
        teach(x, 0, 0, 0, 0);
        x.show(0, 0);
        x.days(1);
        teach(x, 0, 0, 0, 1);
        teach(x, 0, 1, 2, 2);
        teach(x, 0, 1, 4, 3);
        teach(x, 0, 1, 16, 0);
        LakeLearns full = Check.lakeOf("cells 8;shown 9;cue a;lesson b a 0 1;lesson c a 1 1;lesson d a 2 1;lesson e a 3 1;"
            + "lesson f a 4 1;lesson g a 5 1;lesson h a 6 1;lesson i a 7 1;");
        teach(full, 0, 72, 255, 1, 1, 1, 1, 1, 1, 1, 1);
        teach(full, 0, 9, 128, 0, 0, 0, 0, 0, 0, 0, 1);
        teach(full, 0, 0, 0, 0, 0, 0, 0, 0, 0, 0, 0);
    }

    private static void taughtEdges() {
        LakeLearns x = Check.lakeOf(POND);
        Check.by(25, "NONE ahead of any");
        Check.due("taught()", x.taught(), -1);
        teach(x, 0, -1, -1, 1, 1, 1);
        teach(x, 2, -1, -1, 0, 0, 0);
        Check.by(25, "by the latest teach() that was 0 or more");
        teach(x, 0, 0, 0, 0, 0, 0);
        teach(x, 0, -1, 0, 1, 1, 1);
        teach(x, 0, 2, 2, 3, 2, 0);
        teach(x, 1, -1, 2, 3, 2, 0);
        teach(x, 1, 0, 0, 0, 0, 0);
    }
}
