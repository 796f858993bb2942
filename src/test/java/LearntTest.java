/** Promises 20 to 25: learnt, surely, never, ask, teach, taught. */
public final class LearntTest {
    private static final String POND = "cells 3;shown 2;cue bell;cue moon;lesson ring bell 0 1 1 2 2 3;"
        + "lesson swim bell 0 3 1 2;lesson wave moon 2 2;teacher ann;";

    private static void learnt(LakeLearns x, int want, int... tape) {
        Check.tape(x, tape);
        Check.due("learnt() by " + java.util.Arrays.toString(tape), x.learnt(), want);
        Check.due("the tape is empty", x.count(7), 0);
    }

    private static void known(LakeLearns x, int surely, int never, int ask) {
        Check.due("surely()", x.surely(), surely);
        Check.due("never()", x.never(), never);
        Check.due("ask()", x.ask(), ask);
    }

    private static void teach(LakeLearns x, int c, int want, int taught, int... tape) {
        Check.tape(x, tape);
        Check.due("teach(" + c + ") by " + java.util.Arrays.toString(tape), x.teach(c), want);
        Check.due("taught()", x.taught(), taught);
        Check.due("the tape is empty", x.count(7), 0);
    }

    public static void main(String[] args) {
        learning();
        learningLong();
        notAsTold();
        asking();
        teaching();
        teachingCheaply();
        Check.close("LearntTest");
    }

    private static void learning() {
        LakeLearns x = Check.lakeOf(POND);
        learnt(x, 2, 0, 1, 2, 3);
        known(x, 1, 2, 1);
        learnt(x, 2, 0, 0, 0, 3);
        known(x, 3, 0, 1);
        learnt(x, 4, 1, 0, 0, 2);
        known(x, 4, 0, 0);
        learnt(x, 1, 1, 0, 0, 2, 0, 3, 2, 0);
        known(x, 6, 1, 0);
        learnt(x, 0, 1, 0, 0, 1);
        known(x, 6, 1, 0);
        learnt(x, 0, 0, 0, 0, 0, 0, 1, 2, 3);
        known(x, 6, 1, 0);
        learnt(x, 2, 0, 1, 2, 3, 0, 1, 2, 3);
        known(x, 1, 2, 1);
        Check.due("a new LAKE", Check.lake(x, ""), 0);
        known(x, 1, 2, 1);
        LakeLearns y = Check.lakeOf("cells 1;cue a;");
        learnt(y, 1, 0, 0);
        known(y, 0, 0, 0);
        learnt(y, 0, 0, 1);
    }

    /** The longest tape there is: 235 times the same. */
    private static void learningLong() {
        LakeLearns x = Check.lakeOf(POND);
        int[] tape = new int[940];
        for (int i = 0; i < tape.length; i++) {
            tape[i] = i % 4;
        }
        learnt(x, 2, tape);
        known(x, 1, 2, 1);
        tape[939] = 2;
        learnt(x, 0, tape);
        tape[939] = 4;
        learnt(x, -1, tape);
    }

    private static void notAsTold() {
        LakeLearns x = Check.lakeOf(POND);
        learnt(x, -1);
        learnt(x, -1, 0);
        learnt(x, -1, 0, 0, 0);
        learnt(x, -1, 0, 0, 0, 0, 0);
        learnt(x, -1, 2, 0, 0, 0);
        learnt(x, -1, 255, 0, 0, 0);
        learnt(x, -1, 0, 4, 0, 0);
        learnt(x, -1, 0, 0, 0, 200);
        learnt(x, -1, 0, 0, 0, 1, 0, 0, 0, 4);
        learnt(x, -1, 0, 0, 0, 0, 0, 1, 2, 3, 2, 0, 0, 0);
        known(x, -1, -1, -1);
        LakeLearns y = new LakeLearns();
        learnt(y, -1, 0, 0, 0, 0, 0);
    }

    /** Once a CUE is heard, one row of HEIGHTS alone can come there; of those that tell as much the first is asked. */
    private static void asking() {
        LakeLearns x = Check.lakeOf("cells 2;cue a;cue b;cue c;lesson d a 0 1;lesson e b 0 1;lesson f b 1 1;"
            + "lesson g c 0 1;lesson h c 1 1;lesson i a 0 1;");
        learnt(x, 32, 0, 1, 0);
        known(x, 0, 0, 1);
        learnt(x, 16, 1, 1, 0);
        known(x, 2, 4, 2);
        learnt(x, 4, 1, 1, 0, 2, 0, 1);
        known(x, 2 + 16, 4 + 8, 0);
        learnt(x, 16, 2, 0, 1);
        known(x, 16, 8, 1);
    }

    private static void teaching() {
        LakeLearns x = Check.lakeOf(POND);
        Check.due("taught() ahead of any", x.taught(), -1);
        teach(x, 0, -1, -1, 1, 1, 1);
        teach(x, 0, 4, 3, 0, 0, 3);
        teach(x, 0, 2, 1, 1, 2, 3);
        teach(x, 0, 0, 0, 0, 0, 0);
        teach(x, 1, 2, 4, 0, 0, 2);
        teach(x, 1, -1, 4, 0, 0, 1);
        teach(x, 2, -1, 4, 0, 0, 0);
        teach(x, -1, -1, 4, 0, 0, 0);
        teach(x, 0, -1, 4, 0, 0);
        teach(x, 0, -1, 4, 0, 0, 0, 0);
        teach(x, 0, -1, 4, 0, 0, 4);
        teach(x, 0, -1, 4, 0, 255, 0);
        teach(x, 0, -1, 4);
        x.show(0, 0);
        teach(x, 0, 2, 1, 1, 2, 3);
        x.days(1);
        teach(x, 0, 1, 1, 1, 2, 3);
        x.show(0, 0);
        x.days(1);
        teach(x, 0, 0, 0, 1, 2, 3);
        teach(x, 0, 2, 2, 0, 0, 3);
        teach(x, 0, -1, 2, 0, 0, 0);
    }

    private static void teachingCheaply() {
        LakeLearns x = Check.lakeOf("cells 1;shown 3;cue a;lesson b a 0 3;lesson c a 0 1;lesson d a 0 2;lesson e a 0 3;teacher t;");
        teach(x, 0, 3, 1, 3);
        teach(x, 0, 3, 2, 1);
        teach(x, 0, 0, 0, 0);
        x.show(0, 3);
        x.days(1);
        teach(x, 0, 2, 8, 3);
        x.show(0, 1);
        x.days(1);
        x.show(0, 1);
        x.days(1);
        x.show(0, 2);
        x.days(1);
        x.show(0, 2);
        x.days(1);
        teach(x, 0, 2, 6, 3);
        Check.due("nothing changes", Check.lesson(x, 1, 2), 2);
    }
}
