/** Promises 4 and 5: the text of a LAKE and its FAULTS. */
public final class LakeTextTest {
    private static void fault(String text, int place, int kind) {
        LakeLearns x = Check.lakeOf("cells 2;cue old;");
        Check.due("lake: " + text, Check.lake(x, text), -1 - place);
        Check.due("fault of " + text, x.fault(), kind);
        Check.due("the old LAKE stays at " + text, x.count(0) * 10 + x.count(3), 21);
        Check.due("the tape is empty behind " + text, x.count(7), 0);
    }

    private static void fine(String text, int lines) {
        LakeLearns x = new LakeLearns();
        Check.due("lake: " + text, Check.lake(x, text), lines);
        Check.due("no fault of " + text, x.fault(), 0);
    }

    public static void main(String[] args) {
        whatIsFine();
        tokens();
        numbers();
        names();
        tooMany();
        tooLong();
        anotherLake();
        faultOfTheLatest();
        Check.close("LakeTextTest");
    }

    private static void whatIsFine() {
        fine("", 0);
        fine(" \n ", 0);
        fine("cells 1;", 1);
        fine("cells 8;shown 1;keeps 1;nights 1;ice 0 50;", 5);
        fine("shown 9;keeps 99;nights 30;ice 99 1;", 4);
        fine("ice 50 50;", 1);
        fine("cells 008;", 1);
        fine("cue abcdefg;", 1);
        fine("cue azz;cue zza;teacher z;", 3);
        fine("cue a;teacher b;cells 5;lesson c a 4 3;boat d 4;", 5);
        fine("cue\na\n;\ncue b;", 2);
        fine("cue a;lesson b a;", 2);
        fine("cue a;lesson b a 0 1 0 1 0 1 0 1 0 1 0 1 0 1 0 1;", 2);
        fine("cue a;cue b;cue c;cue d;cue e;cue f;teacher g;teacher h;teacher i;teacher j;", 10);
        fine("boat a 0;boat b 0;boat c 0;boat d 0;boat e 0;boat f 3;", 6);
        fine("cue a;lesson b a;lesson c a;lesson d a;lesson e a;lesson f a;lesson g a;lesson h a;lesson i a;", 9);
        fine("cue c;lesson l c 0 1(;".replace("(", ""), 2);
    }

    private static void tokens() {
        fault("Cue c;", 0, 1);
        fault("foo 3;", 0, 1);
        fault("shows 3;", 0, 1);
        fault("known;", 0, 1);
        fault("3;", 0, 1);
        fault(";", 0, 1);
        fault("cells 1;;", 8, 1);
        fault("cells", 5, 1);
        fault("cells ", 6, 1);
        fault("cells 1", 7, 1);
        fault("cells 1 \n", 9, 1);
        fault("cells a;", 6, 1);
        fault("cells;", 5, 1);
        fault("cells 1 2;", 8, 1);
        fault("cells 1;\tshown 1;", 8, 1);
        fault("cells1;", 0, 1);
        fault("cells 1a;", 6, 1);
        fault("cells 0001;", 6, 1);
        fault("cue abcdefgh;", 4, 1);
        fault("cue a1;", 4, 1);
        fault("cue a.", 5, 1);
        fault("cue a" + (char) 200 + ";", 5, 1);
        fault("cue a" + (char) 0 + ";", 5, 1);
        fault("cue a b;", 6, 1);
        fault("cue 1;", 4, 1);
        fault("cue a;lesson b;", 14, 1);
        fault("cue a;lesson b a c;", 17, 1);
        fault("cue a;lesson b a 0 a;", 19, 1);
        fault("cue a;lesson b a 0 1 0;", 22, 1);
        fault("cue a;lesson b a (;", 17, 1);
        fault("boat a;", 6, 1);
        fault("boat a 0", 8, 1);
        fault("ice 1;", 5, 1);
        fault("ice 1 1 1;", 8, 1);
        String[] keys = {"cells", "shown", "keeps", "nights", "ice", "cue", "lesson", "teacher", "boat", "shows", "rings",
            "sails", "day", "or", "and", "not", "known", "today", "at", "by", "times", "steps", "done", "number"};
        for (String key : keys) {
            fault("cue " + key + ";", 4, 1);
            fault("cue a;lesson b " + key + ";", 15, 1);
        }
    }

    private static void numbers() {
        fault("cells 0;", 6, 2);
        fault("cells 9;", 6, 2);
        fault("shown 0;", 6, 2);
        fault("shown 10;", 6, 2);
        fault("keeps 0;", 6, 2);
        fault("keeps 100;", 6, 2);
        fault("nights 0;", 7, 2);
        fault("nights 31;", 7, 2);
        fault("ice 100 1;", 4, 2);
        fault("ice 0 0;", 6, 2);
        fault("ice 0 51;", 6, 2);
        fault("ice 99 2;", 7, 2);
        fault("ice 51 50;", 7, 2);
        fault("cells 9 9;", 6, 2);
        fault("cue a;lesson b a 4 1;", 17, 2);
        fault("cells 3;cue a;lesson b a 3 1;", 25, 2);
        fault("cue a;lesson b a 0 0;", 19, 2);
        fault("cue a;lesson b a 0 4;", 19, 2);
        fault("boat a 4;", 7, 2);
        fault("cells 7;boat a 7;", 15, 2);
    }

    private static void names() {
        fault("cells 1;cells 1;", 8, 3);
        fault("shown 1;shown 1;", 8, 3);
        fault("keeps 1;keeps 1;", 8, 3);
        fault("nights 1;nights 1;", 9, 3);
        fault("ice 1 1;ice 2 1;", 8, 3);
        fault("cells 1;cells 9;", 8, 3);
        fault("cue a;lesson b a;cells 1;", 17, 3);
        fault("boat b 0;cells 1;", 9, 3);
        fault("cue a;cue a;", 10, 3);
        fault("cue a;teacher a;", 14, 3);
        fault("teacher a;boat a 0;", 15, 3);
        fault("cue a;lesson a a;", 13, 3);
        fault("cue a;lesson b c;", 15, 3);
        fault("cue a;lesson b b;", 15, 3);
        fault("teacher a;lesson b a;", 19, 3);
        fault("lesson b old;", 9, 3);
    }

    private static void tooMany() {
        fault("cue a;cue b;cue c;cue d;cue e;cue f;cue a;", 36, 4);
        fault("cue a;cue b;cue c;cue d;cue e;cue f;cue", 36, 4);
        fault("teacher a;teacher b;teacher c;teacher d;teacher e;", 40, 4);
        fault("boat a 0;boat b 0;boat c 0;boat d 0;boat e 0;boat f 0;boat g 9;", 54, 4);
        fault("cue a;lesson b a;lesson c a;lesson d a;lesson e a;lesson f a;lesson g a;lesson h a;lesson i a;lesson j a;",
            94, 4);
        String eight = "cue a;lesson b a" + Check.times(" 0 1", 8);
        fault(eight + " 0 1;", eight.length() + 1, 4);
        fault(eight + " 9 1;", eight.length() + 1, 4);
        fault(eight + " 0;", eight.length() + 1, 4);
        fault(eight + " a;", eight.length() + 1, 1);
        fault(eight + " 1234;", eight.length() + 1, 1);
    }

    /** A text of 900 bytes may end at 900; of a longer one TOKENS that begin ahead of 900 are read whole. */
    private static void tooLong() {
        fine("cue a;" + Check.times(" ", 894), 1);
        fine("cue a" + Check.times(" ", 894) + ";", 1);
        fault("cue a;" + Check.times(" ", 895), 900, 1);
        fault("cue a" + Check.times(" ", 895) + ";", 900, 1);
        fault("cue a;" + Check.times(" ", 934), 900, 1);
        fault("cue a;?" + Check.times(" ", 920), 6, 1);
        fault("cue " + Check.times(" ", 894) + "abcd;", 900, 1);
        fault("cue " + Check.times(" ", 894) + "abcdefgh;", 898, 1);
        fault("cue abc;cue" + Check.times(" ", 888) + "abc;", 899, 3);
        fault("cells " + Check.times(" ", 893) + "12;", 899, 2);
        fault("cells " + Check.times(" ", 893) + "1;", 900, 1);
        fault("cells " + Check.times(" ", 894) + "9;", 900, 1);
    }

    private static void anotherLake() {
        LakeLearns x = Check.lakeOf("cue a;teacher t;lesson l a 0 1;shown 1;boat b 2;");
        x.show(0, 0);
        x.days(3);
        Check.due("sentence", Check.sentence(x, "known"), 1);
        Check.due("a new LAKE by an empty text", Check.lake(x, ""), 0);
        Check.due("DAY 0", x.now(0), 0);
        Check.due("nothing known", x.now(2), 0);
        Check.due("no showings", x.now(7), 0);
        Check.due("as without", x.count(1), 3);
        Check.due("no CUES", x.count(3), 0);
        Check.due("no SENTENCE", x.said(-1), -1);
        Check.due("nothing to undo", x.undo(), -1);
        LakeLearns y = Check.lakeOf(RICH);
        String anew = Check.allOf(y);
        richLife(y);
        Check.due("a life changes it", Check.allOf(y).equals(anew), false);
        Check.lake(y, RICH);
        Check.due("the same LAKE anew", Check.allOf(y), anew);
        richLife(y);
        Check.lake(y, "");
        Check.due("an empty LAKE is as at first", Check.allOf(y), Check.allOf(new LakeLearns()));
        Check.lake(y, "cue a;lesson b a;");
        Check.due("nothing of the old LESSON", y.step(0, 0) + 10 * y.does(0, 1), -1);
        Check.lake(y, "cue a;cue b;lesson c b 0 1;");
        Check.due("of its own CUE alone", 10 * y.does(0, 1) + y.does(1, 1), 1);
    }

    private static final String RICH = "cells 8;shown 1;keeps 3;nights 7;ice 9 2;cue a;cue b;lesson c a 7 3 6 2;lesson d b 5 3 4 1;"
        + "lesson e a 7 1;lesson f b 1 1;teacher t;teacher s;boat g 7;boat h 4;";

    /** Nothing is left as in a new LAKE: one LESSON was forgotten, one is KNOWN, one was shown today. */
    private static void richLife(LakeLearns x) {
        x.show(1, 0);
        x.days(1);
        x.ring(0);
        x.days(4);
        x.show(1, 1);
        x.days(1);
        x.sail(1, 5);
        x.sail(0, 0);
        x.ring(1);
        x.show(1, 0);
        Check.due("forgotten", Check.lesson(x, 0, 7), 1);
        Check.due("wet", x.now(6), 2 + 1);
    }

    private static void faultOfTheLatest() {
        LakeLearns x = new LakeLearns();
        Check.lake(x, "cells 0;");
        Check.due("of lake()", x.fault(), 2);
        x.feed(0, 0, 0, 0, 0);
        Check.due("diary(2)", x.diary(2), -1000);
        Check.due("-1000 leaves it", x.fault(), 2);
        Check.due("-1000 leaves the tape", x.count(7), 20);
        Check.due("diary(0)", x.diary(0), -2);
        Check.due("of diary()", x.fault(), 1);
        Check.due("a diary without", Check.diary(x, 0, "day 1;"), -1);
        Check.due("0 without one", x.fault(), 0);
        Check.due("sentence()", Check.sentence(x, "at nobody"), -4);
        Check.due("of sentence()", x.fault(), 3);
        x.learnt();
        x.teach(0);
        Check.due("learnt() and teach() leave it", x.fault(), 3);
        Check.lake(x, "");
        Check.due("0 behind a good lake()", x.fault(), 0);
    }
}
