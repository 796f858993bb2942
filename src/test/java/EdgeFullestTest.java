/** The fullest LAKE there may be, and each call at the last of all that there is and one behind it. */
public final class EdgeFullestTest {
    private static final String FULLEST = "cells 8;shown 1;keeps 99;nights 30;ice 50 50;cue a;cue b;cue c;cue d;cue e;cue f;"
        + "lesson g a 0 3 1 3 2 3 3 3 4 3 5 3 6 3 7 3;lesson h b 1 3;lesson i c 2 3;lesson j d 3 3;lesson k e 4 3;"
        + "lesson l f 5 3;lesson m f 6 3;lesson n f 7 3 7 3 7 3 7 3 7 3 7 3 7 3 7 2;"
        + "teacher o;teacher p;teacher q;teacher r;boat s 0;boat t 1;boat u 2;boat v 5;boat w 6;boat x 7;";

    public static void main(String[] args) {
        LakeLearns x = Check.lakeOf(FULLEST);
        nothingKnown(x);
        teachAll(x);
        allKnown(x);
        acts(x);
        texts(x);
        Check.close("EdgeFullestTest");
    }

    private static void nothingKnown(LakeLearns x) {
        Check.by(27, "LONG of all 8 LESSONS of 6 CUES");
        Check.due("lasts(255)", x.lasts(255), 3);
        Check.due("lasts(128)", x.lasts(128), 1);
        Check.due("lasts(256)", x.lasts(256), -1);
        Check.by(29, "the last of 4 TEACHERS");
        Check.due("pupils(3)", x.pupils(3), 0);
        Check.due("pupils(4)", x.pupils(4), -1);
        Check.by(26, "pairs of 8 LESSONS");
        Check.due("apart(-1)", x.apart(-1), 3);
        Check.due("apart(2)", x.apart(2), 67);
        Check.due("apart(3)", x.apart(3), -1);
        Check.by(31, "pairs of 8 LESSONS");
        Check.due("still(-1)", x.still(-1), 0);
        Check.due("still(0)", x.still(0), -1);
    }

    /** Three LESSONS are of one CUE, so it takes three DAYS. */
    private static void teachAll(LakeLearns x) {
        Check.by(11, "the last LESSON by the last TEACHER");
        for (int l = 0; l < 8; l++) {
            if (l == 6 || l == 7) {
                x.days(1);
            }
            Check.due("show(3, " + l + ")", x.show(3, l), 0);
            Check.due("show(4, " + l + ")", x.show(4, l), -1);
        }
        Check.due("show(3, 8)", x.show(3, 8), -1);
        x.days(1);
        Check.due("all are KNOWN", x.now(2), 255);
        for (int l = 0; l < 8; l++) {
            Check.due("by TEACHER 3", Check.lesson(x, l, 4), 8);
        }
        Check.by(29, "the last of 4 TEACHERS");
        Check.due("pupils(3)", x.pupils(3), 255);
        Check.by(28, "the last of 8 LESSONS");
        Check.due("forgets(7)", x.forgets(7), -1);
        Check.due("forgets(8)", x.forgets(8), -1);
    }

    private static void allKnown(LakeLearns x) {
        Check.by(16, "the last CUE, all LESSONS, all CELLS");
        Check.due("does(5, 255)", x.does(5, 255), (3 << 10) + (3 << 12) + (3 << 14));
        Check.due("does(0, 255)", x.does(0, 255), 65535);
        Check.due("does(5, 256)", x.does(5, 256), -1);
        Check.due("does(6, 255)", x.does(6, 255), -1);
        Check.by(17, "the last CUE, all LESSONS, all CELLS");
        Check.due("waves(5, 255)", x.waves(5, 255), 32 + 64 + 128);
        Check.due("waves(0, 255)", x.waves(0, 255), 255);
        Check.due("waves(5, 256)", x.waves(5, 256), -1);
        Check.by(18, "the last CELL");
        Check.due("dry(7)", x.dry(7), 62 - 32);
        Check.due("dry(8)", x.dry(8), -1);
        Check.by(19, "all CUES");
        Check.due("havens(63)", x.havens(63), 0);
        Check.due("havens(62)", x.havens(62), 1);
        Check.due("havens(64)", x.havens(64), -1);
        Check.by(27, "KNOWN ones need none");
        Check.due("lasts(255)", x.lasts(255), 0);
    }

    private static void acts(LakeLearns x) {
        Check.by(12, "the last CUE");
        Check.due("ring(6)", x.ring(6), -1);
        Check.due("ring(5)", x.ring(5), 0);
        Check.due("BOATS in CELLS 5, 6 and 7", x.now(6), 8 + 16 + 32);
        Check.due("ring(0)", x.ring(0), 0);
        Check.due("all BOATS", x.now(6), 63);
        for (int b = 0; b < 6; b++) {
            Check.due("how often wet: " + b, x.boat(b, 2), b < 3 ? 1 : 2);
        }
        Check.by(13, "the last BOAT, the last CELL");
        Check.due("sail(5, 7)", x.sail(5, 7), 1);
        Check.due("sail(4, 7)", x.sail(4, 7), 3);
        Check.due("sail(6, 7)", x.sail(6, 7), -1);
        x.ring(1);
        Check.due("sail(4, 7) where it is flat", x.sail(4, 7), 0);
        Check.due("sail(5, 8)", x.sail(5, 8), -1);
        Check.by(32, "4 TEACHERS, 8 LESSONS, 6 CUES");
        Check.due("drawn(60, 1)", x.drawn(60, 1), 60);
        Check.by(33, "the last LESSON");
        Check.due("odds(7, 30, 1)", x.odds(7, 30, 1) >= 0, true);
        Check.due("odds(8, 30, 1)", x.odds(8, 30, 1), -1);
    }

    private static void texts(LakeLearns x) {
        Check.by(20, "all 6 CUES heard, 8 CELLS each");
        Check.lake(x, FULLEST);
        int[] tape = new int[54];
        for (int c = 0; c < 6; c++) {
            tape[9 * c] = c;
        }
        Check.tape(x, tape);
        Check.due("all flat", x.learnt(), 1);
        Check.due("never", x.never(), 255);
        tape[53] = 3;
        Check.tape(x, tape);
        Check.due("the last CELL of the last CUE is 3", x.learnt(), 1);
        Check.due("surely", x.surely(), 128);
        tape[45] = 6;
        Check.tape(x, tape);
        Check.due("a seventh CUE", x.learnt(), -1);
        Check.by(24, "the last CUE, all CELLS");
        Check.tape(x, 0, 0, 0, 0, 0, 3, 3, 3);
        Check.due("teach(5)", x.teach(5), 3);
        Check.due("taught()", x.taught(), 128 + 64 + 32);
        Check.by(36, "NAMES at the end of each sort");
        Check.due("sentence", Check.sentence(x, "at f and not by r or number>6"), 4);
        Check.due("said(-1)", x.said(-1), 3);
        Check.due("said(2)", x.said(2), 7);
        Check.due("said(3)", x.said(3), -1);
        Check.by(34, "NAMES at the end of each sort");
        Check.due("diary", Check.diary(x, 1, "r shows n;rings f;x sails 6;day 1;"), -1);
        Check.due("KNOWN", x.now(2), 128);
    }
}
