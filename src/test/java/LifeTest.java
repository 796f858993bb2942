/** Promises 6 to 15: what is so on a DAY, showing, ringing, sailing, DAYS that go by, undoing. */
public final class LifeTest {
    private static final String POND = "cells 3;shown 2;keeps 4;ice 10 5;cue bell;cue moon;lesson ring bell 0 1 1 2 2 3;"
        + "lesson swim bell 0 3 1 2;lesson wave moon 2 2;teacher ann;teacher bob;boat tub 1;boat gig 0;";

    public static void main(String[] args) {
        lessons();
        steps();
        boats();
        heights();
        showing();
        confusion();
        ringing();
        wetInTheMiddle();
        sailing();
        days();
        forgetting();
        forgettingSome();
        nights();
        iceForgets();
        theLastDay();
        undoing();
        Check.close("LifeTest");
    }

    private static void lessons() {
        LakeLearns x = Check.lakeOf(POND);
        int[][] due = {{0, 3, 0, 0, 0, 0, -1, 0}, {0, 2, 0, 0, 0, 0, -1, 0}, {1, 1, 0, 0, 0, 0, -1, 0}};
        for (int l = 0; l < 3; l++) {
            for (int what = 0; what < 8; what++) {
                Check.due("lesson(" + l + ", " + what + ")", Check.lesson(x, l, what), due[l][what]);
            }
        }
        int[][] none = {{3, 0}, {-1, 0}, {0, -1}, {0, 8}, {Integer.MAX_VALUE, 0}, {0, Integer.MIN_VALUE}, {8, 8}};
        for (int[] n : none) {
            Check.due("lesson(" + n[0] + ", " + n[1] + ")", Check.lesson(x, n[0], n[1]), -99);
        }
        x.show(1, 2);
        Check.due("who shows it today", Check.lesson(x, 2, 6), 1);
        Check.due("it does not count yet", Check.lesson(x, 2, 2), 0);
        x.days(1);
        Check.due("nobody", Check.lesson(x, 2, 6), -1);
        Check.due("it counts", Check.lesson(x, 2, 2), 1);
        Check.due("by bob", Check.lesson(x, 2, 4), 2);
        x.show(0, 2);
        x.days(1);
        Check.due("twice", Check.lesson(x, 2, 2), 2);
        Check.due("by both", Check.lesson(x, 2, 4), 3);
        Check.due("known", Check.lesson(x, 2, 3), 1);
        x.ring(1);
        x.ring(1);
        x.ring(0);
        Check.due("done twice", Check.lesson(x, 2, 5), 2);
        Check.due("others not", Check.lesson(x, 0, 5), 0);
        x.days(5);
        Check.due("forgotten", Check.lesson(x, 2, 7), 1);
        Check.due("not known", Check.lesson(x, 2, 3), 0);
        Check.due("never shown", Check.lesson(x, 2, 2), 0);
        Check.due("by none", Check.lesson(x, 2, 4), 0);
        Check.due("what was done was done", Check.lesson(x, 2, 5), 2);
    }

    private static void steps() {
        LakeLearns x = Check.lakeOf(POND);
        int[] due = {1, 12, 23, -1};
        for (int i = 0; i < due.length; i++) {
            Check.due("step(0, " + i + ")", x.step(0, i), due[i]);
        }
        Check.due("step(1, 1)", x.step(1, 1), 12);
        Check.due("step(0, -1)", x.step(0, -1), -1);
        Check.due("step(3, 0)", x.step(3, 0), -1);
        Check.due("step(-1, 0)", x.step(-1, 0), -1);
        Check.due("step(0, most)", x.step(0, Integer.MAX_VALUE), -1);
        LakeLearns y = Check.lakeOf("cells 8;cue a;lesson b a;lesson c a 7 3 6 1 7 3 7 3 7 3 7 3 7 3 5 2;");
        Check.due("no steps", y.step(0, 0), -1);
        Check.due("the eighth", y.step(1, 7), 52);
        Check.due("the first", y.step(1, 0), 73);
        Check.due("no ninth", y.step(1, 8), -1);
    }

    private static void boats() {
        LakeLearns x = Check.lakeOf(POND);
        int[][] due = {{1, 0, 0, 0, -1}, {0, 0, 0, 0, -1}};
        for (int b = 0; b < 2; b++) {
            for (int what = 0; what < 5; what++) {
                Check.due("boat(" + b + ", " + what + ")", x.boat(b, what), due[b][what]);
            }
        }
        Check.due("boat(2, 0)", x.boat(2, 0), -1);
        Check.due("boat(-1, 0)", x.boat(-1, 0), -1);
        Check.due("boat(0, -1)", x.boat(0, -1), -1);
    }

    private static void heights() {
        LakeLearns x = learntPond();
        x.ring(0);
        int[] due = {1, 2, 3};
        for (int c = 0; c < 3; c++) {
            Check.due("height(" + c + ")", x.height(c), due[c]);
        }
        Check.due("height(3)", x.height(3), -1);
        Check.due("height(-1)", x.height(-1), -1);
        x.ring(1);
        Check.due("the next RING: cell 0", x.height(0), 0);
        Check.due("the next RING: cell 2", x.height(2), 0);
        x.ring(0);
        x.days(1);
        for (int c = 0; c < 3; c++) {
            Check.due("the end of the DAY: height(" + c + ")", x.height(c), 0);
        }
    }

    /** POND, in which 'ring' is KNOWN, on DAY 2. */
    private static LakeLearns learntPond() {
        LakeLearns x = Check.lakeOf(POND);
        x.show(0, 0);
        x.days(1);
        x.show(1, 0);
        x.days(1);
        return x;
    }

    private static void showing() {
        LakeLearns x = learntPond();
        Check.due("a known one", x.show(0, 0), 3);
        Check.due("another", x.show(0, 1), 0);
        Check.due("again by him", x.show(0, 1), 2);
        Check.due("again by another", x.show(1, 1), 2);
        Check.due("showings in all", x.now(7), 3);
        Check.due("no such teacher", x.show(2, 0), -1);
        Check.due("no such teacher", x.show(-1, 0), -1);
        Check.due("no such lesson", x.show(0, 3), -1);
        Check.due("no such lesson", x.show(0, -1), -1);
        x.days(8);
        Check.due("DAY 10", x.now(0), 10);
        Check.due("ice", x.show(0, 1), 1);
        LakeLearns y = Check.lakeOf("shown 1;keeps 99;ice 1 1;cue a;lesson b a;teacher t;");
        y.show(0, 0);
        y.days(1);
        Check.due("ice ahead of known", y.show(0, 0), 1);
    }

    private static void confusion() {
        LakeLearns x = Check.lakeOf("shown 1;cue a;cue b;lesson c a;lesson d a;lesson e a;lesson f b;lesson g b;teacher t;");
        x.show(0, 0);
        x.show(0, 3);
        Check.due("not confused", x.now(4), 0);
        x.show(0, 2);
        Check.due("shown", x.now(3), 1 + 4 + 8);
        Check.due("confused", x.now(4), 1 + 4);
        x.show(0, 1);
        Check.due("all of them", x.now(4), 1 + 2 + 4);
        x.days(1);
        Check.due("known", x.now(2), 8);
        Check.due("none of them counts", Check.lesson(x, 0, 2) + Check.lesson(x, 1, 2) + Check.lesson(x, 2, 2), 0);
        Check.due("shown today", x.now(3), 0);
        Check.due("confused today", x.now(4), 0);
        x.show(0, 4);
        Check.due("a known one confuses none", x.now(4), 0);
        x.days(1);
        Check.due("known", x.now(2), 24);
        Check.due("all showings", x.now(7), 5);
    }

    private static void ringing() {
        LakeLearns x = learntPond();
        Check.due("no such cue", x.ring(2), -1);
        Check.due("no such cue", x.ring(-1), -1);
        Check.due("ring(1)", x.ring(1), 0);
        Check.due("nothing known of it", x.height(2), 0);
        Check.due("rings", x.now(5), 1);
        Check.due("nobody wet", x.now(6), 0);
        Check.due("ring(0)", x.ring(0), 0);
        Check.due("rings", x.now(5), 2);
        Check.due("tub is wet", x.now(6), 1);
        Check.due("tub is wet", x.boat(0, 1), 1);
        Check.due("gig is not", x.boat(1, 1), 0);
        Check.due("once a RING, though high behind two STEPS", x.boat(0, 2), 1);
        x.ring(0);
        Check.due("again", x.boat(0, 2), 2);
        x.days(1);
        Check.due("wet it stays", x.boat(0, 1), 1);
        x.ring(1);
        Check.due("wet it stays", x.now(6), 1);
        Check.due("no oftener", x.boat(0, 2), 2);
        while (x.now(0) < 10) {
            x.days(1);
        }
        Check.due("ice", x.now(1), 1);
        Check.due("ring", x.ring(0), 1);
        Check.due("rings", x.now(5), 4);
        Check.due("no such cue ahead of ice", x.ring(2), -1);
    }

    /** Two LESSONS mixed: within a STEP nobody looks, behind a STEP they do, and by 4 it is flat again. */
    private static void wetInTheMiddle() {
        LakeLearns x = Check.lakeOf("cells 2;shown 1;cue a;lesson b a 0 3 1 1 1 3;lesson c a 0 1 1 1 1 3;teacher t;boat d 0;boat e 1;");
        x.show(0, 0);
        x.days(1);
        x.show(0, 1);
        x.days(1);
        Check.due("both known", x.now(2), 3);
        x.ring(0);
        Check.due("cell 0: 3 and 1", x.height(0), 0);
        Check.due("cell 1: 1, 1 then 3, 3", x.height(1), 0);
        Check.due("d stays dry", x.boat(0, 1), 0);
        Check.due("e was wet behind STEP 1", x.boat(1, 1), 1);
    }

    private static void sailing() {
        LakeLearns x = learntPond();
        Check.due("it is there", x.sail(0, 1), 1);
        Check.due("no such boat", x.sail(2, 0), -1);
        Check.due("no such boat", x.sail(-1, 0), -1);
        Check.due("no such cell", x.sail(0, 3), -1);
        Check.due("no such cell", x.sail(0, -1), -1);
        x.ring(0);
        Check.due("too high", x.sail(0, 2), 3);
        Check.due("gig to 1, where it is 2", x.sail(1, 1), 0);
        Check.due("gig is dry", x.boat(1, 1), 0);
        Check.due("gig is there", x.boat(1, 0), 1);
        Check.due("one voyage", x.boat(1, 3), 1);
        x.days(1);
        Check.due("flat on the next day", x.sail(0, 2), 0);
        x.days(7);
        Check.due("DAY 10", x.now(0), 10);
        Check.due("ice", x.sail(0, 0), 2);
        Check.due("it is there, ahead of ice", x.sail(0, 2), 1);
        Check.due("voyages", x.boat(0, 3), 1);
    }

    private static void days() {
        LakeLearns x = Check.lakeOf(POND);
        Check.due("days(0)", x.days(0), -1);
        Check.due("days(61)", x.days(61), -1);
        Check.due("days(-1)", x.days(-1), -1);
        Check.due("days(1)", x.days(1), 1);
        Check.due("now(0)", x.now(0), 1);
        Check.due("days(60)", x.days(60), 60);
        Check.due("now(0)", x.now(0), 61);
        Check.due("now(-1)", x.now(-1), -1);
        Check.due("now(8)", x.now(8), -1);
        for (int day = 61; day < 120; day++) {
            int rest = day % 100;
            Check.due("ice on DAY " + day, x.now(1), rest >= 10 && rest < 15 ? 1 : 0);
            x.days(1);
        }
    }

    private static void forgetting() {
        LakeLearns x = Check.lakeOf("shown 1;keeps 3;cue a;lesson b a;teacher t;");
        x.days(1);
        x.show(0, 0);
        x.days(1);
        Check.due("learnt on DAY 1: forgets", x.forgets(0), 3);
        x.days(2);
        Check.due("DAY 4: known yet", x.now(2), 1);
        Check.due("at the end of this one", x.forgets(0), 1);
        LakeLearns y = Check.lakeOf("shown 1;keeps 3;cue a;lesson b a;teacher t;");
        y.days(1);
        y.show(0, 0);
        y.days(3);
        y.ring(0);
        Check.due("done on DAY 4", y.forgets(0), 4);
        y.days(3);
        Check.due("DAY 7", y.now(2), 1);
        y.days(1);
        Check.due("DAY 8: forgotten", y.now(2), 0);
        Check.due("once", Check.lesson(y, 0, 7), 1);
        x.days(1);
        Check.due("DAY 5: forgotten", x.now(2), 0);
        Check.due("forgets(0)", x.forgets(0), -1);
        Check.due("it can be shown again", x.show(0, 0), 0);
        x.days(1);
        Check.due("and known again", x.now(2), 1);
    }

    /** Each LESSON is kept and forgotten by itself, and one that was never KNOWN is never forgotten. */
    private static void forgettingSome() {
        LakeLearns x = Check.lakeOf("shown 1;keeps 3;cue a;cue b;cue c;lesson d a;lesson e b;lesson f c;lesson g c;teacher t;");
        x.show(0, 0);
        x.show(0, 2);
        x.days(1);
        x.show(0, 1);
        x.days(1);
        x.ring(2);
        x.days(2);
        Check.due("d was learnt on DAY 0", x.now(2), 6);
        x.days(1);
        Check.due("e on DAY 1, f was done on DAY 2", x.now(2), 4);
        x.days(1);
        Check.due("all are forgotten", x.now(2), 0);
        x.days(20);
        for (int l = 0; l < 4; l++) {
            Check.due("how often: " + l, Check.lesson(x, l, 7), l < 3 ? 1 : 0);
        }
    }

    private static void nights() {
        LakeLearns x = Check.lakeOf("shown 1;keeps 3;nights 5;cue a;lesson b a;teacher t;");
        x.days(4);
        x.show(0, 0);
        x.days(1);
        Check.due("learnt on DAY 4, practised on 5", x.forgets(0), 4);
        x.days(3);
        Check.due("DAY 8", x.now(2), 1);
        x.days(1);
        Check.due("DAY 9: forgotten, practising on 10 is too late", x.now(2), 0);
        LakeLearns y = Check.lakeOf("shown 1;keeps 5;nights 5;cue a;lesson b a;teacher t;");
        y.show(0, 0);
        y.days(1);
        Check.due("never forgotten", y.forgets(0), -1);
        y.days(60);
        Check.due("known", y.now(2), 1);
        Check.due("practised is not done", Check.lesson(y, 0, 5), 0);
    }

    private static void iceForgets() {
        LakeLearns x = Check.lakeOf("shown 2;keeps 99;ice 3 2;cue a;cue b;lesson c a;lesson d b;teacher t;");
        x.show(0, 0);
        x.days(1);
        x.show(0, 0);
        x.show(0, 1);
        x.days(1);
        Check.due("DAY 2", Check.lesson(x, 1, 2), 1);
        x.days(1);
        Check.due("DAY 3, ice", x.now(1), 1);
        Check.due("not known: never shown", Check.lesson(x, 1, 2), 0);
        Check.due("by nobody", Check.lesson(x, 1, 4), 0);
        Check.due("that is not forgetting", Check.lesson(x, 1, 7), 0);
        Check.due("known stays", Check.lesson(x, 0, 2), 2);
        LakeLearns y = Check.lakeOf("shown 2;keeps 99;ice 0 2;cue a;lesson c a;teacher t;");
        Check.due("ice on DAY 0", y.show(0, 0), 1);
        y.days(2);
        Check.due("no ice on DAY 2", y.show(0, 0), 0);
        y.days(1);
        Check.due("counts", Check.lesson(y, 0, 2), 1);
        y.days(60);
        y.days(36);
        Check.due("DAY 99", y.now(0), 99);
        Check.due("counts yet", Check.lesson(y, 0, 2), 1);
        y.show(0, 0);
        y.undo();
        y.days(1);
        Check.due("DAY 100: ice", Check.lesson(y, 0, 2), 0);
        LakeLearns z = Check.lakeOf("shown 2;ice 1 1;cue a;lesson c a;teacher t;");
        z.show(0, 0);
        z.days(1);
        Check.due("shown on the day ahead of ice", Check.lesson(z, 0, 2), 0);
    }

    private static void theLastDay() {
        LakeLearns x = Check.lakeOf(POND);
        for (int i = 0; i < 9; i++) {
            x.days(60);
        }
        x.days(59);
        Check.due("DAY 599", x.now(0), 599);
        Check.due("one is left", x.days(60), 1);
        Check.due("all are over", x.now(0), 600);
        Check.due("none goes by", x.days(1), 0);
        Check.due("not as told", x.days(0), -1);
        Check.due("days() of 0 is nothing to undo: the DAY ahead of it is", x.undo(), 7);
        Check.due("DAY 599", x.now(0), 599);
    }

    private static void undoing() {
        LakeLearns x = Check.lakeOf(POND);
        x.show(0, 0);
        x.show(0, 0);
        Check.due("one act: the other was not done", x.undo(), 0);
        Check.due("not shown", x.now(3) + x.now(7), 0);
        Check.due("none is", x.undo(), -1);
        x.sail(0, 0);
        x.sail(0, 2);
        x.show(0, 2);
        x.ring(1);
        x.days(2);
        Check.due("undo days", x.undo(), 4);
        Check.due("DAY 0", x.now(0), 0);
        Check.due("shown today again", x.now(3), 4);
        Check.due("by ann", Check.lesson(x, 2, 6), 0);
        Check.due("undo ring", x.undo(), 3);
        Check.due("no rings", x.now(5), 0);
        Check.due("undo show", x.undo(), 2);
        Check.due("nobody", Check.lesson(x, 2, 6), -1);
        Check.due("undo sail", x.undo(), 1);
        Check.due("at 0", x.boat(0, 0), 0);
        Check.due("one voyage", x.boat(0, 3), 1);
        Check.due("undo sail", x.undo(), 0);
        Check.due("at 1", x.boat(0, 0), 1);
        for (int i = 0; i < 10; i++) {
            x.days(1);
        }
        for (int left = 7; left >= 0; left--) {
            Check.due("8 at most are kept", x.undo(), left);
        }
        Check.due("DAY 2", x.now(0), 2);
        Check.due("none is", x.undo(), -1);
        Check.due("drawn", x.drawn(3, 5), 3);
        Check.due("a DIARY", Check.diary(x, 1, "rings bell;day 1;"), -1);
        Check.due("a DIARY that is judged is no act", Check.diary(x, 0, "rings bell;day 1;"), -1);
        Check.due("undo the DIARY, whole", x.undo(), 1);
        Check.due("DAY 5", x.now(0), 5);
        Check.due("undo drawn", x.undo(), 0);
        Check.due("DAY 2", x.now(0), 2);
        Check.sentence(x, "known");
        x.show(0, 0);
        x.undo();
        Check.due("the SENTENCE stays", x.said(-1), 0);
    }
}
