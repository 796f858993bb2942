/** Promises 38 and 39: image and restore. */
public final class ImageTest {
    private static final String POND = "cells 3;shown 1;keeps 9;cue bell;lesson ring bell 0 1 1 2 2 3;teacher ann;boat tub 1;";

    public static void main(String[] args) {
        places();
        allThatIsSo();
        whatStays();
        keptAnew();
        nothingIsLeftOut();
        Check.close("ImageTest");
    }

    private static void places() {
        LakeLearns x = Check.lakeOf(POND);
        for (int k : new int[] {-1, 2, Integer.MIN_VALUE, Integer.MAX_VALUE}) {
            Check.due("image(" + k + ")", x.image(k), false);
            Check.due("restore(" + k + ")", x.restore(k), false);
        }
        Check.due("nothing is kept there", x.restore(0), false);
        Check.due("image(1)", x.image(1), true);
        Check.due("nothing is kept there", x.restore(0), false);
        Check.due("restore(1)", x.restore(1), true);
        Check.due("again", x.restore(1), true);
    }

    private static void allThatIsSo() {
        LakeLearns x = Check.lakeOf(POND);
        x.show(0, 0);
        x.days(1);
        x.ring(0);
        x.sail(0, 0);
        Check.sentence(x, "known");
        Check.due("image(0)", x.image(0), true);
        Check.due("another LAKE", Check.lake(x, "cells 1;cue a;boat b 0;"), 3);
        Check.sentence(x, "not known");
        x.image(1);
        x.days(7);
        Check.due("restore(0)", x.restore(0), true);
        Check.due("CELLS", x.count(0), 3);
        Check.due("LESSONS", x.count(4), 1);
        Check.due("DAY", x.now(0), 1);
        Check.due("known", x.now(2), 1);
        Check.due("HEIGHT", x.height(2), 3);
        Check.due("tub", x.boat(0, 0), 0);
        Check.due("wet", x.boat(0, 1), 1);
        Check.due("STEP", x.step(0, 2), 23);
        Check.due("forgets", x.forgets(0), 10);
        Check.due("SENTENCE", x.said(-1), 1);
        Check.due("a DIARY by the old NAMES", Check.diary(x, 0, "tub sails 1;day 1;"), -1);
        Check.due("restore(1)", x.restore(1), true);
        Check.due("CELLS", x.count(0), 1);
        Check.due("DAY", x.now(0), 0);
        Check.due("SENTENCE", x.said(-1), 0);
        Check.due("no such NAME now", Check.diary(x, 0, "tub sails 1;day 1;"), -2);
    }

    private static void whatStays() {
        LakeLearns x = Check.lakeOf(POND);
        x.image(0);
        x.show(0, 0);
        x.days(1);
        Check.sentence(x, "known");
        Check.tape(x, 0, 1, 2, 3);
        Check.due("learnt()", x.learnt(), 1);
        Check.tape(x, 1, 2, 3);
        Check.due("teach(0)", x.teach(0), 0);
        Check.due("diary", Check.diary(x, 0, "tub sails 1;"), 0);
        Check.due("a fault", Check.sentence(x, "at nil"), -4);
        x.feed(1, 2, 3, 4, 5);
        Check.due("restore(0)", x.restore(0), true);
        Check.due("the tape stays", x.count(7), 20);
        Check.due("surely() stays", x.surely(), 1);
        Check.due("never() stays", x.never(), 0);
        Check.due("ask() stays", x.ask(), 0);
        Check.due("taught() stays", x.taught(), 0);
        Check.due("told() stays", x.told(0), 21);
        Check.due("fault() stays", x.fault(), 3);
        Check.due("no SENTENCE was kept", x.said(-1), -1);
        Check.due("nothing can be undone", x.undo(), -1);
        Check.due("DAY 0", x.now(0), 0);
    }

    private static final String RICH = "cells 8;shown 2;keeps 3;nights 7;ice 9 2;cue a;cue b;lesson c a 7 3 6 2;"
        + "lesson d b 5 3 4 1;lesson e a 7 1;lesson f b 1 1;teacher t;teacher s;boat g 7;boat h 4;";

    private static void richLife(LakeLearns x) {
        x.show(1, 0);
        x.days(1);
        x.show(1, 0);
        x.show(0, 3);
        x.days(1);
        x.ring(0);
        x.days(4);
        x.show(1, 1);
        x.days(1);
        x.show(0, 1);
        x.days(1);
        x.sail(1, 5);
        x.sail(0, 0);
        x.ring(1);
        x.show(1, 0);
        Check.sentence(x, "known or not done>0 and number>2");
    }

    private static void nothingIsLeftOut() {
        LakeLearns x = Check.lakeOf(RICH);
        richLife(x);
        String rich = Check.allOf(x);
        x.image(1);
        Check.lake(x, "cells 2;cue q;cue r;cue b;lesson l r;lesson m r 0 1;teacher n;boat o 1;boat p 1;");
        String other = Check.allOf(x);
        x.image(0);
        x.restore(1);
        Check.due("all as kept in 1", Check.allOf(x), rich);
        x.restore(0);
        Check.due("all as kept in 0", Check.allOf(x), other);
        x.restore(1);
        x.drawn(60, 3);
        x.drawn(60, 4);
        Check.due("much is else", Check.allOf(x).equals(rich), false);
        x.undo();
        x.undo();
        Check.due("all as it was ahead of the acts", Check.allOf(x), rich);
        Check.due("the NAMES too", Check.diary(x, 0, "h sails 0;s shows c;"), 1);
        Check.due("why", x.told(0), 2);
    }

    private static void keptAnew() {
        LakeLearns x = Check.lakeOf(POND);
        x.image(0);
        x.days(5);
        x.image(0);
        Check.due("image() leaves what can be undone", x.undo(), 0);
        x.days(3);
        x.restore(0);
        Check.due("the latest of that place", x.now(0), 5);
        x.days(1);
        x.restore(0);
        Check.due("as kept, not as lived since", x.now(0), 5);
    }
}
