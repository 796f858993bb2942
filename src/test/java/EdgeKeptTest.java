import java.util.function.IntSupplier;

/** Promises 4, 15, 38 and 39 at their edges: what is undone, kept and restored, and how a new LAKE begins. */
public final class EdgeKeptTest {
    private static final String POND = "cells 3;shown 1;keeps 4;ice 30 5;cue bell;cue moon;lesson ring bell 0 1 1 2 2 3;"
        + "lesson swim bell 0 3 1 2;lesson wave moon 2 2;teacher ann;teacher bob;boat tub 1;boat gig 0;";

    public static void main(String[] args) {
        noneIsUndone();
        eightAtMost();
        eachAct();
        whatIsNoAct();
        noPlaceTaken();
        doneAgain();
        newLake();
        faultyLake();
        places();
        asKept();
        whatStays();
        nothingCanBeUndone();
        emptyImage();
        Check.close("EdgeKeptTest");
    }

    private static void noneIsUndone() {
        Check.by(15, "NONE: none is");
        LakeLearns x = new LakeLearns();
        Check.refused(x, "undo() of a new object", -1, x::undo);
        LakeLearns y = Check.lakeOf(POND);
        Check.refused(y, "undo() of a new LAKE", -1, y::undo);
        y.days(1);
        Check.due("undo()", y.undo(), 0);
        Check.refused(y, "undo() behind the last that is", -1, y::undo);
        Check.due("an empty LAKE has DAYS too", x.days(3), 3);
        Check.due("which can be undone", x.undo(), 0);
        Check.due("DAY 0", x.now(0), 0);
    }

    private static void eightAtMost() {
        Check.by(15, "how many more can be (8 at most are kept)");
        for (int acts = 1; acts <= 20; acts++) {
            LakeLearns x = Check.lakeOf(POND);
            String[] states = new String[acts];
            for (int i = 0; i < acts; i++) {
                states[i] = Check.allOf(x);
                liveOne(x, i);
            }
            int kept = Math.min(acts, 8);
            for (int more = kept - 1; more >= 0; more--) {
                Check.due(acts + " acts: undo()", x.undo(), more);
                Check.due(acts + " acts, " + more + " more: all is as it was", Check.allOf(x), states[acts - kept + more]);
            }
            Check.due(acts + " acts: no more", x.undo(), -1);
        }
    }

    private static void liveOne(LakeLearns x, int i) {
        switch (i % 5) {
            case 0: Check.due("show", x.show(i % 2, i / 5 % 3), 0); break;
            case 1: Check.due("days", x.days(1), 1); break;
            case 2: Check.due("ring", x.ring(i % 2), 0); break;
            case 3: Check.due("sail", x.sail(1, i % 2 == 0 ? 0 : 1), 0); break;
            default: Check.due("a DIARY", Check.diary(x, 1, "day 6;"), -1);
        }
    }

    private static LakeLearns lived() {
        LakeLearns x = Check.lakeOf(POND);
        x.show(0, 0);
        x.days(1);
        x.ring(0);
        return x;
    }

    private static void undone(String act, LakeLearns x, IntSupplier made, int want) {
        String before = Check.allOf(x);
        Check.due(act, made.getAsInt(), want);
        Check.due(act + " changes much", Check.allOf(x).equals(before), false);
        Check.due("undo() behind " + act, x.undo(), 3);
        Check.due(act + " is undone", Check.allOf(x), before);
        Check.due("then the RING", x.undo(), 2);
        Check.due("RINGS", x.now(5), 0);
    }

    private static void eachAct() {
        Check.by(15, "The latest of show(), ring(), sail() that was done, days() above 0, drawn() above 0, a DIARY is undone");
        LakeLearns a = lived();
        undone("show(1, 2)", a, () -> a.show(1, 2), 0);
        LakeLearns b = lived();
        undone("ring(1)", b, () -> b.ring(1), 0);
        LakeLearns c = lived();
        undone("sail(1, 1)", c, () -> c.sail(1, 1), 0);
        LakeLearns d = lived();
        undone("days(1)", d, () -> d.days(1), 1);
        LakeLearns e = lived();
        undone("days(60)", e, () -> e.days(60), 60);
        LakeLearns f = lived();
        undone("drawn(1, 1)", f, () -> f.drawn(1, 1), 1);
        LakeLearns g = lived();
        undone("drawn(60, 7)", g, () -> g.drawn(60, 7), 60);
        LakeLearns h = lived();
        undone("a DIARY", h, () -> Check.diary(h, 1, "day 1;rings bell;gig sails 1;bob shows wave;"), -1);
        LakeLearns i = lived();
        undone("a DIARY that is WRONG in LINE 1", i, () -> Check.diary(i, 1, "day 1;tub sails 1;day 1;"), 1);
    }

    /** Whatever is not done, and whatever only asks, is no act: the RING ahead of it is the latest. */
    private static void whatIsNoAct() {
        Check.by(15, "that was done");
        LakeLearns x = lived();
        Check.tape(x, "day 1;");
        IntSupplier[] calls = {() -> x.show(0, 0), () -> x.show(2, 0), () -> x.ring(2), () -> x.sail(0, 1), () -> x.sail(0, 2),
            () -> x.sail(0, 3), () -> x.days(0), () -> x.days(61), () -> x.drawn(0, 1), () -> x.drawn(61, 1),
            () -> x.odds(0, 9, 3), () -> x.does(0, 1), () -> x.waves(0, 1), () -> x.dry(1), () -> x.havens(3),
            () -> x.lasts(7), () -> x.forgets(0), () -> x.pupils(0), () -> x.diary(2), () -> x.image(0) ? 1 : 0,
            () -> x.restore(1) ? 1 : 0, () -> x.said(-1), () -> x.still(-1), () -> x.apart(-1), () -> x.ice()};
        for (int i = 0; i < calls.length; i++) {
            String before = Check.allOf(x) + Check.lastOf(x);
            calls[i].getAsInt();
            Check.due("call " + i + " changes nothing", Check.allOf(x) + Check.lastOf(x), before);
        }
        String state = Check.allOf(x);
        Check.diary(x, 0, "day 1;rings bell;");
        Check.diary(x, 1, "day 61;");
        Check.diary(x, 1, "day 1");
        Check.due("a DIARY that is WRONG at once", Check.diary(x, 1, "tub sails 1;day 1;"), 0);
        Check.due("one without a LINE", Check.diary(x, 1, ""), -1);
        Check.lake(x, "?");
        Check.sentence(x, "?");
        x.learnt();
        x.teach(0);
        x.feed(0, 0, 0, 0, 0);
        x.end(0);
        Check.due("all stays", Check.allOf(x), state);
        Check.due("the latest act is the RING", x.undo(), 2);
        Check.due("RINGS", x.now(5), 0);
        LakeLearns y = Check.lakeOf(POND);
        Check.till(y, 600);
        y.ring(0);
        Check.due("days() of 0", y.days(1), 0);
        Check.due("drawn() of 0", y.drawn(1, 1), 0);
        Check.due("undo()", y.undo(), 7);
        Check.due("the RING was undone", y.now(5) + y.now(0), 600);
        LakeLearns ice = Check.lakeOf(POND);
        Check.till(ice, 30);
        Check.due("refused by ice", ice.show(0, 0) + ice.ring(0) + ice.sail(0, 0), 4);
        Check.due("undo()", ice.undo(), 0);
        Check.due("DAY 0", ice.now(0), 0);
    }

    /** So many acts ahead of a DIARY of which no LINE is lived: it takes no place among those that are kept. */
    private static void noPlaceTaken() {
        Check.by(15, "a DIARY that was lived is undone: how many more can be (8 at most are kept)");
        for (int acts = 0; acts <= 12; acts++) {
            LakeLearns x = Check.lakeOf(POND);
            for (int i = 0; i < acts; i++) {
                Check.due("sail", x.sail(0, i % 2 == 0 ? 0 : 1), 0);
            }
            Check.due("WRONG at once", Check.diary(x, 1, acts % 2 == 0 ? "tub sails 1;" : "tub sails 0;day 1;"), 0);
            int kept = Math.min(acts, 8);
            for (int more = kept - 1; more >= 0; more--) {
                Check.due(acts + " acts: undo()", x.undo(), more);
            }
            Check.due(acts + " acts: no more", x.undo(), -1);
            Check.due(acts + " acts: voyages", x.boat(0, 3), acts - kept);
            Check.due(acts + " acts: where it is", x.boat(0, 0), (acts - kept) % 2 == 0 ? 1 : 0);
        }
        LakeLearns y = Check.lakeOf(POND);
        y.sail(0, 0);
        Check.due("WRONG at once", Check.diary(y, 1, "tub sails 0;"), 0);
        y.sail(0, 2);
        Check.due("the voyage behind it", y.undo(), 1);
        Check.due("is undone", y.boat(0, 0), 0);
        Check.due("WRONG at LINE 1", Check.diary(y, 1, "tub sails 2;tub sails 2;"), 1);
        Check.due("is an act", y.undo(), 1);
        Check.due("the voyage ahead of all", y.undo(), 0);
        Check.due("is undone too", y.boat(0, 0), 1);
    }

    private static void doneAgain() {
        Check.by(15, "is undone: what comes behind it is as if it had never been");
        LakeLearns x = Check.lakeOf(POND);
        x.days(1);
        x.days(1);
        x.undo();
        x.show(0, 0);
        Check.due("show() behind undo()", x.undo(), 1);
        Check.due("undo() of the first DAY", x.undo(), 0);
        Check.due("DAY 0", x.now(0), 0);
        for (int i = 0; i < 30; i++) {
            x.days(1);
            Check.due("to and fro", x.undo(), 0);
        }
        Check.by(15, "the SENTENCE is no act, and stays");
        Check.sentence(x, "number=2");
        x.days(1);
        Check.sentence(x, "number=1");
        x.undo();
        Check.due("the SENTENCE", x.said(0), 1);
    }

    private static void newLake() {
        Check.by(4, "A new LAKE: DAY 0, nothing shown, no BOAT wet, no SENTENCE");
        String anew = Check.allOf(Check.lakeOf(RICH));
        LakeLearns x = Check.lakeOf(RICH);
        liveRichly(x);
        Check.due("the same LAKE again", Check.lake(x, RICH), 19);
        Check.due("all is as at first", Check.allOf(x), anew);
        Check.due("no SENTENCE", x.said(-1), -1);
        Check.due("what was ahead of it can't be undone", x.undo(), -1);
        liveRichly(x);
        Check.due("an empty one", Check.lake(x, ""), 0);
        Check.due("all is as of a new object", Check.allOf(x), Check.allOf(new LakeLearns()));
        Check.by(4, "The tape is the LAKE now: nothing of the LAKE ahead of it is left");
        Check.lake(x, "cue a;cue b;lesson c a 0 1 1 1;lesson d a 2 1;");
        Check.lake(x, "cue a;cue b;lesson c b 3 1;lesson d b;");
        Check.due("LESSONS of CUE 0", x.does(0, 3), 0);
        Check.due("LESSONS of CUE 1", x.does(1, 3), 64);
        Check.due("STEPS", Check.lesson(x, 0, 1) + 10 * Check.lesson(x, 1, 1), 1);
        Check.lake(x, "cue a;lesson b a 0 1 1 3 2 3 3 3 1 3 2 3 3 3 0 3;lesson c a 0 1 1 3 2 3 3 3 1 3 2 3 3 3 0 3;");
        Check.lake(x, "cue a;lesson b a 0 1;lesson c a 1 1;");
        Check.due("STEPS behind the last are none", x.waves(0, 3), 0);
        Check.due("nor are they done", x.does(0, 3), 5);
        Check.due("nor told", x.step(0, 1), -1);
        Check.due("a NAME of the old LAKE can be told anew", Check.lake(x, "lesson a;"), -9);
        Check.due("and is not told ahead of that", Check.lake(x, "cue d;lesson c b;"), -16);
        Check.by(21, "by the latest learnt() (teach(), diary()) : a new LAKE tells nothing of that");
        LakeLearns y = lived();
        Check.tape(y, 0, 1, 2, 3);
        Check.due("learnt()", y.learnt(), 2);
        Check.tape(y, 0, 0, 3);
        Check.due("teach(0)", y.teach(0), 1);
        Check.diary(y, 0, "day 3;tub sails 1;");
        String last = Check.lastOf(y);
        Check.lake(y, "cells 1;");
        Check.due("what was told last stays", Check.lastOf(y), last);
    }

    private static final String RICH = "cells 8;shown 2;keeps 3;nights 7;ice 40 9;cue a;cue b;cue c;cue d;lesson e a 7 3 6 2;"
        + "lesson f b 5 3 4 1;lesson g c 0 3;lesson h d;teacher i;teacher j;boat k 7;boat l 5;boat m 0;boat n 1;";

    /** Nothing is behind it as in a new LAKE: one LESSON was forgotten, one is KNOWN, one shown once, one shown today. */
    private static void liveRichly(LakeLearns x) {
        for (int i = 0; i < 2; i++) {
            x.show(1, 0);
            x.days(1);
        }
        x.ring(0);
        x.days(4);
        for (int i = 0; i < 2; i++) {
            x.show(1, 1);
            x.show(0, i == 0 ? 2 : 3);
            x.days(1);
        }
        x.ring(1);
        x.sail(3, 2);
        x.sail(0, 0);
        x.show(1, 0);
        Check.sentence(x, "known");
        Check.due("DAY, KNOWN, shown, RINGS, wet, showings", x.now(0) + 10 * x.now(2) + 100 * x.now(3) + 1000 * x.now(5)
            + 10000 * x.now(6) + 100000 * x.now(7), 8 + 20 + 100 + 2000 + 30000 + 700000);
        Check.due("HEIGHTS", x.height(5) + 10 * x.height(4), 13);
        Check.due("showings", Check.lesson(x, 1, 2) + 10 * Check.lesson(x, 2, 2), 12);
        Check.due("TEACHERS", Check.lesson(x, 1, 4) + 10 * Check.lesson(x, 2, 4), 12);
        Check.due("done, forgotten, today", Check.lesson(x, 0, 5) + 10 * Check.lesson(x, 0, 7) + 100 * Check.lesson(x, 0, 6), 111);
        Check.due("voyages, how often wet", x.boat(0, 3) + 10 * x.boat(3, 3) + 100 * x.boat(0, 2) + 1000 * x.boat(1, 2), 1111);
    }

    private static void faultyLake() {
        Check.by(4, "-1 less the place of a FAULT: it stays");
        LakeLearns x = lived();
        Check.sentence(x, "known");
        String before = Check.allOf(x);
        for (String text : new String[] {"?", "cells 9;", "cells 1;cue a;lesson b a 0 3;teacher t;boat c 0;cue a;", "cue"}) {
            Check.due("a FAULT in " + text, Check.lake(x, text) < 0, true);
            Check.due("all stays at " + text, Check.allOf(x), before);
            Check.due("the NAMES stay at " + text, Check.diary(x, 0, "tub sails 2;ann shows wave;rings moon;"), 0);
        }
        Check.due("undo() too", x.undo(), 2);
    }

    private static void places() {
        for (int k : new int[] {-1, 2, 3, Integer.MIN_VALUE, Integer.MAX_VALUE}) {
            LakeLearns x = lived();
            Check.by(38, "are kept in place k (0, 1): true; false: no such one");
            Check.refused(x, "image(" + k + ")", 0, () -> x.image(k) ? 1 : 0);
            Check.by(39, "false: no such one, or nothing is kept there");
            Check.refused(x, "restore(" + k + ")", 0, () -> x.restore(k) ? 1 : 0);
            Check.refused(x, "restore(0)", 0, () -> x.restore(0) ? 1 : 0);
            Check.refused(x, "restore(1)", 0, () -> x.restore(1) ? 1 : 0);
            Check.due("what can be undone stays", x.undo(), 2);
        }
        for (int k = 0; k < 2; k++) {
            LakeLearns x = lived();
            int other = 1 - k;
            Check.due("image(" + k + ")", x.image(k), true);
            Check.refused(x, "nothing is kept in " + other, 0, () -> x.restore(other) ? 1 : 0);
            Check.due("restore(" + k + ")", x.restore(k), true);
            Check.due("restore(" + k + ") again", x.restore(k), true);
            Check.due("image(" + other + ")", x.image(other), true);
            Check.due("restore(" + other + ")", x.restore(other), true);
        }
    }

    private static void asKept() {
        Check.by(39, "They are as kept in place k");
        LakeLearns x = Check.lakeOf(RICH);
        liveRichly(x);
        Check.sentence(x, "number>0");
        String first = Check.allOf(x);
        x.image(0);
        Check.due("image() changes nothing", Check.allOf(x), first);
        Check.due("nor what can be undone", x.undo(), 7);
        Check.lake(x, "cells 8;shown 9;keeps 99;nights 3;ice 0 50;cue a;cue b;cue c;cue d;cue e;cue f;lesson g f 7 3;"
            + "teacher h;teacher i;teacher j;teacher k;boat l 7;boat m 6;boat n 5;boat o 4;boat p 3;boat q 2;");
        x.days(60);
        x.show(3, 0);
        String second = Check.allOf(x);
        x.image(1);
        for (int i = 0; i < 3; i++) {
            x.restore(0);
            Check.due("as kept in 0", Check.allOf(x), first);
            Check.due("the NAMES of 0", Check.diary(x, 0, "k sails 1;j shows h;rings d;"), -1);
            x.drawn(30, i);
            Check.sentence(x, "known");
            x.restore(1);
            Check.due("as kept in 1", Check.allOf(x), second);
            Check.due("the NAMES of 1", Check.diary(x, 0, "l sails 0;rings f;"), -1);
            x.days(9);
        }
        x.restore(0);
        x.days(2);
        String later = Check.allOf(x);
        x.image(0);
        x.days(5);
        x.restore(0);
        Check.due("the latest of that place", Check.allOf(x), later);
        Check.by(38, "no SENTENCE is kept, if there is none");
        LakeLearns y = lived();
        y.image(0);
        Check.sentence(y, "known");
        y.restore(0);
        Check.due("said(-1)", y.said(-1), -1);
    }

    private static void whatStays() {
        Check.by(39, "the tape, and what other calls told last, stays");
        LakeLearns x = lived();
        x.image(1);
        Check.tape(x, 0, 1, 2, 3);
        x.learnt();
        Check.tape(x, 0, 0, 3);
        x.teach(0);
        Check.diary(x, 0, "day 3;tub sails 1;");
        Check.sentence(x, "at nil");
        Check.tape(x, "cells 5;");
        String last = Check.lastOf(x);
        Check.due("restore(1)", x.restore(1), true);
        Check.due("what was told last", Check.lastOf(x), last);
        Check.due("the tape is yet a LAKE", x.lake(), 1);
        Check.due("of 5 CELLS", x.count(0), 5);
    }

    private static void nothingCanBeUndone() {
        Check.by(39, "nothing can be undone");
        LakeLearns x = lived();
        x.image(0);
        Check.due("undo() behind image()", x.undo(), 2);
        x.restore(0);
        Check.due("undo() behind restore()", x.undo(), -1);
        x.days(1);
        Check.due("but what comes behind it", x.undo(), 0);
        Check.due("and no more", x.undo(), -1);
        for (int i = 0; i < 9; i++) {
            x.days(1);
        }
        x.restore(0);
        Check.due("of nine neither", x.undo(), -1);
    }

    private static void emptyImage() {
        Check.by(38, "the empty LAKE of a new object can be kept too");
        LakeLearns x = new LakeLearns();
        String empty = Check.allOf(x);
        Check.due("image(0)", x.image(0), true);
        Check.lake(x, POND);
        x.days(3);
        Check.due("restore(0)", x.restore(0), true);
        Check.due("empty", Check.allOf(x), empty);
    }
}
