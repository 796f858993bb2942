/** Promises 6 to 14 at their edges: DAYS, ICE, SHOW, RING, SAILS, how a DAY ends, and what is asked of each. */
public final class EdgeDayTest {
    private static final int[] FAR = {-1, -2, Integer.MIN_VALUE, Integer.MAX_VALUE};
    private static final String POND = "cells 3;shown 2;keeps 4;ice 10 5;cue bell;cue moon;lesson ring bell 0 1 1 2 2 3;"
        + "lesson swim bell 0 3 1 2;lesson wave moon 2 2;teacher ann;teacher bob;boat tub 1;boat gig 0;";

    public static void main(String[] args) {
        lessonEdges();
        stepEdges();
        boatEdges();
        heightEdges();
        nowEdges();
        iceDays();
        showRefused();
        showWhyNot();
        countsAtTheEnd();
        knownAsOftenAsShown();
        confused();
        ringRefused();
        byFour();
        wetFromTwoOn();
        onceARing();
        stepByStep();
        heightsStay();
        sailRefused();
        sailWhyNot();
        daysEdges();
        lastDay();
        behindTheLastDay();
        keepsEdges();
        keptByDoing();
        keptByNights();
        forgottenWasNeverShown();
        aheadOfIce();
        Check.close("EdgeDayTest");
    }

    /** As many CELLS as there may be, and a LESSON is KNOWN by one showing. */
    private static LakeLearns quick(String more) {
        return Check.lakeOf("cells 8;shown 1;" + more);
    }

    private static void lessonEdges() {
        LakeLearns x = Check.lakeOf(POND);
        x.days(1);
        x.ring(0);
        x.show(0, 1);
        Check.by(6, "NoSuchElementException: no such ones; a call that throws changes nothing");
        for (int l : new int[] {-1, 3, 4, 8, Integer.MIN_VALUE, Integer.MAX_VALUE}) {
            for (int what : new int[] {0, 7, 8, -1}) {
                Check.refused(x, "lesson(" + l + ", " + what + ")", -99, () -> Check.lesson(x, l, what));
            }
        }
        for (int what : new int[] {-1, 8, 9, Integer.MIN_VALUE, Integer.MAX_VALUE}) {
            for (int l = 0; l < 3; l++) {
                int of = l;
                Check.refused(x, "lesson(" + l + ", " + what + ")", -99, () -> Check.lesson(x, of, what));
            }
        }
        Check.due("what can be undone stays", x.undo(), 2);
        Check.by(6, "0 its CUE, 1 STEPS, 2 showings, 3 KNOWN, 4 TEACHERS, 5 done, 6 who shows it today, 7 forgotten");
        int[][] due = {{0, 3, 0, 0, 0, 0, -1, 0}, {0, 2, 0, 0, 0, 0, -1, 0}, {1, 1, 0, 0, 0, 0, -1, 0}};
        for (int l = 0; l < 3; l++) {
            for (int what = 0; what < 8; what++) {
                Check.due("lesson(" + l + ", " + what + ")", Check.lesson(x, l, what), due[l][what]);
            }
        }
        LakeLearns none = Check.lakeOf("cue a;");
        for (int what = 0; what < 8; what++) {
            Check.due("no LESSONS: lesson(0, " + what + ")", Check.lesson(none, 0, what), -99);
        }
        LakeLearns full = Check.lakeOf("cue a;lesson b a;lesson c a;lesson d a;lesson e a;lesson f a;lesson g a;lesson h a;"
            + "lesson i a 3 3;");
        Check.due("8 LESSONS: lesson(7, 1)", Check.lesson(full, 7, 1), 1);
        Check.due("8 LESSONS: lesson(8, 1)", Check.lesson(full, 8, 1), -99);
        Check.by(6, "4 TEACHERS of these, as bits; 6 who shows it today (NONE: nobody)");
        LakeLearns y = Check.lakeOf("shown 9;cue a;lesson b a;teacher c;teacher d;teacher e;teacher f;");
        int bits = 0;
        for (int t : new int[] {3, 0, 3, 1, 2}) {
            y.show(t, 0);
            Check.due("who shows it today", Check.lesson(y, 0, 6), t);
            Check.due("today's counts not yet", Check.lesson(y, 0, 4), bits);
            y.days(1);
            bits |= 1 << t;
            Check.due("nobody", Check.lesson(y, 0, 6), -1);
            Check.due("TEACHERS", Check.lesson(y, 0, 4), bits);
        }
    }

    private static void stepEdges() {
        Check.by(7, "10 times the CELL and HIGH; NONE: none such");
        LakeLearns x = quick("cue a;lesson b a;lesson c a 0 1;lesson d a 7 3 0 3 7 1 1 2 2 2 3 3 4 1 6 2;");
        int[][] due = {{}, {1}, {73, 3, 71, 12, 22, 33, 41, 62}};
        for (int l = 0; l < 3; l++) {
            for (int i = 0; i < 10; i++) {
                Check.due("step(" + l + ", " + i + ")", x.step(l, i), i < due[l].length ? due[l][i] : -1);
            }
            for (int i : FAR) {
                Check.due("step(" + l + ", " + i + ")", x.step(l, i), -1);
            }
        }
        for (int l : new int[] {3, 8, -1, -2, Integer.MIN_VALUE, Integer.MAX_VALUE}) {
            Check.due("step(" + l + ", 0)", x.step(l, 0), -1);
            Check.due("step(" + l + ", -1)", x.step(l, -1), -1);
        }
    }

    private static void boatEdges() {
        Check.by(8, "0 CELL, 1 wet (1, 0), 2 how often it became wet, 3 voyages. NONE: no such ones");
        LakeLearns x = quick("boat a 0;boat b 1;boat c 2;boat d 3;boat e 6;boat f 7;");
        int[] cells = {0, 1, 2, 3, 6, 7};
        for (int b = 0; b < 6; b++) {
            Check.due("boat(" + b + ", 0)", x.boat(b, 0), cells[b]);
            for (int what = 1; what < 4; what++) {
                Check.due("boat(" + b + ", " + what + ")", x.boat(b, what), 0);
            }
            for (int what : new int[] {4, 5, -1, -2, Integer.MIN_VALUE, Integer.MAX_VALUE}) {
                Check.due("boat(" + b + ", " + what + ")", x.boat(b, what), -1);
            }
        }
        for (int b : new int[] {6, 7, -1, Integer.MIN_VALUE, Integer.MAX_VALUE}) {
            for (int what = -1; what < 5; what++) {
                Check.due("boat(" + b + ", " + what + ")", x.boat(b, what), -1);
            }
        }
        LakeLearns one = Check.lakeOf("boat a 3;");
        Check.due("one BOAT: boat(0, 0)", one.boat(0, 0), 3);
        Check.due("one BOAT: boat(1, 0)", one.boat(1, 0), -1);
        Check.due("no BOATS: boat(0, 0)", new LakeLearns().boat(0, 0), -1);
    }

    private static void heightEdges() {
        Check.by(9, "HEIGHT of a CELL now; NONE: no such one");
        for (int cells = 1; cells <= 8; cells++) {
            LakeLearns x = Check.lakeOf("cells " + cells + ";shown 1;cue a;lesson b a 0 1 " + (cells - 1) + " 2;teacher t;");
            x.show(0, 0);
            x.days(1);
            x.ring(0);
            for (int c = 0; c < 10; c++) {
                int due = c >= cells ? -1 : (c == 0 ? 1 : 0) + (c == cells - 1 ? 2 : 0);
                Check.due(cells + " CELLS: height(" + c + ")", x.height(c), due);
            }
            for (int c : FAR) {
                Check.due("height(" + c + ")", x.height(c), -1);
            }
        }
    }

    private static void nowEdges() {
        Check.by(10, "NONE for another what");
        LakeLearns x = Check.lakeOf(POND);
        for (int what : new int[] {-1, -2, 8, 9, Integer.MIN_VALUE, Integer.MAX_VALUE}) {
            Check.due("now(" + what + ")", x.now(what), -1);
        }
        Check.by(10, "0 the DAY, 1 ice, 2 KNOWN, 3 shown today, 4 CONFUSED, 5 RINGS, 6 wet BOATS, 7 showings in all");
        LakeLearns y = quick("cue a;cue b;cue c;cue d;cue e;cue f;lesson g a 0 2;lesson h b;lesson i c;lesson j d;lesson k e;"
            + "lesson l f;lesson m a;lesson n f 7 3;teacher t;boat o 1;boat p 1;boat q 1;boat r 1;boat s 0;boat u 7;");
        for (int what = 0; what < 8; what++) {
            Check.due("a new LAKE: now(" + what + ")", y.now(what), 0);
        }
        for (int l = 0; l < 8; l++) {
            y.show(0, l);
            Check.due("shown today", y.now(3), (2 << l) - 1);
            Check.due("showings in all", y.now(7), l + 1);
        }
        Check.due("CONFUSED", y.now(4), 1 + 64 + 32 + 128);
        y.days(1);
        int[] due = {1, 0, 2 + 4 + 8 + 16, 0, 0, 0, 0, 8};
        for (int what = 0; what < 8; what++) {
            Check.due("behind DAY 0: now(" + what + ")", y.now(what), due[what]);
        }
        y.show(0, 0);
        y.show(0, 7);
        y.days(1);
        y.ring(0);
        Check.due("the BOAT in CELL 0", y.now(6), 16);
        y.ring(5);
        Check.due("and the one in CELL 7", y.now(6), 48);
        Check.due("RINGS", y.now(5), 2);
        Check.due("showings in all", y.now(7), 10);
        y.days(60);
        Check.due("wet they stay", y.now(6), 48);
        Check.due("forgotten showings are yet showings", y.now(7), 10);
    }

    private static void iceDays() {
        Check.by(10, "ICE: DAYS whose number by 100 (the rest) is FROM or above, and below FROM and LONG");
        int[][] ices = {{0, 1}, {0, 50}, {1, 1}, {10, 5}, {49, 50}, {50, 50}, {98, 2}, {99, 1}};
        for (int[] ice : ices) {
            LakeLearns x = Check.lakeOf("cells 2;cue a;lesson b a;teacher t;boat c 0;ice " + ice[0] + " " + ice[1] + ";");
            for (int day = 0; day <= 600; day++) {
                boolean cold = day % 100 >= ice[0] && day % 100 < ice[0] + ice[1];
                String when = "ice " + ice[0] + " " + ice[1] + ", DAY " + day;
                Check.due(when + ": now(1)", x.now(1), cold ? 1 : 0);
                Check.due(when + ": show", x.show(0, 0), cold ? 1 : 0);
                Check.due(when + ": ring", x.ring(0), cold ? 1 : 0);
                Check.due(when + ": sail", x.sail(0, 1), cold ? 2 : 0);
                if (!cold) {
                    x.undo();
                    x.undo();
                    x.undo();
                }
                x.days(1);
            }
        }
        LakeLearns none = Check.lakeOf("cue a;");
        for (int day = 0; day <= 600; day++) {
            Check.due("none was told, DAY " + day, none.now(1) + none.ring(0), 0);
            none.days(1);
        }
    }

    private static void showRefused() {
        Check.by(11, "0, or why not; NONE: no such ones");
        LakeLearns x = Check.lakeOf(POND);
        x.days(1);
        for (int t : new int[] {2, 3, -1, Integer.MIN_VALUE, Integer.MAX_VALUE}) {
            for (int l : new int[] {0, 2, 3}) {
                Check.refused(x, "show(" + t + ", " + l + ")", -1, () -> x.show(t, l));
            }
        }
        for (int l : new int[] {3, 4, 8, -1, Integer.MIN_VALUE, Integer.MAX_VALUE}) {
            for (int t : new int[] {0, 1}) {
                Check.refused(x, "show(" + t + ", " + l + ")", -1, () -> x.show(t, l));
            }
        }
        Check.due("the latest act is yet the DAY", x.undo(), 0);
        Check.due("the last of both", x.show(1, 2), 0);
        Check.due("the first of both", x.show(0, 0), 0);
        Check.till(x, 10);
        Check.due("ice, and no such TEACHER", x.show(2, 0), -1);
        Check.due("ice, and no such LESSON", x.show(0, 3), -1);
        LakeLearns full = Check.lakeOf("cue a;lesson b a;teacher c;teacher d;teacher e;teacher f;");
        Check.due("4 TEACHERS: show(4, 0)", full.show(4, 0), -1);
        Check.due("4 TEACHERS: show(3, 0)", full.show(3, 0), 0);
        Check.due("no TEACHERS: show(0, 0)", Check.lakeOf("cue a;lesson b a;").show(0, 0), -1);
        Check.due("no LESSONS: show(0, 0)", Check.lakeOf("cue a;teacher t;").show(0, 0), -1);
    }

    private static void showWhyNot() {
        Check.by(11, "To SHOW a LESSON: why not, the least: 1 there is ice; 2 it was shown today; 3 it is known");
        LakeLearns x = Check.lakeOf("shown 1;keeps 99;ice 3 1;cue a;cue b;lesson c a;lesson d b;teacher s;teacher t;");
        Check.due("the first time", x.show(0, 0), 0);
        Check.refused(x, "again by him", 2, () -> x.show(0, 0));
        Check.refused(x, "again by another", 2, () -> x.show(1, 0));
        Check.due("who shows it is yet the first", Check.lesson(x, 0, 6), 0);
        x.days(1);
        Check.refused(x, "KNOWN", 3, () -> x.show(0, 0));
        Check.refused(x, "KNOWN, by another", 3, () -> x.show(1, 0));
        Check.due("another LESSON on DAY 2", x.show(0, 1), 0);
        x.undo();
        Check.till(x, 3);
        Check.refused(x, "KNOWN, on ice", 1, () -> x.show(0, 0));
        Check.refused(x, "not KNOWN, on ice", 1, () -> x.show(0, 1));
        Check.till(x, 4);
        Check.refused(x, "KNOWN, behind the ice", 3, () -> x.show(0, 0));
        Check.due("not KNOWN, behind the ice", x.show(0, 1), 0);
    }

    private static void countsAtTheEnd() {
        Check.by(11, "It counts at the end of the DAY: it has been shown once more, by that TEACHER");
        LakeLearns x = Check.lakeOf("shown 3;cue a;lesson b a;teacher s;teacher t;");
        for (int n = 1; n <= 2; n++) {
            x.show(n - 1, 0);
            Check.due("on the DAY itself: showings", Check.lesson(x, 0, 2), n - 1);
            x.days(1);
            Check.due("behind it: showings", Check.lesson(x, 0, 2), n);
            Check.due("behind it: by whom", Check.lesson(x, 0, 4), n == 1 ? 1 : 3);
            x.days(1);
            Check.due("a DAY without: showings", Check.lesson(x, 0, 2), n);
        }
    }

    private static void knownAsOftenAsShown() {
        Check.by(11, "as often as 'shown': it is KNOWN");
        for (int shown = 1; shown <= 9; shown++) {
            LakeLearns x = Check.lakeOf("shown " + shown + ";keeps 99;cue a;lesson b a;teacher t;");
            for (int n = 1; n <= shown; n++) {
                Check.due("not KNOWN ahead of showing " + n, Check.lesson(x, 0, 3), 0);
                Check.due("show() " + n, x.show(0, 0), 0);
                Check.due("not KNOWN on that DAY", x.now(2), 0);
                x.days(1);
            }
            Check.due("KNOWN behind showing " + shown, Check.lesson(x, 0, 3), 1);
            Check.due("showings", Check.lesson(x, 0, 2), shown);
            Check.due("as bits", x.now(2), 1);
            Check.due("no more", x.show(0, 0), 3);
        }
        LakeLearns without = Check.lakeOf("cue a;lesson b a;teacher t;");
        for (int n = 1; n <= 3; n++) {
            without.show(0, 0);
            without.days(1);
            Check.due("3 without: KNOWN behind showing " + n, without.now(2), n == 3 ? 1 : 0);
        }
    }

    private static void confused() {
        Check.by(10, "if another LESSON of that CUE was shown today both, all of them, are CONFUSED: none of them counts");
        for (int n = 1; n <= 4; n++) {
            LakeLearns x = Check.lakeOf("shown 1;cue a;cue z;lesson b a;lesson c a;lesson d a;lesson e a;lesson y z;teacher t;");
            x.show(0, 4);
            for (int l = 0; l < n; l++) {
                x.show(0, l);
            }
            Check.due(n + " of one CUE: CONFUSED", x.now(4), n == 1 ? 0 : (1 << n) - 1);
            Check.due(n + " of one CUE: shown", x.now(3), 16 + (1 << n) - 1);
            x.days(1);
            Check.due(n + " of one CUE: KNOWN", x.now(2), 16 + (n == 1 ? 1 : 0));
            for (int l = 0; l < 4; l++) {
                Check.due("LESSON " + l + ": showings", Check.lesson(x, l, 2), n == 1 && l == 0 ? 1 : 0);
                Check.due("LESSON " + l + ": TEACHERS", Check.lesson(x, l, 4), n == 1 && l == 0 ? 1 : 0);
            }
            Check.due("on the next DAY none is", x.now(3) + x.now(4), 0);
        }
        LakeLearns y = Check.lakeOf("shown 1;cue a;lesson b a;lesson c a;teacher t;");
        y.show(0, 0);
        y.days(1);
        y.show(0, 1);
        Check.due("one that can't be shown", y.show(0, 0), 3);
        Check.due("confuses none", y.now(4), 0);
        y.days(1);
        Check.due("both KNOWN", y.now(2), 3);
    }

    private static void ringRefused() {
        Check.by(12, "A CUE is RUNG: 0, or why not; NONE: no such one");
        LakeLearns x = Check.lakeOf(POND);
        x.show(0, 2);
        for (int c : new int[] {2, 3, 6, -1, Integer.MIN_VALUE, Integer.MAX_VALUE}) {
            Check.refused(x, "ring(" + c + ")", -1, () -> x.ring(c));
        }
        Check.due("ring(1)", x.ring(1), 0);
        Check.due("ring(0)", x.ring(0), 0);
        Check.due("RINGS", x.now(5), 2);
        Check.till(x, 9);
        Check.due("the DAY ahead of ice", x.ring(0), 0);
        x.days(1);
        Check.refused(x, "ring(0) on ice", 1, () -> x.ring(0));
        Check.refused(x, "ring(2) on ice", -1, () -> x.ring(2));
        Check.till(x, 14);
        Check.refused(x, "ring(1) on the last DAY of ice", 1, () -> x.ring(1));
        Check.till(x, 15);
        Check.due("behind the ice", x.ring(1), 0);
        LakeLearns six = Check.lakeOf("cue a;cue b;cue c;cue d;cue e;cue f;");
        Check.due("6 CUES: ring(5)", six.ring(5), 0);
        Check.due("6 CUES: ring(6)", six.ring(6), -1);
        Check.due("no CUES: ring(0)", new LakeLearns().ring(0), -1);
    }

    /** One LESSON of these STEPS, KNOWN and rung on DAY 1, with a BOAT in each of CELLS 0 and 1. */
    private static LakeLearns rung(String... steps) {
        StringBuilder text = new StringBuilder("cells 2;shown 1;keeps 99;cue a;");
        for (int l = 0; l < steps.length; l++) {
            text.append("lesson l").append((char) ('a' + l)).append(" a").append(steps[l]).append(';');
        }
        LakeLearns x = Check.lakeOf(text + "teacher t;boat c 0;boat d 1;");
        for (int l = 0; l < steps.length; l++) {
            x.show(0, l);
            x.days(1);
        }
        x.ring(0);
        return x;
    }

    private static void byFour() {
        Check.by(12, "the HEIGHT of its CELL is more by HIGH, by 4 (the rest: 0 to 3)");
        for (int first = 1; first <= 3; first++) {
            Check.due("0 and " + first, rung(" 0 " + first).height(0), first);
            for (int then = 1; then <= 3; then++) {
                Check.due(first + " and " + then, rung(" 0 " + first + " 0 " + then).height(0), (first + then) % 4);
                Check.due(first + " and " + then + " by two", rung(" 0 " + first, " 0 " + then).height(0), (first + then) % 4);
                Check.due("the CELL beside it", rung(" 0 " + first + " 0 " + then + " 1 1").height(1), 1);
            }
        }
        for (int steps = 0; steps <= 8; steps++) {
            Check.due(steps + " times 1", rung(Check.times(" 0 1", steps)).height(0), steps % 4);
            Check.due(steps + " times 3", rung(Check.times(" 1 3", steps)).height(1), 3 * steps % 4);
            Check.due(steps + " times 3, the CELL beside it", rung(Check.times(" 0 3", steps)).height(1), 0);
        }
    }

    private static void wetFromTwoOn() {
        Check.by(8, "behind all of one STEP each BOAT in a CELL with HEIGHT 2 at least is WET");
        for (int high = 1; high <= 3; high++) {
            LakeLearns x = rung(" 0 " + high);
            Check.due("HEIGHT " + high + ": wet", x.boat(0, 1), high >= 2 ? 1 : 0);
            Check.due("HEIGHT " + high + ": how often", x.boat(0, 2), high >= 2 ? 1 : 0);
            Check.due("HEIGHT " + high + ": as bits", x.now(6), high >= 2 ? 1 : 0);
            Check.due("in another CELL", x.boat(1, 1) + x.boat(1, 2), 0);
        }
        Check.due("HEIGHT 0, no STEPS", rung("").now(6), 0);
        Check.due("1, then 2", rung(" 1 1 1 1").now(6), 2);
        Check.due("3, then 0", rung(" 0 3 0 1").now(6), 1);
        Check.due("3 and 1 in one STEP", rung(" 0 3", " 0 1").now(6), 0);
        Check.due("1 and 1 in one STEP", rung(" 0 1", " 0 1").now(6), 1);
        Check.due("3 and 2 in one STEP", rung(" 0 3", " 0 2").now(6), 0);
        Check.due("3 and 3 in one STEP", rung(" 0 3", " 0 3").now(6), 1);
        Check.due("2 behind the last STEP alone", rung(" 1 1 1 3 1 1 1 1").now(6), 2);
        Check.due("2 behind the eighth STEP alone", rung(Check.times(" 1 1", 6) + " 0 1 0 1").now(6), 3);
        Check.due("never 2", rung(" 0 1 1 1 1 3 0 3 0 1 0 3 0 1").now(6), 0);
    }

    private static void onceARing() {
        Check.by(8, "how often it became wet (once a RING at most)");
        LakeLearns x = rung(" 0 2 1 1 0 2 0 2 1 3");
        Check.due("above 2 behind many STEPS", x.boat(0, 2), 1);
        Check.due("never", x.boat(1, 2), 0);
        x.ring(0);
        Check.due("a RING more", x.boat(0, 2), 2);
        x.days(1);
        Check.due("a DAY more", x.boat(0, 2) + 10 * x.boat(0, 1), 12);
        x.ring(0);
        Check.due("a RING on the next DAY", x.boat(0, 2), 3);
        Check.due("sails away", x.sail(0, 1), 0);
        x.ring(0);
        Check.due("it is not there now", x.boat(0, 2), 3);
        Check.due("wet it stays", x.boat(0, 1), 1);
        Check.due("the other comes, HEIGHT 2", x.sail(1, 0), 0);
        Check.due("dry till the next RING", x.boat(1, 1), 0);
        x.ring(0);
        Check.due("wet then", x.boat(1, 1) + 10 * x.boat(1, 2), 11);
    }

    private static void stepByStep() {
        Check.by(12, "STEP by STEP (from 0; as many as the longest has): each of these LESSONS that has that STEP");
        LakeLearns x = rung("", " 0 1", " 0 1 1 1 1 1 1 1 0 2 1 3 1 3 1 3");
        Check.due("HEIGHT of CELL 0", x.height(0), 0);
        Check.due("HEIGHT of CELL 1", x.height(1), 0);
        Check.due("CELL 0 was 2 behind STEP 0, CELL 1 behind STEP 2", x.now(6), 3);
        Check.due("each was done", Check.lesson(x, 0, 5) + Check.lesson(x, 1, 5) + Check.lesson(x, 2, 5), 3);
        LakeLearns y = rung(" 0 1", " 1 1 0 1");
        Check.due("one STEP after the other", y.height(0) + 10 * y.height(1), 12);
        Check.by(12, "The lake DOES all LESSONS of it that are KNOWN");
        LakeLearns z = Check.lakeOf("cells 3;shown 1;cue a;cue b;lesson c a 0 1;lesson d a 1 1;lesson e b 2 1;teacher t;");
        z.show(0, 0);
        z.show(0, 2);
        z.days(1);
        z.show(0, 1);
        z.ring(0);
        Check.due("not what is shown today, nor of another CUE", z.height(0) + 10 * z.height(1) + 100 * z.height(2), 1);
        for (int l = 0; l < 3; l++) {
            Check.due("how often done: " + l, Check.lesson(z, l, 5), l == 0 ? 1 : 0);
        }
    }

    private static void heightsStay() {
        Check.by(9, "HEIGHTS stay as they are behind the last STEP till the end of the DAY, or the next RING");
        LakeLearns x = Check.lakeOf("cells 2;shown 1;cue a;cue b;lesson c a 0 3 1 1;lesson d b 1 2;teacher t;boat e 1;");
        x.show(0, 0);
        x.show(0, 1);
        x.days(1);
        Check.due("ahead of a RING", x.height(0) + x.height(1), 0);
        x.ring(0);
        x.sail(0, 0);
        x.show(0, 0);
        Check.due("behind other acts", x.height(0) + 10 * x.height(1), 13);
        x.ring(0);
        Check.due("the same again: from 0", x.height(0) + 10 * x.height(1), 13);
        x.ring(1);
        Check.due("the next RING", x.height(0) + 10 * x.height(1), 20);
        x.days(1);
        Check.due("the next DAY", x.height(0) + x.height(1), 0);
    }

    private static void sailRefused() {
        Check.by(13, "A BOAT SAILS: 0, or why not; NONE: no such ones");
        LakeLearns x = Check.lakeOf(POND);
        x.days(1);
        for (int b : new int[] {2, 3, 6, -1, Integer.MIN_VALUE, Integer.MAX_VALUE}) {
            for (int c : new int[] {0, 2, 3}) {
                Check.refused(x, "sail(" + b + ", " + c + ")", -1, () -> x.sail(b, c));
            }
        }
        for (int c : new int[] {3, 4, 8, -1, Integer.MIN_VALUE, Integer.MAX_VALUE}) {
            for (int b : new int[] {0, 1}) {
                Check.refused(x, "sail(" + b + ", " + c + ")", -1, () -> x.sail(b, c));
            }
        }
        Check.due("the latest act is yet the DAY", x.undo(), 0);
        for (int cells = 1; cells <= 8; cells++) {
            LakeLearns y = Check.lakeOf("cells " + cells + ";boat a 0;");
            Check.due(cells + " CELLS: sail(0, " + cells + ")", y.sail(0, cells), -1);
            Check.due(cells + " CELLS: sail(0, " + (cells - 1) + ")", y.sail(0, cells - 1), cells == 1 ? 1 : 0);
            Check.due("it is there", y.boat(0, 0), cells - 1);
            Check.due("voyages", y.boat(0, 3), cells == 1 ? 0 : 1);
        }
        LakeLearns six = Check.lakeOf("boat a 0;boat b 0;boat c 0;boat d 0;boat e 0;boat f 0;");
        Check.due("6 BOATS: sail(5, 3)", six.sail(5, 3), 0);
        Check.due("6 BOATS: sail(6, 3)", six.sail(6, 3), -1);
        Check.due("no BOATS: sail(0, 0)", new LakeLearns().sail(0, 0), -1);
    }

    private static void sailWhyNot() {
        Check.by(13, "A BOAT SAILS to a CELL: 1 it is there; 2 there is ice; 3 the HEIGHT there is 3");
        LakeLearns x = Check.lakeOf("cells 4;shown 1;keeps 99;ice 3 1;cue a;lesson b a 1 1 2 2 3 3;teacher t;boat c 0;boat d 3;");
        x.show(0, 0);
        x.days(1);
        Check.refused(x, "it is there", 1, () -> x.sail(0, 0));
        x.ring(0);
        Check.due("HEIGHT 1", x.sail(0, 1), 0);
        Check.due("HEIGHT 2", x.sail(0, 2), 0);
        Check.refused(x, "HEIGHT 3", 3, () -> x.sail(0, 3));
        Check.refused(x, "HEIGHT 3, where it is", 1, () -> x.sail(1, 3));
        Check.due("from HEIGHT 3 to 0", x.sail(1, 0), 0);
        Check.due("voyages", x.boat(0, 3) + 10 * x.boat(1, 3), 12);
        x.days(1);
        Check.due("HEIGHT 0 on the next DAY", x.sail(0, 3), 0);
        x.days(1);
        Check.refused(x, "ice, where it is", 1, () -> x.sail(0, 3));
        Check.refused(x, "ice, elsewhere", 2, () -> x.sail(0, 2));
        x.days(1);
        Check.due("behind the ice", x.sail(0, 2), 0);
        Check.due("voyages", x.boat(0, 3), 4);
    }

    private static void daysEdges() {
        Check.by(14, "n (1 to 60) DAYS go by: how many did; NONE: not as told");
        LakeLearns x = Check.lakeOf(POND);
        x.show(0, 0);
        for (int n : new int[] {0, -1, 61, 62, Integer.MIN_VALUE, Integer.MAX_VALUE}) {
            Check.refused(x, "days(" + n + ")", -1, () -> x.days(n));
        }
        for (int n : new int[] {1, 2, 59, 60}) {
            int day = x.now(0);
            Check.due("days(" + n + ")", x.days(n), n);
            Check.due("the DAY", x.now(0), day + n);
        }
        LakeLearns y = Check.lakeOf("shown 1;keeps 3;cue a;lesson b a 0 2;teacher t;");
        LakeLearns z = Check.lakeOf("shown 1;keeps 3;cue a;lesson b a 0 2;teacher t;");
        y.show(0, 0);
        z.show(0, 0);
        y.days(5);
        for (int i = 0; i < 5; i++) {
            z.days(1);
        }
        Check.due("many at once are as one by one", Check.allOf(y), Check.allOf(z));
    }

    private static void lastDay() {
        Check.by(14, "DAYS 0 to 599 (600: all are over)");
        for (int left = 0; left <= 62; left++) {
            LakeLearns x = Check.lakeOf(POND);
            Check.till(x, 600 - left);
            Check.due(left + " are left: days(60)", x.days(60), Math.min(left, 60));
            Check.due(left + " are left: the DAY then", x.now(0), Math.min(600, 660 - left));
        }
        LakeLearns y = Check.lakeOf(POND);
        Check.till(y, 599);
        Check.due("days(1) on 599", y.days(1), 1);
        Check.refused(y, "days(1) on 600", 0, () -> y.days(1));
        Check.refused(y, "days(60) on 600", 0, () -> y.days(60));
        Check.refused(y, "days(0) on 600", -1, () -> y.days(0));
        Check.refused(y, "days(61) on 600", -1, () -> y.days(61));
        Check.by(15, "days() above 0");
        y.undo();
        Check.due("the latest that is undone is DAY 599", y.now(0), 599);
    }

    /** The document tells no reason against acts on 600: they are done, but no DAY ends any more. */
    private static void behindTheLastDay() {
        Check.by(11, "To SHOW, to RING, a BOAT SAILS: there is no why not on 600 but those told");
        LakeLearns x = Check.lakeOf("shown 1;ice 0 1;cue a;lesson b a;teacher t;boat c 0;");
        LakeLearns y = Check.lakeOf("shown 1;ice 1 1;cue a;lesson b a;teacher t;boat c 0;");
        Check.till(x, 600);
        Check.till(y, 600);
        Check.due("600 has ice by its number: show", x.show(0, 0), 1);
        Check.due("600 has ice by its number: ring", x.ring(0), 1);
        Check.due("600 has ice by its number: sail", x.sail(0, 1), 2);
        Check.due("show", y.show(0, 0), 0);
        Check.due("ring", y.ring(0), 0);
        Check.due("sail", y.sail(0, 1), 0);
        Check.due("it never counts", y.days(1) + Check.lesson(y, 0, 2), 0);
        Check.due("shown today", y.now(3), 1);
    }

    private static void keepsEdges() {
        Check.by(14, "a KNOWN LESSON not learnt, done or practised for KEEPS DAYS (at the end of DAY d and KEEPS) is forgotten");
        for (int keeps : new int[] {1, 2, 3, 20, 98, 99}) {
            LakeLearns x = Check.lakeOf((keeps == 20 ? "" : "keeps " + keeps + ";") + "shown 1;cue a;lesson b a;teacher t;");
            x.days(5);
            x.show(0, 0);
            x.days(1);
            for (int day = 6; day <= 5 + keeps; day++) {
                Check.due("keeps " + keeps + ": KNOWN on DAY " + day, x.now(2), 1);
                Check.due("keeps " + keeps + ": never forgotten", Check.lesson(x, 0, 7), 0);
                x.days(1);
            }
            Check.due("keeps " + keeps + ": forgotten on DAY " + x.now(0), x.now(2), 0);
            Check.due("keeps " + keeps + ": once", Check.lesson(x, 0, 7), 1);
            x.show(0, 0);
            x.days(1);
            Check.due("KNOWN anew", x.now(2), 1);
            x.days(Math.min(keeps, 60));
            x.days(Math.max(1, keeps - 60));
            Check.due("keeps " + keeps + ": twice", Check.lesson(x, 0, 7), 2);
        }
    }

    private static void keptByDoing() {
        Check.by(12, "not done at a CUE: a RING on the last DAY keeps it, on the next it is too late");
        for (int day = 1; day <= 5; day++) {
            LakeLearns x = Check.lakeOf("keeps 4;shown 1;cue a;cue b;lesson c a;teacher t;");
            x.show(0, 0);
            Check.till(x, day);
            x.ring(1);
            x.ring(0);
            Check.till(x, 5);
            Check.due("rung on DAY " + day + ": KNOWN on DAY 5", x.now(2), day <= 4 ? 1 : 0);
            if (day <= 4) {
                Check.till(x, day + 4);
                Check.due("rung on DAY " + day + ": KNOWN 4 DAYS later", x.now(2), 1);
                x.days(1);
                Check.due("rung on DAY " + day + ": forgotten 5 DAYS later", x.now(2), 0);
            }
        }
        LakeLearns y = Check.lakeOf("keeps 4;shown 1;cue a;cue b;lesson c a;teacher t;");
        y.show(0, 0);
        Check.till(y, 4);
        y.ring(1);
        y.days(1);
        Check.due("another CUE keeps it not", y.now(2), 0);
    }

    private static void keptByNights() {
        Check.by(14, "on DAYS whose number by NIGHTS (the rest) is 0 it PRACTISES: KNOWN LESSONS are kept as if done that DAY");
        for (int nights = 1; nights <= 30; nights++) {
            for (int keeps : new int[] {Math.max(1, nights - 1), nights, nights + 1}) {
                LakeLearns x = Check.lakeOf("keeps " + keeps + ";nights " + nights + ";shown 1;cue a;lesson b a;teacher t;");
                x.show(0, 0);
                x.days(60);
                boolean lost = keeps < nights;
                Check.due("nights " + nights + ", keeps " + keeps + ": KNOWN", x.now(2), lost ? 0 : 1);
                Check.due("nights " + nights + ", keeps " + keeps + ": forgotten", Check.lesson(x, 0, 7), lost ? 1 : 0);
                Check.due("practising is no doing at a CUE", Check.lesson(x, 0, 5), 0);
            }
        }
        for (int learnt = 1; learnt <= 12; learnt++) {
            LakeLearns x = Check.lakeOf("keeps 3;nights 10;shown 1;cue a;lesson b a;teacher t;");
            Check.till(x, learnt);
            x.show(0, 0);
            x.days(1);
            int last = learnt + 3 >= 10 && learnt <= 10 ? 13 : learnt + 3;
            Check.till(x, last);
            Check.due("learnt on DAY " + learnt + ": KNOWN on DAY " + last, x.now(2), 1);
            x.days(1);
            Check.due("learnt on DAY " + learnt + ": forgotten at its end", x.now(2), 0);
        }
    }

    private static void forgottenWasNeverShown() {
        Check.by(6, "is forgotten: it was never shown");
        LakeLearns x = Check.lakeOf("keeps 2;shown 2;cue a;lesson b a;teacher s;teacher t;");
        x.show(0, 0);
        x.days(1);
        x.show(1, 0);
        x.days(1);
        x.ring(0);
        x.days(2);
        Check.due("KNOWN: showings and TEACHERS", Check.lesson(x, 0, 2) + 10 * Check.lesson(x, 0, 4), 32);
        x.days(1);
        int[] due = {0, 0, 0, 0, 0, 1, -1, 1};
        for (int what = 0; what < 8; what++) {
            Check.due("forgotten: lesson(0, " + what + ")", Check.lesson(x, 0, what), due[what]);
        }
        x.show(1, 0);
        x.days(1);
        Check.due("it takes as many showings again", x.now(2) + 10 * Check.lesson(x, 0, 2), 10);
        Check.due("one that is not KNOWN is not forgotten", x.days(60) + Check.lesson(x, 0, 2), 61);
        Check.due("how often", Check.lesson(x, 0, 7), 1);
    }

    private static void aheadOfIce() {
        Check.by(14, "if the next DAY has ice, and this one had none: LESSONS that are not KNOWN were never shown");
        for (int from : new int[] {2, 50, 99}) {
            LakeLearns x = Check.lakeOf("keeps 99;shown 2;ice " + from + " 1;cue a;cue b;cue c;lesson d a;lesson e b;"
                + "lesson f c;teacher t;");
            Check.till(x, from - 2);
            x.show(0, 0);
            x.show(0, 1);
            x.days(1);
            Check.due("a DAY ahead: showings", Check.lesson(x, 0, 2) + Check.lesson(x, 1, 2), 2);
            x.show(0, 0);
            x.show(0, 2);
            x.days(1);
            Check.due("KNOWN just in time", x.now(2), 1);
            int[] showings = {2, 0, 0};
            for (int l = 0; l < 3; l++) {
                Check.due("on ice: showings of " + l, Check.lesson(x, l, 2), showings[l]);
                Check.due("on ice: TEACHERS of " + l, Check.lesson(x, l, 4), showings[l] / 2);
                Check.due("on ice: forgotten " + l, Check.lesson(x, l, 7), 0);
            }
            x.days(1);
            Check.due("behind the ice", x.now(1), 0);
            x.show(0, 1);
            x.days(1);
            Check.due("counts from 0", Check.lesson(x, 1, 2), 1);
            x.show(0, 1);
            x.days(1);
            Check.due("KNOWN", x.now(2), 3);
        }
        LakeLearns wrap = Check.lakeOf("shown 2;ice 0 50;cue a;lesson b a;teacher t;");
        Check.till(wrap, 50);
        wrap.show(0, 0);
        Check.till(wrap, 99);
        Check.due("DAY 99", Check.lesson(wrap, 0, 2), 1);
        wrap.days(1);
        Check.due("DAY 100", Check.lesson(wrap, 0, 2), 0);
        LakeLearns lost = Check.lakeOf("keeps 1;shown 1;ice 2 1;cue a;lesson b a;teacher t;");
        lost.show(0, 0);
        lost.days(2);
        Check.due("forgotten on the eve of ice: counted so", Check.lesson(lost, 0, 7), 1);
    }
}
