/** Promises 5, 34 and 35 at their edges: what a DIARY may hold and how much of it, its FAULTS, why a LINE is WRONG. */
public final class EdgeDiaryTest {
    private static final String POND = "cells 3;shown 1;keeps 9;ice 10 5;cue bell;cue moon;lesson ring bell 2 3;"
        + "lesson swim bell 2 2;lesson wave moon 2 2;teacher ann;teacher bob;boat tub 1;boat gig 0;";

    /** Judged it leaves all as it is; lived, the DAY is the one told. */
    private static void judged(LakeLearns x, String text, int line, int... told) {
        String before = Check.allOf(x);
        Check.due("diary(0): " + text, Check.diary(x, 0, text), line);
        Check.due("fault of " + text, x.fault(), 0);
        Check.due("judged, all stays: " + text, Check.allOf(x), before);
        for (int what = 0; what < 4; what++) {
            Check.due("judged, told(" + what + "): " + text, x.told(what), told[what]);
        }
        Check.due("diary(1): " + text, Check.diary(x, 1, text), line);
        for (int what = 0; what < 4; what++) {
            Check.due("lived, told(" + what + "): " + text, x.told(what), told[what]);
        }
        Check.due("the DAY when it was lived: " + text, x.now(0), told[2]);
        Check.due("what is KNOWN when it was lived: " + text, x.now(2), told[3]);
        if (told[1] > 0) {
            x.undo();
            Check.due("undone, all is as it was: " + text, Check.allOf(x), before);
        } else {
            Check.due("nothing of it is lived: " + text, Check.allOf(x), before);
        }
    }

    private static void judged(String text, int line, int... told) {
        judged(Check.lakeOf(POND), text, line, told);
    }

    /** A FAULT: nothing is lived, nothing can be undone, and what was told stays. */
    private static void fault(String text, int place, int kind) {
        for (int lives = 0; lives < 2; lives++) {
            LakeLearns x = Check.lakeOf(POND);
            Check.diary(x, 0, "day 7;tub sails 1;");
            String before = Check.allOf(x);
            Check.due("diary(" + lives + "): " + text, Check.diary(x, lives, text), -2 - place);
            Check.due("fault of " + text, x.fault(), kind);
            Check.due("the tape is empty behind " + text, x.count(7), 0);
            Check.due("all stays at " + text, Check.allOf(x), before);
            Check.due("told stays at " + text, 1000 * x.told(0) + 100 * x.told(1) + x.told(2), 21107);
            Check.due("nothing to undo at " + text, x.undo(), -1);
        }
    }

    public static void main(String[] args) {
        tokens();
        bytesMost();
        linesMost();
        cells();
        days();
        names();
        whatCannotCome();
        theEnd();
        whyShowing();
        whyRinging();
        whySailing();
        whyDays();
        livedAsFar();
        lives();
        toldEdges();
        Check.close("EdgeDiaryTest");
    }

    private static void tokens() {
        Check.by(34, "TOKENS of all texts, with blanks (32, 10) between them or not");
        judged("", -1, 0, 0, 0, 0);
        judged(" \n", -1, 0, 0, 0, 0);
        judged("day 1;day 1;", -1, 0, 2, 2, 0);
        judged("\nday\n1\n;\n day  1 ;\n", -1, 0, 2, 2, 0);
        judged("day 001;", -1, 0, 1, 1, 0);
        fault("day\t1;", 3, 1);
        fault("day1;", 0, 1);
        fault("day 0001;", 4, 1);
        fault("day 1a;", 4, 1);
        fault("days 1;", 0, 3);
        fault("ann shows rings;", 10, 1);
        fault("annannaa shows ring;", 0, 1);
        fault("annanna shows ring;", 0, 3);
    }

    private static void bytesMost() {
        Check.by(34, "A DIARY is a text of at most 400 bytes");
        for (int bytes = 398; bytes <= 403; bytes++) {
            String[] texts = {"day 1;" + Check.blanks(bytes - 6), Check.blanks(bytes - 6) + "day 1;",
                "day" + Check.blanks(bytes - 5) + "1;", "day 1" + Check.blanks(bytes - 6) + ";"};
            for (String text : texts) {
                if (bytes <= 400) {
                    judged(text, -1, 0, 1, 1, 0);
                } else {
                    fault(text, 400, 1);
                }
            }
            fault("day 1" + Check.blanks(bytes - 5), Math.min(bytes, 400), 1);
        }
        fault("day 1;" + Check.blanks(934), 400, 1);
        Check.by(5, "the most bytes told, if there are more and no FAULT is ahead: TOKENS that begin ahead are read whole");
        fault("day" + Check.blanks(395) + "61;", 398, 2);
        fault("day" + Check.blanks(396) + "61;", 399, 2);
        fault("day" + Check.blanks(397) + "61;", 400, 1);
        fault("day" + Check.blanks(396) + "60;", 400, 1);
        fault("rings" + Check.blanks(394) + "bella;", 399, 3);
        fault("rings" + Check.blanks(394) + "bell;", 400, 1);
        fault("day 1;" + Check.blanks(393) + "?", 399, 1);
        fault("day 1;" + Check.blanks(393) + "??", 399, 1);
        fault("day 61;" + Check.blanks(900), 4, 2);
    }

    private static void linesMost() {
        Check.by(34, "{ LINE ; }, 40 at most");
        for (int lines = 38; lines <= 40; lines++) {
            judged(Check.times("day 1;", lines), -1, 0, lines, lines, 0);
            judged(Check.times("rings bell;", 30) + Check.times("day 1;", lines - 30), -1, 0, lines, lines - 30, 0);
        }
        Check.by(5, "a 41st LINE of a DIARY (4, at the LINE's first WORD)");
        String forty = Check.times("day 1;", 40);
        for (String line : new String[] {"day 1;", "day", "day 61;", "day day", "rings bell;", "rings", "rings nil;",
            "ann shows ring;", "ann", "ann sails", "bob ;", "tub sails 1;", "tub", "gig shows", "gig sails 8;"}) {
            fault(forty + line, 240, 4);
            fault(forty + "\n " + line, 242, 4);
        }
        fault(Check.times("day 1;", 50), 240, 4);
        fault(Check.times("day 1;", 39) + "day 61;", 238, 2);
        Check.by(5, "of one TOKEN the least");
        for (String line : new String[] {"nil shows ring;", "bell", "ring shows ring;", "wave", "days 1;"}) {
            fault(forty + line, 240, 3);
        }
        for (String line : new String[] {"shows", "sails", "cells", "known", "1", ";", "(", "?", "day1", "rings2", "Ann"}) {
            fault(forty + line, 240, 1);
        }
    }

    private static void cells() {
        Check.by(34, "BOAT 'sails' CELL (0 to 7)");
        for (int cell = 0; cell < 10; cell++) {
            if (cell > 7) {
                fault("day 1;tub sails " + cell + ";", 16, 2);
            } else if (cell > 2) {
                judged("day 1;tub sails " + cell + ";", 1, 29, 1, 1, 0);
            } else if (cell == 1) {
                judged("day 1;tub sails " + cell + ";", 1, 21, 1, 1, 0);
            } else {
                judged("day 1;tub sails " + cell + ";", -1, 0, 2, 1, 0);
            }
        }
        fault("tub sails 999;", 10, 2);
        Check.by(35, "29: there is no such CELL");
        for (int cells = 1; cells <= 8; cells++) {
            LakeLearns x = Check.lakeOf("cells " + cells + ";boat tub 0;");
            for (int cell = 1; cell < 8; cell++) {
                boolean there = cell < cells;
                judged(x, "tub sails " + cell + ";", there ? -1 : 0, there ? 0 : 29, there ? 1 : 0, 0, 0);
            }
        }
    }

    private static void days() {
        Check.by(34, "'day' N (1 to 60)");
        fault("day 0;", 4, 2);
        for (int n = 1; n <= 60; n++) {
            judged("day " + n + ";", -1, 0, 1, n, 0);
        }
        fault("day 61;", 4, 2);
        fault("day 999;", 4, 2);
    }

    private static void names() {
        Check.by(5, "a NAME not told, or of another sort (3, at it)");
        judged("ann shows ring;bob shows wave;rings bell;rings moon;tub sails 0;gig sails 1;", -1, 0, 6, 0, 0);
        for (String no : new String[] {"nil", "bell", "moon", "ann", "bob", "tub", "gig"}) {
            fault("ann shows " + no + ";", 10, 3);
        }
        for (String no : new String[] {"nil", "ring", "wave", "ann", "bob", "tub", "gig"}) {
            fault("rings " + no + ";", 6, 3);
        }
        for (String no : new String[] {"nil", "ring", "wave", "bell", "moon"}) {
            fault(no + " shows ring;", 0, 3);
            fault(no + " sails 1;", 0, 3);
            fault("day 1;" + no, 6, 3);
        }
    }

    private static void whatCannotCome() {
        Check.by(5, "1 no TOKEN, or one that can't come (at it)");
        for (String no : new String[] {";", "1", "shows", "sails", "cells", "or", "(", "?", "ANN"}) {
            fault("day 1;" + no, 6, 1);
        }
        for (String no : new String[] {"sails 1;", "rings bell;", "ring;", ";", "1;", "ann shows"}) {
            fault("ann " + no, 4, 1);
        }
        for (String no : new String[] {"shows ring;", "rings bell;", "1;", ";", "tub sails"}) {
            fault("tub " + no, 4, 1);
        }
        for (String no : new String[] {";", "1;", "shows;", "day;", "cue;", "<"}) {
            fault("ann shows " + no, 10, 1);
            fault("rings " + no, 6, 1);
        }
        for (String no : new String[] {";", "ring;", "one;", "day;", "="}) {
            fault("tub sails " + no, 10, 1);
            fault("day " + no, 4, 1);
        }
        for (String line : new String[] {"day 1", "rings bell", "ann shows ring", "tub sails 0"}) {
            fault(line + " day 1;", line.length() + 1, 1);
            fault(line + " 1;", line.length() + 1, 1);
            fault(line + ";;", line.length() + 1, 1);
        }
    }

    private static void theEnd() {
        Check.by(5, "the end: how many bytes there are");
        for (String cut : new String[] {"day", "day 1", "rings", "rings bell", "ann", "ann shows", "ann shows ring", "tub",
            "tub sails", "tub sails 0", "day 1;day 1"}) {
            fault(cut, cut.length(), 1);
            fault(cut + " ", cut.length() + 1, 1);
            fault(cut + "\n\n", cut.length() + 2, 1);
        }
    }

    private static void whyShowing() {
        Check.by(35, "why it was WRONG: as for showing");
        judged("day 9;ann shows ring;day 1;", -1, 0, 3, 10, 1);
        judged("day 10;ann shows ring;", 1, 1, 1, 10, 0);
        judged("day 14;ann shows ring;", 1, 1, 1, 14, 0);
        judged("day 15;ann shows ring;", -1, 0, 2, 15, 0);
        judged("ann shows ring;ann shows ring;", 1, 2, 1, 0, 0);
        judged("ann shows ring;bob shows ring;", 1, 2, 1, 0, 0);
        judged("ann shows ring;day 1;bob shows ring;", 2, 3, 2, 1, 1);
        judged("ann shows ring;bob shows swim;day 1;", -1, 0, 3, 1, 0);
        judged("day 9;ann shows ring;day 1;ann shows ring;", 3, 1, 3, 10, 1);
    }

    private static void whyRinging() {
        Check.by(35, "10 more as for ringing");
        judged("day 9;rings bell;", -1, 0, 2, 9, 0);
        judged("day 10;rings bell;", 1, 11, 1, 10, 0);
        judged("day 14;rings bell;", 1, 11, 1, 14, 0);
        judged("day 15;rings bell;", -1, 0, 2, 15, 0);
    }

    private static void whySailing() {
        Check.by(35, "20 for sailing");
        judged("tub sails 1;", 0, 21, 0, 0, 0);
        judged("gig sails 1;gig sails 1;", 1, 21, 1, 0, 0);
        judged("day 12;tub sails 1;", 1, 21, 1, 12, 0);
        judged("day 9;tub sails 2;", -1, 0, 2, 9, 0);
        judged("day 10;tub sails 2;", 1, 22, 1, 10, 0);
        judged("day 14;tub sails 2;", 1, 22, 1, 14, 0);
        judged("day 15;tub sails 2;", -1, 0, 2, 15, 0);
        judged("day 12;tub sails 3;", 1, 29, 1, 12, 0);
        judged("ann shows ring;day 1;rings bell;tub sails 2;", 3, 23, 3, 1, 1);
        judged("ann shows swim;day 1;rings bell;tub sails 2;", -1, 0, 4, 1, 2);
        judged("ann shows ring;day 1;rings bell;rings moon;tub sails 2;", -1, 0, 5, 1, 1);
        judged("ann shows ring;day 1;rings bell;day 1;tub sails 2;", -1, 0, 5, 2, 1);
    }

    private static void whyDays() {
        Check.by(35, "31 fewer DAYS are left");
        LakeLearns x = Check.lakeOf(POND);
        Check.till(x, 539);
        judged(x, "day 60;", -1, 0, 1, 599, 0);
        Check.till(x, 540);
        judged(x, "day 60;", -1, 0, 1, 600, 0);
        judged(x, "day 1;day 59;", -1, 0, 2, 600, 0);
        judged(x, "day 1;day 60;day 1;", 1, 31, 1, 541, 0);
        Check.till(x, 541);
        judged(x, "day 59;", -1, 0, 1, 600, 0);
        judged(x, "day 60;", 0, 31, 0, 541, 0);
        Check.till(x, 599);
        judged(x, "day 1;", -1, 0, 1, 600, 0);
        judged(x, "day 2;", 0, 31, 0, 599, 0);
        judged(x, "day 1;day 1;", 1, 31, 1, 600, 0);
        Check.till(x, 600);
        judged(x, "day 1;", 0, 31, 0, 600, 0);
        judged(x, "", -1, 0, 0, 600, 0);
    }

    private static void livedAsFar() {
        Check.by(34, "lived as far as it is not WRONG (1): the LINE that is WRONG");
        for (int wrong = 0; wrong < 40; wrong++) {
            String text = Check.times("day 1;", Math.min(wrong, 9)) + Check.times("rings bell;", Math.max(0, wrong - 9))
                + "tub sails 1;";
            judged(text, wrong, 21, wrong, Math.min(wrong, 9), 0);
            judged(text + "rings moon;".repeat(wrong < 39 ? 1 : 0), wrong, 21, wrong, Math.min(wrong, 9), 0);
        }
        Check.by(15, "a DIARY that was lived is undone: all of its LINES at once");
        LakeLearns y = Check.lakeOf(POND);
        Check.due("a DIARY", Check.diary(y, 1, "ann shows ring;day 1;rings bell;gig sails 1;gig sails 1;"), 4);
        Check.due("RINGS", y.now(5), 1);
        Check.due("voyages", y.boat(1, 3), 1);
        Check.due("undo()", y.undo(), 0);
        Check.due("DAY, showings and RINGS", y.now(0) + y.now(7) + y.now(5), 0);
        Check.due("undo() again", y.undo(), -1);
        noLineLived();
    }

    /** A DIARY of one LINE that is WRONG, for each reason: {days ahead of it, the LINE, why}. */
    private static final String[][] WRONG_AT_ONCE = {
        {"10", "ann shows ring;", "1"}, {"1", "ann shows ring;", "3"}, {"10", "rings bell;", "11"}, {"0", "tub sails 1;", "21"},
        {"10", "tub sails 2;", "22"}, {"1", "tub sails 2;", "23"}, {"0", "gig sails 3;", "29"}, {"600", "day 1;", "31"},
        {"599", "day 2;", "31"}, {"541", "day 60;", "31"}, {"1", "ann shows swim;", "2"}};

    private static void noLineLived() {
        for (String[] wrong : WRONG_AT_ONCE) {
            for (String more : new String[] {"", "day 1;", "rings moon;day 2;"}) {
                noneIsLived(Integer.parseInt(wrong[0]), wrong[1] + more, 0, Integer.parseInt(wrong[2]));
            }
        }
        noneIsLived(0, "", -1, 0);
        noneIsLived(1, " \n ", -1, 0);
    }

    /** Ahead of it ring is learnt on DAY 0 and rung on the last DAY, if it is 1 and there swim is shown. */
    private static LakeLearns ahead(int day) {
        LakeLearns x = Check.lakeOf(POND);
        if (day > 0) {
            x.show(0, 0);
            Check.till(x, day);
        }
        if (day == 1) {
            x.ring(0);
            x.show(1, 1);
        }
        return x;
    }

    private static void noneIsLived(int day, String text, int line, int why) {
        Check.by(15, "a DIARY that was lived is undone; where no LINE was lived it is none");
        LakeLearns bare = ahead(day);
        bare.image(0);
        bare.restore(0);
        Check.due("no act ahead: " + text, Check.diary(bare, 1, text), line);
        Check.due("no act ahead, undo() behind " + text, bare.undo(), -1);
        LakeLearns x = ahead(day);
        LakeLearns y = ahead(day);
        for (int times = 0; times < 9; times++) {
            String before = Check.allOf(x);
            Check.due("diary(1) on DAY " + day + ": " + text, Check.diary(x, 1, text), line);
            Check.due("why: " + text, x.told(0), why);
            Check.due("LINES that are not WRONG: " + text, x.told(1), 0);
            Check.due("all stays: " + text, Check.allOf(x), before);
        }
        for (int more = y.undo(); more >= 0; more = y.undo()) {
            Check.due("undo() behind " + text, x.undo(), more);
            Check.due("undone is the act ahead of " + text, Check.allOf(x), Check.allOf(y));
        }
        Check.due("no more behind " + text, x.undo(), -1);
    }

    private static void lives() {
        Check.by(34, "-1000: another lives (the tape stays)");
        LakeLearns x = Check.lakeOf(POND);
        Check.diary(x, 0, "tub sails 1;");
        Check.sentence(x, "at nil");
        Check.tape(x, "day 2;");
        for (int lives : new int[] {-1, 2, 3, -1000, Integer.MIN_VALUE, Integer.MAX_VALUE}) {
            Check.refused(x, "diary(" + lives + ")", -1000, () -> x.diary(lives));
        }
        Check.by(5, "a diary() of -1000 leaves it");
        Check.due("fault()", x.fault(), 3);
        Check.by(35, "the latest diary() that had no FAULT (and was not -1000)");
        Check.due("told(0)", x.told(0), 21);
        Check.due("the tape is yet a DIARY", x.diary(0), -1);
        Check.due("fault()", x.fault(), 0);
        Check.due("told(0)", x.told(0), 0);
        Check.due("told(2)", x.told(2), 2);
        Check.due("judged, no DAY went by", x.now(0), 0);
    }

    private static void toldEdges() {
        LakeLearns x = Check.lakeOf(POND);
        Check.by(35, "NONE: another what, or ahead of any");
        for (int what = -1; what <= 4; what++) {
            Check.due("ahead of any: told(" + what + ")", x.told(what), -1);
        }
        Check.diary(x, 0, "day 61;");
        Check.diary(x, 2, "day 1;");
        for (int what = 0; what < 4; what++) {
            Check.due("behind a FAULT and -1000 alone: told(" + what + ")", x.told(what), -1);
        }
        Check.diary(x, 0, "");
        for (int what = 0; what < 4; what++) {
            Check.due("behind an empty one: told(" + what + ")", x.told(what), 0);
        }
        for (int what : new int[] {-1, 4, 5, Integer.MIN_VALUE, Integer.MAX_VALUE}) {
            Check.due("told(" + what + ")", x.told(what), -1);
        }
    }
}
