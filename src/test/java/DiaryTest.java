/** Promises 34 and 35: diary and told. */
public final class DiaryTest {
    private static final String POND = "cells 3;shown 1;keeps 4;ice 10 5;cue bell;cue moon;lesson ring bell 0 1 1 2 2 3;"
        + "lesson swim bell 0 3 1 2;lesson wave moon 2 2;teacher ann;teacher bob;boat tub 1;boat gig 0;";

    private static void judged(String text, int line, int... told) {
        for (int lives = 0; lives < 2; lives++) {
            LakeLearns x = Check.lakeOf(POND);
            Check.due("diary(" + lives + "): " + text, Check.diary(x, lives, text), line);
            Check.due("no fault", x.fault(), 0);
            for (int what = 0; what < 4; what++) {
                Check.due("told(" + what + "): " + text, x.told(what), told[what]);
            }
            Check.due("DAY behind diary(" + lives + "): " + text, x.now(0), lives == 1 ? told[2] : 0);
            Check.due("known behind diary(" + lives + "): " + text, x.now(2), lives == 1 ? told[3] : 0);
            Check.due("undo behind diary(" + lives + "): " + text, x.undo(), lives == 1 && told[1] > 0 ? 0 : -1);
            Check.due("DAY 0", x.now(0), 0);
            Check.due("the tape is empty", x.count(7), 0);
        }
    }

    private static void fault(String text, int place, int kind) {
        for (int lives = 0; lives < 2; lives++) {
            LakeLearns x = Check.lakeOf(POND);
            Check.diary(x, 0, "day 2;");
            Check.due("diary(" + lives + "): " + text, Check.diary(x, lives, text), -2 - place);
            Check.due("fault: " + text, x.fault(), kind);
            Check.due("told is of the one ahead", x.told(2), 2);
            Check.due("nothing is lived", x.now(0), 0);
            Check.due("nothing is shown", x.now(7), 0);
            Check.due("nothing to undo", x.undo(), -1);
            Check.due("the tape is empty", x.count(7), 0);
        }
    }

    public static void main(String[] args) {
        judging();
        faults();
        tooMany();
        lastDays();
        otherLives();
        Check.close("DiaryTest");
    }

    private static void judging() {
        judged("", -1, 0, 0, 0, 0);
        judged("day 1;", -1, 0, 1, 1, 0);
        judged("day 60;", -1, 0, 1, 60, 0);
        judged("ann shows ring;bob shows wave;day 1;rings bell;", -1, 0, 4, 1, 5);
        judged("ann shows ring;bob shows ring;day 1;", 1, 2, 1, 0, 0);
        judged("ann shows ring;day 1;bob shows ring;day 9;", 2, 3, 2, 1, 1);
        judged("ann shows ring;bob shows swim;day 1;", -1, 0, 3, 1, 0);
        judged("day 10;ann shows ring;day 1;", 1, 1, 1, 10, 0);
        judged("day 10;rings bell;day 1;", 1, 11, 1, 10, 0);
        judged("tub sails 1;", 0, 21, 0, 0, 0);
        judged("day 14;tub sails 2;", 1, 22, 1, 14, 0);
        judged("day 15;tub sails 2;", -1, 0, 2, 15, 0);
        judged("ann shows ring;day 1;rings bell;tub sails 2;", 3, 23, 3, 1, 1);
        judged("tub sails 3;", 0, 29, 0, 0, 0);
        judged("day 12;tub sails 7;", 1, 29, 1, 12, 0);
        judged("tub sails 0;gig sails 2;", -1, 0, 2, 0, 0);
        judged(" rings\nbell ;", -1, 0, 1, 0, 0);
        judged(Check.times("day 1;", 40), -1, 0, 40, 40, 0);
        LakeLearns x = Check.lakeOf(POND);
        Check.due("lived", Check.diary(x, 1, "tub sails 0;ann shows ring;day 1;rings bell;tub sails 0;day 1;"), 4);
        Check.due("why", x.told(0), 21);
        Check.due("as far as it is not WRONG", x.now(0), 1);
        Check.due("rung", x.height(2), 3);
        Check.due("sailed", x.boat(0, 3), 1);
        Check.due("by whom", Check.diary(x, 1, "gig sails 1;bob shows wave;ann shows swim;"), -1);
        Check.due("gig", x.boat(1, 0), 1);
        Check.due("bob", Check.lesson(x, 2, 6), 1);
        Check.due("ann", Check.lesson(x, 1, 6), 0);
        Check.due("told", Check.diary(x, 0, "gig sails 1;"), 0);
        Check.due("a new LAKE", Check.lake(x, ""), 0);
        Check.due("told stays", x.told(0), 21);
    }

    private static void faults() {
        fault("day", 3, 1);
        fault("day 1", 5, 1);
        fault("day 1;day 1", 11, 1);
        fault(";", 0, 1);
        fault("1;", 0, 1);
        fault("cells 1;", 0, 1);
        fault("shows ring;", 0, 1);
        fault("day 1;Ann shows ring;", 6, 1);
        fault("ann ring;", 4, 1);
        fault("ann shows;", 9, 1);
        fault("ann shows 1;", 10, 1);
        fault("ann shows day;", 10, 1);
        fault("ann sails 1;", 4, 1);
        fault("tub shows ring;", 4, 1);
        fault("tub sails ring;", 10, 1);
        fault("rings 1;", 6, 1);
        fault("rings bell bell;", 11, 1);
        fault("day 0;", 4, 2);
        fault("day 61;", 4, 2);
        fault("tub sails 8;", 10, 2);
        fault("tub sails 999;", 10, 2);
        fault("tub sails 1000;", 10, 1);
        fault("nobody shows ring;", 0, 3);
        fault("bell shows ring;", 0, 3);
        fault("ring shows ring;", 0, 3);
        fault("ann shows nothings;", 10, 1);
        fault("ann shows nil;", 10, 3);
        fault("ann shows bell;", 10, 3);
        fault("rings ring;", 6, 3);
        fault("rings nil;", 6, 3);
        fault("tub sails 1;rings nil;", 18, 3);
    }

    private static void tooMany() {
        String forty = Check.times("day 1;", 40);
        fault(forty + "day 1;", 240, 4);
        fault(forty + "day 99;", 240, 4);
        fault(forty + "rings nil;", 240, 4);
        fault(forty + "ann;", 240, 4);
        fault(forty + " tub", 241, 4);
        fault(forty + "nil", 240, 3);
        fault(forty + "bell", 240, 3);
        fault(forty + "shows", 240, 1);
        fault(forty + ";", 240, 1);
        fault("day 1;" + Check.times(" ", 395), 400, 1);
        fault("day 1" + Check.times(" ", 395) + ";", 400, 1);
        fault("day" + Check.times(" ", 396) + "61;", 399, 2);
        judged("day 1;" + Check.times(" ", 394), -1, 0, 1, 1, 0);
        judged("day 1" + Check.times(" ", 394) + ";", -1, 0, 1, 1, 0);
    }

    private static void lastDays() {
        LakeLearns x = Check.lakeOf(POND);
        for (int i = 0; i < 9; i++) {
            x.days(60);
        }
        Check.due("60 are left", Check.diary(x, 0, "day 60;"), -1);
        Check.due("the DAY then", x.told(2), 600);
        Check.due("fewer are left", Check.diary(x, 1, "day 1;day 60;"), 1);
        Check.due("why", x.told(0), 31);
        Check.due("none of them goes by", x.now(0), 541);
    }

    private static void otherLives() {
        LakeLearns x = Check.lakeOf(POND);
        x.feed(0, 0, 0, 0, 0);
        for (int lives : new int[] {-1, 2, Integer.MAX_VALUE, Integer.MIN_VALUE}) {
            Check.due("diary(" + lives + ")", x.diary(lives), -1000);
        }
        Check.due("the tape stays", x.count(7), 20);
        Check.due("told(0)", x.told(0), -1);
        Check.diary(x, 0, "tub sails 1;");
        Check.due("why", x.told(0), 21);
        x.diary(2);
        Check.due("as it was told", x.told(0), 21);
        Check.due("told(4)", x.told(4), -1);
        Check.due("told(-1)", x.told(-1), -1);
    }
}
