/** Promises 36 and 37: sentence and said. */
public final class SentenceTest {
    private static final String POND = "cells 3;shown 2;keeps 9;cue bell;cue moon;lesson ring bell 0 1 1 2 2 3;"
        + "lesson swim bell 0 3 1 2;lesson wave moon 2 2;lesson calm moon;teacher ann;teacher bob;boat tub 1;";

    private static LakeLearns pond;

    /** 'wave' is KNOWN and done twice, 'ring' was shown once by bob, 'calm' and no other of its CUE is shown today. */
    private static LakeLearns livedPond() {
        LakeLearns x = Check.lakeOf(POND);
        x.show(0, 2);
        x.show(1, 0);
        x.days(1);
        x.show(1, 2);
        x.days(1);
        x.ring(1);
        x.ring(1);
        x.show(0, 3);
        return x;
    }

    private static void said(String text, int ones, int... lessons) {
        Check.due("sentence: " + text, Check.sentence(pond, text), ones);
        Check.due("no fault: " + text, pond.fault(), 0);
        Check.due("said(-1): " + text, pond.said(-1), lessons.length);
        for (int k = 0; k < lessons.length; k++) {
            Check.due("said(" + k + "): " + text, pond.said(k), lessons[k]);
        }
        Check.due("said(" + lessons.length + "): " + text, pond.said(lessons.length), -1);
        Check.due("said(-2): " + text, pond.said(-2), -1);
        Check.due("the tape is empty", pond.count(7), 0);
    }

    private static void fault(String text, int place, int kind) {
        LakeLearns x = Check.lakeOf(POND);
        Check.sentence(x, "number=1");
        Check.due("sentence: " + text, Check.sentence(x, text), -1 - place);
        Check.due("fault: " + text, x.fault(), kind);
        Check.due("the old one stays: " + text, x.said(0), 1);
        Check.due("the tape is empty", x.count(7), 0);
    }

    public static void main(String[] args) {
        pond = livedPond();
        plainOnes();
        pond = livedPond();
        joined();
        tokens();
        tooMany();
        noSentence();
        followsTheDays();
        Check.close("SentenceTest");
    }

    private static void plainOnes() {
        said("known", 1, 2);
        said("today", 1, 3);
        said("at bell", 1, 0, 1);
        said("at moon", 1, 2, 3);
        said("by ann", 1, 2);
        said("by bob", 1, 0, 2);
        said("times = 0", 1, 1, 3);
        said("times > 0", 1, 0, 2);
        said("times < 2", 1, 0, 1, 3);
        said("steps < 2", 1, 2, 3);
        said("steps = 3", 1, 0);
        said("steps > 999", 1);
        said("done > 0", 1, 2);
        said("done = 2", 1, 2);
        said("number > 1", 1, 2, 3);
        said("number<001", 1, 0);
        said("number=3", 1, 3);
    }

    private static void joined() {
        said("not known", 2, 0, 1, 3);
        said("not not known", 3, 2);
        said("(known)", 2, 2);
        said("known or at bell", 2, 0, 1, 2);
        said("known and at bell", 2);
        said("number=0 or number=1 and number=2", 3, 0);
        said("(number=0 or number=1) and number=0", 4, 0);
        said("number=0 and number=1 or number=2", 3, 2);
        said("not number=0 and number<2", 3, 1);
        said("not(number=0 and number<2)", 4, 1, 2, 3);
        said("at bell and not by bob or done=2", 4, 1, 2);
        said("known or known or known", 3, 2);
        said("not not not not not not not known", 8, 0, 1, 3);
        said("(((((((known)))))))", 8, 2);
        said("known" + Check.times(" or known", 19), 20, 2);
        said("not(not(not(not known and known)))", 9, 0, 1, 2, 3);
        said("not(not(not(not known and (known))))", 10, 0, 1, 2, 3);
        said("known" + Check.times(" ", 195), 1, 2);
        said(Check.times(" ", 195) + "known", 1, 2);
    }

    private static void tokens() {
        fault("", 0, 1);
        fault("  ", 2, 1);
        fault("Known", 0, 1);
        fault("bell", 0, 1);
        fault("nobody", 0, 1);
        fault("cells", 0, 1);
        fault("and", 0, 1);
        fault("3", 0, 1);
        fault(";", 0, 1);
        fault("known;", 5, 1);
        fault("known known", 6, 1);
        fault("known or", 8, 1);
        fault("known and ", 10, 1);
        fault("not", 3, 1);
        fault("(known", 6, 1);
        fault("known)", 5, 1);
        fault("()", 1, 1);
        fault("at", 2, 1);
        fault("at 3", 3, 1);
        fault("at known", 3, 1);
        fault("at nobody", 3, 3);
        fault("at ann", 3, 3);
        fault("at ring", 3, 3);
        fault("by bell", 3, 3);
        fault("by tub", 3, 3);
        fault("by nobody", 3, 3);
        fault("times", 5, 1);
        fault("times 3", 6, 1);
        fault("times ( 3", 6, 1);
        fault("times ; 3", 6, 1);
        fault("times = known", 8, 1);
        fault("times = 1000", 8, 1);
        fault("times = = 1", 8, 1);
        fault("times=1a", 6, 1);
        fault("known.", 5, 1);
    }

    private static void tooMany() {
        String twenty = "known" + Check.times(" or known", 19);
        fault(twenty + " or known", twenty.length() + 4, 4);
        fault(twenty + " or at nobody", twenty.length() + 4, 4);
        fault(twenty + " and (", twenty.length() + 5, 4);
        fault(twenty + " or bell", twenty.length() + 4, 1);
        fault(twenty + " or", twenty.length() + 3, 1);
        fault("not not not not not not not not known", 32, 4);
        fault("((((((((known))))))))", 8, 4);
        fault("((((((((bell", 8, 1);
        // each bracket and each not is one within
        fault("not(not(not(not(known and not known))))", 16, 4);
        fault("not(not(not(not known and ((known)))))", 28, 4);
        fault("not(not(not(not not known)))", 20, 4);
        fault("known" + Check.times(" ", 196), 200, 1);
        fault("known and" + Check.times(" ", 190) + "today", 200, 1);
        fault("known and" + Check.times(" ", 190) + "todayss1", 199, 1);
        fault("known and" + Check.times(" ", 190) + "bell", 199, 1);
    }

    private static void noSentence() {
        LakeLearns x = Check.lakeOf(POND);
        Check.due("said(-1)", x.said(-1), -1);
        Check.due("said(0)", x.said(0), -1);
        Check.sentence(x, "number>9");
        Check.due("of none", x.said(-1), 0);
        Check.due("of none", x.said(0), -1);
        Check.due("a new LAKE", Check.lake(x, POND) >= 0, true);
        Check.due("no SENTENCE", x.said(-1), -1);
    }

    private static void followsTheDays() {
        LakeLearns x = Check.lakeOf(POND);
        Check.sentence(x, "today");
        x.show(0, 0);
        Check.due("shown", x.said(-1), 1);
        x.show(0, 1);
        Check.due("confused", x.said(-1), 0);
        x.days(1);
        Check.due("another DAY", x.said(-1), 0);
        Check.sentence(x, "by ann");
        x.show(0, 0);
        Check.due("it has not counted yet", x.said(-1), 0);
        x.days(1);
        Check.due("it has", x.said(0), 0);
        x.show(1, 0);
        x.days(10);
        Check.due("known", Check.lesson(x, 0, 3), 0);
        Check.due("forgotten: never shown", x.said(-1), 0);
    }
}
