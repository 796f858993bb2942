import java.util.Arrays;
import java.util.stream.IntStream;

/** Promises 5, 36 and 37 at their edges: what a SENTENCE may hold and how much of it, its FAULTS, of whom it is said. */
public final class EdgeSentenceTest {
    private static final String POND = "cells 3;shown 3;keeps 9;cue bell;cue moon;lesson ring bell 0 1 1 2 2 3;"
        + "lesson swim bell 0 3 1 2;lesson wave moon 2 2;lesson calm moon;teacher ann;teacher bob;boat tub 1;";

    /** 'wave' is KNOWN and was done twice, 'ring' was shown twice, 'swim' once by bob, 'calm' is shown today. */
    private static LakeLearns livedPond() {
        LakeLearns x = Check.lakeOf(POND);
        int[][] shown = {{2, 0}, {2, 0}, {2, 1}};
        for (int[] day : shown) {
            x.show(0, day[0]);
            x.show(1, day[1]);
            x.days(1);
        }
        x.ring(1);
        x.ring(1);
        x.show(0, 3);
        return x;
    }

    private static void said(LakeLearns x, String text, int ones, int... lessons) {
        Check.due("sentence: " + text, Check.sentence(x, text), ones);
        Check.due("fault of " + text, x.fault(), 0);
        Check.due("said(-1): " + text, x.said(-1), lessons.length);
        for (int k = 0; k < lessons.length; k++) {
            Check.due("said(" + k + "): " + text, x.said(k), lessons[k]);
        }
        for (int k : new int[] {-2, lessons.length, lessons.length + 1, 8, Integer.MIN_VALUE, Integer.MAX_VALUE}) {
            Check.due("said(" + k + "): " + text, x.said(k), -1);
        }
    }

    private static void said(String text, int ones, int... lessons) {
        said(livedPond(), text, ones, lessons);
    }

    /** A FAULT, and the SENTENCE that was stays, and all else too. */
    private static void fault(String text, int place, int kind) {
        LakeLearns x = livedPond();
        Check.sentence(x, "number=1");
        String before = Check.allOf(x);
        Check.due("sentence: " + text, Check.sentence(x, text), -1 - place);
        Check.due("fault of " + text, x.fault(), kind);
        Check.due("the tape is empty behind " + text, x.count(7), 0);
        Check.due("it stays at " + text, 10 * x.said(-1) + x.said(0), 11);
        Check.due("all stays at " + text, Check.allOf(x), before);
    }

    public static void main(String[] args) {
        tokens();
        bytesMost();
        onesMost();
        withinMost();
        signsAndNumbers();
        today();
        by();
        names();
        whatCannotCome();
        theEnd();
        joins();
        noSentence();
        sayingOfAll();
        Check.close("EdgeSentenceTest");
    }

    private static void tokens() {
        Check.by(36, "TOKENS of all texts, with blanks (32, 10) between them or not");
        said("known", 1, 2);
        said("\nknown ", 1, 2);
        said("(known)or(today)", 4, 2, 3);
        said("times<2 and(not known)", 4, 1, 3);
        said(" ( known )\nor ( today ) ", 4, 2, 3);
        said("times\n<\n3", 1, 0, 1, 3);
        fault("known\t", 5, 1);
        fault("\rknown", 0, 1);
        fault("known2", 0, 1);
        fault("times<2and known", 6, 1);
        fault("notknown", 0, 1);
        fault("knownor today", 0, 1);
    }

    private static void bytesMost() {
        Check.by(36, "A SENTENCE is a text of at most 200 bytes");
        for (int bytes = 198; bytes <= 203; bytes++) {
            String[] texts = {"known" + Check.blanks(bytes - 5), Check.blanks(bytes - 5) + "known",
                "not" + Check.blanks(bytes - 8) + "known", "at" + Check.blanks(bytes - 6) + "moon"};
            int[][] due = {{1, 2}, {1, 2}, {2, 0, 1, 3}, {1, 2, 3}};
            for (int i = 0; i < texts.length; i++) {
                if (bytes <= 200) {
                    said(texts[i], due[i][0], Arrays.copyOfRange(due[i], 1, due[i].length));
                } else {
                    fault(texts[i], 200, 1);
                }
            }
            fault("known or" + Check.blanks(bytes - 8), Math.min(bytes, 200), 1);
        }
        fault("known" + Check.blanks(935), 200, 1);
        Check.by(5, "the most bytes told, if there are more and no FAULT is ahead: TOKENS that begin ahead are read whole");
        fault("at" + Check.blanks(196) + "nil", 198, 3);
        fault("at" + Check.blanks(197) + "nil", 199, 3);
        fault("at" + Check.blanks(198) + "nil", 200, 1);
        fault("at" + Check.blanks(197) + "moon", 200, 1);
        fault("at" + Check.blanks(197) + "moonmoon", 199, 1);
        fault("known" + Check.blanks(194) + "known", 199, 1);
        fault("known" + Check.blanks(195) + "known", 200, 1);
        fault("times=" + Check.blanks(193) + "1000", 199, 1);
        fault("times=" + Check.blanks(193) + "100", 200, 1);
        fault("at nil" + Check.blanks(900), 3, 3);
    }

    private static void onesMost() {
        Check.by(36, "20 ONES; how many ONES (each not, bracket and other one)");
        said("known", 1, 2);
        said("not known", 2, 0, 1, 3);
        said("(known)", 2, 2);
        said("not(known)", 3, 0, 1, 3);
        said("not(known or not(today))", 6, 3);
        for (int ones = 1; ones <= 20; ones++) {
            said("known" + Check.times(" or known", ones - 1), ones, 2);
            said("known" + Check.times(" and known", ones - 1), ones, 2);
            said(Check.times("not known and ", (ones - 1) / 2) + (ones % 2 == 1 ? "today" : "(today)"), ones, 3);
        }
        Check.by(5, "a 21st ONE (4, at its first TOKEN)");
        String twenty = "known" + Check.times(" or known", 19);
        int next = twenty.length() + 4;
        for (String one : new String[] {"known", "today", "at bell", "at nil", "at", "by ann", "by 1", "times=1", "times",
            "steps", "done", "number<", "not known", "not", "(known)", "("}) {
            fault(twenty + " or " + one, next, 4);
            fault(twenty + "\nor\n\n" + one, next + 1, 4);
        }
        fault(Check.times("not known and ", 10) + "today", 140, 4);
        fault(Check.times("not known and ", 9) + "today or not known", 139, 4);
        fault("(known" + Check.times(" or known", 18) + " or known)", 172, 4);
        Check.by(5, "of one TOKEN the least");
        for (String no : new String[] {"bell", "nil", "or", "and", "cells", "1", ")", ";", "<", "?", "known1", "KNOWN"}) {
            fault(twenty + " or " + no, next, 1);
        }
        fault(twenty + " or", next - 1, 1);
        fault(twenty + " known", next - 3, 1);
        fault(twenty + ")", next - 4, 1);
    }

    private static void withinMost() {
        Check.by(36, "8 within one another");
        for (int around = 0; around <= 7; around++) {
            int[] kept = {2};
            int[] turned = {0, 1, 3};
            said(Check.times("not ", around) + "known", around + 1, around % 2 == 0 ? kept : turned);
            said(Check.times("(", around) + "known" + Check.times(")", around), around + 1, kept);
        }
        said("not(not(not(not known)))", 8, 2);
        said("(((((((known or today)))))))", 9, 2, 3);
        said("(((((((known)))))))or(((((((today)))))))", 16, 2, 3);
        said("not not not not not not not known and not not not not not not not today", 16, 0, 1);
        Check.by(5, "a ninth within (4, at its first TOKEN)");
        fault(Check.times("not ", 8) + "known", 32, 4);
        fault(Check.times("(", 8) + "known" + Check.times(")", 8), 8, 4);
        fault(Check.times("(", 8) + " at nil", 9, 4);
        fault(Check.times("(", 9), 8, 4);
        fault(Check.times("not ", 9), 32, 4);
        fault("not(not(not(not(known))))", 16, 4);
        fault("(((((((known or (today))))))))", 17, 4);
        fault("(((((((known or not today)))))))", 20, 4);
        fault("(((((((not known)))))))", 11, 4);
        fault("known and (((((((not known)))))))", 21, 4);
        Check.by(5, "of one TOKEN the least");
        for (String no : new String[] {"bell", "or", "1", ")", ";", "?"}) {
            fault(Check.times("(", 8) + no, 8, 1);
        }
        fault(Check.times("(", 8), 8, 1);
        fault(Check.times("not ", 8), 32, 1);
    }

    private static void signsAndNumbers() {
        Check.by(36, "( 'times' | 'steps' | 'done' | 'number' ) SIGN NUMBER; SIGN: < = >");
        LakeLearns x = livedPond();
        int[][] measures = {{2, 1, 3, 0}, {3, 2, 1, 0}, {0, 0, 2, 0}, {0, 1, 2, 3}};
        String[] words = {"times", "steps", "done", "number"};
        for (int i = 0; i < words.length; i++) {
            for (int number : new int[] {0, 1, 2, 3, 4, 8, 9, 10, 99, 100, 998, 999}) {
                for (char sign : new char[] {'<', '=', '>'}) {
                    int[] of = measures[i];
                    said(x, words[i] + sign + number, 1, IntStream.range(0, 4).filter(l -> sign == '<' ? of[l] < number
                        : sign == '=' ? of[l] == number : of[l] > number).toArray());
                }
            }
            fault(words[i] + "=1000", words[i].length() + 1, 1);
            fault(words[i] + "=0000", words[i].length() + 1, 1);
            fault(words[i] + "<=1", words[i].length() + 1, 1);
            fault(words[i] + "=-1", words[i].length() + 1, 1);
            for (char no : new char[] {'<' - 1, '>' + 1, '(', ')', '!'}) {
                fault(words[i] + no + "1", words[i].length(), 1);
            }
            fault(words[i] + " 1", words[i].length() + 1, 1);
        }
    }

    private static void today() {
        Check.by(36, "'today' (it was shown on this DAY, and is not confused)");
        LakeLearns x = Check.lakeOf(POND);
        Check.sentence(x, "today");
        Check.due("none was shown", x.said(-1), 0);
        x.show(0, 2);
        x.show(0, 0);
        Check.due("two of two CUES", x.said(-1), 2);
        x.show(1, 1);
        Check.due("one of the other CUE", x.said(-1), 1);
        Check.due("it is", x.said(0), 2);
        x.show(1, 3);
        Check.due("all are confused", x.said(-1), 0);
        x.undo();
        Check.due("one again", x.said(0), 2);
        x.days(1);
        Check.due("on the next DAY", x.said(-1), 0);
    }

    private static void by() {
        Check.by(36, "'by' TEACHER (one of its showings that counted was by that one)");
        LakeLearns x = Check.lakeOf(POND);
        Check.sentence(x, "by bob");
        x.show(1, 0);
        Check.due("it does not count yet", x.said(-1), 0);
        x.show(0, 1);
        x.days(1);
        Check.due("it was confused", x.said(-1), 0);
        x.show(1, 0);
        x.days(1);
        Check.due("it counted", x.said(0), 0);
        x.show(0, 0);
        x.days(1);
        Check.due("one of two was by him", x.said(0), 0);
        Check.sentence(x, "by ann");
        Check.due("and one by her", x.said(0), 0);
        x.show(0, 0);
        x.days(9);
        Check.due("KNOWN, and kept to the last", x.said(-1), 1);
        x.days(1);
        Check.due("forgotten: it was never shown", x.said(-1), 0);
        Check.sentence(x, "times=0");
        Check.due("of all", x.said(-1), 4);
    }

    private static void names() {
        Check.by(5, "a NAME not told, or of another sort (3, at it)");
        said("at bell", 1, 0, 1);
        said("at moon", 1, 2, 3);
        for (String no : new String[] {"nil", "ring", "wave", "ann", "tub"}) {
            fault("at " + no, 3, 3);
            fault("not(at " + no, 7, 3);
        }
        for (String no : new String[] {"nil", "ring", "wave", "bell", "moon", "tub"}) {
            fault("by " + no, 3, 3);
            fault("known or by " + no, 12, 3);
        }
        for (String no : new String[] {"at", "known", "cells", "1", "(", "=", ";", "?"}) {
            fault("at " + no, 3, 1);
            fault("by " + no, 3, 1);
        }
    }

    private static void whatCannotCome() {
        Check.by(5, "1 no TOKEN, or one that can't come (at it)");
        for (String no : new String[] {"bell", "nil", "or", "and", "cells", "shows", "day", "1", ")", ";", "<", "=", ">", "?"}) {
            fault(no, 0, 1);
            fault("not " + no, 4, 1);
            fault("(" + no, 1, 1);
            fault("known or " + no, 9, 1);
            fault("known and " + no, 10, 1);
        }
        for (String no : new String[] {"known", "not", "(", ")", "1", ";", "=", "at bell", "bell"}) {
            fault("known " + no, 6, 1);
            fault("at bell " + no, 8, 1);
            fault("times=1 " + no, 8, 1);
            fault("(known) " + no, 8, 1);
        }
        fault("(known or today", 15, 1);
        fault("((known)", 8, 1);
        fault("()", 1, 1);
    }

    private static void theEnd() {
        Check.by(5, "the end: how many bytes there are");
        fault("", 0, 1);
        for (String cut : new String[] {" ", "not", "(", "(known", "at", "by", "times", "times=", "known or", "known and",
            "known or not", "known or(known and(known"}) {
            fault(cut, cut.length(), 1);
            fault(cut + " ", cut.length() + 1, 1);
            fault(cut + "\n\n", cut.length() + 2, 1);
        }
    }

    private static void joins() {
        Check.by(36, "COND: ALL { 'or' ALL }. ALL: ONE { 'and' ONE }. ONE: 'not' ONE | ( COND )");
        said("known or today and at bell", 3, 2);
        said("today and at bell or known", 3, 2);
        said("(known or today) and at bell", 4);
        said("at bell and known or today and at moon", 4, 3);
        said("not known and today", 3, 3);
        said("not(known and today)", 4, 0, 1, 2, 3);
        said("not known or known", 3, 0, 1, 2, 3);
        said("not(known or known)", 4, 0, 1, 3);
        said("at bell or at moon", 2, 0, 1, 2, 3);
        said("at bell and at moon", 2);
    }

    private static void noSentence() {
        Check.by(37, "NONE: there is no SENTENCE, none such");
        LakeLearns x = new LakeLearns();
        for (int k : new int[] {-2, -1, 0, 1, Integer.MAX_VALUE, Integer.MIN_VALUE}) {
            Check.due("ahead of any: said(" + k + ")", x.said(k), -1);
        }
        Check.sentence(x, "known known");
        Check.due("behind a FAULT alone", x.said(-1), -1);
        Check.due("a SENTENCE", Check.sentence(x, "known"), 1);
        Check.due("of no LESSONS", x.said(-1), 0);
        Check.due("of no LESSONS: said(0)", x.said(0), -1);
        Check.by(37, "A new LAKE: no SENTENCE");
        Check.lake(x, "?");
        Check.due("behind a FAULT of lake() it stays", x.said(-1), 0);
        Check.lake(x, "");
        Check.due("said(-1)", x.said(-1), -1);
        Check.due("said(0)", x.said(0), -1);
    }

    private static void sayingOfAll() {
        Check.by(37, "how many (k NONE), or the k-th");
        LakeLearns x = Check.lakeOf("cue a;lesson b a;lesson c a;lesson d a;lesson e a;lesson f a;lesson g a;lesson h a;"
            + "lesson i a;");
        said(x, "at a", 1, 0, 1, 2, 3, 4, 5, 6, 7);
        said(x, "not at a", 2);
        for (String all : new String[] {"times=0", "steps<1", "done<1", "number<8", "not known", "not today"}) {
            said(x, all, all.startsWith("not") ? 2 : 1, 0, 1, 2, 3, 4, 5, 6, 7);
        }
        said(x, "number=0 or number=7", 2, 0, 7);
        said(x, "number>6", 1, 7);
        said(x, "number<1", 1, 0);
        said(x, "number>7", 1);
        LakeLearns one = Check.lakeOf("cue a;lesson b a;");
        said(one, "at a", 1, 0);
        said(one, "known", 1);
        said(one, "not known", 2, 0);
    }
}
