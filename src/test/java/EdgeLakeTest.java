/** Promises 4 and 5 at their edges: TOKENS, what a LAKE may hold and how much of it, FAULTS, their places, the least. */
public final class EdgeLakeTest {
    private static final String[] KEYS = {"cells", "shown", "keeps", "nights", "ice", "cue", "lesson", "teacher", "boat",
        "shows", "rings", "sails", "day", "or", "and", "not", "known", "today", "at", "by", "times", "steps", "done", "number"};
    private static final String[] SORTS = {"cue", "lesson", "teacher", "boat"};
    private static final int[] MOST = {6, 8, 4, 6};

    private static LakeLearns fine(String text, int lines) {
        LakeLearns x = new LakeLearns();
        Check.due("lake: " + text, Check.lake(x, text), lines);
        Check.due("fault of " + text, x.fault(), 0);
        return x;
    }

    /** A FAULT, and all of the LAKE that was stays, with what was lived in it and can be undone. */
    private static void fault(String text, int place, int kind) {
        LakeLearns x = Check.lakeOf("cells 2;shown 1;cue old;lesson was old 1 3;teacher who;boat tub 0;");
        x.show(0, 0);
        x.days(1);
        x.ring(0);
        Check.sentence(x, "known");
        String before = Check.allOf(x);
        Check.due("lake: " + text, Check.lake(x, text), -1 - place);
        Check.due("fault of " + text, x.fault(), kind);
        Check.due("the tape is empty behind " + text, x.count(7), 0);
        Check.due("the LAKE stays at " + text, Check.allOf(x), before);
        Check.due("what can be undone stays at " + text, x.undo(), 2);
    }

    public static void main(String[] args) {
        blanks();
        words();
        numbers();
        runsOfSigns();
        signs();
        bytesMost();
        settings();
        settingsOnce();
        iceTogether();
        cellsAheadOfAll();
        cellsOfLessonsAndBoats();
        highs();
        stepsMost();
        firstWords();
        keysAreNoNames();
        namesToldOnce();
        namesOfAnotherSort();
        sortsMost();
        theFullest();
        theEnd();
        theFirstAndTheLeast();
        Check.close("EdgeLakeTest");
    }

    private static void blanks() {
        Check.by(4, "blanks (32, 10) between them or not");
        fine("cue a;cue b;", 2);
        fine(" cue  a ; cue  b ; ", 2);
        fine("\ncue\na\n;\n\ncue\nb\n;\n", 2);
        for (int other : new int[] {0, 9, 11, 12, 13, 31, 33, 127, 128, 160, 255}) {
            fault("cue" + (char) other + "a;", 3, 1);
            fault("cue a;" + (char) other, 6, 1);
            fault((char) other + "cue a;", 0, 1);
        }
    }

    private static void words() {
        Check.by(4, "WORDS: small letters, 1 to 7");
        fine("cue a;", 1);
        fine("cue abcdef;", 1);
        fine("cue abcdefg;", 1);
        fault("cue abcdefgh;", 4, 1);
        fault("cue abcdefghi;", 4, 1);
        fault("cellsss 4;", 0, 1);
        fault("teacherr a;", 0, 1);
        fault("cell 4;", 0, 1);
        fine("cue z;", 1);
        fine("cue zzzzzzz;", 1);
        fine("cue a;cue aa;cue aaaaaaa;", 3);
        for (int no : new int[] {'a' - 1, 'z' + 1, 'A', 'Z', '_', '-', 'a' + 128, 'z' + 128}) {
            fault("cue " + (char) no + ";", 4, 1);
            fault("cue a" + (char) no + ";", 5, 1);
        }
        Check.by(4, "two WORDS that differ in one letter, or in length, are two NAMES");
        fine("cue aaaaaaa;cue aaaaaab;cue baaaaaa;cue aaaaaa;", 4);
        fault("cue abcdefg;cue abcdefg;", 16, 3);
    }

    private static void numbers() {
        Check.by(4, "NUMBERS: 1 to 3 digits");
        Check.due("cells 5", fine("cells 5;", 1).count(0), 5);
        Check.due("cells 05", fine("cells 05;", 1).count(0), 5);
        Check.due("cells 005", fine("cells 005;", 1).count(0), 5);
        fault("cells 0005;", 6, 1);
        fault("cells 00000000005;", 6, 1);
        fault("keeps 999;", 6, 2);
        fault("keeps 1000;", 6, 1);
        fault("keeps 4294967297;", 6, 1);
        fault("keeps -1;", 6, 1);
        fault("keeps " + (char) ('0' - 1) + ";", 6, 1);
        fault("keeps " + (char) ('9' + 1) + ";", 6, 1);
        fine("keeps 90;", 1);
        fine("keeps 9;", 1);
    }

    private static void runsOfSigns() {
        Check.by(4, "A WORD, NUMBER goes on as long as small letters and digits do; what is not as told is no TOKEN");
        fault("cells4;", 0, 1);
        fault("cells 4a;", 6, 1);
        fault("cells a4;", 6, 1);
        fault("cells 4 a;", 8, 1);
        fault("cue a1;", 4, 1);
        fault("cue 1a;", 4, 1);
        fault("cue abcdef1;", 4, 1);
        fault("cue a;lesson b a 0 11;", 19, 2);
        fault("cue a;lesson b a 0 1 0 1a;", 23, 1);
        fault("cue a;lesson b a0 1;", 15, 1);
        fine("cue a;lesson b a 0 1;", 2);
    }

    /** Signs of other texts are TOKENS too, but none of them can come in a LAKE. */
    private static void signs() {
        Check.by(4, "{ LINE ; }");
        fault(";", 0, 1);
        fault("cells 4;;", 8, 1);
        fault("cells 4 shown 3;", 8, 1);
        for (char sign : new char[] {'<', '=', '>', '(', ')', '.', ':', ',', '?', '*', '\''}) {
            fault("cells 4" + sign, 7, 1);
            fault("cells" + sign + "4;", 5, 1);
            fault("cue a;lesson b a" + sign, 16, 1);
        }
    }

    private static void bytesMost() {
        Check.by(4, "A LAKE is a text of at most 900 bytes");
        for (int bytes = 898; bytes <= 903; bytes++) {
            String[] texts = {"cue a;" + Check.blanks(bytes - 6), Check.blanks(bytes - 6) + "cue a;",
                "cue" + Check.blanks(bytes - 5) + "a;", "cue a" + Check.blanks(bytes - 6) + ";"};
            for (String text : texts) {
                if (bytes <= 900) {
                    fine(text, 1);
                } else {
                    fault(text, 900, 1);
                }
            }
            fault("cue a" + Check.blanks(bytes - 5), Math.min(bytes, 900), 1);
        }
        fine(Check.blanks(900), 0);
        fault(Check.blanks(901), 900, 1);
        fault(Check.blanks(940), 900, 1);
        Check.by(5, "the most bytes told, if there are more and no FAULT is ahead");
        fault("cue a;" + Check.blanks(893) + "?", 899, 1);
        fault("cue a;" + Check.blanks(893) + "??", 899, 1);
        fault("cue a;" + Check.blanks(894) + "?", 900, 1);
        fault("cue a;" + Check.blanks(895) + "?", 900, 1);
        fault("cells 9;" + Check.blanks(932), 6, 2);
        fault("cue a;cue a;" + Check.blanks(928), 10, 3);
        fault("cells" + Check.blanks(893) + "9;", 898, 2);
        fault("cells" + Check.blanks(894) + "9;", 899, 2);
        fault("cells" + Check.blanks(895) + "9;", 900, 1);
        Check.by(5, "TOKENS that begin ahead of it are read whole");
        fault("cue abc;cue" + Check.blanks(888) + "abc;", 899, 3);
        fault("cue abc;cue" + Check.blanks(888) + "abd;", 900, 1);
        fault("cue abc;cue" + Check.blanks(889) + "abc;", 900, 1);
        fault("keeps" + Check.blanks(894) + "100;", 899, 2);
        fault("keeps" + Check.blanks(894) + "10;", 900, 1);
        fault("keeps" + Check.blanks(894) + "1000;", 899, 1);
        fault("cue" + Check.blanks(890) + "abcdefg;", 900, 1);
        fault("cue" + Check.blanks(896) + "abcdefgh;", 899, 1);
        fault("cue" + Check.blanks(895) + "ab;", 900, 1);
    }

    /** least and most: at them it is fine, a step over them it is FAULT 2 at the NUMBER. */
    private static void setting(String key, int least, int most, int what, int without) {
        Check.by(4, "'" + key + "' N (" + least + " to " + most + "; " + without + " without)");
        for (int n = least - 1; n <= most + 1; n++) {
            if (n < 0) {
                continue;
            }
            if (n < least || n > most) {
                fault(key + " " + n + ";", key.length() + 1, 2);
            } else {
                LakeLearns x = fine(key + " " + n + ";", 1);
                Check.due(key + " " + n, what < 0 ? n : x.count(what), n);
            }
        }
        fault(key + " 999;", key.length() + 1, 2);
        fault(key + ";", key.length(), 1);
        fault(key, key.length(), 1);
        fault(key + " a;", key.length() + 1, 1);
        if (what >= 0) {
            Check.due("without " + key, fine("cue a;", 1).count(what), without);
        }
    }

    private static void settings() {
        setting("cells", 1, 8, 0, 4);
        setting("shown", 1, 9, 1, 3);
        setting("keeps", 1, 99, 2, 20);
        setting("nights", 1, 30, -1, 0);
        Check.by(4, "'ice' FROM LONG (0 to 99; 1 to 50)");
        for (int from = 0; from <= 101; from++) {
            if (from < 100) {
                fine("ice " + from + " 1;", 1);
            } else {
                fault("ice " + from + " 1;", 4, 2);
            }
        }
        for (int length = 0; length <= 52; length++) {
            if (length >= 1 && length <= 50) {
                fine("ice 0 " + length + ";", 1);
            } else {
                fault("ice 0 " + length + ";", 6, 2);
            }
        }
        fault("ice;", 3, 1);
        fault("ice 1;", 5, 1);
        fault("ice 1 1 1;", 8, 1);
        fault("ice 1 a;", 6, 1);
        Check.by(4, "'nights' and 'ice': none without");
        LakeLearns x = fine("shown 1;keeps 1;cue a;lesson b a;teacher t;", 5);
        Check.due("ice()", x.ice(), -1);
        x.show(0, 0);
        x.days(1);
        Check.due("no night keeps it", x.forgets(0), 1);
        Check.by(4, "'ice': no LAKE's settings are left over from the LAKE ahead of it");
        Check.lake(x, "cells 8;shown 9;keeps 99;nights 1;ice 0 50;");
        Check.lake(x, "cue a;lesson b a;teacher t;");
        Check.due("cells, shown, keeps", 10000 * x.count(0) + 100 * x.count(1) + x.count(2), 40320);
        Check.due("ice()", x.ice(), -1);
    }

    private static void settingsOnce() {
        Check.by(5, "what is told once told again (3, at it)");
        String[] lines = {"cells 4;", "shown 3;", "keeps 20;", "nights 5;", "ice 10 5;"};
        for (String line : lines) {
            fine(line, 1);
            fault(line + line, line.length(), 3);
            fault(line + "cue a;" + line, line.length() + 6, 3);
            fault(line + line.substring(0, line.indexOf(' ')), line.length(), 3);
            for (String other : lines) {
                if (!other.equals(line)) {
                    fine(line + other, 2);
                }
            }
        }
    }

    private static void iceTogether() {
        for (int from = 49; from <= 99; from++) {
            Check.by(4, "FROM and LONG 100 at most");
            int most = Math.min(50, 100 - from);
            fine("ice " + from + " " + most + ";", 1);
            fault("ice " + from + " " + (most + 1) + ";", 7, 2);
            Check.by(5, "FROM and LONG: at LONG");
            fault("ice " + from + " 51;", 7, 2);
            fault("ice " + from + " 0;", 7, 2);
        }
        fault("ice 100 0;", 4, 2);
        fault("ice 100 51;", 4, 2);
        fault("ice 9\n 92;", 7, 2);
    }

    private static void cellsAheadOfAll() {
        Check.by(5, "'cells' behind one of those (3, at it)");
        fine("cells 1;boat b 0;", 2);
        fine("cue a;cells 1;lesson b a;", 3);
        fine("teacher t;cue a;shown 1;keeps 1;nights 1;ice 0 1;cells 1;lesson b a;boat c 0;", 9);
        fault("boat b 0;cells 1;", 9, 3);
        fault("boat b 0;cells 9;", 9, 3);
        fault("cue a;lesson b a;cells 4;", 17, 3);
        fault("cue a;lesson b a;cells", 17, 3);
        fault("cells 1;boat b 0;cells 1;", 17, 3);
        fine("cue a;lesson b a;boat c 0;shown 1;keeps 1;nights 1;ice 0 1;cue d;teacher t;", 9);
    }

    private static void cellsOfLessonsAndBoats() {
        Check.by(4, "a CELL of the lake");
        for (int cells = 1; cells <= 8; cells++) {
            String head = "cells " + cells + ";cue a;";
            LakeLearns x = fine(head + "lesson b a " + (cells - 1) + " 3 0 1;boat c " + (cells - 1) + ";boat d 0;", 5);
            Check.due("STEP 0", x.step(0, 0), 10 * (cells - 1) + 3);
            Check.due("BOAT 0", x.boat(0, 0), cells - 1);
            fault(head + "lesson b a " + cells + " 3;", head.length() + 11, 2);
            fault(head + "lesson b a 0 1 " + cells + " 3;", head.length() + 15, 2);
            fault(head + "boat c " + cells + ";", head.length() + 7, 2);
        }
        fine("boat c 3;", 1);
        fault("boat c 4;", 7, 2);
        fine("cue a;lesson b a 3 1;", 2);
        fault("cue a;lesson b a 4 1;", 17, 2);
        fault("boat c;", 6, 1);
        fault("boat c 0 0;", 9, 1);
    }

    private static void highs() {
        Check.by(4, "CELL HIGH (1 to 3)");
        fault("cue a;lesson b a 0 0;", 19, 2);
        for (int high = 1; high <= 3; high++) {
            Check.due("STEP 0", fine("cue a;lesson b a 2 " + high + ";", 2).step(0, 0), 20 + high);
        }
        fault("cue a;lesson b a 0 4;", 19, 2);
        fault("cue a;lesson b a 0 999;", 19, 2);
        fault("cue a;lesson b a 0;", 18, 1);
        fault("cue a;lesson b a 0 1 0;", 22, 1);
        fault("cue a;lesson b a 9 9;", 17, 2);
    }

    private static void stepsMost() {
        Check.by(4, "STEPS; 8 at most");
        for (int steps = 0; steps <= 8; steps++) {
            LakeLearns x = fine("cue a;lesson b a" + Check.times(" 0 1", steps) + ";", 2);
            Check.due("STEPS", Check.lesson(x, 0, 1), steps);
        }
        Check.by(5, "a 9th STEP (4, at its CELL; ahead of 2 there)");
        String eight = "cue a;lesson b a" + Check.times(" 0 1", 8);
        int ninth = eight.length() + 1;
        fault(eight + " 0 1;", ninth, 4);
        fault(eight + " 3 3;", ninth, 4);
        fault(eight + " 4 1;", ninth, 4);
        fault(eight + " 999 1;", ninth, 4);
        fault(eight + " 0 9;", ninth, 4);
        fault(eight + " 0;", ninth, 4);
        fault(eight + " 0", ninth, 4);
        fault(eight + " 1000 1;", ninth, 1);
        fault(eight + " a;", ninth, 1);
        fault(eight + " (", ninth, 1);
        String seven = "cue a;lesson b a" + Check.times(" 0 1", 7);
        fault(seven + " 4 1;", seven.length() + 1, 2);
        fine("cue a;lesson b a" + Check.times(" 0 1", 8) + ";lesson c a" + Check.times(" 0 1", 8) + ";", 3);
    }

    private static void firstWords() {
        Check.by(5, "one that can't come (1, at it): a LINE begins with a WORD of a LAKE");
        for (int i = 0; i < KEYS.length; i++) {
            if (i >= 9) {
                fault(KEYS[i] + " a;", 0, 1);
                fault("cue a;" + KEYS[i] + " a;", 6, 1);
            } else {
                fault("cue a;" + KEYS[i], 6 + KEYS[i].length(), 1);
            }
        }
        fault("a;", 0, 1);
        fault("cue a;a;", 6, 1);
        fault("cue a;4;", 6, 1);
    }

    private static void keysAreNoNames() {
        Check.by(4, "NAME: a WORD, none of those told here, in a DIARY or a SENTENCE");
        for (String key : KEYS) {
            fault("cue " + key + ";", 4, 1);
            fault("teacher " + key + ";", 8, 1);
            fault("boat " + key + " 0;", 5, 1);
            fault("cue a;lesson " + key + " a;", 13, 1);
            fault("cue a;lesson b " + key + ";", 15, 1);
            fine("cue " + key.substring(1) + "x;", 1);
            if (key.length() < 7) {
                fine("cue " + key + "x;", 1);
                fine("cue x" + key + ";", 1);
            }
        }
    }

    private static String line(String sort, String name) {
        return sort + " " + name + (sort.equals("lesson") ? " first;" : sort.equals("boat") ? " 0;" : ";");
    }

    private static void namesToldOnce() {
        Check.by(5, "a NAME told twice (3, at it)");
        for (String sort : SORTS) {
            for (String again : SORTS) {
                String head = "cue first;" + line(sort, "name");
                fine(head + line(again, "names"), 3);
                fault(head + line(again, "name"), head.length() + again.length() + 1, 3);
                fault(head + again + " name", head.length() + again.length() + 1, 3);
                fault("cue first;" + line(again, "first"), 10 + again.length() + 1, 3);
            }
        }
    }

    private static void namesOfAnotherSort() {
        Check.by(5, "a NAME not told, or of another sort (3, at it)");
        fine("cue a;lesson b a;", 2);
        fault("lesson b a;cue a;", 9, 3);
        fault("cue a;lesson b c;", 15, 3);
        fault("cue a;lesson b b;", 15, 3);
        fault("cue a;lesson b a;lesson c b;", 26, 3);
        fault("cue a;teacher t;lesson b t;", 25, 3);
        fault("cue a;boat t 0;lesson b t;", 24, 3);
        fault("cue a;lesson b old;", 15, 3);
        fault("cue a;lesson b 0;", 15, 1);
        fault("cue a;lesson b;", 14, 1);
    }

    private static String some(int sort, int n) {
        StringBuilder text = new StringBuilder("cue first;".substring(0, sort == 0 ? 0 : 10));
        for (int i = 0; i < n; i++) {
            text.append(line(SORTS[sort], "n" + (char) ('a' + i)));
        }
        return text.toString();
    }

    private static void sortsMost() {
        Check.by(5, "one more than there may be of a sort (4, at the LINE's first WORD)");
        for (int sort = 0; sort < 4; sort++) {
            int ahead = sort == 0 ? 0 : 1;
            String word = SORTS[sort];
            for (int n = 0; n <= MOST[sort]; n++) {
                Check.due(n + " of " + word, fine(some(sort, n), n + ahead).count(3 + sort), n);
            }
            String full = some(sort, MOST[sort]);
            fault(some(sort, MOST[sort] + 1), full.length(), 4);
            fault(full + word, full.length(), 4);
            fault(full + "\n " + word + " na;", full.length() + 2, 4);
            fault(full + word + " cells;", full.length(), 4);
            fault(full + word + "s", full.length(), 1);
            for (String other : SORTS) {
                if (sort != 0 && !other.equals(word)) {
                    fine(full + line(other, "other"), MOST[sort] + ahead + 1);
                }
            }
        }
        fine(some(0, 6) + "teacher t;boat b 0;lesson l nf;", 9);
    }

    /** As much of all as there may be: the numbers go from 0 in each sort. */
    private static void theFullest() {
        Check.by(4, "6 CUES, 8 LESSONS, 4 TEACHERS, 6 BOATS at most, numbered from 0 each");
        StringBuilder text = new StringBuilder("cells 8;shown 9;keeps 99;nights 30;ice 50 50;");
        for (int i = 0; i < 8; i++) {
            text.append(i < 6 ? "cue c" + (char) ('a' + i) + ";" : "");
            text.append(i < 4 ? "teacher t" + (char) ('a' + i) + ";" : "");
            text.append("lesson l").append((char) ('a' + i)).append(" c").append((char) ('a' + Math.min(i, 5)));
            text.append(Check.times(" " + (7 - i) + " " + (1 + i % 3), 8)).append(';');
            text.append(i < 6 ? "boat b" + (char) ('a' + i) + " " + (7 - i) + ";" : "");
        }
        Check.due("bytes", text.length() <= 900, true);
        LakeLearns x = fine(text.toString(), 29);
        for (int l = 0; l < 8; l++) {
            Check.due("CUE of LESSON " + l, Check.lesson(x, l, 0), Math.min(l, 5));
            Check.due("STEP 7 of LESSON " + l, x.step(l, 7), 10 * (7 - l) + 1 + l % 3);
            Check.due("CELL of BOAT " + l, x.boat(l, 0), l < 6 ? 7 - l : -1);
        }
        Check.due("LESSON 8", Check.lesson(x, 8, 0), -99);
        Check.by(4, "how many LINES");
        fine("", 0);
        fine(Check.blanks(20), 0);
        fine("cue a;", 1);
        fault(text + "cue x;", text.length(), 4);
    }

    private static void theEnd() {
        Check.by(5, "the end: how many bytes there are");
        String[] cuts = {"cells", "cells 4", "cells 4;ice", "ice 1", "ice 1 1", "cue", "cue a", "cue a;teacher",
            "teacher t", "lesson", "lesson b", "cue a;lesson b a", "cue a;lesson b a 0", "cue a;lesson b a 0 1", "boat",
            "boat c", "boat c 0"};
        for (String cut : cuts) {
            fault(cut, cut.length(), 1);
            fault(cut + " ", cut.length() + 1, 1);
            fault(cut + "\n \n", cut.length() + 3, 1);
        }
        fault("cel", 0, 1);
        fault("cells 4;c", 8, 1);
    }

    private static void theFirstAndTheLeast() {
        Check.by(5, "FAULTS, the first along the text");
        fault("cells 9;cells 9;?", 6, 2);
        fault("cue a;cue a;cells 9;", 10, 3);
        fault("cue a 9;cue a;", 6, 1);
        fault("ice 100 51;", 4, 2);
        fault("lesson b c 9 9;", 9, 3);
        Check.by(5, "of one TOKEN the least");
        fault("cue a;cue b;cue c;cue d;cue e;cue f;cue1", 36, 1);
        fault("cue a;cue b;cue c;cue d;cue e;cue f;cuex", 36, 1);
        fault("cells 1;cells1;", 8, 1);
        Check.by(5, "0 without one and ahead of any");
        LakeLearns x = new LakeLearns();
        Check.due("ahead of any", x.fault(), 0);
        for (int kind = 1; kind <= 4; kind++) {
            String[] texts = {"?", "cells 0;", "cells 1;cells 1;", "teacher a;teacher b;teacher c;teacher d;teacher e;"};
            Check.lake(x, texts[kind - 1]);
            Check.due("a FAULT", x.fault(), kind);
            Check.lake(x, "cue a;");
            Check.due("without one", x.fault(), 0);
        }
    }
}
