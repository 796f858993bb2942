/** Promises 26 to 31 at their edges: apart, lasts, forgets, pupils, ice, still. */
public final class EdgeAskedTest {
    private static final int[] FAR = {-2, -3, Integer.MIN_VALUE, Integer.MAX_VALUE};

    public static void main(String[] args) {
        apartEdges();
        lastsSets();
        lastsDays();
        forgetsEdges();
        forgetsByNights();
        forgetsBehindTheLast();
        pupilsEdges();
        iceEdges();
        iceBehindTheLast();
        stillEdges();
        stillFlat();
        askingChangesNothing();
        Check.close("EdgeAskedTest");
    }

    private static String lessons(int n, String steps) {
        StringBuilder text = new StringBuilder("cells 1;shown 1;cue a;teacher t;");
        for (int l = 0; l < n; l++) {
            text.append("lesson l").append((char) ('a' + l)).append(" a").append(steps).append(';');
        }
        return text.toString();
    }

    private static void apartEdges() {
        Check.by(26, "how many (k NONE), or the k-th: 10 times the lesser and the greater. NONE: none such");
        for (int n = 0; n <= 8; n++) {
            LakeLearns x = Check.lakeOf(lessons(n, ""));
            int pairs = n * (n - 1) / 2;
            Check.due(n + " LESSONS: apart(-1)", x.apart(-1), pairs);
            int k = 0;
            for (int l = 0; l < n; l++) {
                for (int m = l + 1; m < n; m++) {
                    Check.due(n + " LESSONS: apart(" + k + ")", x.apart(k), 10 * l + m);
                    k++;
                }
            }
            Check.due(n + " LESSONS: apart(" + pairs + ")", x.apart(pairs), -1);
            Check.due(n + " LESSONS: apart(" + (pairs + 1) + ")", x.apart(pairs + 1), -1);
            for (int far : FAR) {
                Check.due("apart(" + far + ")", x.apart(far), -1);
            }
        }
        Check.by(26, "APART: pairs of LESSONS of one CUE");
        LakeLearns x = Check.lakeOf("cue a;cue b;cue c;lesson d a;lesson e b;lesson f c;lesson g a;lesson h b;");
        Check.due("apart(-1)", x.apart(-1), 2);
        Check.due("apart(0)", x.apart(0), 3);
        Check.due("apart(1)", x.apart(1), 14);
        Check.due("apart(2)", x.apart(2), -1);
        LakeLearns none = Check.lakeOf("cue a;cue b;lesson c a;lesson d b;");
        Check.due("no pairs: apart(-1)", none.apart(-1), 0);
        Check.due("no pairs: apart(0)", none.apart(0), -1);
    }

    private static void lastsSets() {
        Check.by(27, "of some LESSONS (bits); NONE: no such ones");
        for (int n = 0; n <= 8; n++) {
            LakeLearns x = Check.lakeOf(lessons(n, ""));
            Check.due(n + " LESSONS: lasts(0)", x.lasts(0), 0);
            Check.due(n + " LESSONS: lasts of all", x.lasts((1 << n) - 1), n);
            Check.due(n + " LESSONS: lasts of one more", x.lasts(1 << n), -1);
            for (int far : new int[] {-1, 256, 1 << 30, Integer.MIN_VALUE, Integer.MAX_VALUE}) {
                Check.due("lasts(" + far + ")", x.lasts(far), -1);
            }
        }
    }

    private static void lastsDays() {
        Check.by(27, "LONG: the fewest DAYS in which they can all be shown as often as is yet needed; KNOWN ones need none");
        for (int shown = 1; shown <= 9; shown++) {
            LakeLearns x = Check.lakeOf("keeps 99;shown " + shown + ";cue a;cue b;lesson c a;lesson d a;lesson e b;teacher t;");
            for (int n = 0; n <= shown; n++) {
                int yet = shown - n;
                Check.due(n + " of " + shown + ": lasts(1)", x.lasts(1), yet);
                Check.due(n + " of " + shown + ": lasts(2)", x.lasts(2), shown);
                Check.due(n + " of " + shown + ": lasts(3)", x.lasts(3), yet + shown);
                Check.due(n + " of " + shown + ": lasts(5)", x.lasts(5), shown);
                Check.due(n + " of " + shown + ": lasts(7)", x.lasts(7), yet + shown);
                x.show(0, 0);
                Check.due("today's counts not yet", x.lasts(1), yet);
                x.days(1);
            }
            Check.due("KNOWN", x.now(2), 1);
        }
        Check.by(27, "(without ice)");
        LakeLearns ice = Check.lakeOf("ice 0 50;shown 2;cue a;lesson b a;teacher t;");
        Check.due("lasts(1) on ice", ice.lasts(1), 2);
        Check.till(ice, 99);
        ice.show(0, 0);
        Check.due("lasts(1) ahead of ice", ice.lasts(1), 2);
        LakeLearns lost = Check.lakeOf("keeps 1;shown 2;cue a;lesson b a;teacher t;");
        lost.show(0, 0);
        lost.days(1);
        lost.show(0, 0);
        lost.days(1);
        Check.due("KNOWN", lost.lasts(1), 0);
        lost.days(1);
        Check.due("forgotten", lost.lasts(1), 2);
    }

    private static void forgetsEdges() {
        Check.by(28, "NONE: it is not KNOWN, no such one");
        LakeLearns x = Check.lakeOf("keeps 3;shown 1;cue a;cue b;lesson c a;lesson d b;teacher t;");
        for (int l : new int[] {0, 1, 2, 3, 8, -1, -2, Integer.MIN_VALUE, Integer.MAX_VALUE}) {
            Check.due("forgets(" + l + ")", x.forgets(l), -1);
        }
        x.show(0, 1);
        Check.due("shown today, not KNOWN", x.forgets(1), -1);
        x.days(1);
        Check.due("KNOWN", x.forgets(1), 3);
        Check.due("the other is not", x.forgets(0), -1);
        Check.due("no such one", x.forgets(2), -1);
        Check.by(28, "In how many DAYS a KNOWN LESSON is forgotten, if nothing is done (1: at the end of this one)");
        for (int keeps : new int[] {1, 2, 20, 98, 99}) {
            LakeLearns y = Check.lakeOf("keeps " + keeps + ";shown 1;cue a;lesson b a;teacher t;");
            y.show(0, 0);
            y.days(1);
            for (int left = keeps; left >= 1; left--) {
                Check.due("keeps " + keeps + ": forgets(0)", y.forgets(0), left);
                y.ring(0);
                Check.due("keeps " + keeps + ": done today", y.forgets(0), keeps + 1);
                y.undo();
                Check.due("keeps " + keeps + ": KNOWN", y.now(2), 1);
                y.days(1);
            }
            Check.due("keeps " + keeps + ": forgotten", y.now(2), 0);
            Check.due("keeps " + keeps + ": forgets(0) then", y.forgets(0), -1);
        }
    }

    private static void forgetsByNights() {
        Check.by(28, "NONE: not in 200 (practised ones, ..)");
        for (int nights = 1; nights <= 30; nights++) {
            for (int keeps : new int[] {1, Math.max(1, nights - 1), nights, nights + 1, 99}) {
                LakeLearns x = Check.lakeOf("keeps " + keeps + ";nights " + nights + ";shown 1;cue a;lesson b a;teacher t;");
                Check.till(x, 7);
                x.show(0, 0);
                x.days(1);
                int in = x.forgets(0);
                LakeLearns y = Check.lakeOf("keeps " + keeps + ";nights " + nights + ";shown 1;cue a;lesson b a;teacher t;");
                Check.till(y, 7);
                y.show(0, 0);
                y.days(1);
                int lived = 0;
                while (lived < 200 && y.now(2) == 1) {
                    y.days(1);
                    lived++;
                }
                Check.due("keeps " + keeps + ", nights " + nights + ": as it is lived", in, y.now(2) == 1 ? -1 : lived);
                if (keeps >= nights) {
                    Check.due("keeps " + keeps + ", nights " + nights + ": practised in time", in, -1);
                }
            }
        }
    }

    /** Of forgets, unlike ice, the document doesn't say that it counts behind the last DAY. */
    private static void forgetsBehindTheLast() {
        Check.by(28, "In how many DAYS (0 to 599; 600: all are over)");
        for (int keeps : new int[] {1, 2, 9, 20, 98, 99}) {
            for (int learnt = 598 - keeps; learnt <= Math.min(599, 602 - keeps); learnt++) {
                LakeLearns x = learntOn("keeps " + keeps + ";", learnt);
                String where = "keeps " + keeps + ", learnt on " + learnt + ": ";
                Check.due(where + "forgets(0)", x.forgets(0), learnt + keeps <= 599 ? keeps : -1);
                Check.due(where + "as it is lived", x.forgets(0), lived(learntOn("keeps " + keeps + ";", learnt)));
                Check.till(x, Math.max(599, x.now(0)));
                Check.due(where + "then", x.forgets(0), learnt + keeps == 599 ? 1 : -1);
                x.ring(0);
                Check.due(where + "done then", x.forgets(0), -1);
                Check.till(x, 600);
                Check.due(where + "on 600", x.forgets(0), -1);
            }
        }
        forgetsOn600();
        forgetsByLastNights();
    }

    private static LakeLearns learntOn(String settings, int day) {
        LakeLearns x = Check.lakeOf(settings + "shown 1;cue a;lesson b a;teacher t;");
        Check.till(x, day);
        x.show(0, 0);
        x.days(1);
        return x;
    }

    /** In how many DAYS it is forgotten as they go by one by one; NONE if all are over, or 200 went by. */
    private static int lived(LakeLearns x) {
        for (int day = 1; day <= 200 && x.days(1) == 1; day++) {
            if (x.now(2) == 0) {
                return day;
            }
        }
        return -1;
    }

    private static void forgetsOn600() {
        LakeLearns x = learntOn("keeps 1;", 599);
        Check.due("learnt on the last DAY", x.now(2), 1);
        Check.due("on 600, no DAY ends any more", x.forgets(0), -1);
        x.ring(0);
        Check.due("done on 600", x.forgets(0), -1);
        LakeLearns y = learntOn("keeps 9;", 590);
        Check.till(y, 598);
        Check.due("on 598", y.forgets(0), 2);
        y.days(1);
        Check.due("on 599", y.forgets(0), 1);
        y.days(1);
        Check.due("forgotten at the end of the last DAY", y.now(2), 0);
        Check.due("on 600", y.forgets(0), -1);
        y.undo();
        Check.due("undone: on 599", y.forgets(0), 1);
        y.ring(0);
        Check.due("done on 599", y.forgets(0), -1);
    }

    private static void forgetsByLastNights() {
        for (int nights : new int[] {2, 7, 29, 30}) {
            for (int keeps : new int[] {1, nights / 2, nights - 1}) {
                for (int learnt = 560; learnt <= 599; learnt++) {
                    String settings = "keeps " + keeps + ";nights " + nights + ";";
                    Check.due(settings + " learnt on " + learnt, learntOn(settings, learnt).forgets(0),
                        lived(learntOn(settings, learnt)));
                }
            }
        }
    }

    private static void pupilsEdges() {
        Check.by(29, "NONE: no such one");
        LakeLearns x = Check.lakeOf("shown 9;cue a;cue b;lesson c a;lesson d b;teacher e;teacher f;teacher g;teacher h;");
        for (int t : new int[] {4, 5, -1, Integer.MIN_VALUE, Integer.MAX_VALUE}) {
            Check.due("pupils(" + t + ")", x.pupils(t), -1);
        }
        Check.due("no TEACHERS: pupils(0)", new LakeLearns().pupils(0), -1);
        Check.by(29, "all showings that count are by one TEACHER alone, and there is one at least, as bits");
        for (int t = 0; t < 4; t++) {
            Check.due("none yet: pupils(" + t + ")", x.pupils(t), 0);
        }
        x.show(3, 0);
        Check.due("it does not count yet", x.pupils(3), 0);
        x.days(1);
        Check.due("one showing", x.pupils(3), 1);
        x.show(3, 0);
        x.show(0, 1);
        x.days(1);
        Check.due("two by one", x.pupils(3), 1);
        Check.due("another's", x.pupils(0), 2);
        x.show(0, 0);
        Check.due("another shows it today", x.pupils(3), 1);
        x.days(1);
        Check.due("by two", x.pupils(3), 0);
        Check.due("nor the other's", x.pupils(0), 2);
        LakeLearns y = Check.lakeOf("shown 1;keeps 2;cue a;lesson b a;lesson c a;teacher t;");
        y.show(0, 0);
        y.show(0, 1);
        y.days(1);
        Check.due("CONFUSED ones do not count", y.pupils(0), 0);
        y.show(0, 0);
        y.days(2);
        Check.due("it is KNOWN", y.now(2), 1);
        Check.due("KNOWN, on the last DAY", y.pupils(0), 1);
        y.days(1);
        Check.due("forgotten", y.pupils(0), 0);
        LakeLearns ice = Check.lakeOf("shown 2;ice 1 1;cue a;lesson b a;teacher t;");
        ice.show(0, 0);
        ice.days(1);
        Check.due("never shown, by ice", ice.pupils(0), 0);
    }

    private static void iceEdges() {
        Check.by(30, "DAYS till there is ice (0: there is); NONE: none was told");
        Check.due("of an empty LAKE", new LakeLearns().ice(), -1);
        Check.due("without 'ice'", Check.lakeOf("cells 1;shown 1;keeps 1;nights 1;").ice(), -1);
        int[][] ices = {{0, 1}, {0, 50}, {1, 1}, {50, 50}, {98, 2}, {99, 1}};
        for (int[] ice : ices) {
            LakeLearns x = Check.lakeOf("ice " + ice[0] + " " + ice[1] + ";");
            for (int day = 0; day < 600; day++) {
                int till = 0;
                while ((day + till) % 100 < ice[0] || (day + till) % 100 >= ice[0] + ice[1]) {
                    till++;
                }
                Check.due("ice " + ice[0] + " " + ice[1] + ", DAY " + day, x.ice(), till);
                Check.due("0: there is", x.ice() == 0, x.now(1) == 1);
                x.days(1);
            }
        }
    }

    private static void iceBehindTheLast() {
        Check.by(30, "also behind the last DAY");
        int[][] ices = {{0, 1, 1, 0}, {0, 50, 1, 0}, {10, 5, 11, 10}, {98, 1, 99, 98}, {99, 1, 0, 99}, {50, 50, 0, 50}};
        for (int[] ice : ices) {
            LakeLearns x = Check.lakeOf("ice " + ice[0] + " " + ice[1] + ";");
            Check.till(x, 599);
            Check.due("ice " + ice[0] + " " + ice[1] + ", DAY 599", x.ice(), ice[2]);
            x.days(1);
            Check.due("ice " + ice[0] + " " + ice[1] + ", DAY 600", x.ice(), ice[3]);
        }
    }

    private static void stillEdges() {
        Check.by(31, "how many pairs (k NONE), or the k-th, as APART. NONE: none such");
        for (int n = 0; n <= 8; n++) {
            LakeLearns x = Check.lakeOf(lessons(n, " 0 2"));
            int pairs = n * (n - 1) / 2;
            Check.due(n + " LESSONS: still(-1)", x.still(-1), pairs);
            int k = 0;
            for (int l = 0; l < n; l++) {
                for (int m = l + 1; m < n; m++) {
                    Check.due(n + " LESSONS: still(" + k + ")", x.still(k), 10 * l + m);
                    k++;
                }
            }
            Check.due(n + " LESSONS: still(" + pairs + ")", x.still(pairs), -1);
            for (int far : FAR) {
                Check.due("still(" + far + ")", x.still(far), -1);
            }
        }
    }

    private static void stillPair(String first, String second, int due) {
        LakeLearns x = Check.lakeOf("cells 8;cue a;cue b;lesson c a" + first + ";lesson d a" + second + ";lesson e b" + second + ";");
        Check.due(first + " and " + second, x.still(-1), due);
        Check.due(first + " and " + second + ": still(0)", x.still(0), due == 1 ? 1 : -1);
        Check.due(first + " and " + second + ": still(1)", x.still(1), -1);
    }

    private static void stillFlat() {
        Check.by(31, "KNOWN both, leave the lake flat (all HEIGHTS 0), but neither does alone");
        for (int first = 1; first <= 3; first++) {
            for (int second = 1; second <= 3; second++) {
                stillPair(" 7 " + first, " 7 " + second, first + second == 4 ? 1 : 0);
                stillPair(" 0 " + first, " 7 " + second, 0);
            }
        }
        for (int high = 1; high <= 3; high++) {
            stillPair(" 0 " + high, " 0 " + (4 - high), 1);
            stillPair(" 3 " + high + " 0 1", " 3 " + (4 - high) + " 0 3", 1);
        }
        stillPair("", "", 0);
        stillPair("", " 0 2", 0);
        stillPair(" 0 2 0 2", " 0 2 0 2", 0);
        stillPair(" 0 2 0 2", "", 0);
        stillPair(" 0 2 0 2", " 0 2", 0);
        stillPair(" 0 1 0 1", " 0 2", 1);
        stillPair(" 0 1 7 3", " 7 1 0 3", 1);
        stillPair(" 0 1 7 3", " 7 1 0 2", 0);
        stillPair(" 0 1 7 3", " 0 3", 0);
    }

    private static void askingChangesNothing() {
        LakeLearns x = Check.lakeOf("cells 1;shown 1;keeps 9;ice 30 5;cue a;lesson b a 0 2;lesson c a 0 2;teacher t;boat d 0;");
        x.show(0, 0);
        x.days(1);
        x.ring(0);
        Check.by(26, "APART is asked for alone");
        Check.refused(x, "apart(0)", 1, () -> x.apart(0));
        Check.by(27, "LONG is asked for alone");
        Check.refused(x, "lasts(3)", 1, () -> x.lasts(3));
        Check.by(28, "if nothing is done");
        Check.refused(x, "forgets(0)", 10, () -> x.forgets(0));
        Check.by(29, "pupils are asked for alone");
        Check.refused(x, "pupils(0)", 1, () -> x.pupils(0));
        Check.by(30, "ice is asked for alone");
        Check.refused(x, "ice()", 29, () -> x.ice());
        Check.by(31, "two LESSONS that are KNOWN or not");
        Check.refused(x, "still(0)", 1, () -> x.still(0));
        Check.due("the RING is yet the latest act", x.undo(), 2);
    }
}
