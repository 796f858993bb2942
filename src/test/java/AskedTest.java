/** Promises 26 to 31: apart, lasts, forgets, pupils, ice, still. */
public final class AskedTest {
    public static void main(String[] args) {
        apart();
        lasts();
        forgets();
        pupils();
        ice();
        still();
        Check.close("AskedTest");
    }

    private static void apart() {
        LakeLearns x = Check.lakeOf("shown 1;cue a;cue b;lesson c a;lesson d b;lesson e a;lesson f b;lesson g a;teacher t;");
        int[] due = {2, 4, 13, 24};
        Check.due("apart(-1)", x.apart(-1), due.length);
        for (int k = 0; k < due.length; k++) {
            Check.due("apart(" + k + ")", x.apart(k), due[k]);
        }
        Check.due("apart(4)", x.apart(4), -1);
        Check.due("apart(-2)", x.apart(-2), -1);
        Check.due("apart(most)", x.apart(Integer.MAX_VALUE), -1);
        x.show(0, 0);
        x.days(1);
        Check.due("a known one yet", x.apart(0), 2);
    }

    private static void lasts() {
        LakeLearns x = Check.lakeOf("shown 3;cue a;cue b;lesson c a;lesson d b;lesson e a;lesson f b;lesson g a;teacher t;");
        int[][] due = {{0, 0}, {1, 3}, {2, 3}, {3, 3}, {5, 6}, {15, 6}, {31, 9}, {21, 9}, {32, -1}, {-1, -1},
            {Integer.MIN_VALUE, -1}};
        for (int[] d : due) {
            Check.due("lasts(" + d[0] + ")", x.lasts(d[0]), d[1]);
        }
        x.show(0, 0);
        Check.due("today does not count yet", x.lasts(1), 3);
        x.days(1);
        Check.due("two more", x.lasts(1), 2);
        Check.due("two and six", x.lasts(31), 8);
        x.show(0, 0);
        x.days(1);
        x.show(0, 0);
        x.days(1);
        Check.due("known ones need none", x.lasts(1), 0);
        Check.due("none and six", x.lasts(31), 6);
    }

    private static void forgets() {
        LakeLearns x = Check.lakeOf("shown 1;keeps 99;cue a;lesson b a;lesson c a;teacher t;");
        Check.due("not known", x.forgets(0), -1);
        x.show(0, 0);
        x.days(1);
        Check.due("99", x.forgets(0), 99);
        Check.due("no such one", x.forgets(2), -1);
        Check.due("no such one", x.forgets(-1), -1);
        x.ring(0);
        Check.due("100", x.forgets(0), 100);
        x.days(60);
        x.days(39);
        Check.due("known", x.now(2), 1);
        Check.due("1", x.forgets(0), 1);
        x.days(1);
        Check.due("forgotten", x.now(2), 0);
        LakeLearns y = Check.lakeOf("shown 1;keeps 1;nights 30;cue a;lesson b a;teacher t;");
        y.show(0, 0);
        y.days(1);
        Check.due("practised on DAY 0", y.forgets(0), 1);
        LakeLearns z = Check.lakeOf("shown 1;keeps 1;nights 1;cue a;lesson b a;teacher t;");
        z.show(0, 0);
        z.days(1);
        Check.due("practised each night", z.forgets(0), -1);
    }

    private static void pupils() {
        LakeLearns x = Check.lakeOf("shown 3;keeps 5;cue a;cue b;cue c;lesson d a;lesson e b;lesson f c;teacher s;teacher t;");
        Check.due("none", x.pupils(0), 0);
        x.show(0, 0);
        x.show(0, 1);
        x.show(1, 2);
        Check.due("today does not count", x.pupils(0), 0);
        x.days(1);
        Check.due("pupils(0)", x.pupils(0), 3);
        Check.due("pupils(1)", x.pupils(1), 4);
        x.show(1, 0);
        x.show(0, 1);
        x.days(1);
        Check.due("by both", x.pupils(0), 2);
        Check.due("by both", x.pupils(1), 4);
        x.show(0, 1);
        x.days(1);
        Check.due("a known one", x.pupils(0), 2);
        x.days(5);
        Check.due("a forgotten one", x.pupils(0), 0);
        Check.due("no such one", x.pupils(2), -1);
        Check.due("no such one", x.pupils(-1), -1);
    }

    private static void ice() {
        LakeLearns none = Check.lakeOf("cue a;");
        Check.due("none was told", none.ice(), -1);
        LakeLearns x = Check.lakeOf("ice 10 5;");
        for (int day = 0; day < 130; day++) {
            int till = 0;
            while ((day + till) % 100 < 10 || (day + till) % 100 >= 15) {
                till++;
            }
            Check.due("ice() on DAY " + day, x.ice(), till);
            x.days(1);
        }
        LakeLearns y = Check.lakeOf("ice 0 1;");
        Check.due("there is", y.ice(), 0);
        y.days(1);
        Check.due("99 till then", y.ice(), 99);
        LakeLearns z = Check.lakeOf("ice 99 1;");
        Check.due("99 till then", z.ice(), 99);
        for (int i = 0; i < 10; i++) {
            z.days(60);
            y.days(60);
        }
        Check.due("all are over", z.now(0), 600);
        Check.due("behind the last DAY", z.ice(), 99);
        Check.due("behind the last DAY", y.ice(), 0);
    }

    private static void still() {
        LakeLearns x = Check.lakeOf("cells 2;cue a;cue b;lesson c a 0 1 1 3;lesson d b 0 3 1 1;lesson e a 1 1 0 3;"
            + "lesson f a;lesson g a 0 2 0 2;lesson h b 0 1 1 3;lesson i a 0 1 1 1;");
        Check.due("how many", x.still(-1), 2);
        Check.due("still(0)", x.still(0), 2);
        Check.due("still(1)", x.still(1), 15);
        Check.due("still(2)", x.still(2), -1);
        Check.due("still(-2)", x.still(-2), -1);
        LakeLearns y = Check.lakeOf("cells 1;cue a;lesson b a 0 2;lesson c a 0 2;lesson d a 0 2;lesson e a 0 1 0 1;");
        int[] due = {1, 2, 3, 12, 13, 23};
        Check.due("how many", y.still(-1), due.length);
        for (int k = 0; k < due.length; k++) {
            Check.due("still(" + k + ")", y.still(k), due[k]);
        }
    }
}
