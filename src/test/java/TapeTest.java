/** Promises 1, 2, 3 and 40: a new object, feed, end, count. */
public final class TapeTest {
    public static void main(String[] args) {
        newObject();
        feed();
        end();
        count();
        Check.close("TapeTest");
    }

    private static void newObject() {
        LakeLearns x = new LakeLearns();
        int[] counts = {4, 3, 20, 0, 0, 0, 0, 0};
        for (int what = 0; what < counts.length; what++) {
            Check.due("new: count(" + what + ")", x.count(what), counts[what]);
        }
        int[] nows = {0, 0, 0, 0, 0, 0, 0, 0};
        for (int what = 0; what < nows.length; what++) {
            Check.due("new: now(" + what + ")", x.now(what), nows[what]);
        }
        Check.due("new: fault()", x.fault(), 0);
        Check.due("new: surely()", x.surely(), -1);
        Check.due("new: never()", x.never(), -1);
        Check.due("new: ask()", x.ask(), -1);
        Check.due("new: taught()", x.taught(), -1);
        for (int what = -1; what <= 4; what++) {
            Check.due("new: told(" + what + ")", x.told(what), -1);
        }
        Check.due("new: said(-1)", x.said(-1), -1);
        Check.due("new: undo()", x.undo(), -1);
        Check.due("new: restore(0)", x.restore(0), false);
        Check.due("new: restore(1)", x.restore(1), false);
    }

    private static void feed() {
        LakeLearns x = new LakeLearns();
        for (int i = 1; i <= 47; i++) {
            Check.due("feed " + i, x.feed(0, 0, 0, 0, 0), 20 * i);
        }
        Check.due("feed over 940", x.feed(1, 1, 1, 1, 1), -1);
        Check.due("the tape is as it was", x.count(7), 940);
        x.end(921);
        Check.due("feed from 921", x.feed(0, 0, 0, 0, 0), -1);
        x.end(920);
        Check.due("feed from 920", x.feed(0, 0, 0, 0, 0), 940);
        LakeLearns y = new LakeLearns();
        // 'cue ', 'a;cu', 'e b;', 'cue ', 'd;  ': the highest byte of each comes first
        y.feed(0x63756520, 0x613b6375, 0x6520623b, 0x63756520, 0x643b2020);
        Check.due("bytes in their order", y.lake(), 3);
        LakeLearns z = new LakeLearns();
        z.feed(0x80ff7f00, -1, Integer.MIN_VALUE, Integer.MAX_VALUE, 0);
        Check.due("bytes of all kinds: the first is no token", z.lake(), -1);
    }

    private static void end() {
        LakeLearns x = new LakeLearns();
        Check.due("end(0) of an empty tape", x.end(0), true);
        Check.due("end(1) of an empty tape", x.end(1), false);
        Check.due("end(-1)", x.end(-1), false);
        Check.due("end(least)", x.end(Integer.MIN_VALUE), false);
        Check.due("end(most)", x.end(Integer.MAX_VALUE), false);
        x.feed(0, 0, 0, 0, 0);
        Check.due("end(21) of 20", x.end(21), false);
        Check.due("still 20", x.count(7), 20);
        Check.due("end(20) of 20", x.end(20), true);
        Check.due("end(7) of 20", x.end(7), true);
        Check.due("now 7", x.count(7), 7);
        Check.due("end(8) of 7", x.end(8), false);
        Check.due("feed goes on behind 7", x.feed(0, 0, 0, 0, 0), 27);
        LakeLearns y = new LakeLearns();
        y.feed(0x63756520, 0x613b3f3f, 0, 0, 0);
        y.end(6);
        y.feed(0x63756520, 0x623b2020, 0x20202020, 0x20202020, 0x20202020);
        Check.due("the first bytes stay, others come behind", y.lake(), 2);
    }

    private static void count() {
        LakeLearns x = Check.lakeOf("cells 8;shown 9;keeps 99;cue a;cue b;lesson c a;lesson d a;lesson e b;teacher f;"
            + "boat g 7;boat h 0;boat i 1;boat j 2;");
        int[] counts = {8, 9, 99, 2, 3, 1, 4, 0};
        for (int what = 0; what < counts.length; what++) {
            Check.due("count(" + what + ")", x.count(what), counts[what]);
        }
        x.feed(0, 0, 0, 0, 0);
        Check.due("count(7)", x.count(7), 20);
        Check.due("count(8)", x.count(8), -1);
        Check.due("count(-1)", x.count(-1), -1);
        Check.due("count(least)", x.count(Integer.MIN_VALUE), -1);
    }
}
