/** Promises 1, 2, 3 and 40 at their edges: what a new object has, the tape empty and full, what there is to count. */
public final class EdgeTapeTest {
    public static void main(String[] args) {
        newObject();
        feedFull();
        feedBytes();
        endEdges();
        emptyThen();
        countEdges();
        Check.close("EdgeTapeTest");
    }

    private static void newObject() {
        LakeLearns x = new LakeLearns();
        Check.by(1, "An empty LAKE");
        int[] counts = {4, 3, 20, 0, 0, 0, 0};
        for (int what = 0; what < counts.length; what++) {
            Check.due("count(" + what + ")", x.count(what), counts[what]);
        }
        for (int what = 0; what < 8; what++) {
            Check.due("now(" + what + ")", x.now(what), 0);
            Check.due("lesson(0, " + what + ")", Check.lesson(x, 0, what), -99);
            Check.due("boat(0, " + what + ")", x.boat(0, what), -1);
            Check.due("height(" + what + ")", x.height(what), what < 4 ? 0 : -1);
        }
        Check.due("step(0, 0)", x.step(0, 0), -1);
        Check.due("show(0, 0)", x.show(0, 0), -1);
        Check.due("ring(0)", x.ring(0), -1);
        Check.due("sail(0, 0)", x.sail(0, 0), -1);
        Check.due("pupils(0)", x.pupils(0), -1);
        Check.due("forgets(0)", x.forgets(0), -1);
        Check.due("ice()", x.ice(), -1);
        Check.due("does(0, 0)", x.does(0, 0), -1);
        Check.due("lasts(0)", x.lasts(0), 0);
        Check.due("lasts(1)", x.lasts(1), -1);
        Check.due("days(1)", x.days(1), 1);
        LakeLearns y = new LakeLearns();
        Check.by(1, "an empty tape");
        Check.due("count(7)", y.count(7), 0);
        Check.due("end(1)", y.end(1), false);
        Check.due("the first feed()", y.feed(0, 0, 0, 0, 0), 20);
    }

    private static void feedFull() {
        Check.by(2, "NONE, and none come, if it would have more than 940");
        for (int start = 918; start <= 922; start++) {
            LakeLearns x = new LakeLearns();
            for (int i = 0; i < 47; i++) {
                x.feed(0, 0, 0, 0, 0);
            }
            x.end(start);
            Check.due("feed() behind " + start, x.feed(1, 1, 1, 1, 1), start <= 920 ? start + 20 : -1);
            Check.due("how many it has then", x.count(7), start <= 920 ? start + 20 : start);
        }
        LakeLearns full = new LakeLearns();
        for (int i = 1; i <= 47; i++) {
            Check.due("feed() " + i, full.feed(0x20202020, 0x20202020, 0x20202020, 0x20202020, 0x20202020), 20 * i);
        }
        for (int i = 0; i < 3; i++) {
            Check.refused(full, "feed() behind 940", -1, () -> full.feed(-1, -1, -1, -1, -1));
        }
        full.end(900);
        Check.due("none of its bytes came: 900 blanks are a LAKE", full.lake(), 0);
    }

    /** A byte is looked at as the CUE of learnt(): 0 to 5 are told of, 6 to 255 are not. */
    private static void feedBytes() {
        Check.by(2, "Twenty bytes come behind the tape, of each number the highest first");
        LakeLearns x = Check.lakeOf("cells 8;cue a;lesson b a 0 1 1 2 2 3 3 1 4 2 5 3 6 1 7 2;");
        x.feed(0x00010203, 0x01020301, 0x02ffffff, -1, -1);
        x.end(9);
        Check.due("1 2 3 1 2 3 1 2", x.learnt(), 1);
        Check.due("they were the LESSON's HEIGHTS", x.surely(), 1);
        Check.tape(x, "12345678901");
        x.feed(0x3b3b3b3b, 0x3b3b3b3b, 0x3b3b3b3b, 0x3b3b3b3b, 0x3b3b3b3b);
        Check.due("behind 11 bytes", x.count(7), 31);
        x.end(0);
        x.feed(0x63756520, 0x643b6375, 0x6520653b, 0x63756520, 0x663b6375);
        x.feed(0x6520673b, 0x20202020, 0x20202020, 0x20202020, 0x2020203f);
        Check.due("the twentieth byte of the second is the fortieth", x.lake(), -40);
        x.feed(0x80000000, 0, 0, 0, 0);
        x.end(9);
        Check.due("the sign's bit is in the first byte: CUE 128", x.learnt(), -1);
        x.feed(0x00000080, 0, 0, 0, 0);
        x.end(9);
        Check.due("HEIGHT 128", x.learnt(), -1);
        x.feed(0, 0, Integer.MIN_VALUE, 0, 0);
        x.end(9);
        Check.due("HEIGHT 128 in CELL 7", x.learnt(), -1);
        x.feed(0, 0, 0, 0, 0);
        x.end(9);
        Check.due("all 0: the set without the LESSON", x.learnt(), 1);
        Check.due("it is in none", x.never(), 1);
    }

    private static void endEdges() {
        LakeLearns x = new LakeLearns();
        Check.by(3, "false, if it has not so many, or n is below 0");
        Check.due("end(0) of 0", x.end(0), true);
        for (int n : new int[] {1, -1, Integer.MAX_VALUE, Integer.MIN_VALUE}) {
            Check.refused(x, "end(" + n + ") of 0", 0, () -> x.end(n) ? 1 : 0);
        }
        x.feed(0x6365_6c6c, 0x7320_353b, 0x3f3f_3f3f, 0, 0);
        for (int n : new int[] {21, -1, Integer.MAX_VALUE, Integer.MIN_VALUE}) {
            Check.refused(x, "end(" + n + ") of 20", 0, () -> x.end(n) ? 1 : 0);
        }
        Check.by(3, "The tape has its first n bytes alone: true");
        Check.due("end(20) of 20", x.end(20), true);
        Check.due("20 bytes", x.count(7), 20);
        Check.due("end(19) of 20", x.end(19), true);
        Check.due("19 bytes", x.count(7), 19);
        Check.due("end(20) of 19", x.end(20), false);
        Check.due("end(8) of 19", x.end(8), true);
        Check.due("the first 8 are a LAKE", x.lake(), 1);
        Check.due("of 5 CELLS", x.count(0), 5);
        Check.due("end(1) of an empty one again", x.end(1), false);
        for (int i = 0; i < 47; i++) {
            x.feed(0x20202020, 0x20202020, 0x20202020, 0x20202020, 0x20202020);
        }
        Check.due("end(941) of 940", x.end(941), false);
        Check.due("end(940) of 940", x.end(940), true);
        Check.due("940 bytes", x.count(7), 940);
        Check.due("end(939) of 940", x.end(939), true);
        Check.due("939 bytes", x.count(7), 939);
        Check.due("end(0) of 939", x.end(0), true);
        Check.due("0 bytes", x.count(7), 0);
        Check.due("end(1) of 0", x.end(1), false);
    }

    /** Each call that takes the tape leaves it empty, whether it was as told or not. */
    private static void emptyThen() {
        String lake = "cells 1;cue a;lesson b a 0 1;";
        for (int fine = 0; fine < 2; fine++) {
            LakeLearns x = Check.lakeOf(lake);
            Check.by(4, "The tape (empty then, here and below)");
            Check.lake(x, fine == 1 ? lake : "?");
            Check.due("behind lake() " + fine, x.count(7), 0);
            Check.by(34, "The tape is a DIARY, empty then");
            for (int lives = 0; lives < 2; lives++) {
                Check.diary(x, lives, fine == 1 ? "day 1;" : "?");
                Check.due("behind diary(" + lives + ") " + fine, x.count(7), 0);
            }
            Check.by(36, "The tape is the SENTENCE now, empty then");
            Check.sentence(x, fine == 1 ? "known" : "?");
            Check.due("behind sentence() " + fine, x.count(7), 0);
            Check.by(20, "LEARNT by the tape, empty then");
            Check.tape(x, fine == 1 ? new int[] {0, 1} : new int[] {1});
            Check.due("learnt() " + fine, x.learnt(), fine == 1 ? 1 : -1);
            Check.due("behind learnt() " + fine, x.count(7), 0);
            Check.by(24, "TEACH by the tape, empty then");
            Check.tape(x, fine == 1 ? new int[] {1} : new int[] {1, 1});
            Check.due("teach(0) " + fine, x.teach(0), fine == 1 ? 3 : -1);
            Check.due("behind teach(0) " + fine, x.count(7), 0);
        }
        LakeLearns y = Check.lakeOf(lake);
        Check.by(34, "-1000: another lives (the tape stays)");
        Check.tape(y, "day 1;");
        Check.due("diary(2)", y.diary(2), -1000);
        Check.due("behind diary(2)", y.count(7), 6);
        Check.due("it is yet a DIARY", y.diary(1), -1);
        Check.due("which was lived", y.now(0), 1);
    }

    private static void countEdges() {
        Check.by(40, "0 CELLS, 1 'shown', 2 KEEPS, 3 CUES, 4 LESSONS, 5 TEACHERS, 6 BOATS, 7 bytes of the tape");
        LakeLearns most = Check.lakeOf("cells 8;shown 9;keeps 99;cue a;cue b;cue c;cue d;cue e;cue f;teacher g;teacher h;"
            + "teacher i;teacher j;lesson k a;lesson l a;lesson m a;lesson n a;lesson o a;lesson p a;lesson q a;lesson r a;"
            + "boat s 0;boat t 0;boat u 0;boat v 0;boat w 0;boat x 0;");
        int[] full = {8, 9, 99, 6, 8, 4, 6, 0};
        LakeLearns least = Check.lakeOf("cells 1;shown 1;keeps 1;cue a;lesson b a;teacher c;boat d 0;");
        int[] few = {1, 1, 1, 1, 1, 1, 1, 0};
        for (int what = 0; what < 8; what++) {
            Check.due("the most: count(" + what + ")", most.count(what), full[what]);
            Check.due("the least: count(" + what + ")", least.count(what), few[what]);
        }
        Check.by(40, "NONE for another what");
        for (int what : new int[] {-1, 8, 9, Integer.MIN_VALUE, Integer.MAX_VALUE}) {
            Check.due("count(" + what + ")", most.count(what), -1);
        }
    }
}
