import java.util.NoSuchElementException;

/** A lake of cells that copies what it is shown often enough; README.md says how to use it. */
public final class LakeLearns {
    public static final int NONE = -1;

    private static final int TAPE_MOST = 940;
    private static final int LAKE_MOST = 900;
    private static final int DIARY_MOST = 400;
    private static final int SENTENCE_MOST = 200;
    private static final int OTHER_LIVES = -1000;

    private static final int ALL_OVER = 600;
    private static final int YEAR = 100;
    private static final int DAYS_MOST = 60;
    private static final int ODDS_DAYS = 30;
    private static final int ODDS_MOST = 30;
    private static final int FORGETS_MOST = 200;

    /** The sorts of NAMES, in the order of their WORDS among the keys. */
    private static final int CUE = 0;
    private static final int LESSON = 1;
    private static final int TEACHER = 2;
    private static final int BOAT = 3;
    private static final int[] MOST_OF_SORT = {6, 8, 4, 6};
    private static final int CUES_MOST = 6;
    private static final int LESSONS_MOST = 8;
    private static final int BOATS_MOST = 6;
    private static final int NAMES_MOST = 24;
    private static final int STEPS_MOST = 8;
    private static final int CELLS_MOST = 8;
    private static final int SETS_MOST = 256;
    private static final int HIGHEST_WAVE = 3;

    private static final int LINES_MOST = 40;
    private static final int ONES_MOST = 20;
    private static final int WITHIN_MOST = 8;
    private static final int PARTS_MOST = 40;

    private static final int CANT_COME = 1;
    private static final int BAD_NUMBER = 2;
    private static final int BAD_NAME = 3;
    private static final int TOO_MANY = 4;

    private static final int WHY_RING = 10;
    private static final int WHY_SAIL = 20;
    private static final int WHY_NO_CELL = 29;
    private static final int WHY_NO_DAYS = 31;

    /** Kinds of TOKENS. */
    private static final int END = 0;
    private static final int BAD = 1;
    private static final int KEY = 2;
    private static final int NAME = 3;
    private static final int NUMBER = 4;
    private static final int SIGN = 5;

    /** All WORDS that are no NAMES, in the order of the key numbers below. */
    private static final String KEY_WORDS =
        "cells shown keeps nights ice cue lesson teacher boat shows rings sails day or and not known today at by times steps done number ";
    private static final int KEYS = 24;
    private static final int WORD_MOST = 7;
    private static final int DIGITS_MOST = 3;
    private static final int NUMBER_MOST = 999;

    private static final int KEY_CELLS = 0;
    private static final int KEY_SHOWN = 1;
    private static final int KEY_KEEPS = 2;
    private static final int KEY_NIGHTS = 3;
    private static final int KEY_ICE = 4;
    private static final int KEY_CUE = 5;
    private static final int KEY_SHOWS = 9;
    private static final int KEY_RINGS = 10;
    private static final int KEY_SAILS = 11;
    private static final int KEY_DAY = 12;
    private static final int KEY_OR = 13;
    private static final int KEY_AND = 14;
    private static final int KEY_NOT = 15;
    private static final int KEY_KNOWN = 16;
    private static final int KEY_TODAY = 17;
    private static final int KEY_AT = 18;
    private static final int KEY_BY = 19;
    private static final int KEY_TIMES = 20;
    private static final int KEY_STEPS = 21;
    private static final int KEY_DONE = 22;
    private static final int KEY_NUMBER = 23;

    /** What the settings cells, shown, keeps, nights, ice (FROM) may be, and are without a LINE. */
    private static final int[] SETTING_LEAST = {1, 1, 1, 1, 0};
    private static final int[] SETTING_MOST = {8, 9, 99, 30, 99};
    private static final int[] SETTING_WITHOUT = {4, 3, 20, 0, 0};
    private static final int ICE_LONGEST = 50;

    private final byte[] tape = new byte[TAPE_MOST];
    private int bytes = 0;
    private final Reader reader = new Reader(tape);
    private final LakeReader lakeReader = new LakeReader(reader);
    private final SentenceReader sentenceReader = new SentenceReader(reader);
    private final Lake lake = new Lake();
    private final Life life = new Life();
    private final Life trial = new Life();
    private final Past past = new Past();
    private final Sentence spoken = new Sentence();
    private final Image[] images = {new Image(), new Image()};
    private final Diary diary = new Diary();
    private final Guess guess = new Guess();
    private final Draw draw = new Draw();
    private final int[] toldLast = {NONE, NONE, NONE, NONE};
    private int faultLast = 0;
    private int taughtLast = NONE;

    public LakeLearns() {
    }

    public int feed(int a, int b, int c, int d, int e) {
        if (bytes + 20 > TAPE_MOST) {
            return NONE;
        }
        append(a);
        append(b);
        append(c);
        append(d);
        append(e);
        return bytes;
    }

    private void append(int number) {
        for (int shift = 24; shift >= 0 && bytes < TAPE_MOST; shift -= 8) {
            tape[bytes] = (byte) (number >>> shift);
            bytes++;
        }
    }

    public boolean end(int n) {
        if (n < 0 || n > bytes) {
            return false;
        }
        bytes = n;
        return true;
    }

    public int lake() {
        openTape(LAKE_MOST);
        int lines = lakeReader.readLines();
        faultLast = reader.fault;
        if (lines == NONE) {
            return -1 - reader.place;
        }
        lake.copyFrom(lakeReader.draft);
        life.begin(lake);
        spoken.forget();
        past.forget();
        return lines;
    }

    /** The bytes stay in the row behind the tape's end, so the reader can go on when the tape is empty. */
    private void openTape(int most) {
        reader.open(bytes, most);
        bytes = 0;
    }

    public int fault() {
        return faultLast;
    }

    public int lesson(int l, int what) throws NoSuchElementException {
        if (!lake.has(LESSON, l) || what < 0 || what > 7) {
            throw new NoSuchElementException("no such lesson, or nothing of that number is told of it");
        }
        switch (what) {
            case 0: return lake.cueOf[l];
            case 1: return lake.steps[l];
            case 2: return life.times[l];
            case 3: return life.known >> l & 1;
            case 4: return life.by[l];
            case 5: return life.done[l];
            case 6: return life.shower[l];
            default: return life.forgotten[l];
        }
    }

    public int step(int l, int i) {
        if (!lake.has(LESSON, l) || i < 0 || i >= lake.steps[l]) {
            return NONE;
        }
        return lake.stepTold[l * STEPS_MOST + i];
    }

    public int boat(int b, int what) {
        if (!lake.has(BOAT, b)) {
            return NONE;
        }
        switch (what) {
            case 0: return life.berth[b];
            case 1: return life.wet >> b & 1;
            case 2: return life.soaked[b];
            case 3: return life.voyages[b];
            default: return NONE;
        }
    }

    public int height(int c) {
        return lake.hasCell(c) ? life.heightAt(c) : NONE;
    }

    public int now(int what) {
        switch (what) {
            case 0: return life.day;
            case 1: return lake.isIce(life.day) ? 1 : 0;
            case 2: return life.known;
            case 3: return life.today;
            case 4: return life.confused(lake);
            case 5: return life.rings;
            case 6: return life.wet;
            case 7: return life.showings;
            default: return NONE;
        }
    }

    public int show(int t, int l) {
        if (!lake.has(TEACHER, t) || !lake.has(LESSON, l)) {
            return NONE;
        }
        int why = life.whyNotShown(lake, l);
        if (why == 0) {
            past.keep(life);
            life.beShown(t, l);
        }
        return why;
    }

    public int ring(int c) {
        if (!lake.has(CUE, c)) {
            return NONE;
        }
        int why = life.whyNotRung(lake);
        if (why == 0) {
            past.keep(life);
            life.hear(lake, c);
        }
        return why;
    }

    public int sail(int b, int c) {
        if (!lake.has(BOAT, b) || !lake.hasCell(c)) {
            return NONE;
        }
        int why = life.whyNotSailed(lake, b, c);
        if (why == 0) {
            past.keep(life);
            life.moveBoat(b, c);
        }
        return why;
    }

    public int days(int n) {
        if (n < 1 || n > DAYS_MOST) {
            return NONE;
        }
        int went = Math.min(n, life.daysLeft());
        if (went > 0) {
            past.keep(life);
            life.passDays(lake, went);
        }
        return went;
    }

    public int undo() {
        return past.takeBack(life);
    }

    public int does(int c, int set) {
        if (!lake.has(CUE, c) || !lake.hasLessons(set)) {
            return NONE;
        }
        return lake.heightsBehind(c, set);
    }

    public int waves(int c, int set) {
        if (!lake.has(CUE, c) || !lake.hasLessons(set)) {
            return NONE;
        }
        return lake.wavesAt(c, set);
    }

    public int dry(int cell) {
        if (!lake.hasCell(cell)) {
            return NONE;
        }
        int cues = 0;
        for (int c = 0; c < lake.counts[CUE]; c++) {
            if ((lake.wavesAt(c, life.known) >> cell & 1) == 0) {
                cues |= 1 << c;
            }
        }
        return cues;
    }

    public int havens(int cues) {
        if (cues < 0 || cues >= 1 << lake.counts[CUE]) {
            return NONE;
        }
        int cells = (1 << lake.setting[KEY_CELLS]) - 1;
        for (int c = 0; c < lake.counts[CUE]; c++) {
            if ((cues >> c & 1) == 1) {
                cells &= ~lake.wavesAt(c, life.known);
            }
        }
        return cells;
    }

    public int learnt() {
        int length = bytes;
        bytes = 0;
        return guess.judge(lake, tape, length);
    }

    public int surely() {
        return guess.inEach;
    }

    public int never() {
        return guess.inNone;
    }

    public int ask() {
        return guess.bestCue;
    }

    public int teach(int c) {
        int length = bytes;
        bytes = 0;
        if (!lake.has(CUE, c) || length != lake.setting[KEY_CELLS] || !lake.areHeights(tape, 0)) {
            return NONE;
        }
        int besides = cheapest(c, lake.packHeights(tape, 0));
        if (besides == NONE) {
            return NONE;
        }
        taughtLast = besides;
        return life.needed(lake, besides);
    }

    /** Sets go upwards and only a cheaper one is taken, so of like ones the least stays. */
    private int cheapest(int c, int wanted) {
        int free = lake.ofCue[c] & ~life.known;
        int best = NONE;
        for (int set = 0; set <= free; set++) {
            boolean fits = (set & ~free) == 0 && lake.heightsBehind(c, life.known | set) == wanted;
            if (fits && (best == NONE || life.needed(lake, set) < life.needed(lake, best))) {
                best = set;
            }
        }
        return best;
    }

    public int taught() {
        return taughtLast;
    }

    public int apart(int k) {
        return pairs(k, false);
    }

    public int still(int k) {
        return pairs(k, true);
    }

    private int pairs(int k, boolean flatOnly) {
        int found = 0;
        int lessons = lake.counts[LESSON];
        for (int l = 0; l < lessons; l++) {
            for (int m = l + 1; m < lessons; m++) {
                if (lake.cueOf[l] == lake.cueOf[m] && (!flatOnly || lake.areStill(l, m))) {
                    if (found == k) {
                        return 10 * l + m;
                    }
                    found++;
                }
            }
        }
        return k == NONE ? found : NONE;
    }

    public int lasts(int set) {
        if (!lake.hasLessons(set)) {
            return NONE;
        }
        int longest = 0;
        for (int c = 0; c < lake.counts[CUE]; c++) {
            longest = Math.max(longest, life.needed(lake, set & lake.ofCue[c]));
        }
        return longest;
    }

    public int forgets(int l) {
        if (!lake.has(LESSON, l) || (life.known >> l & 1) == 0) {
            return NONE;
        }
        int kept = life.kept[l];
        int over = Math.min(ALL_OVER, life.day + FORGETS_MOST);
        for (int d = life.day; d < over; d++) {
            if (lake.practisesOn(d)) {
                kept = d;
            }
            if (d - kept >= lake.setting[KEY_KEEPS]) {
                return d - life.day + 1;
            }
        }
        return NONE;
    }

    public int pupils(int t) {
        if (!lake.has(TEACHER, t)) {
            return NONE;
        }
        int set = 0;
        for (int l = 0; l < lake.counts[LESSON]; l++) {
            if (life.by[l] == 1 << t) {
                set |= 1 << l;
            }
        }
        return set;
    }

    public int ice() {
        return lake.iceLong == 0 ? NONE : lake.daysTillIce(life.day);
    }

    public int drawn(int n, int seed) {
        if (n < 1 || n > DAYS_MOST || lake.counts[LESSON] == 0) {
            return NONE;
        }
        int went = Math.min(n, life.daysLeft());
        if (went > 0) {
            past.keep(life);
            draw.liveDrawn(lake, life, went, seed);
        }
        return went;
    }

    public int odds(int l, int n, int seed) {
        if (!lake.has(LESSON, l) || n < 1 || n > ODDS_MOST) {
            return NONE;
        }
        int went = Math.min(ODDS_DAYS, life.daysLeft());
        int known = 0;
        for (int i = 0; i < n; i++) {
            trial.copyFrom(life);
            draw.liveDrawn(lake, trial, went, seed + i);
            known += trial.known >> l & 1;
        }
        return known;
    }

    public int diary(int lives) {
        if (lives != 0 && lives != 1) {
            return OTHER_LIVES;
        }
        openTape(DIARY_MOST);
        boolean read = diary.readLines(reader, lake);
        faultLast = reader.fault;
        if (!read) {
            return -2 - reader.place;
        }
        trial.copyFrom(life);
        int wrong = diary.liveLines(lake, trial, toldLast);
        // A DIARY of which no LINE was lived is no act: it must not push another one out of the past.
        if (lives == 1 && toldLast[1] > 0) {
            past.keep(life);
            life.copyFrom(trial);
        }
        return wrong;
    }

    public int told(int what) {
        return what < 0 || what >= toldLast.length ? NONE : toldLast[what];
    }

    public int sentence() {
        openTape(SENTENCE_MOST);
        boolean read = sentenceReader.readWhole(lake);
        faultLast = reader.fault;
        if (!read) {
            return -1 - reader.place;
        }
        spoken.copyFrom(sentenceReader.draft);
        return spoken.ones;
    }

    public int said(int k) {
        if (spoken.ones == 0) {
            return NONE;
        }
        int set = spoken.saidOf(lake, life);
        int found = 0;
        for (int l = 0; l < lake.counts[LESSON]; l++) {
            if ((set >> l & 1) == 1) {
                if (found == k) {
                    return l;
                }
                found++;
            }
        }
        return k == NONE ? found : NONE;
    }

    public boolean image(int k) {
        if (k < 0 || k >= images.length) {
            return false;
        }
        Image image = images[k];
        image.lake.copyFrom(lake);
        image.life.copyFrom(life);
        image.spoken.copyFrom(spoken);
        image.kept = true;
        return true;
    }

    public boolean restore(int k) {
        if (k < 0 || k >= images.length || !images[k].kept) {
            return false;
        }
        Image image = images[k];
        lake.copyFrom(image.lake);
        life.copyFrom(image.life);
        spoken.copyFrom(image.spoken);
        past.forget();
        return true;
    }

    public int count(int what) {
        switch (what) {
            case 0: return lake.setting[KEY_CELLS];
            case 1: return lake.setting[KEY_SHOWN];
            case 2: return lake.setting[KEY_KEEPS];
            case 3: return lake.counts[CUE];
            case 4: return lake.counts[LESSON];
            case 5: return lake.counts[TEACHER];
            case 6: return lake.counts[BOAT];
            case 7: return bytes;
            default: return NONE;
        }
    }

    /** Reads TOKENS of a text one by one, and keeps its first FAULT. */
    private static final class Reader {
        private final byte[] text;
        private final long[] keyCodes = new long[KEYS];
        private int length = 0;
        private int most = 0;
        private int at = 0;
        int kind = END;
        int start = 0;
        /** Which key, how much, or which sign; NONE for others. */
        int value = NONE;
        /** The letters of a WORD as one number: two WORDS are alike if these are. */
        long code = 0;
        int fault = 0;
        int place = 0;

        Reader(byte[] text) {
            this.text = text;
            int k = 0;
            for (int i = 0; i < KEY_WORDS.length() && k < KEYS; i++) {
                if (KEY_WORDS.charAt(i) == ' ') {
                    k++;
                } else {
                    keyCodes[k] = keyCodes[k] * 32 + (KEY_WORDS.charAt(i) - 'a' + 1);
                }
            }
        }

        void open(int length, int most) {
            this.length = Math.min(length, text.length);
            this.most = most;
            at = 0;
            fault = 0;
            place = 0;
            advance();
        }

        void advance() {
            int stop = Math.min(length, most);
            while (at < stop && (text[at] == 32 || text[at] == 10)) {
                at++;
            }
            start = Math.min(at, stop);
            value = NONE;
            if (at >= stop) {
                kind = length > most ? BAD : END;
                return;
            }
            readRun();
            if (at == start) {
                value = text[at];
                kind = isSign(value) ? SIGN : BAD;
                at++;
            } else if (kind == NAME) {
                value = keyOf(code);
                kind = value == NONE ? NAME : KEY;
            }
        }

        /** Reads letters and digits as far as they go, over the most bytes too. */
        private void readRun() {
            int digits = 0;
            int number = 0;
            code = 0;
            while (at < length) {
                int sign = text[at];
                if (sign >= '0' && sign <= '9') {
                    digits++;
                    number = number * 10 + (sign - '0');
                } else if (sign >= 'a' && sign <= 'z') {
                    code = code * 32 + (sign - 'a' + 1);
                } else {
                    break;
                }
                at++;
            }
            int signs = at - start;
            kind = BAD;
            if (digits == 0 && signs <= WORD_MOST) {
                kind = NAME;
            } else if (digits == signs && digits <= DIGITS_MOST) {
                kind = NUMBER;
                value = number;
            }
        }

        private int keyOf(long code) {
            for (int k = 0; k < KEYS; k++) {
                if (keyCodes[k] == code) {
                    return k;
                }
            }
            return NONE;
        }

        private static boolean isSign(int sign) {
            return sign == ';' || sign == '<' || sign == '=' || sign == '>' || sign == '(' || sign == ')';
        }

        /** Always false, so that a reading method can end with it. */
        boolean fail(int why) {
            fault = why;
            place = start;
            return false;
        }

        boolean isKey(int key) {
            return kind == KEY && value == key;
        }

        boolean isSignNow(int sign) {
            return kind == SIGN && value == sign;
        }

        boolean passKey(int key) {
            if (!isKey(key)) {
                return fail(CANT_COME);
            }
            advance();
            return true;
        }

        boolean passSign(int sign) {
            if (!isSignNow(sign)) {
                return fail(CANT_COME);
            }
            advance();
            return true;
        }

        /** NONE at a FAULT. */
        int passNumber(int least, int most) {
            if (kind != NUMBER) {
                fail(CANT_COME);
                return NONE;
            }
            if (value < least || value > most) {
                fail(BAD_NUMBER);
                return NONE;
            }
            int number = value;
            advance();
            return number;
        }

        /** The number of what is told by that NAME; NONE at a FAULT. */
        int passName(Lake lake, int sort) {
            if (kind != NAME) {
                fail(CANT_COME);
                return NONE;
            }
            int name = lake.find(code);
            if (name == NONE || lake.nameSort[name] != sort) {
                fail(BAD_NAME);
                return NONE;
            }
            advance();
            return lake.nameNumber[name];
        }
    }

    /** What the text of a LAKE tells; it stays as it is while DAYS go by. */
    private static final class Lake {
        final int[] setting = SETTING_WITHOUT.clone();
        int iceLong = 0;
        final int[] counts = new int[4];
        final int[] cueOf = new int[LESSONS_MOST];
        final int[] ofCue = new int[CUES_MOST];
        final int[] steps = new int[LESSONS_MOST];
        final int[] stepTold = new int[LESSONS_MOST * STEPS_MOST];
        /** HEIGHTS that a LESSON alone leaves: as they are added by 4, those of some are the sum of these. */
        final int[] leaves = new int[LESSONS_MOST];
        final int[] pier = new int[BOATS_MOST];
        final long[] nameCode = new long[NAMES_MOST];
        final int[] nameSort = new int[NAMES_MOST];
        final int[] nameNumber = new int[NAMES_MOST];
        int names = 0;

        void clear() {
            System.arraycopy(SETTING_WITHOUT, 0, setting, 0, setting.length);
            iceLong = 0;
            names = 0;
            for (int sort = 0; sort < counts.length; sort++) {
                counts[sort] = 0;
            }
            for (int c = 0; c < CUES_MOST; c++) {
                ofCue[c] = 0;
            }
            for (int l = 0; l < LESSONS_MOST; l++) {
                steps[l] = 0;
                leaves[l] = 0;
            }
        }

        void copyFrom(Lake other) {
            System.arraycopy(other.setting, 0, setting, 0, setting.length);
            iceLong = other.iceLong;
            System.arraycopy(other.counts, 0, counts, 0, counts.length);
            System.arraycopy(other.cueOf, 0, cueOf, 0, LESSONS_MOST);
            System.arraycopy(other.ofCue, 0, ofCue, 0, CUES_MOST);
            System.arraycopy(other.steps, 0, steps, 0, LESSONS_MOST);
            System.arraycopy(other.stepTold, 0, stepTold, 0, stepTold.length);
            System.arraycopy(other.leaves, 0, leaves, 0, LESSONS_MOST);
            System.arraycopy(other.pier, 0, pier, 0, BOATS_MOST);
            System.arraycopy(other.nameCode, 0, nameCode, 0, NAMES_MOST);
            System.arraycopy(other.nameSort, 0, nameSort, 0, NAMES_MOST);
            System.arraycopy(other.nameNumber, 0, nameNumber, 0, NAMES_MOST);
            names = other.names;
        }

        boolean has(int sort, int number) {
            return number >= 0 && number < counts[sort];
        }

        boolean hasCell(int c) {
            return c >= 0 && c < setting[KEY_CELLS];
        }

        boolean hasLessons(int set) {
            return set >= 0 && set < 1 << counts[LESSON];
        }

        int find(long code) {
            for (int i = 0; i < names; i++) {
                if (nameCode[i] == code) {
                    return i;
                }
            }
            return NONE;
        }

        /** The number that it has among those of its sort; NONE if there is no room. */
        int addName(int sort, long code) {
            if (names >= NAMES_MOST || counts[sort] >= MOST_OF_SORT[sort]) {
                return NONE;
            }
            nameCode[names] = code;
            nameSort[names] = sort;
            nameNumber[names] = counts[sort];
            names++;
            counts[sort]++;
            return counts[sort] - 1;
        }

        void addStep(int l, int cell, int high) {
            if (steps[l] < STEPS_MOST) {
                stepTold[l * STEPS_MOST + steps[l]] = 10 * cell + high;
                steps[l]++;
                leaves[l] = added(leaves[l], high << 2 * cell);
            }
        }

        /** HEIGHTS in two bits each: the lower bits carry into the upper ones, the upper ones' carry is lost. */
        private static int added(int heights, int more) {
            return ((heights & 0x5555) + (more & 0x5555)) ^ ((heights ^ more) & 0xAAAA);
        }

        int heightsBehind(int c, int set) {
            int heights = 0;
            for (int l = 0; l < counts[LESSON]; l++) {
                if ((set & ofCue[c]) >> l == 0) {
                    break;
                }
                if (((set & ofCue[c]) >> l & 1) == 1) {
                    heights = added(heights, leaves[l]);
                }
            }
            return heights;
        }

        int wavesAt(int c, int set) {
            int heights = 0;
            int high = 0;
            int doing = set & ofCue[c];
            for (int i = 0; i < STEPS_MOST && doing != 0; i++) {
                for (int l = 0; l < counts[LESSON]; l++) {
                    if ((doing >> l & 1) == 0) {
                        continue;
                    }
                    if (i < steps[l]) {
                        int told = stepTold[l * STEPS_MOST + i];
                        heights = added(heights, told % 10 << 2 * (told / 10));
                    } else {
                        doing &= ~(1 << l);
                    }
                }
                high |= heights & 0xAAAA;
            }
            return cellsOf(high);
        }

        private static int cellsOf(int high) {
            int cells = 0;
            for (int cell = 0; cell < CELLS_MOST; cell++) {
                cells |= (high >> 2 * cell + 1 & 1) << cell;
            }
            return cells;
        }

        /** Whether HEIGHTS of all CELLS stand in a text that is long enough. */
        boolean areHeights(byte[] text, int from) {
            for (int i = from; i < from + setting[KEY_CELLS] && i < text.length; i++) {
                if (text[i] < 0 || text[i] > HIGHEST_WAVE) {
                    return false;
                }
            }
            return true;
        }

        int packHeights(byte[] text, int from) {
            int heights = 0;
            for (int cell = 0; cell < setting[KEY_CELLS] && from + cell < text.length; cell++) {
                heights |= (text[from + cell] & 3) << 2 * cell;
            }
            return heights;
        }

        boolean areStill(int l, int m) {
            return leaves[l] != 0 && leaves[m] != 0 && added(leaves[l], leaves[m]) == 0;
        }

        boolean isIce(int day) {
            int rest = day % YEAR;
            return rest >= setting[KEY_ICE] && rest < setting[KEY_ICE] + iceLong;
        }

        int daysTillIce(int day) {
            if (isIce(day)) {
                return 0;
            }
            int till = setting[KEY_ICE] - day % YEAR;
            return till > 0 ? till : till + YEAR;
        }

        boolean practisesOn(int day) {
            return setting[KEY_NIGHTS] > 0 && day % setting[KEY_NIGHTS] == 0;
        }
    }

    /** Reads the text of a LAKE into a draft, so that a FAULT leaves the LAKE that is. */
    private static final class LakeReader {
        private final Reader reader;
        final Lake draft = new Lake();
        private int toldOnce = 0;

        LakeReader(Reader reader) {
            this.reader = reader;
        }

        /** How many LINES; NONE at a FAULT. */
        int readLines() {
            draft.clear();
            toldOnce = 0;
            for (int lines = 0; lines <= LAKE_MOST; lines++) {
                if (reader.kind == END) {
                    return lines;
                }
                int key = reader.kind == KEY ? reader.value : NONE;
                boolean read = key >= KEY_CUE ? readNamed(key - KEY_CUE) : readSetting(key);
                if (!read || !reader.passSign(';')) {
                    return NONE;
                }
            }
            return NONE;
        }

        private boolean readSetting(int key) {
            if (key < KEY_CELLS || key > KEY_ICE) {
                return reader.fail(CANT_COME);
            }
            boolean late = key == KEY_CELLS && draft.counts[LESSON] + draft.counts[BOAT] > 0;
            if (late || (toldOnce >> key & 1) == 1) {
                return reader.fail(BAD_NAME);
            }
            toldOnce |= 1 << key;
            reader.advance();
            int told = reader.passNumber(SETTING_LEAST[key], SETTING_MOST[key]);
            if (told == NONE) {
                return false;
            }
            draft.setting[key] = told;
            return key != KEY_ICE || readIceLong(told);
        }

        private boolean readIceLong(int from) {
            int told = reader.passNumber(1, Math.min(ICE_LONGEST, YEAR - from));
            if (told == NONE) {
                return false;
            }
            draft.iceLong = told;
            return true;
        }

        private boolean readNamed(int sort) {
            if (sort < CUE || sort > BOAT) {
                return reader.fail(CANT_COME);
            }
            if (draft.counts[sort] >= MOST_OF_SORT[sort]) {
                return reader.fail(TOO_MANY);
            }
            reader.advance();
            if (reader.kind != NAME) {
                return reader.fail(CANT_COME);
            }
            if (draft.find(reader.code) != NONE) {
                return reader.fail(BAD_NAME);
            }
            int number = draft.addName(sort, reader.code);
            if (number == NONE) {
                return reader.fail(TOO_MANY);
            }
            reader.advance();
            if (sort == LESSON) {
                return readLesson(number);
            }
            return sort != BOAT || readPier(number);
        }

        private boolean readLesson(int l) {
            int cue = reader.passName(draft, CUE);
            if (cue == NONE) {
                return false;
            }
            draft.cueOf[l] = cue;
            draft.ofCue[cue] |= 1 << l;
            for (int i = 0; i < STEPS_MOST && reader.kind == NUMBER; i++) {
                if (!readStep(l)) {
                    return false;
                }
            }
            return reader.kind != NUMBER || reader.fail(TOO_MANY);
        }

        private boolean readStep(int l) {
            int cell = reader.passNumber(0, draft.setting[KEY_CELLS] - 1);
            if (cell == NONE) {
                return false;
            }
            int high = reader.passNumber(1, HIGHEST_WAVE);
            if (high == NONE) {
                return false;
            }
            draft.addStep(l, cell, high);
            return true;
        }

        private boolean readPier(int b) {
            int cell = reader.passNumber(0, draft.setting[KEY_CELLS] - 1);
            if (cell == NONE) {
                return false;
            }
            draft.pier[b] = cell;
            return true;
        }
    }

    /** All that is so on a DAY: what undo() and images keep. */
    private static final class Life {
        int day = 0;
        int rings = 0;
        int showings = 0;
        int known = 0;
        int today = 0;
        int wet = 0;
        /** HEIGHTS of all CELLS, two bits each. */
        private int heights = 0;
        final int[] shower = {NONE, NONE, NONE, NONE, NONE, NONE, NONE, NONE};
        final int[] times = new int[LESSONS_MOST];
        final int[] by = new int[LESSONS_MOST];
        final int[] kept = new int[LESSONS_MOST];
        final int[] done = new int[LESSONS_MOST];
        final int[] forgotten = new int[LESSONS_MOST];
        final int[] berth = new int[BOATS_MOST];
        final int[] soaked = new int[BOATS_MOST];
        final int[] voyages = new int[BOATS_MOST];

        void begin(Lake lake) {
            day = 0;
            rings = 0;
            showings = 0;
            known = 0;
            today = 0;
            wet = 0;
            heights = 0;
            for (int l = 0; l < LESSONS_MOST; l++) {
                shower[l] = NONE;
                times[l] = 0;
                by[l] = 0;
                kept[l] = 0;
                done[l] = 0;
                forgotten[l] = 0;
            }
            for (int b = 0; b < BOATS_MOST; b++) {
                berth[b] = lake.pier[b];
                soaked[b] = 0;
                voyages[b] = 0;
            }
        }

        void copyFrom(Life other) {
            day = other.day;
            rings = other.rings;
            showings = other.showings;
            known = other.known;
            today = other.today;
            wet = other.wet;
            heights = other.heights;
            System.arraycopy(other.shower, 0, shower, 0, LESSONS_MOST);
            System.arraycopy(other.times, 0, times, 0, LESSONS_MOST);
            System.arraycopy(other.by, 0, by, 0, LESSONS_MOST);
            System.arraycopy(other.kept, 0, kept, 0, LESSONS_MOST);
            System.arraycopy(other.done, 0, done, 0, LESSONS_MOST);
            System.arraycopy(other.forgotten, 0, forgotten, 0, LESSONS_MOST);
            System.arraycopy(other.berth, 0, berth, 0, BOATS_MOST);
            System.arraycopy(other.soaked, 0, soaked, 0, BOATS_MOST);
            System.arraycopy(other.voyages, 0, voyages, 0, BOATS_MOST);
        }

        int heightAt(int cell) {
            return heights >> 2 * cell & 3;
        }

        int daysLeft() {
            return ALL_OVER - day;
        }

        /** LESSONS shown today of which another of the same CUE was shown too. */
        int confused(Lake lake) {
            int set = 0;
            for (int c = 0; c < lake.counts[CUE]; c++) {
                int shown = today & lake.ofCue[c];
                if ((shown & shown - 1) != 0) {
                    set |= shown;
                }
            }
            return set;
        }

        /** Showings that some LESSONS yet need, in all. */
        int needed(Lake lake, int set) {
            int sum = 0;
            for (int l = 0; l < lake.counts[LESSON]; l++) {
                if ((set & ~known) >> l == 0) {
                    break;
                }
                if (((set & ~known) >> l & 1) == 1) {
                    sum += lake.setting[KEY_SHOWN] - times[l];
                }
            }
            return sum;
        }

        int whyNotShown(Lake lake, int l) {
            if (lake.isIce(day)) {
                return 1;
            }
            if ((today >> l & 1) == 1) {
                return 2;
            }
            return (known >> l & 1) == 1 ? 3 : 0;
        }

        void beShown(int t, int l) {
            today |= 1 << l;
            shower[l] = t;
            showings++;
        }

        int whyNotRung(Lake lake) {
            return lake.isIce(day) ? 1 : 0;
        }

        void hear(Lake lake, int c) {
            rings++;
            heights = lake.heightsBehind(c, known);
            int doing = known & lake.ofCue[c];
            for (int l = 0; l < lake.counts[LESSON]; l++) {
                if ((doing >> l & 1) == 1) {
                    done[l]++;
                    kept[l] = day;
                }
            }
            int waves = lake.wavesAt(c, known);
            for (int b = 0; b < lake.counts[BOAT]; b++) {
                if ((waves >> berth[b] & 1) == 1) {
                    wet |= 1 << b;
                    soaked[b]++;
                }
            }
        }

        int whyNotSailed(Lake lake, int b, int c) {
            if (berth[b] == c) {
                return 1;
            }
            if (lake.isIce(day)) {
                return 2;
            }
            return heightAt(c) == HIGHEST_WAVE ? 3 : 0;
        }

        void moveBoat(int b, int c) {
            berth[b] = c;
            voyages[b]++;
        }

        void passDays(Lake lake, int n) {
            for (int i = 0; i < n && day < ALL_OVER; i++) {
                finishDay(lake);
            }
        }

        void finishDay(Lake lake) {
            boolean freezes = lake.isIce(day + 1) && !lake.isIce(day);
            countShowings(lake);
            for (int l = 0; l < lake.counts[LESSON]; l++) {
                if ((known >> l & 1) == 1) {
                    keepOrForget(lake, l);
                }
                if (freezes && (known >> l & 1) == 0) {
                    unlearn(l);
                }
            }
            heights = 0;
            day++;
        }

        private void countShowings(Lake lake) {
            if (today == 0) {
                return;
            }
            int counting = today & ~confused(lake);
            for (int l = 0; l < lake.counts[LESSON]; l++) {
                if ((counting >> l & 1) == 1) {
                    times[l]++;
                    by[l] |= 1 << shower[l];
                    if (times[l] >= lake.setting[KEY_SHOWN]) {
                        known |= 1 << l;
                        kept[l] = day;
                    }
                }
                shower[l] = NONE;
            }
            today = 0;
        }

        private void keepOrForget(Lake lake, int l) {
            if (lake.practisesOn(day)) {
                kept[l] = day;
            }
            if (day - kept[l] >= lake.setting[KEY_KEEPS]) {
                forgotten[l]++;
                known &= ~(1 << l);
                unlearn(l);
            }
        }

        private void unlearn(int l) {
            times[l] = 0;
            by[l] = 0;
        }
    }

    /** The latest states ahead of acts, in a ring: the oldest makes room. */
    private static final class Past {
        private static final int MOST = 8;
        private final Life[] lives = new Life[MOST];
        private int next = 0;
        private int held = 0;

        Past() {
            for (int i = 0; i < MOST; i++) {
                lives[i] = new Life();
            }
        }

        void forget() {
            held = 0;
        }

        void keep(Life life) {
            lives[next].copyFrom(life);
            next = (next + 1) % MOST;
            held = Math.min(held + 1, MOST);
        }

        /** How many are left; NONE if there was none. */
        int takeBack(Life life) {
            if (held == 0) {
                return NONE;
            }
            next = (next + MOST - 1) % MOST;
            held--;
            life.copyFrom(lives[next]);
            return held;
        }
    }

    /** DAYS DRAWN. */
    private static final class Draw {
        private int x = 0;

        private int of(int n) {
            x = x * 1103515245 + 12345;
            return n > 0 ? (x >>> 8) % n : 0;
        }

        void liveDrawn(Lake lake, Life life, int n, int seed) {
            x = seed;
            for (int i = 0; i < n; i++) {
                drawDay(lake, life);
            }
        }

        private void drawDay(Lake lake, Life life) {
            for (int t = 0; t < lake.counts[TEACHER]; t++) {
                if (of(2) == 0) {
                    int l = of(lake.counts[LESSON]);
                    if (life.whyNotShown(lake, l) == 0) {
                        life.beShown(t, l);
                    }
                }
            }
            if (of(3) == 0) {
                int c = of(lake.counts[CUE]);
                if (life.whyNotRung(lake) == 0) {
                    life.hear(lake, c);
                }
            }
            life.passDays(lake, 1);
        }
    }

    /** Which sets of LESSONS explain what was heard. */
    private static final class Guess {
        private static final int UNHEARD = -1;
        int inEach = NONE;
        int inNone = NONE;
        int bestCue = NONE;
        private final int[] heard = new int[CUES_MOST];
        private boolean contradicts = false;
        private final int[] sets = new int[SETS_MOST];
        private int held = 0;
        private final int[] unlike = new int[SETS_MOST];

        int judge(Lake lake, byte[] text, int length) {
            if (!listen(lake, text, length)) {
                return NONE;
            }
            findSets(lake);
            if (held > 0) {
                judgeLessons(lake);
                judgeCues(lake);
            }
            return held;
        }

        /** Whether the text is as told; what is heard at a CUE twice in unlike ways contradicts itself. */
        private boolean listen(Lake lake, byte[] text, int length) {
            int width = 1 + lake.setting[KEY_CELLS];
            if (length == 0 || length > text.length || width <= 0 || length % width != 0) {
                return false;
            }
            contradicts = false;
            for (int c = 0; c < CUES_MOST; c++) {
                heard[c] = UNHEARD;
            }
            for (int from = 0; from < length; from += width) {
                int c = text[from];
                if (!lake.has(CUE, c) || !lake.areHeights(text, from + 1)) {
                    return false;
                }
                int heights = lake.packHeights(text, from + 1);
                contradicts |= heard[c] != UNHEARD && heard[c] != heights;
                heard[c] = heights;
            }
            return true;
        }

        private void findSets(Lake lake) {
            held = 0;
            for (int set = 0; set < 1 << lake.counts[LESSON] && !contradicts; set++) {
                if (explains(lake, set) && held < SETS_MOST) {
                    sets[held] = set;
                    held++;
                }
            }
        }

        private boolean explains(Lake lake, int set) {
            for (int c = 0; c < lake.counts[CUE]; c++) {
                if (heard[c] != UNHEARD && lake.heightsBehind(c, set) != heard[c]) {
                    return false;
                }
            }
            return true;
        }

        private void judgeLessons(Lake lake) {
            int all = (1 << lake.counts[LESSON]) - 1;
            inEach = all;
            inNone = all;
            for (int i = 0; i < held; i++) {
                inEach &= sets[i];
                inNone &= ~sets[i];
            }
        }

        private void judgeCues(Lake lake) {
            int most = 0;
            for (int c = 0; c < lake.counts[CUE]; c++) {
                int ways = countUnlike(lake, c);
                if (ways > most) {
                    most = ways;
                    bestCue = c;
                }
            }
        }

        private int countUnlike(Lake lake, int c) {
            int found = 0;
            for (int i = 0; i < held; i++) {
                int heights = lake.heightsBehind(c, sets[i]);
                int like = 0;
                while (like < found && unlike[like] != heights) {
                    like++;
                }
                if (like == found) {
                    unlike[found] = heights;
                    found++;
                }
            }
            return found;
        }
    }

    /** The LINES of a DIARY, read and then lived. */
    private static final class Diary {
        /** The WORD that tells the act: KEY_SHOWS, KEY_RINGS, KEY_SAILS or KEY_DAY. */
        private final int[] act = new int[LINES_MOST];
        private final int[] who = new int[LINES_MOST];
        private final int[] what = new int[LINES_MOST];
        private int lines = 0;

        boolean readLines(Reader reader, Lake lake) {
            lines = 0;
            for (int i = 0; i <= LINES_MOST; i++) {
                if (reader.kind == END) {
                    return true;
                }
                if (!readLine(reader, lake) || !reader.passSign(';')) {
                    return false;
                }
                lines++;
            }
            return false;
        }

        private boolean readLine(Reader reader, Lake lake) {
            boolean acts = reader.isKey(KEY_RINGS) || reader.isKey(KEY_DAY);
            if (!acts && reader.kind != NAME) {
                return reader.fail(CANT_COME);
            }
            int name = acts ? NONE : lake.find(reader.code);
            boolean actor = name != NONE && (lake.nameSort[name] == TEACHER || lake.nameSort[name] == BOAT);
            if (!acts && !actor) {
                return reader.fail(BAD_NAME);
            }
            if (lines >= LINES_MOST) {
                return reader.fail(TOO_MANY);
            }
            int key = reader.value;
            reader.advance();
            if (actor) {
                who[lines] = lake.nameNumber[name];
                key = lake.nameSort[name] == TEACHER ? KEY_SHOWS : KEY_SAILS;
                if (!reader.passKey(key)) {
                    return false;
                }
            }
            act[lines] = key;
            what[lines] = readWhat(reader, lake, key);
            return what[lines] != NONE;
        }

        private static int readWhat(Reader reader, Lake lake, int key) {
            switch (key) {
                case KEY_SHOWS: return reader.passName(lake, LESSON);
                case KEY_RINGS: return reader.passName(lake, CUE);
                case KEY_SAILS: return reader.passNumber(0, CELLS_MOST - 1);
                default: return reader.passNumber(1, DAYS_MOST);
            }
        }

        /** The LINE that is WRONG, or NONE; told gets what told() answers. */
        int liveLines(Lake lake, Life life, int[] told) {
            int why = 0;
            int line = 0;
            while (line < lines && why == 0) {
                why = liveLine(lake, life, line);
                if (why == 0) {
                    line++;
                }
            }
            told[0] = why;
            told[1] = line;
            told[2] = life.day;
            told[3] = life.known;
            return why == 0 ? NONE : line;
        }

        /** Why it is WRONG, or 0. */
        private int liveLine(Lake lake, Life life, int line) {
            switch (act[line]) {
                case KEY_SHOWS: return liveShow(lake, life, who[line], what[line]);
                case KEY_RINGS: return liveRing(lake, life, what[line]);
                case KEY_SAILS: return liveSail(lake, life, who[line], what[line]);
                default: return liveDays(lake, life, what[line]);
            }
        }

        private static int liveShow(Lake lake, Life life, int t, int l) {
            int why = life.whyNotShown(lake, l);
            if (why == 0) {
                life.beShown(t, l);
            }
            return why;
        }

        private static int liveRing(Lake lake, Life life, int c) {
            int why = life.whyNotRung(lake);
            if (why != 0) {
                return WHY_RING + why;
            }
            life.hear(lake, c);
            return 0;
        }

        private static int liveSail(Lake lake, Life life, int b, int c) {
            if (!lake.hasCell(c)) {
                return WHY_NO_CELL;
            }
            int why = life.whyNotSailed(lake, b, c);
            if (why != 0) {
                return WHY_SAIL + why;
            }
            life.moveBoat(b, c);
            return 0;
        }

        private static int liveDays(Lake lake, Life life, int n) {
            if (life.daysLeft() < n) {
                return WHY_NO_DAYS;
            }
            life.passDays(lake, n);
            return 0;
        }
    }

    /** A SENTENCE as parts, each behind those that it joins: it is said of all LESSONS at once, as bits. */
    private static final class Sentence {
        /** How many ONES; 0: there is no SENTENCE. */
        int ones = 0;
        private int parts = 0;
        /** The WORD that tells the part. */
        private final int[] key = new int[PARTS_MOST];
        private final int[] sign = new int[PARTS_MOST];
        private final int[] number = new int[PARTS_MOST];
        private final int[] open = new int[PARTS_MOST];

        void forget() {
            ones = 0;
            parts = 0;
        }

        void copyFrom(Sentence other) {
            ones = other.ones;
            parts = other.parts;
            System.arraycopy(other.key, 0, key, 0, PARTS_MOST);
            System.arraycopy(other.sign, 0, sign, 0, PARTS_MOST);
            System.arraycopy(other.number, 0, number, 0, PARTS_MOST);
        }

        void add(int key, int sign, int number) {
            if (parts < PARTS_MOST) {
                this.key[parts] = key;
                this.sign[parts] = sign;
                this.number[parts] = number;
                parts++;
            }
        }

        int saidOf(Lake lake, Life life) {
            int all = (1 << lake.counts[LESSON]) - 1;
            int top = 0;
            for (int i = 0; i < parts; i++) {
                if (key[i] == KEY_NOT && top >= 1) {
                    open[top - 1] = all & ~open[top - 1];
                } else if (key[i] == KEY_AND && top >= 2) {
                    top--;
                    open[top - 1] &= open[top];
                } else if (key[i] == KEY_OR && top >= 2) {
                    top--;
                    open[top - 1] |= open[top];
                } else if (top < PARTS_MOST) {
                    open[top] = all & saidByPart(lake, life, i);
                    top++;
                }
            }
            return top == 1 ? open[0] : 0;
        }

        private int saidByPart(Lake lake, Life life, int i) {
            switch (key[i]) {
                case KEY_KNOWN: return life.known;
                case KEY_TODAY: return life.today & ~life.confused(lake);
                case KEY_AT: return lake.has(CUE, number[i]) ? lake.ofCue[number[i]] : 0;
                case KEY_BY: return saidByTeacher(lake, life, number[i]);
                default: return saidByNumber(lake, life, i);
            }
        }

        private static int saidByTeacher(Lake lake, Life life, int t) {
            int set = 0;
            for (int l = 0; l < lake.counts[LESSON]; l++) {
                set |= (life.by[l] >> t & 1) << l;
            }
            return set;
        }

        private int saidByNumber(Lake lake, Life life, int i) {
            int set = 0;
            for (int l = 0; l < lake.counts[LESSON]; l++) {
                int than = Integer.compare(measure(lake, life, key[i], l), number[i]);
                boolean so = sign[i] == '<' ? than < 0 : sign[i] == '=' ? than == 0 : than > 0;
                if (so) {
                    set |= 1 << l;
                }
            }
            return set;
        }

        private static int measure(Lake lake, Life life, int key, int l) {
            switch (key) {
                case KEY_TIMES: return life.times[l];
                case KEY_STEPS: return lake.steps[l];
                case KEY_DONE: return life.done[l];
                default: return l;
            }
        }
    }

    /** Reads a SENTENCE into a draft, so that a FAULT leaves the SENTENCE that is. */
    private static final class SentenceReader {
        private final Reader reader;
        final Sentence draft = new Sentence();

        SentenceReader(Reader reader) {
            this.reader = reader;
        }

        boolean readWhole(Lake lake) {
            draft.forget();
            return readCond(lake, 1) && (reader.kind == END || reader.fail(CANT_COME));
        }

        /** An 'or' joins only when the ALL behind it has ended: at the next 'or', or at the end. */
        private boolean readCond(Lake lake, int depth) {
            boolean read = readOne(lake, depth);
            boolean orOpen = false;
            for (int i = 0; i <= ONES_MOST && read && (reader.isKey(KEY_OR) || reader.isKey(KEY_AND)); i++) {
                boolean or = reader.isKey(KEY_OR);
                if (or && orOpen) {
                    draft.add(KEY_OR, NONE, NONE);
                }
                orOpen |= or;
                reader.advance();
                read = readOne(lake, depth);
                if (!or) {
                    draft.add(KEY_AND, NONE, NONE);
                }
            }
            if (orOpen) {
                draft.add(KEY_OR, NONE, NONE);
            }
            return read;
        }

        private boolean readOne(Lake lake, int depth) {
            boolean bracket = reader.isSignNow('(');
            boolean word = reader.kind == KEY && reader.value >= KEY_NOT && reader.value <= KEY_NUMBER;
            if (!bracket && !word) {
                return reader.fail(CANT_COME);
            }
            if (draft.ones >= ONES_MOST || depth > WITHIN_MOST) {
                return reader.fail(TOO_MANY);
            }
            draft.ones++;
            int key = reader.value;
            reader.advance();
            if (bracket) {
                return readCond(lake, depth + 1) && reader.passSign(')');
            }
            if (key == KEY_NOT) {
                boolean read = readOne(lake, depth + 1);
                draft.add(KEY_NOT, NONE, NONE);
                return read;
            }
            return key >= KEY_TIMES ? readMeasure(key) : readPlain(lake, key);
        }

        private boolean readPlain(Lake lake, int key) {
            int number = NONE;
            if (key == KEY_AT || key == KEY_BY) {
                number = reader.passName(lake, key == KEY_AT ? CUE : TEACHER);
                if (number == NONE) {
                    return false;
                }
            }
            draft.add(key, NONE, number);
            return true;
        }

        private boolean readMeasure(int key) {
            int sign = reader.value;
            if (reader.kind != SIGN || sign < '<' || sign > '>') {
                return reader.fail(CANT_COME);
            }
            reader.advance();
            int number = reader.passNumber(0, NUMBER_MOST);
            if (number == NONE) {
                return false;
            }
            draft.add(key, sign, number);
            return true;
        }
    }

    /** What image() keeps. */
    private static final class Image {
        final Lake lake = new Lake();
        final Life life = new Life();
        final Sentence spoken = new Sentence();
        boolean kept = false;
    }
}
