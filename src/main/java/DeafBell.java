import java.util.Arrays;

/** A school on two cliffs under a deaf bell; README.md says how it is used. */
public final class DeafBell {
    private static final int LOW = -1000000000;
    private static final int BEYOND = 1;
    private static final int NONE = 2;
    private static final int STATE = 3;
    private static final int FULL = 4;
    private static final int KIND = 5;

    private static final int KINDS = 7;
    private static final int MOST_KM = 69;
    private static final int MOST_CLIFF = 1;
    private static final int MOST_WORD = 39;
    private static final int WORDS = 40;
    private static final int MOST_AHEAD = 200;
    private static final int MOST_SECOND = 9999;
    private static final int MOST_GAP = 40;

    private static final int MOST_VOICES = 6;
    private static final int MOST_SHOUTS = 40;
    private static final int MOST_DUE = 12;
    private static final int MOST_BYTES = 50;
    private static final int MOST_WAITING = 20;
    private static final int MOST_TRACED = 40;
    private static final int MOST_TIMES = 12;
    private static final int SHEETS = 4;
    private static final int MOST_NUMBERS = 40;
    private static final int MOST_ASKED = 5;
    private static final int MOST_LINES = 12;

    private static final int DELAY = 0;
    private static final int FOG = 1;
    private static final int WIND = 2;

    private static final int VOICE_KIND = 0;
    private static final int VOICE_M = 1;
    private static final int VOICE_CLIFF = 2;
    private static final int VOICE_THINKS = 3;

    private static final int SHOUT_SECOND = 0;
    private static final int SHOUT_BY = 1;
    private static final int SHOUT_CLIFF = 2;
    private static final int SHOUT_WORD = 3;
    private static final int SHOUT_TO = 4;
    private static final int SHOUT_OVER = 5;

    private static final int DUE_BY = 0;
    private static final int DUE_WORD = 1;
    private static final int DUE_TO = 2;
    private static final int DUE_SECOND = 3;

    private static final int AIRS = 0;
    private static final int ANSWERS = 1;
    private static final String AIRS_NAMES = "wfik";
    private static final String ANSWERS_NAMES = "wmc";

    private static final int[] KIND_ABOVE = {-1, 0, 0, 0, 1, 2, 3};

    private final School now;
    private final School kept;
    private final School ahead;
    private final Reader reader;
    private final Sheet[] sheets;
    private final Acting acting;
    private final int[] errors;
    private int images;

    public DeafBell() {
        reader = new Reader();
        Pupil[] kinds = {new Pupil(), new Eager(), new Late(), new Master(),
            new Guesser(), new Hoarse(), new Deaf()};
        now = new School(kinds, reader);
        kept = new School(kinds, reader);
        ahead = new School(kinds, reader);
        sheets = new Sheet[SHEETS];
        for (int s = 0; s < SHEETS; s++) {
            sheets[s] = new Sheet();
        }
        acting = new Acting();
        errors = new int[KIND + 1];
        images = 0;
    }

    // ---- air, voices

    public int air(int what, int v) {
        if (isOutside(what, DELAY, WIND)) {
            return error(BEYOND);
        }
        boolean fits = what == DELAY ? !isOutside(v, 1, 20) : !isOutside(v, 0, 9);
        if (!fits) {
            return error(BEYOND);
        }
        int was = now.airs[what];
        now.airs[what] = v;
        return was;
    }

    public int person(int km, int cliff) {
        if (isOutside(km, 0, MOST_KM) || isOutside(cliff, 0, MOST_CLIFF)) {
            return error(BEYOND);
        }
        if (now.voices >= MOST_VOICES) {
            return error(FULL);
        }
        return now.addVoice(km, cliff);
    }

    public int ofVoice(int person, int what) {
        if (isNoVoice(person) || isOutside(what, VOICE_KIND, VOICE_THINKS)) {
            return error(BEYOND);
        }
        return what == VOICE_THINKS ? now.thinking(person) : now.ofVoices[what][person];
    }

    public int carries(int person, int word) {
        if (isNoVoice(person) || isOutside(word, 0, MOST_WORD)) {
            return error(BEYOND);
        }
        return now.carriage(person, word);
    }

    public int says(int person, int word) {
        if (isNoVoice(person) || isOutside(word, 0, MOST_WORD)) {
            return error(BEYOND);
        }
        return now.wordSaid(person, word);
    }

    public int go(int person, int cliff) {
        if (isNoVoice(person) || isOutside(cliff, 0, MOST_CLIFF)) {
            return error(BEYOND);
        }
        int was = now.ofVoices[VOICE_CLIFF][person];
        now.ofVoices[VOICE_CLIFF][person] = cliff;
        return was;
    }

    public int become(int person, int km) {
        if (isNoVoice(person) || isOutside(km, 0, MOST_KM)) {
            return error(BEYOND);
        }
        int was = now.ofVoices[VOICE_KIND][person];
        now.ofVoices[VOICE_KIND][person] = km / 10;
        now.ofVoices[VOICE_M][person] = km % 10;
        return was;
    }

    public int as(int person, int kind) {
        if (isNoVoice(person) || isOutside(kind, 0, KINDS - 1)) {
            return error(BEYOND);
        }
        if (!isUnder(now.ofVoices[VOICE_KIND][person], kind)) {
            return error(KIND);
        }
        return now.ofVoices[VOICE_M][person];
    }

    // ---- shouts

    public int shout(int person, int word) {
        if (isNoVoice(person) || isOutside(word, 0, MOST_WORD)) {
            return error(BEYOND);
        }
        if (now.shouts >= MOST_SHOUTS) {
            return error(FULL);
        }
        now.addShout(person, word, -1);
        return now.shouts - 1;
    }

    public int ofShout(int shout, int what) {
        if (isOutside(shout, 0, now.shouts - 1) || isOutside(what, SHOUT_SECOND, SHOUT_OVER)) {
            return error(BEYOND);
        }
        return now.ofShouts[what][shout];
    }

    public int lead(int shout, int what) {
        if (isOutside(shout, 0, now.shouts - 1) || isOutside(what, 0, 1)) {
            return error(BEYOND);
        }
        int first = shout;
        int many = 1;
        for (int step = 0; step < now.shouts; step++) {
            int to = now.ofShouts[SHOUT_TO][first];
            if (isOutside(to, 0, now.shouts - 1)) {
                break;
            }
            first = to;
            many++;
        }
        return what == 0 ? first : many;
    }

    public int taught() {
        return now.questionsTaught();
    }

    public int forget() {
        int were = now.shouts;
        now.shouts = 0;
        now.dues = 0;
        return were;
    }

    // ---- texts

    public int feed(long word, int n) {
        if (isOutside(n, 1, 8)) {
            return error(BEYOND);
        }
        if (now.taped + n > MOST_BYTES) {
            return error(FULL);
        }
        for (int i = 0; i < n; i++) {
            now.tape[now.taped + i] = (int) (word >>> (8 * i)) & 255;
        }
        now.taped += n;
        return now.taped;
    }

    public int text(int use) {
        if (isOutside(use, AIRS, ANSWERS)) {
            return error(BEYOND);
        }
        int[] read = reader.read(now.tape, now.taped, use == AIRS ? AIRS_NAMES : ANSWERS_NAMES);
        now.taped = 0;
        if (read == null) {
            return -10 - reader.at;
        }
        if (use == AIRS) {
            now.airsText = read;
        } else {
            now.answersText = read;
        }
        return 1;
    }

    public int law(int use, int a, int b, int c, int d) {
        if (isOutside(use, AIRS, ANSWERS)) {
            return error(BEYOND);
        }
        return now.gives(use, a, b, c, d);
    }

    // ---- seconds

    public int seconds(int n) {
        return goOn(n, false);
    }

    public int loose(int n) {
        return goOn(n, true);
    }

    public int then(int n, int what) {
        if (isOutside(n, 0, MOST_AHEAD) || isOutside(what, 0, 2)) {
            return error(BEYOND);
        }
        goAhead(n);
        if (what == 0) {
            return ahead.shouts;
        }
        return what == 1 ? ahead.dues : ahead.questionsTaught();
    }

    public int thenShout(int n, int shout, int what) {
        if (isOutside(n, 0, MOST_AHEAD) || isOutside(shout, 0, MOST_SHOUTS - 1)
                || isOutside(what, SHOUT_SECOND, SHOUT_OVER)) {
            return error(BEYOND);
        }
        goAhead(n);
        if (shout >= ahead.shouts) {
            return error(NONE);
        }
        return ahead.ofShouts[what][shout];
    }

    // ---- what would be

    public int lesson(int sheet) {
        if (isNoSheet(sheet)) {
            return error(BEYOND);
        }
        if (sheets[sheet].isMissing()) {
            return error(NONE);
        }
        return sheets[sheet].lastAnswer(now.gap());
    }

    public int poem(int sheet, int what) {
        if (isNoSheet(sheet) || isOutside(what, 0, 1)) {
            return error(BEYOND);
        }
        if (sheets[sheet].isMissing()) {
            return error(NONE);
        }
        return what == 0 ? sheets[sheet].leastFit() : sheets[sheet].allFits();
    }

    public int heard(int sheet, int what) {
        if (isNoSheet(sheet) || isOutside(what, 0, 2)) {
            return error(BEYOND);
        }
        Sheet twos = sheets[sheet];
        if (twos.isMissing() || twos.size < 2) {
            return error(NONE);
        }
        int best = twos.bestDifference();
        if (what == 0) {
            return best;
        }
        return what == 1 ? twos.differing(best) : twos.fromFirstCliff(best);
    }

    public int often(int person, int word, int d) {
        if (isNoVoice(person) || isOutside(word, 0, MOST_WORD) || isOutside(d, 2, 99999)) {
            return error(BEYOND);
        }
        int fails = 10 - now.carriage(person, word);
        long lost = 1;
        long all = 1;
        for (int times = 1; times <= MOST_TIMES; times++) {
            lost *= fails;
            all *= 10;
            if (lost * d <= all) {
                return times;
            }
        }
        return error(NONE);
    }

    public int over(int n) {
        if (isOutside(n, 0, MOST_AHEAD)) {
            return error(BEYOND);
        }
        int most = taughtAhead(n, -1);
        int best = -1;
        for (int v = 0; v < now.voices; v++) {
            int many = taughtAhead(n, v);
            if (many > most) {
                most = many;
                best = v;
            }
        }
        return best < 0 ? error(NONE) : best;
    }

    // ---- draws, acts of voices, sheets, images, what is told

    public int seed(int v) {
        int was = now.z;
        now.z = v;
        return was;
    }

    public int voice(int person, int act, int x) {
        if (isNoVoice(person) || isOutside(act, 0, 3)) {
            return error(BEYOND);
        }
        acting.begin(person, now.ofVoices[VOICE_M][person]);
        Pupil kind = now.kindOf(person);
        switch (act) {
            case 0:
                return kind.calls(acting, x);
            case 1:
                return kind.hears(acting, x);
            case 2:
                return kind.waits(acting, x);
            default:
                return kind.tells(acting, x);
        }
    }

    public int trace(int i) {
        if (isOutside(i, 0, acting.begun - 1)) {
            return error(NONE);
        }
        return acting.bodies[i];
    }

    public int sheet(int sheet, int bits, int n) {
        boolean known = bits == 0 || bits == 8 || bits == 16 || bits == 32;
        if (isNoSheet(sheet) || !known) {
            return error(BEYOND);
        }
        if (bits == 0) {
            sheets[sheet].lay(0, 0);
            return 1;
        }
        if (n < 0) {
            return error(STATE);
        }
        if (n > MOST_NUMBERS) {
            return error(BEYOND);
        }
        sheets[sheet].lay(bits, n);
        return 1;
    }

    public int put(int sheet, int i, int v) {
        if (isNoSheet(sheet)) {
            return error(BEYOND);
        }
        Sheet to = sheets[sheet];
        if (to.isMissing()) {
            return error(NONE);
        }
        if (isOutside(i, 0, to.size - 1)) {
            return error(BEYOND);
        }
        to.write(i, v);
        return 1;
    }

    public int move(int sheet, int i, int other, int j, int n) {
        if (isNoSheet(sheet) || isNoSheet(other)) {
            return error(BEYOND);
        }
        Sheet from = sheets[sheet];
        Sheet to = sheets[other];
        if (from.isMissing() || to.isMissing()) {
            return error(NONE);
        }
        if (from.bits != to.bits) {
            return error(KIND);
        }
        if (!from.holds(i, n) || !to.holds(j, n)) {
            return error(BEYOND);
        }
        System.arraycopy(from.numbers, i, to.numbers, j, n);
        return n;
    }

    public int image() {
        kept.take(now);
        images++;
        return images;
    }

    public int restore() {
        if (images == 0) {
            return error(NONE);
        }
        now.take(kept);
        return now.second;
    }

    public int tell(int v) {
        if (now.waiting >= MOST_WAITING) {
            return error(FULL);
        }
        now.waits[now.waiting] = v;
        now.waiting++;
        return now.waiting;
    }

    public int check() {
        int waited = now.waiting;
        now.waiting = 0;
        ahead.take(now);
        for (int i = 0; i < waited; i++) {
            ahead.pass(1, false);
            if (ahead.shouts != now.waits[i]) {
                return 1 + i;
            }
        }
        return 0;
    }

    public int count(int what) {
        switch (what) {
            case 0:
                return now.second;
            case 1:
                return now.voices;
            case 2:
                return now.shouts;
            case 3:
                return now.dues;
            case 4:
                return now.gap();
            case 5:
                return now.airs[WIND];
            case 6:
                return now.taped;
            case 7:
                return now.waiting;
            case 8:
                return acting.begun;
            case 9:
                return now.z;
            default:
                return error(BEYOND);
        }
    }

    public int told(int k) {
        if (isOutside(k, BEYOND, KIND)) {
            return error(BEYOND);
        }
        return errors[k];
    }

    // ---- what the calls share

    private int error(int k) {
        errors[k]++;
        return LOW - k;
    }

    private static boolean isOutside(int v, int least, int most) {
        return v < least || v > most;
    }

    private boolean isNoVoice(int person) {
        return isOutside(person, 0, now.voices - 1);
    }

    private boolean isNoSheet(int sheet) {
        return isOutside(sheet, 0, SHEETS - 1);
    }

    private static boolean isUnder(int kind, int above) {
        int k = kind;
        for (int step = 0; step < KINDS && !isOutside(k, 0, KINDS - 1); step++) {
            if (k == above) {
                return true;
            }
            k = KIND_ABOVE[k];
        }
        return false;
    }

    private int goOn(int n, boolean loosely) {
        if (isOutside(n, 1, MOST_AHEAD)) {
            return error(BEYOND);
        }
        if (now.second + n > MOST_SECOND) {
            return error(STATE);
        }
        now.pass(n, loosely);
        return now.shouts;
    }

    private void goAhead(int n) {
        ahead.take(now);
        ahead.pass(n, false);
    }

    /** TAUGHT ahead, with the voice that goes over first (-1: none does). */
    private int taughtAhead(int n, int goes) {
        ahead.take(now);
        if (!isOutside(goes, 0, ahead.voices - 1)) {
            ahead.ofVoices[VOICE_CLIFF][goes] = 1 - ahead.ofVoices[VOICE_CLIFF][goes];
        }
        ahead.pass(n, false);
        return ahead.questionsTaught();
    }

    /** All that an image keeps; a second one is used to look ahead. */
    private static final class School {
        private final Pupil[] kinds;
        private final Reader reader;
        private final int[] airs = {7, 0, 0};
        private int second = 0;
        private int z = 1;
        private int voices = 0;
        private final int[][] ofVoices = new int[VOICE_CLIFF + 1][MOST_VOICES];
        private int shouts = 0;
        private final int[][] ofShouts = new int[SHOUT_OVER + 1][MOST_SHOUTS];
        private int dues = 0;
        private final int[][] ofDues = new int[DUE_SECOND + 1][MOST_DUE];
        // A text's row is never changed once it is read, so that schools may share it.
        private int[] airsText = null;
        private int[] answersText = null;
        private final int[] tape = new int[MOST_BYTES];
        private int taped = 0;
        private final int[] waits = new int[MOST_WAITING];
        private int waiting = 0;

        School(Pupil[] kinds, Reader reader) {
            this.kinds = kinds;
            this.reader = reader;
        }

        void take(School other) {
            System.arraycopy(other.airs, 0, airs, 0, airs.length);
            second = other.second;
            z = other.z;
            voices = other.voices;
            takeRows(other.ofVoices, ofVoices, voices);
            shouts = other.shouts;
            takeRows(other.ofShouts, ofShouts, shouts);
            dues = other.dues;
            takeRows(other.ofDues, ofDues, dues);
            airsText = other.airsText;
            answersText = other.answersText;
            taped = other.taped;
            System.arraycopy(other.tape, 0, tape, 0, taped);
            waiting = other.waiting;
            System.arraycopy(other.waits, 0, waits, 0, waiting);
        }

        private static void takeRows(int[][] from, int[][] to, int n) {
            for (int row = 0; row < from.length && row < to.length; row++) {
                System.arraycopy(from[row], 0, to[row], 0, n);
            }
        }

        int gap() {
            return airs[DELAY] + airs[FOG];
        }

        int addVoice(int km, int cliff) {
            ofVoices[VOICE_KIND][voices] = km / 10;
            ofVoices[VOICE_M][voices] = km % 10;
            ofVoices[VOICE_CLIFF][voices] = cliff;
            voices++;
            return voices - 1;
        }

        Pupil kindOf(int v) {
            int kind = ofVoices[VOICE_KIND][v];
            return kinds[isOutside(kind, 0, kinds.length - 1) ? 0 : kind];
        }

        int thinking(int v) {
            return kindOf(v).thinks(ofVoices[VOICE_M][v], airs[FOG], airs[WIND]);
        }

        int carriage(int v, int word) {
            int own = kindOf(v).carry(word, ofVoices[VOICE_M][v], airs[WIND]);
            int given = gives(AIRS, word, airs[FOG], airs[WIND], ofVoices[VOICE_KIND][v]);
            return Math.max(0, Math.min(10, own + given));
        }

        int wordSaid(int v, int word) {
            int m = ofVoices[VOICE_M][v];
            int given = gives(ANSWERS, word, m, ofVoices[VOICE_CLIFF][v], 0);
            return kindOf(v).answer(word, given, m);
        }

        int gives(int use, int a, int b, int c, int d) {
            if (use == AIRS) {
                int given = airsText == null ? 0 : reader.work(airsText, a, b, c, d);
                return Math.max(-10, Math.min(10, given));
            }
            int given = answersText == null ? a + 1 : reader.work(answersText, a, b, c, d);
            return Math.max(0, given % WORDS);
        }

        void addShout(int by, int word, int to) {
            if (shouts >= MOST_SHOUTS) {
                return;
            }
            ofShouts[SHOUT_SECOND][shouts] = second;
            ofShouts[SHOUT_BY][shouts] = by;
            ofShouts[SHOUT_CLIFF][shouts] = ofVoices[VOICE_CLIFF][by];
            ofShouts[SHOUT_WORD][shouts] = word;
            ofShouts[SHOUT_TO][shouts] = to;
            ofShouts[SHOUT_OVER][shouts] = second + gap();
            shouts++;
        }

        void pass(int n, boolean loosely) {
            int[] overs = ofShouts[SHOUT_OVER];
            for (int i = 0; i < n; i++) {
                for (int s = 0; s < shouts; s++) {
                    if (overs[s] == second) {
                        comeOver(s, loosely);
                    }
                }
                shoutDue();
                second++;
            }
        }

        private void comeOver(int s, boolean loosely) {
            int word = ofShouts[SHOUT_WORD][s];
            int carried = carriage(ofShouts[SHOUT_BY][s], word);
            boolean isHeard = loosely ? draw() % 10 < carried : carried >= 5;
            if (!isHeard || word % 2 != 0 || dues >= MOST_DUE) {
                return;
            }
            int who = quickest(1 - ofShouts[SHOUT_CLIFF][s]);
            if (who < 0) {
                return;
            }
            ofDues[DUE_BY][dues] = who;
            ofDues[DUE_WORD][dues] = wordSaid(who, word);
            ofDues[DUE_TO][dues] = s;
            ofDues[DUE_SECOND][dues] = second + thinking(who);
            dues++;
        }

        private int draw() {
            z = z * 1103515245 + 12345;
            return z >>> 8;
        }

        /** Which voice on a cliff thinks least; -1 if there is none. */
        private int quickest(int cliff) {
            int who = -1;
            int least = 0;
            for (int v = 0; v < voices; v++) {
                if (ofVoices[VOICE_CLIFF][v] != cliff) {
                    continue;
                }
                // Asked of the kind itself, as calls may stand only eight deep.
                int thinks = kindOf(v).thinks(ofVoices[VOICE_M][v], airs[FOG], airs[WIND]);
                if (who < 0 || thinks < least) {
                    who = v;
                    least = thinks;
                }
            }
            return who;
        }

        private void shoutDue() {
            int left = 0;
            for (int i = 0; i < dues; i++) {
                if (ofDues[DUE_SECOND][i] <= second) {
                    addShout(ofDues[DUE_BY][i], ofDues[DUE_WORD][i], ofDues[DUE_TO][i]);
                    continue;
                }
                for (int row = 0; row < ofDues.length; row++) {
                    ofDues[row][left] = ofDues[row][i];
                }
                left++;
            }
            dues = left;
        }

        int questionsTaught() {
            int many = 0;
            for (int s = 0; s < shouts; s++) {
                if (ofShouts[SHOUT_WORD][s] % 2 == 0 && isTaught(s)) {
                    many++;
                }
            }
            return many;
        }

        private boolean isTaught(int question) {
            int verb = ofShouts[SHOUT_WORD][question] + 1;
            for (int s = 0; s < shouts; s++) {
                if (ofShouts[SHOUT_TO][s] == question && ofShouts[SHOUT_WORD][s] == verb
                        && ofShouts[SHOUT_OVER][s] < second) {
                    return true;
                }
            }
            return false;
        }
    }

    /**
     * Reads texts into rows in which operands stand ahead of their sign, and works such rows out.
     * In a row a number stands as itself, the name i as -1 - i, a sign as less its byte.
     */
    private static final class Reader {
        private static final int OPERAND = 5;
        private static final int COMPARING = 2;
        private static final int MOST_NAMES = 4;
        private static final int MOST_OPEN = 5;
        private static final int MOST_DIGITS = 4;

        private final int[] row = new int[MOST_BYTES];
        private final int[] stack = new int[MOST_BYTES];
        private final int[] tape = new int[MOST_BYTES];
        private int size = 0;
        private int at = 0;
        private int written = 0;
        private boolean failed = false;
        private String names = AIRS_NAMES;

        /** The text's row; null if it has a fault, which is where the reader stands then. */
        int[] read(int[] bytes, int n, String letters) {
            size = Math.min(n, Math.min(bytes.length, tape.length));
            System.arraycopy(bytes, 0, tape, 0, size);
            names = letters;
            at = 0;
            written = 0;
            failed = false;
            chain(0, 0);
            return failed || at < size ? null : Arrays.copyOf(row, written);
        }

        /** Parts of the next higher rank, joined by signs of this rank; so many ! and ( are open. */
        private void chain(int rank, int open) {
            if (rank >= OPERAND) {
                operand(open);
                return;
            }
            chain(rank + 1, open);
            int most = rank == COMPARING ? 1 : MOST_BYTES;
            for (int i = 0; i < most && !failed && rankOf(look()) == rank; i++) {
                int sign = look();
                at++;
                chain(rank + 1, open);
                write(-sign);
            }
        }

        private static int rankOf(int sign) {
            switch (sign) {
                case '|':
                    return 0;
                case '&':
                    return 1;
                case '<':
                case '=':
                case '>':
                    return COMPARING;
                case '+':
                case '-':
                    return 3;
                case '*':
                case '/':
                case '%':
                    return 4;
                default:
                    return -1;
            }
        }

        private void operand(int open) {
            int sign = look();
            if (isDigit(sign)) {
                number();
            } else if (sign == '!' || sign == '(') {
                opened(sign, open + 1);
            } else {
                name(sign);
            }
        }

        private void opened(int sign, int open) {
            if (open > MOST_OPEN) {
                failed = true;
                return;
            }
            at++;
            if (sign == '!') {
                operand(open);
                write(-sign);
                return;
            }
            chain(0, open);
            if (failed || look() != ')') {
                failed = true;
                return;
            }
            at++;
        }

        private void number() {
            int value = 0;
            for (int digits = 0; digits < MOST_DIGITS && isDigit(look()); digits++) {
                value = value * 10 + (look() - '0');
                at++;
            }
            write(value);
        }

        private void name(int sign) {
            int i = sign < 0 ? -1 : names.indexOf((char) sign);
            if (i < 0) {
                failed = true;
                return;
            }
            at++;
            write(-1 - i);
        }

        /** The byte at which the reader stands; -1 at the end. */
        private int look() {
            return at < size ? tape[at] : -1;
        }

        private static boolean isDigit(int sign) {
            return sign >= '0' && sign <= '9';
        }

        private void write(int part) {
            if (written < row.length) {
                row[written] = part;
                written++;
            }
        }

        int work(int[] text, int a, int b, int c, int d) {
            int top = 0;
            for (int i = 0; i < text.length; i++) {
                int part = text[i];
                if (part >= -MOST_NAMES) {
                    if (top < stack.length) {
                        stack[top] = valueOf(part, a, b, c, d);
                        top++;
                    }
                } else if (part == -'!') {
                    if (top >= 1) {
                        stack[top - 1] = stack[top - 1] == 0 ? 1 : 0;
                    }
                } else if (top >= 2) {
                    top--;
                    stack[top - 1] = joined(-part, stack[top - 1], stack[top]);
                }
            }
            return stack[0];
        }

        private static int valueOf(int part, int a, int b, int c, int d) {
            switch (part) {
                case -1:
                    return a;
                case -2:
                    return b;
                case -3:
                    return c;
                case -4:
                    return d;
                default:
                    return part;
            }
        }

        private static int joined(int sign, int left, int right) {
            switch (sign) {
                case '|':
                    return left != 0 || right != 0 ? 1 : 0;
                case '&':
                    return left != 0 && right != 0 ? 1 : 0;
                case '<':
                    return left < right ? 1 : 0;
                case '=':
                    return left == right ? 1 : 0;
                case '>':
                    return left > right ? 1 : 0;
                case '+':
                    return left + right;
                case '-':
                    return left - right;
                case '*':
                    return left * right;
                case '/':
                    return right == 0 ? 0 : left / right;
                default:
                    return right == 0 ? 0 : left % right;
            }
        }
    }

    /** A row of numbers, and what a lesson, a poem, or shouts heard would be by it. */
    private static final class Sheet {
        // With 17 seconds to choose from, four others, of which each bars four, can't bar them all.
        private static final int MOST_SPARE = 16;

        private int bits = 0;
        private int size = 0;
        private final int[] numbers = new int[MOST_NUMBERS];
        private int asked = 0;
        private final int[] thinks = new int[MOST_ASKED];
        private final int[] askedIn = new int[MOST_ASKED];
        private final int[] answeredIn = new int[MOST_ASKED];
        private int lines = 0;
        private final int[] lineCliff = new int[MOST_LINES];
        private final int[] lineSecond = new int[MOST_LINES];

        boolean isMissing() {
            return bits == 0;
        }

        void lay(int newBits, int n) {
            bits = newBits;
            size = n;
            Arrays.fill(numbers, 0);
        }

        void write(int i, int v) {
            if (bits == 8) {
                numbers[i] = (byte) v;
            } else if (bits == 16) {
                numbers[i] = (short) v;
            } else {
                numbers[i] = v;
            }
        }

        boolean holds(int i, int n) {
            return i >= 0 && n >= 0 && i <= size && n <= size - i;
        }

        int lastAnswer(int gap) {
            gatherThinks();
            if (asked == 0) {
                return -1;
            }
            int last = 2 * gap + thinks[0];
            for (int spare = 0; spare < MOST_SPARE && !isPlaced(0, last, gap); spare++) {
                last++;
            }
            return last;
        }

        /** Longest first: it has the fewest seconds to choose from. */
        private void gatherThinks() {
            asked = 0;
            for (int i = 0; i < size && asked < MOST_ASKED; i++) {
                int v = numbers[i];
                if (isOutside(v, 0, 20)) {
                    continue;
                }
                int place = asked;
                for (; place > 0 && thinks[place - 1] < v; place--) {
                    thinks[place] = thinks[place - 1];
                }
                thinks[place] = v;
                asked++;
            }
        }

        /** Whether question q and those behind it can be placed so that all is answered by last. */
        private boolean isPlaced(int q, int last, int gap) {
            if (q >= asked || q >= MOST_ASKED) {
                return true;
            }
            int needs = 2 * gap + thinks[q];
            for (int second = 0; second <= last - needs; second++) {
                if (!isFree(q, second, second + needs)) {
                    continue;
                }
                askedIn[q] = second;
                answeredIn[q] = second + needs;
                if (isPlaced(q + 1, last, gap)) {
                    return true;
                }
            }
            return false;
        }

        private boolean isFree(int before, int asks, int answers) {
            for (int q = 0; q < before; q++) {
                if (askedIn[q] == asks || askedIn[q] == answers
                        || answeredIn[q] == asks || answeredIn[q] == answers) {
                    return false;
                }
            }
            return true;
        }

        /** -1, if the poem fits no gap. */
        int leastFit() {
            gatherLines();
            for (int g = 0; g <= MOST_GAP; g++) {
                if (fitsGap(g)) {
                    return g;
                }
            }
            return -1;
        }

        int allFits() {
            gatherLines();
            int many = 0;
            for (int g = 0; g <= MOST_GAP; g++) {
                if (fitsGap(g)) {
                    many++;
                }
            }
            return many;
        }

        private void gatherLines() {
            lines = 0;
            for (int i = 0; i + 1 < size && lines < MOST_LINES; i += 2) {
                if (isOutside(numbers[i], 0, 1) || isOutside(numbers[i + 1], 0, 999)) {
                    continue;
                }
                lineCliff[lines] = numbers[i];
                lineSecond[lines] = numbers[i + 1];
                lines++;
            }
        }

        private boolean fitsGap(int g) {
            for (int a = 0; a < lines; a++) {
                for (int b = 0; b < a; b++) {
                    if (secondOn(0, a, g) == secondOn(0, b, g)
                            || secondOn(1, a, g) == secondOn(1, b, g)) {
                        return false;
                    }
                }
            }
            return true;
        }

        private int secondOn(int cliff, int line, int g) {
            return lineCliff[line] == cliff ? lineSecond[line] : lineSecond[line] + g;
        }

        int bestDifference() {
            int best = 0;
            int most = 0;
            for (int g = 0; g <= MOST_GAP; g++) {
                int many = differing(g);
                if (many > most) {
                    most = many;
                    best = g;
                }
            }
            return best;
        }

        int differing(int g) {
            int many = 0;
            for (int i = 0; i + 1 < size; i += 2) {
                if (Math.abs((long) numbers[i] - numbers[i + 1]) == g) {
                    many++;
                }
            }
            return many;
        }

        int fromFirstCliff(int g) {
            int many = 0;
            for (int i = 0; i + 1 < size; i += 2) {
                long later = (long) numbers[i + 1] - numbers[i];
                if (later > 0 && later == g) {
                    many++;
                }
            }
            return many;
        }
    }

    /** Who acts, and the bodies as they began. */
    private static final class Acting {
        private int n = 0;
        private int m = 0;
        private int begun = 0;
        private final int[] bodies = new int[MOST_TRACED];

        void begin(int number, int told) {
            n = number;
            m = told;
            begun = 0;
        }

        void began(int body) {
            if (begun < bodies.length) {
                bodies[begun] = body;
                begun++;
            }
        }
    }

    /** A kind has no state of its own, so that one object serves all voices of the kind. */
    private static class Pupil {
        int thinks(int m, int fog, int wind) {
            return 3;
        }

        int carry(int word, int m, int wind) {
            return word % 2 == 0 ? 9 : 9 - wind;
        }

        int answer(int word, int given, int m) {
            return given;
        }

        int calls(Acting who, int x) {
            who.began(10);
            return x + who.n;
        }

        int hears(Acting who, int x) {
            who.began(11);
            return calls(who, x) * 2;
        }

        int waits(Acting who, int x) {
            who.began(12);
            return x - who.m;
        }

        int tells(Acting who, int x) {
            who.began(13);
            return hears(who, x) ^ waits(who, x);
        }
    }

    private static class Eager extends Pupil {
        int thinks(int m, int fog, int wind) {
            return Math.max(0, super.thinks(m, fog, wind) - m);
        }

        int hears(Acting who, int x) {
            who.began(20);
            return super.hears(who, x) - waits(who, 1);
        }
    }

    private static class Late extends Pupil {
        int thinks(int m, int fog, int wind) {
            return super.thinks(m, fog, wind) + m;
        }

        int calls(Acting who, int x) {
            who.began(30);
            return super.calls(who, x) * 3;
        }
    }

    private static class Master extends Pupil {
        int thinks(int m, int fog, int wind) {
            return 1;
        }

        int carry(int word, int m, int wind) {
            return 10;
        }

        int waits(Acting who, int x) {
            who.began(40);
            return -super.waits(who, x);
        }
    }

    private static final class Guesser extends Eager {
        int thinks(int m, int fog, int wind) {
            return super.thinks(m, fog, wind) + (fog != 0 ? 1 : 0);
        }

        int carry(int word, int m, int wind) {
            return super.carry(word, m, wind) - m / 3;
        }

        int answer(int word, int given, int m) {
            return (super.answer(word, given, m) + m) % WORDS;
        }

        int hears(Acting who, int x) {
            who.began(50);
            return super.hears(who, x + 1);
        }
    }

    private static final class Hoarse extends Late {
        int thinks(int m, int fog, int wind) {
            return super.thinks(m, fog, wind) + wind;
        }

        int carry(int word, int m, int wind) {
            return super.carry(word, m, wind) / 2;
        }

        int tells(Acting who, int x) {
            who.began(60);
            return super.tells(who, x) - calls(who, 2);
        }
    }

    private static final class Deaf extends Master {
        int thinks(int m, int fog, int wind) {
            return 2 * super.thinks(m, fog, wind) + m;
        }

        int carry(int word, int m, int wind) {
            return super.carry(word, m, wind) - wind;
        }

        int answer(int word, int given, int m) {
            return word;
        }

        int waits(Acting who, int x) {
            who.began(70);
            return super.waits(who, x) ^ who.n;
        }

        int tells(Acting who, int x) {
            who.began(71);
            return hears(who, x) - super.tells(who, x);
        }
    }
}
