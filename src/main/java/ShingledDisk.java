import java.util.NoSuchElementException;

/**
 * A shingled disk behind its translation: bands of overlapping tracks, a log that takes the writes
 * first, bands cleaned through a journal, power cuts and what comes back.
 *
 * <p>The words in capitals (TRACK, ENTRY, LIVE, STEP ..) are those of the document's terms.
 */
public final class ShingledDisk {
    public static final int NONE = -1;

    /** There is none, told by a call that isn't refused. */
    private static final int NOTHING = -2;
    private static final int DAMAGED = -2;

    private static final int MOST_TAPE = 700;
    private static final int FEED_BYTES = 20;
    private static final int MOST_OVERLAP = 3;
    private static final int LEAST_PLACES = 2;
    private static final int MOST_PLACES = 24;
    private static final int MOST_BANDS = 6;
    private static final int LEAST_SIZE = 2;
    private static final int MOST_SIZE = 8;
    private static final int MOST_TRACKS = 48;
    /** As many as the most TRACKS make in bands of the least size. */
    private static final int MOST_RESIZED_BANDS = 24;
    private static final int MOST_VALUE = 9999;
    private static final int MOST_HAS = 12;
    private static final int MOST_WRITES = 16;
    private static final int MOST_UNSURE = 4;
    private static final int MOST_SETS = 1 << MOST_UNSURE;
    private static final int MOST_READS = 6;
    private static final int MOST_KEPT = 16;
    private static final int MOST_IMAGES = 3;
    private static final int MOST_TURNS = 100;
    private static final int MOST_SEED = 65536;

    private static final int FORM = 1;
    private static final int UNTOLD = 2;
    private static final int TWICE = 3;
    private static final int BOUNDS = 4;
    private static final int MANY = 5;
    private static final int LACKS = 6;

    private static final int NONE_SUCH = 1;
    private static final int BAD_NUMBER = 2;
    private static final int NO_ROOM = 3;
    private static final int FAULTY = 4;
    private static final int NOT_SO = 5;
    private static final int NONE_LEFT = 6;

    private final byte[] tape = new byte[MOST_TAPE];
    private int tapeLength;
    /** The DISK; one without bands stands for no DISK. */
    private Told told = new Told();
    /** The next text is told here, so that a FAULT leaves the DISK as it is. */
    private Told spare = new Told();
    private final Parser parser = new Parser(tape, spare);
    private final FitSets fitSets = new FitSets();
    private final State now = new State();
    /** Where all that only might be is tried out. */
    private final State trial = new State();
    private final Shape trialShape = new Shape();
    private final Draws draws = new Draws();
    private final History history = new History();
    private final Shelf images = new Shelf(MOST_IMAGES);
    private int imageCount;
    private int latestTrouble;
    private int latestFault;
    private int faultPlace;

    public ShingledDisk() {
    }

    // ---- the disk

    public int feed(int a, int b, int c, int d, int e) {
        if (tapeLength > MOST_TAPE - FEED_BYTES) {
            return NONE;
        }
        feedNumber(a);
        feedNumber(b);
        feedNumber(c);
        feedNumber(d);
        feedNumber(e);
        return tapeLength;
    }

    private void feedNumber(int number) {
        for (int shift = 24; shift >= 0; shift -= 8) {
            if (tapeLength >= 0 && tapeLength < tape.length) {
                tape[tapeLength] = (byte) (number >> shift);
                tapeLength++;
            }
        }
    }

    public int disk(int n) {
        if (n < 0 || n > tapeLength) {
            return refuse(BAD_NUMBER);
        }
        parser.tellAll(n, spare);
        tapeLength = 0;
        latestFault = parser.foundFault;
        faultPlace = parser.foundPlace;
        if (latestFault != 0) {
            return refuse(FAULTY);
        }
        Told before = told;
        told = spare;
        spare = before;
        beginAnew();
        return accept(told.shape.tracks);
    }

    private void beginAnew() {
        now.begin(told.had);
        history.forget();
        imageCount = 0;
        fitSets.count = 0;
        for (int set = 0; set < MOST_SETS && set < 1 << told.unsure.count; set++) {
            runOn(told.shape, set);
            if (firstReadOtherwise() == NOTHING) {
                fitSets.addSet(set);
            }
        }
    }

    public int fault() {
        return latestFault;
    }

    public int where() {
        return latestTrouble == FAULTY ? faultPlace : NONE;
    }

    private int refuse(int why) {
        latestTrouble = why;
        return NONE;
    }

    private int accept(int answer) {
        latestTrouble = 0;
        return answer;
    }

    private boolean hasDisk() {
        return told.shape.bands > 0;
    }

    private boolean hasTrack(int t) {
        return t >= 0 && t < told.shape.tracks;
    }

    private boolean hasBand(int b) {
        return b >= 0 && b < told.shape.bands;
    }

    // ---- tracks, bands

    public int read(int t) {
        if (!hasTrack(t)) {
            return refuse(NONE_SUCH);
        }
        if (now.isDown) {
            return refuse(NOT_SO);
        }
        return accept(now.valueOf(t));
    }

    public int track(int t) {
        if (!hasTrack(t)) {
            return refuse(NONE_SUCH);
        }
        return accept(at(now.onTrack, t));
    }

    public int bandOf(int t) {
        if (!hasTrack(t)) {
            return refuse(NONE_SUCH);
        }
        return accept(told.shape.bandHolding(t));
    }

    public int band(int b, int what) {
        if (!hasBand(b)) {
            return refuse(NONE_SUCH);
        }
        switch (what) {
            case 0:
                return accept(told.shape.tracksOf(b));
            case 1:
                return accept(told.shape.firstOf(b));
            case 2:
                return accept(now.entriesOf(told.shape, b));
            case 3:
                return accept(now.liveEntriesOf(told.shape, b));
            case 4:
                return accept(now.damagedOf(told.shape, b));
            default:
                return refuse(NONE_SUCH);
        }
    }

    public int wide() {
        if (!hasDisk()) {
            return refuse(NONE_SUCH);
        }
        return accept(told.shape.tracks + (told.shape.bands - 1) * told.shape.overlap);
    }

    public int down() {
        if (!hasDisk()) {
            return refuse(NONE_SUCH);
        }
        return accept(now.isDown ? 1 : 0);
    }

    public int journal() {
        if (!hasDisk()) {
            return refuse(NONE_SUCH);
        }
        return accept(now.journalCount);
    }

    // ---- the log

    public int entries() {
        if (!hasDisk()) {
            return refuse(NONE_SUCH);
        }
        return accept(now.entryCount);
    }

    public int entry(int i, int what) {
        if (i < 0 || i >= now.entryCount) {
            return refuse(NONE_SUCH);
        }
        switch (what) {
            case 0:
                return accept(at(now.entryTrack, i));
            case 1:
                return accept(at(now.entryValue, i));
            case 2:
                return accept(now.isLive(i) ? 1 : 0);
            default:
                return refuse(NONE_SUCH);
        }
    }

    public int live() {
        if (!hasDisk()) {
            return refuse(NONE_SUCH);
        }
        int count = 0;
        for (int i = 0; i < now.entryCount; i++) {
            if (now.isLive(i)) {
                count++;
            }
        }
        return accept(count);
    }

    public int extents() {
        if (!hasDisk()) {
            return refuse(NONE_SUCH);
        }
        return accept(now.extentsBegunBy(told.shape.tracks - 1));
    }

    public int extent(int i, int what) {
        int first = now.firstOfExtent(i, told.shape.tracks);
        if (first == NOTHING) {
            return refuse(NONE_SUCH);
        }
        switch (what) {
            case 0:
                return accept(first);
            case 1:
                return accept(now.extentLength(first, told.shape.tracks));
            case 2:
                return accept(now.livePlaceOf(first));
            default:
                return refuse(NONE_SUCH);
        }
    }

    public int extentFrom(int t) {
        if (!hasTrack(t)) {
            return refuse(NONE_SUCH);
        }
        int begun = now.extentsBegunBy(t);
        if (now.livePlaceOf(t) >= 0) {
            return accept(begun - 1);
        }
        return accept(begun < now.extentsBegunBy(told.shape.tracks - 1) ? begun : NOTHING);
    }

    // ---- cleaning

    public int cleansNext() {
        if (!hasDisk()) {
            return refuse(NONE_SUCH);
        }
        return accept(now.nextBand(told.shape));
    }

    public int cleansThen(int i) {
        if (!hasDisk() || i < 0) {
            return refuse(NONE_SUCH);
        }
        if (i >= told.shape.bands) {
            return accept(NOTHING);
        }
        trial.copyFrom(now);
        for (int j = 0; j < i; j++) {
            trial.dropEntriesOf(told.shape, trial.nextBand(told.shape));
        }
        return accept(trial.nextBand(told.shape));
    }

    public int steps(int b) {
        if (!hasBand(b)) {
            return refuse(NONE_SUCH);
        }
        return accept(told.shape.stepsOf(b));
    }

    public int rids(int b) {
        if (!hasBand(b)) {
            return refuse(NONE_SUCH);
        }
        return accept(now.entriesOf(told.shape, b));
    }

    public int damages(int b, int k) {
        int why = whyNoCut(b, k);
        if (why != 0) {
            return refuse(why);
        }
        tryCut(b, k);
        return accept(trial.damagedInAll(told.shape));
    }

    public int fullThen(int b, int k) {
        int why = whyNoCut(b, k);
        if (why != 0) {
            return refuse(why);
        }
        tryCut(b, k);
        return accept(trial.journalFull ? 1 : 0);
    }

    public int readThen(int b, int k, int t) {
        if (!hasTrack(t)) {
            return refuse(NONE_SUCH);
        }
        int why = whyNoCut(b, k);
        if (why != 0) {
            return refuse(why);
        }
        tryCut(b, k);
        trial.comeBack(told.shape);
        return accept(trial.valueOf(t));
    }

    public int recoversBy(int b, int k) {
        int why = whyNoCut(b, k);
        if (why != 0) {
            return refuse(why);
        }
        tryCut(b, k);
        int before = trial.trackWrites;
        trial.comeBack(told.shape);
        return accept(trial.trackWrites - before);
    }

    private int whyNoCut(int b, int k) {
        if (!hasBand(b)) {
            return NONE_SUCH;
        }
        if (k < 0 || k > told.shape.stepsOf(b)) {
            return BAD_NUMBER;
        }
        return now.isDown ? NOT_SO : 0;
    }

    private void tryCut(int b, int k) {
        trial.copyFrom(now);
        trial.cutPower(told.shape, b, k);
    }

    // ---- runs

    public int runWrites() {
        if (!hasDisk()) {
            return refuse(NONE_SUCH);
        }
        runOn(told.shape, 0);
        return accept(trial.trackWrites);
    }

    public int runCleans() {
        if (!hasDisk()) {
            return refuse(NONE_SUCH);
        }
        runOn(told.shape, 0);
        return accept(trial.cleanings);
    }

    public int runRead(int t) {
        if (!hasTrack(t)) {
            return refuse(NONE_SUCH);
        }
        runOn(told.shape, 0);
        return accept(trial.valueOf(t));
    }

    public long factor(boolean lower) {
        if (!hasDisk()) {
            return refuse(NONE_SUCH);
        }
        runOn(told.shape, 0);
        int upperWhole = trial.trackWrites;
        int lowerWhole = told.writes.count;
        int divisor = greatestDivisor(upperWhole, lowerWhole);
        if (lowerWhole == 0 || divisor == 0) {
            return accept(lower ? 1 : 0);
        }
        return accept((lower ? lowerWhole : upperWhole) / divisor);
    }

    private static int greatestDivisor(int a, int b) {
        int high = a;
        int low = b;
        // the two lose a bit at least in every two turns: 64 turns are enough for any ints
        for (int i = 0; i < 64 && low != 0; i++) {
            int rest = high % low;
            high = low;
            low = rest;
        }
        return high;
    }

    public int bySize(int n) {
        if (!hasDisk()) {
            return refuse(NONE_SUCH);
        }
        if (n < LEAST_SIZE || n > MOST_SIZE) {
            return refuse(BAD_NUMBER);
        }
        return accept(trackWritesBySize(n));
    }

    public int bestSize() {
        if (!hasDisk()) {
            return refuse(NONE_SUCH);
        }
        int best = MOST_SIZE;
        int fewest = trackWritesBySize(MOST_SIZE);
        for (int n = MOST_SIZE - 1; n >= LEAST_SIZE; n--) {
            int count = trackWritesBySize(n);
            if (count < fewest) {
                fewest = count;
                best = n;
            }
        }
        return accept(best);
    }

    private int trackWritesBySize(int n) {
        trialShape.becomeBySize(told.shape, n);
        runOn(trialShape, 0);
        return trial.trackWrites;
    }

    public int byLog(int n) {
        if (!hasDisk()) {
            return refuse(NONE_SUCH);
        }
        if (n < LEAST_PLACES || n > MOST_PLACES) {
            return refuse(BAD_NUMBER);
        }
        return accept(cleaningsByLog(n));
    }

    public int logFor(int k) {
        if (!hasDisk()) {
            return refuse(NONE_SUCH);
        }
        if (k < 0 || k > MOST_WRITES) {
            return refuse(BAD_NUMBER);
        }
        for (int n = LEAST_PLACES; n <= MOST_PLACES; n++) {
            if (cleaningsByLog(n) <= k) {
                return accept(n);
            }
        }
        return accept(NOTHING);
    }

    private int cleaningsByLog(int n) {
        trialShape.becomeByLog(told.shape, n);
        runOn(trialShape, 0);
        return trial.cleanings;
    }

    /** Plays the RUN on the trial state; the unsure writes of the set are of their other values. */
    private void runOn(Shape shape, int set) {
        trial.begin(told.had);
        for (int i = 0; i < told.writes.count; i++) {
            trial.addEntry(shape, told.writes.firstOf(i), told.valueWritten(i, set));
        }
    }

    // ---- unsure writes

    public int fits() {
        if (!hasDisk()) {
            return refuse(NONE_SUCH);
        }
        return accept(fitSets.count);
    }

    public int fitAt(int i) {
        if (!hasDisk() || i < 0 || i >= fitSets.count) {
            return refuse(NONE_SUCH);
        }
        return accept(at(fitSets.sets, i));
    }

    public int could() {
        if (!hasDisk()) {
            return refuse(NONE_SUCH);
        }
        return accept(fitSets.inSome());
    }

    public int surely() {
        if (!hasDisk()) {
            return refuse(NONE_SUCH);
        }
        return accept(fitSets.inAll());
    }

    public int ask() {
        if (!hasDisk()) {
            return refuse(NONE_SUCH);
        }
        return accept(fitSets.bestToTell(told.unsure.count));
    }

    public int askLeaves() {
        if (!hasDisk()) {
            return refuse(NONE_SUCH);
        }
        int best = fitSets.bestToTell(told.unsure.count);
        return accept(best == NOTHING ? NOTHING : fitSets.leftAtMost(best));
    }

    public int judge() {
        if (!hasDisk()) {
            return refuse(NONE_SUCH);
        }
        runOn(told.shape, 0);
        return accept(firstReadOtherwise());
    }

    /** The first read LINE that the trial state, behind a RUN, does not bear out. */
    private int firstReadOtherwise() {
        for (int i = 0; i < told.reads.count; i++) {
            if (trial.valueOf(told.reads.firstOf(i)) != told.reads.secondOf(i)) {
                return i;
            }
        }
        return NOTHING;
    }

    // ---- drawn

    public int drawnRead(int t, int seed, int n) {
        if (!hasTrack(t)) {
            return refuse(NONE_SUCH);
        }
        if (!canDraw(seed, n)) {
            return refuse(BAD_NUMBER);
        }
        tryDraws(seed, n);
        return accept(trial.valueOf(t));
    }

    public int drawnWrites(int seed, int n) {
        if (!hasDisk()) {
            return refuse(NONE_SUCH);
        }
        if (!canDraw(seed, n)) {
            return refuse(BAD_NUMBER);
        }
        tryDraws(seed, n);
        return accept(trial.trackWrites - now.trackWrites);
    }

    private static boolean canDraw(int seed, int n) {
        return seed >= 0 && seed <= MOST_SEED && n >= 0 && n <= MOST_TURNS;
    }

    private void tryDraws(int seed, int n) {
        trial.copyFrom(now);
        if (trial.isDown) {
            trial.comeBack(told.shape);
        }
        draws.seed = seed;
        for (int i = 0; i < n; i++) {
            draws.takeTurn(told.shape, trial);
        }
    }

    // ---- acts

    public int write(int t, int what) {
        if (!hasTrack(t)) {
            return refuse(NONE_SUCH);
        }
        if (what < 0 || what > MOST_VALUE) {
            return refuse(BAD_NUMBER);
        }
        if (now.isDown) {
            return refuse(NOT_SO);
        }
        history.keep(now);
        now.addEntry(told.shape, t, what);
        return accept(now.entryCount - 1);
    }

    public int clean(int b) {
        if (!hasBand(b)) {
            return refuse(NONE_SUCH);
        }
        if (now.isDown) {
            return refuse(NOT_SO);
        }
        history.keep(now);
        int before = now.entryCount;
        now.doSteps(told.shape, b, told.shape.stepsOf(b));
        return accept(before - now.entryCount);
    }

    public int cut(int b, int k) {
        int why = whyNoCut(b, k);
        if (why != 0) {
            return refuse(why);
        }
        history.keep(now);
        now.cutPower(told.shape, b, k);
        return accept(now.damagedInAll(told.shape));
    }

    public int recover() {
        if (!hasDisk()) {
            return refuse(NONE_SUCH);
        }
        if (!now.isDown) {
            return refuse(NOT_SO);
        }
        history.keep(now);
        return accept(now.comeBack(told.shape));
    }

    public boolean undo() {
        if (history.count == 0) {
            refuse(NONE_LEFT);
            return false;
        }
        history.takeBack(now);
        latestTrouble = 0;
        return true;
    }

    public int image() {
        if (!hasDisk()) {
            return refuse(NONE_SUCH);
        }
        if (imageCount >= MOST_IMAGES) {
            return refuse(NO_ROOM);
        }
        images.layIn(imageCount, now);
        imageCount++;
        return accept(imageCount - 1);
    }

    public boolean back(int image) {
        if (image < 0 || image >= imageCount) {
            refuse(NONE_SUCH);
            return false;
        }
        images.takeOut(image, now);
        history.forget();
        latestTrouble = 0;
        return true;
    }

    // ---- what is told

    public int led(int i) throws NoSuchElementException {
        int passed = 0;
        for (int t = 0; t < told.shape.tracks; t++) {
            if (now.livePlaceOf(t) < 0) {
                if (passed == i) {
                    return t;
                }
                passed++;
            }
        }
        throw new NoSuchElementException();
    }

    public int size(int what) {
        switch (what) {
            case 0:
                return told.shape.overlap;
            case 1:
                return told.shape.places;
            case 2:
                return told.shape.oldest ? 1 : 0;
            case 3:
                return told.shape.bands;
            case 4:
                return told.shape.tracks;
            case 5:
                return told.writes.count;
            case 6:
                return told.unsure.count;
            case 7:
                return told.reads.count;
            case 8:
                return now.trackWrites;
            case 9:
                return history.count;
            case 10:
                return imageCount;
            case 11:
                return tapeLength;
            default:
                return NONE;
        }
    }

    public int trouble() {
        return latestTrouble;
    }

    /** Looks at the index first, so that no index can throw. */
    private static int at(int[] row, int i) {
        return i >= 0 && i < row.length ? row[i] : 0;
    }

    /** How a disk is built: its bands, how far a TRACK reaches over the next ones, its LOG. */
    private static final class Shape {
        private final int[] firstTrack = new int[MOST_RESIZED_BANDS];
        private final int[] trackCount = new int[MOST_RESIZED_BANDS];
        private final int[] holdingBand = new int[MOST_TRACKS];
        int bands;
        int tracks;
        int overlap;
        int places;
        boolean oldest;

        void empty() {
            bands = 0;
            tracks = 0;
            overlap = 0;
            places = 0;
            oldest = false;
        }

        void addBand(int n) {
            if (bands < 0 || bands >= firstTrack.length || bands >= trackCount.length) {
                return;
            }
            firstTrack[bands] = tracks;
            trackCount[bands] = n;
            for (int t = tracks; t >= 0 && t < tracks + n && t < holdingBand.length; t++) {
                holdingBand[t] = bands;
            }
            tracks += n;
            bands++;
        }

        int firstOf(int b) {
            return at(firstTrack, b);
        }

        int tracksOf(int b) {
            return at(trackCount, b);
        }

        int stepsOf(int b) {
            return 2 * tracksOf(b) + 2;
        }

        int bandHolding(int t) {
            return at(holdingBand, t);
        }

        void becomeBySize(Shape from, int n) {
            takeRules(from);
            for (int first = 0; n > 0 && first < from.tracks; first += n) {
                addBand(Math.min(n, from.tracks - first));
            }
        }

        void becomeByLog(Shape from, int n) {
            takeRules(from);
            for (int b = 0; b < from.bands; b++) {
                addBand(from.tracksOf(b));
            }
            places = n;
        }

        private void takeRules(Shape from) {
            empty();
            overlap = from.overlap;
            places = from.places;
            oldest = from.oldest;
        }
    }

    /** LINES of one sort that tell two WHOLES each. */
    private static final class Pairs {
        private final int[] firsts;
        private final int[] seconds;
        int count;

        Pairs(int room) {
            firsts = new int[Math.max(room, 0)];
            seconds = new int[Math.max(room, 0)];
        }

        boolean hasRoom() {
            return count >= 0 && count < firsts.length && count < seconds.length;
        }

        void addPair(int first, int second) {
            if (hasRoom()) {
                firsts[count] = first;
                seconds[count] = second;
                count++;
            }
        }

        int firstOf(int i) {
            return at(firsts, i);
        }

        int secondOf(int i) {
            return at(seconds, i);
        }

        boolean hasFirst(int first) {
            for (int i = 0; i < count && i < firsts.length; i++) {
                if (firsts[i] == first) {
                    return true;
                }
            }
            return false;
        }
    }

    /** What a text tells. */
    private static final class Told {
        final Shape shape = new Shape();
        final Pairs had = new Pairs(MOST_HAS);
        final Pairs writes = new Pairs(MOST_WRITES);
        final Pairs unsure = new Pairs(MOST_UNSURE);
        final Pairs reads = new Pairs(MOST_READS);

        void empty() {
            shape.empty();
            had.count = 0;
            writes.count = 0;
            unsure.count = 0;
            reads.count = 0;
        }

        int valueWritten(int write, int set) {
            for (int j = 0; j < unsure.count; j++) {
                if ((set >> j & 1) == 1 && unsure.firstOf(j) == write) {
                    return unsure.secondOf(j);
                }
            }
            return writes.secondOf(write);
        }
    }

    /** Takes the TOKENS of a text from the left and stops at the first FAULT. */
    private static final class Parser {
        private static final int END = 0;
        private static final int WORD = 1;
        private static final int WHOLE = 2;
        private static final int SEMICOLON = 3;
        private static final int NO_TOKEN = 4;
        private static final int LONGEST_WORD = 8;
        private static final int LONGEST_WHOLE = 4;

        private final byte[] text;
        private int end;
        private Told into;
        private boolean diskTold;
        /** The TOKEN looked at: its kind, where it begins, where the next one may. */
        private int kind;
        private int start;
        private int next;
        /** The latest WHOLE taken. */
        private int taken;
        int foundFault;
        int foundPlace;

        Parser(byte[] text, Told into) {
            this.text = text;
            this.into = into;
        }

        /** The text is the first length bytes. */
        void tellAll(int length, Told result) {
            end = Math.min(length, text.length);
            into = result;
            into.empty();
            diskTold = false;
            next = 0;
            foundFault = 0;
            foundPlace = 0;
            moveOn();
            boolean more = true;
            // each LINE takes a byte at least
            for (int i = 0; more && i <= end; i++) {
                more = takeLine() && takeSemicolon();
            }
            if (foundFault == 0 && into.shape.bands == 0) {
                stopAt(LACKS, end);
            }
        }

        private boolean stopAt(int number, int place) {
            foundFault = number;
            foundPlace = place;
            return false;
        }

        private boolean takeLine() {
            int tracks = into.shape.tracks;
            if (isWord("disk")) {
                return takeDisk();
            }
            if (isWord("band")) {
                return takeBand();
            }
            if (isWord("has")) {
                return takePair(into.had, tracks, true);
            }
            if (isWord("write")) {
                return takePair(into.writes, tracks, false);
            }
            if (isWord("unsure")) {
                return takePair(into.unsure, into.writes.count, true);
            }
            if (isWord("read")) {
                return takePair(into.reads, tracks, true);
            }
            return stopAt(FORM, start);
        }

        /** False at the end of the text, too. */
        private boolean takeSemicolon() {
            if (kind == END) {
                return false;
            }
            if (kind != SEMICOLON) {
                return stopAt(FORM, start);
            }
            moveOn();
            return true;
        }

        private boolean takeDisk() {
            if (diskTold) {
                return stopAt(TWICE, start);
            }
            diskTold = true;
            moveOn();
            if (!takeWord("overlap") || !takeWhole(1, MOST_OVERLAP)) {
                return false;
            }
            into.shape.overlap = taken;
            if (!takeWord("log") || !takeWhole(LEAST_PLACES, MOST_PLACES)) {
                return false;
            }
            into.shape.places = taken;
            into.shape.oldest = isWord("oldest");
            return into.shape.oldest ? takeWord("oldest") : takeWord("fullest");
        }

        private boolean takeBand() {
            if (!takeFirstWord(into.shape.bands < MOST_BANDS)) {
                return false;
            }
            if (!takeWhole(LEAST_SIZE, MOST_SIZE)) {
                return false;
            }
            into.shape.addBand(taken);
            return true;
        }

        /** The first WHOLE of the LINE is the number of one of those told ahead. */
        private boolean takePair(Pairs pairs, int toldAhead, boolean eachOnce) {
            if (!takeFirstWord(pairs.hasRoom())) {
                return false;
            }
            int place = start;
            if (!takeWhole(0, MOST_VALUE)) {
                return false;
            }
            int first = taken;
            if (first >= toldAhead) {
                return stopAt(UNTOLD, place);
            }
            if (eachOnce && pairs.hasFirst(first)) {
                return stopAt(TWICE, place);
            }
            if (!takeWhole(0, MOST_VALUE)) {
                return false;
            }
            pairs.addPair(first, taken);
            return true;
        }

        private boolean takeFirstWord(boolean hasRoom) {
            if (!diskTold) {
                return stopAt(LACKS, start);
            }
            if (!hasRoom) {
                return stopAt(MANY, start);
            }
            moveOn();
            return true;
        }

        private boolean takeWord(String word) {
            if (!isWord(word)) {
                return stopAt(FORM, start);
            }
            moveOn();
            return true;
        }

        private boolean takeWhole(int least, int most) {
            if (kind != WHOLE) {
                return stopAt(FORM, start);
            }
            taken = 0;
            for (int i = start; i < next && i < end; i++) {
                taken = 10 * taken + byteAt(i) - '0';
            }
            if (taken < least || taken > most) {
                return stopAt(BOUNDS, start);
            }
            moveOn();
            return true;
        }

        private boolean isWord(String word) {
            if (kind != WORD || next - start != word.length()) {
                return false;
            }
            for (int i = 0; i < word.length(); i++) {
                if (byteAt(start + i) != word.charAt(i)) {
                    return false;
                }
            }
            return true;
        }

        private void moveOn() {
            start = behindRun(next, ' ', ' ');
            int sign = byteAt(start);
            if (start >= end) {
                kind = END;
                next = end;
            } else if (sign == ';') {
                kind = SEMICOLON;
                next = start + 1;
            } else if (sign >= 'a' && sign <= 'z') {
                next = behindRun(start, 'a', 'z');
                kind = next - start <= LONGEST_WORD ? WORD : NO_TOKEN;
            } else if (sign >= '0' && sign <= '9') {
                next = behindRun(start, '0', '9');
                kind = next - start <= LONGEST_WHOLE ? WHOLE : NO_TOKEN;
            } else {
                kind = NO_TOKEN;
                next = start + 1;
            }
        }

        /** The place behind the bytes from low to high that stand together from a place on. */
        private int behindRun(int from, int low, int high) {
            int place = from;
            while (place < end && byteAt(place) >= low && byteAt(place) <= high) {
                place++;
            }
            return place;
        }

        private int byteAt(int place) {
            return place >= 0 && place < end && place < text.length ? text[place] : 0;
        }
    }

    /** What lies in the bands, the LOG and the JOURNAL at one time. */
    private static final class State {
        final int[] onTrack = new int[MOST_TRACKS];
        final int[] entryTrack = new int[MOST_PLACES];
        final int[] entryValue = new int[MOST_PLACES];
        private final int[] inJournal = new int[MOST_SIZE];
        int entryCount;
        int journalCount;
        private int journalBand;
        boolean journalFull;
        boolean isDown;
        int trackWrites;
        /** Bands CLEANED to make room in the LOG. */
        int cleanings;

        void begin(Pairs had) {
            for (int t = 0; t < onTrack.length; t++) {
                onTrack[t] = 0;
            }
            for (int i = 0; i < had.count; i++) {
                int t = had.firstOf(i);
                if (t >= 0 && t < onTrack.length) {
                    onTrack[t] = had.secondOf(i);
                }
            }
            entryCount = 0;
            emptyJournal();
            isDown = false;
            trackWrites = 0;
            cleanings = 0;
        }

        void copyFrom(State from) {
            System.arraycopy(from.onTrack, 0, onTrack, 0, MOST_TRACKS);
            System.arraycopy(from.entryTrack, 0, entryTrack, 0, MOST_PLACES);
            System.arraycopy(from.entryValue, 0, entryValue, 0, MOST_PLACES);
            System.arraycopy(from.inJournal, 0, inJournal, 0, MOST_SIZE);
            entryCount = from.entryCount;
            journalCount = from.journalCount;
            journalBand = from.journalBand;
            journalFull = from.journalFull;
            isDown = from.isDown;
            trackWrites = from.trackWrites;
            cleanings = from.cleanings;
        }

        /** The PLACE of a TRACK's LIVE ENTRY, or NONE. */
        int livePlaceOf(int t) {
            for (int i = Math.min(entryCount, entryTrack.length) - 1; i >= 0; i--) {
                if (entryTrack[i] == t) {
                    return i;
                }
            }
            return NONE;
        }

        boolean isLive(int place) {
            return livePlaceOf(at(entryTrack, place)) == place;
        }

        int valueOf(int t) {
            int place = livePlaceOf(t);
            return place >= 0 ? at(entryValue, place) : at(onTrack, t);
        }

        int entriesOf(Shape shape, int b) {
            int count = 0;
            for (int i = 0; i < entryCount; i++) {
                if (shape.bandHolding(at(entryTrack, i)) == b) {
                    count++;
                }
            }
            return count;
        }

        int liveEntriesOf(Shape shape, int b) {
            int count = 0;
            for (int i = 0; i < entryCount; i++) {
                if (shape.bandHolding(at(entryTrack, i)) == b && isLive(i)) {
                    count++;
                }
            }
            return count;
        }

        int damagedOf(Shape shape, int b) {
            int count = 0;
            for (int i = 0; i < shape.tracksOf(b); i++) {
                if (at(onTrack, shape.firstOf(b) + i) == DAMAGED) {
                    count++;
                }
            }
            return count;
        }

        int damagedInAll(Shape shape) {
            int count = 0;
            for (int b = 0; b < shape.bands; b++) {
                count += damagedOf(shape, b);
            }
            return count;
        }

        private boolean beginsExtent(int t) {
            int place = livePlaceOf(t);
            return place == 0 || place > 0 && livePlaceOf(t - 1) != place - 1;
        }

        /** How many EXTENTS begin at a TRACK or ahead of it. */
        int extentsBegunBy(int last) {
            int count = 0;
            for (int t = 0; t <= last && t < MOST_TRACKS; t++) {
                if (beginsExtent(t)) {
                    count++;
                }
            }
            return count;
        }

        int firstOfExtent(int i, int tracks) {
            int passed = 0;
            for (int t = 0; t < tracks; t++) {
                if (beginsExtent(t)) {
                    if (passed == i) {
                        return t;
                    }
                    passed++;
                }
            }
            return NOTHING;
        }

        int extentLength(int first, int tracks) {
            int behind = first + 1;
            while (behind < tracks && livePlaceOf(behind) >= 0 && !beginsExtent(behind)) {
                behind++;
            }
            return behind - first;
        }

        /** The band that would be CLEANED next. */
        int nextBand(Shape shape) {
            if (entryCount == 0) {
                return NOTHING;
            }
            if (shape.oldest) {
                return shape.bandHolding(at(entryTrack, 0));
            }
            int fullest = 0;
            int most = 0;
            for (int b = 0; b < shape.bands; b++) {
                int count = entriesOf(shape, b);
                if (count > most) {
                    most = count;
                    fullest = b;
                }
            }
            return fullest;
        }

        void addEntry(Shape shape, int t, int value) {
            if (entryCount >= shape.places) {
                int b = nextBand(shape);
                doSteps(shape, b, shape.stepsOf(b));
                cleanings++;
            }
            if (entryCount >= 0 && entryCount < entryTrack.length && entryCount < entryValue.length) {
                entryTrack[entryCount] = t;
                entryValue[entryCount] = value;
                entryCount++;
                trackWrites++;
            }
        }

        /** The first k STEPS of a CLEANING. */
        void doSteps(Shape shape, int b, int k) {
            int n = shape.tracksOf(b);
            journalBand = b;
            for (int i = 0; i < n && i < k && i < inJournal.length; i++) {
                inJournal[i] = valueOf(shape.firstOf(b) + i);
                journalCount = i + 1;
                trackWrites++;
            }
            journalFull = k > n;
            for (int i = 0; i < n && i < k - n - 1; i++) {
                writeFromJournal(shape, i);
            }
            if (k >= shape.stepsOf(b)) {
                dropEntriesOf(shape, b);
                emptyJournal();
            }
        }

        private void writeFromJournal(Shape shape, int i) {
            int t = shape.firstOf(journalBand) + i;
            int behind = shape.firstOf(journalBand) + shape.tracksOf(journalBand);
            if (t < 0 || t >= onTrack.length) {
                return;
            }
            onTrack[t] = at(inJournal, i);
            for (int j = t + 1; j <= t + shape.overlap && j < behind && j < onTrack.length; j++) {
                onTrack[j] = DAMAGED;
            }
            trackWrites++;
        }

        void dropEntriesOf(Shape shape, int b) {
            int kept = 0;
            for (int i = 0; i < entryCount && i < entryTrack.length && i < entryValue.length; i++) {
                if (shape.bandHolding(entryTrack[i]) != b) {
                    // kept never passes i
                    entryTrack[kept] = entryTrack[i];
                    entryValue[kept] = entryValue[i];
                    kept++;
                }
            }
            entryCount = kept;
        }

        private void emptyJournal() {
            journalCount = 0;
            journalBand = NONE;
            journalFull = false;
        }

        void cutPower(Shape shape, int b, int k) {
            doSteps(shape, b, k);
            isDown = true;
        }

        /** RECOVERY: the band that is written, or NOTHING. */
        int comeBack(Shape shape) {
            int written = NOTHING;
            if (journalFull) {
                written = journalBand;
                for (int i = 0; i < shape.tracksOf(written); i++) {
                    writeFromJournal(shape, i);
                }
                dropEntriesOf(shape, written);
            }
            emptyJournal();
            isDown = false;
            return written;
        }
    }

    /** Room for copies of states. */
    private static final class Shelf {
        private final State[] copies;

        Shelf(int room) {
            copies = new State[Math.max(room, 0)];
            for (int i = 0; i < copies.length; i++) {
                copies[i] = new State();
            }
        }

        private State copyAt(int i) {
            return i >= 0 && i < copies.length ? copies[i] : null;
        }

        void layIn(int i, State from) {
            State copy = copyAt(i);
            if (copy != null) {
                copy.copyFrom(from);
            }
        }

        void takeOut(int i, State into) {
            State copy = copyAt(i);
            if (copy != null) {
                into.copyFrom(copy);
            }
        }
    }

    /** The ACTS that can be undone, as the states ahead of them, in a ring. */
    private static final class History {
        private final Shelf ring = new Shelf(MOST_KEPT);
        private int next;
        int count;

        void forget() {
            count = 0;
        }

        void keep(State state) {
            ring.layIn(next, state);
            next = (next + 1) % MOST_KEPT;
            count = Math.min(count + 1, MOST_KEPT);
        }

        void takeBack(State into) {
            next = (next + MOST_KEPT - 1) % MOST_KEPT;
            ring.takeOut(next, into);
            count--;
        }
    }

    /** The sets of unsure writes that fit what was read, as bits, the least first. */
    private static final class FitSets {
        final int[] sets = new int[MOST_SETS];
        int count;

        void addSet(int set) {
            if (count >= 0 && count < sets.length) {
                sets[count] = set;
                count++;
            }
        }

        int inSome() {
            int bits = 0;
            for (int i = 0; i < count; i++) {
                bits |= at(sets, i);
            }
            return bits;
        }

        int inAll() {
            int bits = count == 0 ? 0 : MOST_SETS - 1;
            for (int i = 0; i < count; i++) {
                bits &= at(sets, i);
            }
            return bits;
        }

        int leftAtMost(int unsure) {
            int having = 0;
            for (int i = 0; i < count; i++) {
                having += at(sets, i) >> unsure & 1;
            }
            return Math.max(having, count - having);
        }

        int bestToTell(int unsureCount) {
            int best = NOTHING;
            int fewest = count + 1;
            for (int j = 0; count > 0 && j < unsureCount; j++) {
                int left = leftAtMost(j);
                if (left < fewest) {
                    fewest = left;
                    best = j;
                }
            }
            return best;
        }
    }

    /** Turns by a SEED. */
    private static final class Draws {
        private static final int CUT_ONE_IN = 8;
        private static final int VALUES = 100;
        int seed;

        private int draw(int modulus) {
            seed = (75 * seed + 74) % 65537;
            return modulus > 0 ? seed % modulus : 0;
        }

        void takeTurn(Shape shape, State state) {
            int t = draw(shape.tracks);
            state.addEntry(shape, t, draw(VALUES));
            if (draw(CUT_ONE_IN) != 0) {
                return;
            }
            int b = state.nextBand(shape);
            if (b != NOTHING) {
                state.cutPower(shape, b, draw(shape.stepsOf(b) + 1));
                state.comeBack(shape);
            }
        }
    }
}
