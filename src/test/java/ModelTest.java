import java.util.ArrayList;
import java.util.List;
import java.util.Map;
import java.util.NoSuchElementException;
import java.util.Random;

/** Drawn texts and drawn runs of calls, each answer against the Model's. */
public final class ModelTest {
    private static final int THROWN = Integer.MIN_VALUE + 5;
    private static final int CALLS = 48;
    private static final Expect E = new Expect();

    private final Random random;
    private final ShingledDisk x = new ShingledDisk();
    private final Model m = new Model();
    private String call = "";

    private ModelTest(long seed) {
        random = new Random(seed);
    }

    public static void main(String[] args) {
        for (int seed = 0; seed < 1500; seed++) {
            new ModelTest(seed).wander(seed);
        }
        for (int seed = 0; seed < 40000; seed++) {
            new ModelTest(seed + 1000000).oneText(seed);
        }
        E.end("ModelTest");
    }

    // ---- texts

    private void oneText(int seed) {
        String text = spoilt(goodText());
        Model.Text due = Model.parse(text);
        int got = Expect.tell(x, text);
        String what = "text " + seed + " [" + text + "]";
        E.same(what + " disk", got, due.fault == 0 ? due.tracks() : -1);
        E.same(what + " fault", x.fault(), due.fault);
        E.same(what + " where", x.where(), due.place);
    }

    private int upTo(int most) {
        return random.nextInt(most + 1);
    }

    /** Mostly a good text, now and then with a number off its bounds or a LINE too many. */
    private String goodText() {
        StringBuilder s = new StringBuilder("disk overlap ");
        s.append(1 + upTo(2)).append(" log ").append(2 + (upTo(3) == 0 ? upTo(22) : upTo(4)));
        s.append(random.nextBoolean() ? " fullest" : " oldest");
        int tracks = 0;
        int writes = 0;
        int bands = upTo(6);
        for (int b = 0; b <= bands; b++) {
            int size = 2 + upTo(upTo(20) == 0 ? 7 : 3);
            s.append(";band ").append(size);
            tracks += size;
        }
        int pairs = upTo(30);
        for (int i = 0; i < pairs && s.length() < 660; i++) {
            int track = upTo(60) == 0 ? upTo(60) : random.nextInt(tracks);
            int sort = upTo(9);
            if (sort < 2) {
                s.append(";has ").append(track).append(' ').append(upTo(5));
            } else if (sort < 7) {
                s.append(";write ").append(track).append(' ').append(upTo(5));
                writes++;
            } else if (sort == 7 && writes > 0) {
                s.append(";unsure ").append(random.nextInt(writes)).append(' ').append(upTo(5));
            } else {
                s.append(";read ").append(track).append(' ').append(upTo(2));
            }
        }
        return s.toString();
    }

    private String spoilt(String text) {
        if (upTo(3) == 0) {
            return text;
        }
        StringBuilder s = new StringBuilder(text);
        String signs = " ;019az@A-";
        int changes = upTo(2) + 1;
        for (int i = 0; i < changes && s.length() > 0; i++) {
            int place = upTo(s.length() - 1);
            char sign = upTo(30) == 0 ? (char) upTo(255) : signs.charAt(upTo(signs.length() - 1));
            switch (upTo(4)) {
                case 0:
                    s.setCharAt(place, sign);
                    break;
                case 1:
                    s.insert(place, sign);
                    break;
                case 2:
                    s.deleteCharAt(place);
                    break;
                case 3:
                    s.setLength(Math.max(1, place));
                    break;
                default:
                    moveLine(s);
                    break;
            }
        }
        return s.length() > 700 ? s.substring(0, 700) : s.toString();
    }

    /** Takes a LINE out and puts it elsewhere, or puts it there once more. */
    private void moveLine(StringBuilder s) {
        List<String> lines = new ArrayList<>(List.of(s.toString().split(";")));
        if (lines.isEmpty()) {
            return;
        }
        int from = upTo(lines.size() - 1);
        String line = random.nextBoolean() ? lines.get(from) : lines.remove(from);
        lines.add(upTo(lines.size()), line);
        s.setLength(0);
        s.append(String.join(";", lines));
    }

    // ---- calls

    private void wander(int seed) {
        tellBoth(goodText());
        int calls = 0;
        // the text's calls count, too
        while (calls < 400) {
            calls++;
            int sort = upTo(9) < 4 ? 40 + upTo(6) : upTo(CALLS - 1);
            long got = asked(sort);
            E.same("seed " + seed + ", call " + calls + ": " + call, got, dueOf);
            E.same("seed " + seed + ", trouble behind call " + calls + ": " + call, x.trouble(), m.trouble);
            E.same("seed " + seed + ", where behind call " + calls + ": " + call, x.where(),
                m.trouble == 4 ? m.place : -1);
        }
    }

    private void tellBoth(String text) {
        Expect.feed(x, text);
        m.tape.append(text);
        while (m.tape.length() % 20 != 0) {
            m.tape.append(' ');
        }
        E.same("disk [" + text + "]", x.disk(text.length()), m.tell(text.length()));
    }

    private long dueOf;

    private int anyTrack() {
        return m.disk == null || upTo(15) == 0 ? upTo(50) - 1 : upTo(m.disk.tracks());
    }

    private int anyBand() {
        return m.disk == null || upTo(15) == 0 ? upTo(8) - 1 : upTo(m.disk.sizes.size());
    }

    private boolean hasTrack(int t) {
        return m.disk != null && t >= 0 && t < m.disk.tracks();
    }

    private boolean hasBand(int b) {
        return m.disk != null && b >= 0 && b < m.disk.sizes.size();
    }

    private long due(long answer) {
        m.trouble = 0;
        dueOf = answer;
        return answer;
    }

    private void dueRefused(int why) {
        m.trouble = why;
        dueOf = -1;
    }

    /** Refused without a DISK; else the call's own due is told. */
    private boolean lacks() {
        if (m.disk == null) {
            dueRefused(1);
        }
        return m.disk == null;
    }

    private long asked(int sort) {
        if (sort < 12) {
            return askedOfState(sort);
        }
        if (sort < 20) {
            return askedOfCuts(sort);
        }
        if (sort < 35) {
            return askedOfRuns(sort);
        }
        if (sort < 40) {
            return askedOfRest(sort);
        }
        return acted(sort);
    }

    private long askedOfState(int sort) {
        int t = anyTrack();
        int b = anyBand();
        int what = upTo(7) - 1;
        int i = upTo(8) - 1;
        call = sort + " t " + t + " b " + b + " what " + what + " i " + i;
        Model.Disk d = m.disk;
        if (sort == 0 || sort == 1 || sort == 2 || sort == 9) {
            if (!hasTrack(t)) {
                dueRefused(1);
            } else if (sort == 0) {
                if (d.down) {
                    dueRefused(5);
                } else {
                    due(d.read(t));
                }
            } else if (sort == 1) {
                due(d.lies(t) == null ? -2 : d.lies(t));
            } else if (sort == 2) {
                due(d.bandOf(t));
            } else {
                due(dueExtentFrom(t));
            }
            return sort == 0 ? x.read(t) : sort == 1 ? x.track(t) : sort == 2 ? x.bandOf(t) : x.extentFrom(t);
        }
        if (sort == 3) {
            dueBand(b, what);
            return x.band(b, what);
        }
        if (sort == 4) {
            if (d == null || i < 0 || i >= d.log.size() || what < 0 || what > 2) {
                dueRefused(1);
            } else {
                int[] e = d.log.get(i);
                due(what < 2 ? e[what] : d.live().get(e[0]) == i ? 1 : 0);
            }
            return x.entry(i, what);
        }
        if (sort == 5) {
            if (d == null || i < 0 || i >= d.extents().size() || what < 0 || what > 2) {
                dueRefused(1);
            } else {
                due(d.extents().get(i)[what]);
            }
            return x.extent(i, what);
        }
        if (lacks()) {
            return sort == 6 ? x.wide() : sort == 7 ? x.live() : sort == 8 ? x.entries()
                : sort == 10 ? x.extents() : x.journal();
        }
        due(sort == 6 ? d.tracks() + d.overlap * (d.sizes.size() - 1) : sort == 7 ? d.live().size()
            : sort == 8 ? d.log.size() : sort == 10 ? d.extents().size() : d.journal.size());
        return sort == 6 ? x.wide() : sort == 7 ? x.live() : sort == 8 ? x.entries()
            : sort == 10 ? x.extents() : x.journal();
    }

    private int dueExtentFrom(int t) {
        List<int[]> all = m.disk.extents();
        for (int i = 0; i < all.size(); i++) {
            if (t < all.get(i)[0] + all.get(i)[1]) {
                return i;
            }
        }
        return -2;
    }

    private void dueBand(int b, int what) {
        if (!hasBand(b) || what < 0 || what > 4) {
            dueRefused(1);
            return;
        }
        Model.Disk d = m.disk;
        switch (what) {
            case 0:
                due(d.sizes.get(b));
                break;
            case 1:
                due(d.first(b));
                break;
            case 2:
                due(d.held(b));
                break;
            case 3:
                due(d.live().keySet().stream().filter(t -> d.bandOf(t) == b).count());
                break;
            default:
                due(d.bands.get(b).stream().filter(v -> v == null).count());
                break;
        }
    }

    private long askedOfCuts(int sort) {
        int b = anyBand();
        int t = upTo(5) == 0 ? anyTrack() : hasBand(b) ? m.disk.first(b) : 0;
        int k = upTo(20) - 1;
        int i = upTo(5) - 1;
        call = sort + " b " + b + " k " + k + " t " + t + " i " + i;
        Model.Disk d = m.disk;
        if (sort == 12 || sort == 13) {
            if (lacks() || sort == 13 && i < 0) {
                dueRefused(1);
            } else {
                Model.Disk c = d.copy();
                for (int j = 0; sort == 13 && j < i && c.next() >= 0; j++) {
                    c.lastStep(c.next());
                }
                due(c.next());
            }
            return sort == 12 ? x.cleansNext() : x.cleansThen(i);
        }
        if (sort == 14 || sort == 15) {
            if (!hasBand(b)) {
                dueRefused(1);
            } else {
                due(sort == 14 ? 2 * d.sizes.get(b) + 2 : d.held(b));
            }
            return sort == 14 ? x.steps(b) : x.rids(b);
        }
        if (!hasBand(b) || sort == 18 && !hasTrack(t)) {
            dueRefused(1);
        } else if (k < 0 || k > 2 * d.sizes.get(b) + 2) {
            dueRefused(2);
        } else if (d.down) {
            dueRefused(5);
        } else {
            Model.Disk c = d.copy();
            c.clean(b, k);
            int damaged = c.damaged();
            int full = c.full ? 1 : 0;
            int before = c.writes;
            c.recover();
            due(sort == 16 ? damaged : sort == 17 ? full : sort == 18 ? c.read(t) : c.writes - before);
        }
        return sort == 16 ? x.damages(b, k) : sort == 17 ? x.fullThen(b, k)
            : sort == 18 ? x.readThen(b, k, t) : x.recoversBy(b, k);
    }

    private long askedOfRuns(int sort) {
        int t = anyTrack();
        int n = upTo(26);
        int i = upTo(6) - 1;
        call = sort + " t " + t + " n " + n + " i " + i;
        if (sort == 22) {
            if (!hasTrack(t)) {
                dueRefused(1);
            } else {
                due(m.run().read(t));
            }
            return x.runRead(t);
        }
        if (!lacks()) {
            dueOfRuns(sort, n, i);
        }
        switch (sort) {
            case 20:
                return x.runWrites();
            case 21:
                return x.runCleans();
            case 23:
                return x.factor(false);
            case 24:
                return x.factor(true);
            case 25:
                return x.bySize(n);
            case 26:
                return x.bestSize();
            case 27:
                return x.byLog(n);
            case 28:
                return x.logFor(n - 2);
            case 29:
                return x.fits();
            case 30:
                return x.fitAt(i);
            case 31:
                return x.could();
            case 32:
                return x.surely();
            case 33:
                return x.ask();
            default:
                return x.askLeaves();
        }
    }

    private void dueOfRuns(int sort, int n, int i) {
        int writes = m.run().writes;
        int told = m.text.writes.size();
        int divisor = 1;
        for (int g = 1; g <= told; g++) {
            divisor = writes % g == 0 && told % g == 0 ? g : divisor;
        }
        List<Integer> fits = m.fits();
        if (sort == 20 || sort == 21) {
            due(sort == 20 ? writes : m.run().cleaned);
        } else if (sort == 23 || sort == 24) {
            due(sort == 23 ? writes / divisor : Math.max(told, 1) / divisor);
        } else if (sort == 25) {
            if (n < 2 || n > 8) {
                dueRefused(2);
            } else {
                due(m.bySize(n).writes);
            }
        } else if (sort == 26) {
            int best = 2;
            for (int size = 3; size <= 8; size++) {
                best = m.bySize(size).writes <= m.bySize(best).writes ? size : best;
            }
            due(best);
        } else if (sort == 27) {
            if (n < 2 || n > 24) {
                dueRefused(2);
            } else {
                due(m.run(m.text.sizes, n, 0).cleaned);
            }
        } else if (sort == 28) {
            int log = 2;
            while (n >= 2 && m.run(m.text.sizes, log, 0).cleaned > n - 2) {
                log++;
            }
            if (n < 2 || n > 18) {
                dueRefused(2);
            } else {
                due(log);
            }
        } else if (sort == 30 && (i < 0 || i >= fits.size())) {
            dueRefused(1);
        } else {
            due(sort == 29 ? fits.size() : sort == 30 ? fits.get(i)
                : sort == 31 ? fits.stream().reduce(0, (p, q) -> p | q)
                : sort == 32 ? (fits.isEmpty() ? 0 : fits.stream().reduce(-1, (p, q) -> p & q))
                : m.ask()[sort - 33]);
        }
    }

    private long askedOfRest(int sort) {
        int t = anyTrack();
        int seed = upTo(20) == 0 ? (random.nextBoolean() ? -1 : 65537) : upTo(65536);
        int n = upTo(20) == 0 ? (random.nextBoolean() ? -1 : 101) : upTo(100);
        int what = upTo(14) - 1;
        int i = upTo(12) - 1;
        call = sort + " t " + t + " seed " + seed + " n " + n + " what " + what + " i " + i;
        if (sort == 35) {
            if (!lacks()) {
                due(m.judge(m.run()));
            }
            return x.judge();
        }
        if (sort == 36 || sort == 37) {
            if (sort == 36 && !hasTrack(t) || m.disk == null) {
                dueRefused(1);
            } else if (seed < 0 || seed > 65536 || n < 0 || n > 100) {
                dueRefused(2);
            } else {
                Model.Disk d = m.drawn(seed, n);
                due(sort == 36 ? d.read(t) : d.writes - m.disk.writes);
            }
            return sort == 36 ? x.drawnRead(t, seed, n) : x.drawnWrites(seed, n);
        }
        if (sort == 38) {
            dueOf = dueSize(what);
            return x.size(what);
        }
        dueOf = dueLed(i);
        try {
            return x.led(i);
        } catch (NoSuchElementException e) {
            return THROWN;
        }
    }

    private int dueLed(int i) {
        List<Integer> all = new ArrayList<>();
        for (int t = 0; m.disk != null && t < m.disk.tracks(); t++) {
            if (!m.disk.live().containsKey(t)) {
                all.add(t);
            }
        }
        return i < 0 || i >= all.size() ? THROWN : all.get(i);
    }

    private int dueSize(int what) {
        if (what == 11) {
            return m.tape.length();
        }
        if (m.disk == null || what < 0 || what > 11) {
            return what < 0 || what > 11 ? -1 : 0;
        }
        Map<Integer, Integer> reads = m.text.reads;
        int[] due = {m.text.overlap, m.text.places, m.text.oldest ? 1 : 0, m.text.sizes.size(),
            m.text.tracks(), m.text.writes.size(), m.text.unsure.size(), reads.size(),
            m.disk.writes, m.undo.size(), m.images.size()};
        return due[what];
    }

    private long acted(int sort) {
        int t = anyTrack();
        int b = anyBand();
        int k = hasBand(b) ? upTo(2 * m.disk.sizes.get(b) + 4) - 1 : upTo(4);
        int value = upTo(20) == 0 ? upTo(1) * 10001 - 1 : upTo(9999);
        call = sort + " t " + t + " value " + value + " b " + b + " k " + k;
        boolean isDown = m.disk != null && m.disk.down;
        if (sort == 40 || sort == 41) {
            if (!hasTrack(t)) {
                dueRefused(1);
            } else if (value < 0 || value > 9999) {
                dueRefused(2);
            } else if (isDown) {
                dueRefused(5);
            } else {
                m.keep();
                due(m.disk.write(t, value));
            }
            return x.write(t, value);
        }
        if (sort == 42 && upTo(3) == 0) {
            if (!hasBand(b)) {
                dueRefused(1);
            } else if (isDown) {
                dueRefused(5);
            } else {
                m.keep();
                due(m.disk.held(b));
                m.disk.clean(b, 2 * m.disk.sizes.get(b) + 2);
            }
            return x.clean(b);
        }
        if (sort == 43) {
            return cutBoth(b, k, isDown);
        }
        if (sort <= 45) {
            if (!lacks()) {
                if (!isDown) {
                    dueRefused(5);
                } else {
                    m.keep();
                    due(m.disk.recover());
                }
            }
            return x.recover();
        }
        return undoOrImage(sort);
    }

    private long cutBoth(int b, int k, boolean isDown) {
        if (!hasBand(b)) {
            dueRefused(1);
        } else if (k < 0 || k > 2 * m.disk.sizes.get(b) + 2) {
            dueRefused(2);
        } else if (isDown) {
            dueRefused(5);
        } else {
            m.keep();
            m.disk.clean(b, k);
            m.disk.down = true;
            due(m.disk.damaged());
        }
        return x.cut(b, k);
    }

    private long undoOrImage(int sort) {
        int which = upTo(5) - 1;
        if (sort == 46) {
            call = "undo";
            if (m.undo.isEmpty()) {
                dueRefused(6);
                dueOf = 0;
            } else {
                m.disk = m.undo.pop();
                due(1);
            }
            return x.undo() ? 1 : 0;
        }
        if (upTo(3) > 0) {
            call = "down";
            if (!lacks()) {
                due(m.disk.down ? 1 : 0);
            }
            return x.down();
        }
        if (upTo(9) == 0) {
            call = "a new text";
            tellBoth(spoilt(goodText()));
            dueOf = m.fault;
            return x.fault();
        }
        call = "image or back " + which;
        if (random.nextBoolean()) {
            if (!lacks()) {
                if (m.images.size() == 3) {
                    dueRefused(3);
                } else {
                    m.images.add(m.disk.copy());
                    due(m.images.size() - 1);
                }
            }
            return x.image();
        }
        if (which < 0 || which >= m.images.size()) {
            dueRefused(1);
            dueOf = 0;
        } else {
            m.disk = m.images.get(which).copy();
            m.undo.clear();
            due(1);
        }
        return x.back(which) ? 1 : 0;
    }
}
