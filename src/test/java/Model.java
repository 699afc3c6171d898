import java.util.ArrayDeque;
import java.util.ArrayList;
import java.util.Collections;
import java.util.Deque;
import java.util.LinkedHashMap;
import java.util.List;
import java.util.Map;
import java.util.TreeSet;
import java.util.regex.Matcher;
import java.util.regex.Pattern;

/** A second, plainer reading of the document, with the library's collections and copies of all. */
final class Model {
    static final int NONE = -1;

    /** What a text tells. */
    static final class Text {
        int overlap;
        int places;
        boolean oldest;
        List<Integer> sizes = new ArrayList<>();
        Map<Integer, Integer> has = new LinkedHashMap<>();
        List<int[]> writes = new ArrayList<>();
        Map<Integer, Integer> unsure = new LinkedHashMap<>();
        Map<Integer, Integer> reads = new LinkedHashMap<>();
        int fault;
        int place = NONE;

        int tracks() {
            return sizes.stream().mapToInt(Integer::intValue).sum();
        }
    }

    private static final Pattern TOKEN = Pattern.compile("[a-z]+|[0-9]+|;|[^ ]");
    private static final Map<String, String[]> LINES = Map.of(
        "disk", new String[] {"overlap", "#", "log", "#", "how"},
        "band", new String[] {"#"},
        "has", new String[] {"#", "#"},
        "write", new String[] {"#", "#"},
        "unsure", new String[] {"#", "#"},
        "read", new String[] {"#", "#"});
    private static final Map<String, Integer> ROOM =
        Map.of("disk", 1, "band", 6, "has", 12, "write", 16, "unsure", 4, "read", 6);

    /** Gathers faults as place * 10 + number, and takes the least; what stands behind it is free. */
    static Text parse(String source) {
        Text text = new Text();
        TreeSet<Integer> faults = new TreeSet<>();
        List<String> tokens = new ArrayList<>();
        List<Integer> places = new ArrayList<>();
        Matcher m = TOKEN.matcher(source);
        while (m.find()) {
            tokens.add(m.group());
            places.add(m.start());
        }
        tokens.add("");
        places.add(source.length());
        Map<String, Integer> seen = new LinkedHashMap<>();
        int i = 0;
        boolean going = true;
        while (going) {
            String word = tokens.get(i);
            int wordPlace = places.get(i);
            String[] form = LINES.get(word);
            if (form == null) {
                faults.add(wordPlace * 10 + 1);
                break;
            }
            int many = seen.merge(word, 1, Integer::sum);
            if (word.equals("disk") && many > 1) {
                faults.add(wordPlace * 10 + 3);
            } else if (many > ROOM.get(word)) {
                faults.add(wordPlace * 10 + 5);
            }
            if (!seen.containsKey("disk")) {
                faults.add(wordPlace * 10 + 6);
            }
            int[] wholes = new int[2];
            int[] wholePlaces = new int[2];
            int got = 0;
            boolean oldest = false;
            i++;
            boolean formed = true;
            for (String part : form) {
                String token = tokens.get(i);
                boolean fits = part.equals("#") ? token.matches("[0-9]{1,4}")
                    : part.equals("how") ? token.equals("fullest") || token.equals("oldest")
                    : token.equals(part);
                if (!fits) {
                    faults.add(places.get(i) * 10 + 1);
                    formed = false;
                    break;
                }
                if (part.equals("#")) {
                    wholes[got] = Integer.parseInt(token);
                    wholePlaces[got] = places.get(i);
                    got++;
                }
                oldest = token.equals("oldest");
                i++;
            }
            weigh(text, faults, word, wholes, wholePlaces, got, oldest);
            if (!formed) {
                break;
            }
            String behind = tokens.get(i);
            if (!behind.equals(";")) {
                if (!behind.isEmpty()) {
                    faults.add(places.get(i) * 10 + 1);
                }
                going = false;
            }
            i++;
        }
        if (text.sizes.isEmpty()) {
            faults.add(source.length() * 10 + 6);
        }
        if (!faults.isEmpty()) {
            text.fault = faults.first() % 10;
            text.place = faults.first() / 10;
        }
        return text;
    }

    private static void weigh(Text text, TreeSet<Integer> faults, String word, int[] wholes,
            int[] places, int got, boolean oldest) {
        if (word.equals("disk")) {
            if (got > 0 && (wholes[0] < 1 || wholes[0] > 3)) {
                faults.add(places[0] * 10 + 4);
            }
            if (got > 1 && (wholes[1] < 2 || wholes[1] > 24)) {
                faults.add(places[1] * 10 + 4);
            }
            text.overlap = wholes[0];
            text.places = wholes[1];
            text.oldest = oldest;
            return;
        }
        if (word.equals("band")) {
            if (got > 0 && (wholes[0] < 2 || wholes[0] > 8)) {
                faults.add(places[0] * 10 + 4);
            }
            if (got > 0) {
                text.sizes.add(wholes[0]);
            }
            return;
        }
        if (got == 0) {
            return;
        }
        int bound = word.equals("unsure") ? text.writes.size() : text.tracks();
        if (wholes[0] >= bound) {
            faults.add(places[0] * 10 + 2);
        }
        Map<Integer, Integer> once = word.equals("has") ? text.has
            : word.equals("read") ? text.reads : word.equals("unsure") ? text.unsure : null;
        if (once == null) {
            text.writes.add(wholes.clone());
        } else {
            if (once.containsKey(wholes[0])) {
                faults.add(places[0] * 10 + 3);
            }
            once.put(wholes[0], wholes[1]);
        }
    }

    /** A disk at a time; a damaged TRACK holds null. */
    static final class Disk {
        final List<Integer> sizes;
        final int overlap;
        final int places;
        final boolean oldest;
        List<List<Integer>> bands = new ArrayList<>();
        List<int[]> log = new ArrayList<>();
        List<Integer> journal = new ArrayList<>();
        int journalBand = NONE;
        boolean full;
        boolean down;
        int writes;
        int cleaned;

        Disk(List<Integer> sizes, int overlap, int places, boolean oldest) {
            this.sizes = sizes;
            this.overlap = overlap;
            this.places = places;
            this.oldest = oldest;
            for (int size : sizes) {
                bands.add(new ArrayList<>(Collections.nCopies(size, 0)));
            }
        }

        Disk copy() {
            Disk d = new Disk(sizes, overlap, places, oldest);
            for (int b = 0; b < bands.size(); b++) {
                d.bands.set(b, new ArrayList<>(bands.get(b)));
            }
            d.log = new ArrayList<>(log);
            d.journal = new ArrayList<>(journal);
            d.journalBand = journalBand;
            d.full = full;
            d.down = down;
            d.writes = writes;
            d.cleaned = cleaned;
            return d;
        }

        int tracks() {
            return sizes.stream().mapToInt(Integer::intValue).sum();
        }

        int first(int b) {
            return sizes.subList(0, b).stream().mapToInt(Integer::intValue).sum();
        }

        int bandOf(int t) {
            int b = 0;
            while (first(b) + sizes.get(b) <= t) {
                b++;
            }
            return b;
        }

        Integer lies(int t) {
            int b = bandOf(t);
            return bands.get(b).get(t - first(b));
        }

        void lay(int t, int value) {
            int b = bandOf(t);
            bands.get(b).set(t - first(b), value);
        }

        /** TRACK to PLACE of the LIVE ENTRY. */
        Map<Integer, Integer> live() {
            Map<Integer, Integer> map = new LinkedHashMap<>();
            for (int i = 0; i < log.size(); i++) {
                map.put(log.get(i)[0], i);
            }
            return map;
        }

        int read(int t) {
            Integer place = live().get(t);
            return place != null ? log.get(place)[1] : lies(t);
        }

        long held(int b) {
            return log.stream().filter(e -> bandOf(e[0]) == b).count();
        }

        int next() {
            if (log.isEmpty()) {
                return -2;
            }
            if (oldest) {
                return bandOf(log.get(0)[0]);
            }
            int best = 0;
            for (int b = 1; b < sizes.size(); b++) {
                if (held(b) > held(best)) {
                    best = b;
                }
            }
            return best;
        }

        /** Number of damaged TRACKS of all bands. */
        int damaged() {
            int count = 0;
            for (List<Integer> band : bands) {
                count += Collections.frequency(band, null);
            }
            return count;
        }

        void inBand(int b, int i, int value) {
            List<Integer> band = bands.get(b);
            band.set(i, value);
            for (int j = 1; j <= overlap; j++) {
                if (i + j < band.size()) {
                    band.set(i + j, null);
                }
            }
            writes++;
        }

        void lastStep(int b) {
            log.removeIf(e -> bandOf(e[0]) == b);
            journal.clear();
            full = false;
        }

        void clean(int b, int steps) {
            int n = sizes.get(b);
            List<Integer> values = new ArrayList<>();
            for (int i = 0; i < n; i++) {
                values.add(read(first(b) + i));
            }
            for (int step = 0; step < steps; step++) {
                if (step < n) {
                    journalBand = b;
                    journal.add(values.get(step));
                    writes++;
                } else if (step == n) {
                    full = true;
                } else if (step <= 2 * n) {
                    inBand(b, step - n - 1, journal.get(step - n - 1));
                } else {
                    lastStep(b);
                }
            }
        }

        int write(int t, int value) {
            if (log.size() == places) {
                int b = next();
                clean(b, 2 * sizes.get(b) + 2);
                cleaned++;
            }
            log.add(new int[] {t, value});
            writes++;
            return log.size() - 1;
        }

        int recover() {
            down = false;
            if (!full) {
                journal.clear();
                return -2;
            }
            for (int i = 0; i < sizes.get(journalBand); i++) {
                inBand(journalBand, i, journal.get(i));
            }
            lastStep(journalBand);
            return journalBand;
        }

        /** EXTENTS by TRACKS: first, how many, PLACE. */
        List<int[]> extents() {
            Map<Integer, Integer> live = live();
            List<int[]> all = new ArrayList<>();
            for (int t = 0; t < tracks(); t++) {
                if (!live.containsKey(t)) {
                    continue;
                }
                int place = live.get(t);
                int[] last = all.isEmpty() ? null : all.get(all.size() - 1);
                if (last != null && last[0] + last[1] == t && last[2] + last[1] == place) {
                    last[1]++;
                } else {
                    all.add(new int[] {t, 1, place});
                }
            }
            return all;
        }
    }

    final StringBuilder tape = new StringBuilder();
    Text text;
    Disk disk;
    final Deque<Disk> undo = new ArrayDeque<>();
    final List<Disk> images = new ArrayList<>();
    int fault;
    int place = NONE;
    int trouble;

    int refuse(int why) {
        trouble = why;
        return NONE;
    }

    int tell(int n) {
        trouble = 0;
        if (n < 0 || n > tape.length()) {
            return refuse(2);
        }
        Text parsed = parse(tape.substring(0, n));
        tape.setLength(0);
        fault = parsed.fault;
        place = parsed.place;
        if (fault != 0) {
            return refuse(4);
        }
        text = parsed;
        disk = fresh(parsed.sizes, parsed.places);
        undo.clear();
        images.clear();
        return disk.tracks();
    }

    Disk fresh(List<Integer> sizes, int places) {
        Disk d = new Disk(sizes, text.overlap, places, text.oldest);
        text.has.forEach(d::lay);
        return d;
    }

    Disk run(List<Integer> sizes, int places, int set) {
        Disk d = fresh(sizes, places);
        List<Integer> unsure = new ArrayList<>(text.unsure.keySet());
        for (int i = 0; i < text.writes.size(); i++) {
            int j = unsure.indexOf(i);
            boolean other = j >= 0 && (set & 1 << j) != 0;
            d.write(text.writes.get(i)[0], other ? text.unsure.get(i) : text.writes.get(i)[1]);
        }
        return d;
    }

    Disk run() {
        return run(text.sizes, text.places, 0);
    }

    Disk bySize(int n) {
        List<Integer> sizes = new ArrayList<>();
        int left = text.tracks();
        while (left > 0) {
            sizes.add(Math.min(n, left));
            left -= n;
        }
        return run(sizes, text.places, 0);
    }

    int judge(Disk behind) {
        int i = 0;
        for (Map.Entry<Integer, Integer> read : text.reads.entrySet()) {
            if (behind.read(read.getKey()) != read.getValue()) {
                return i;
            }
            i++;
        }
        return -2;
    }

    List<Integer> fits() {
        List<Integer> sets = new ArrayList<>();
        for (int set = 0; set < 1 << text.unsure.size(); set++) {
            if (judge(run(text.sizes, text.places, set)) == -2) {
                sets.add(set);
            }
        }
        return sets;
    }

    /** ASK and what it leaves. */
    int[] ask() {
        List<Integer> sets = fits();
        int[] best = {-2, -2};
        for (int j = 0; !sets.isEmpty() && j < text.unsure.size(); j++) {
            int bit = 1 << j;
            int with = (int) sets.stream().filter(s -> (s & bit) != 0).count();
            int left = Math.max(with, sets.size() - with);
            if (best[0] == -2 || left < best[1]) {
                best = new int[] {j, left};
            }
        }
        return best;
    }

    Disk drawn(int seed, int n) {
        Disk d = disk.copy();
        if (d.down) {
            d.recover();
        }
        long s = seed;
        for (int i = 0; i < n; i++) {
            s = (s * 75 + 74) % 65537;
            int t = (int) (s % d.tracks());
            s = (s * 75 + 74) % 65537;
            d.write(t, (int) (s % 100));
            s = (s * 75 + 74) % 65537;
            if (s % 8 == 0 && !d.log.isEmpty()) {
                int b = d.next();
                s = (s * 75 + 74) % 65537;
                d.clean(b, (int) (s % (2 * d.sizes.get(b) + 3)));
                d.recover();
            }
        }
        return d;
    }

    void keep() {
        undo.push(disk.copy());
        if (undo.size() > 16) {
            undo.removeLast();
        }
    }
}
