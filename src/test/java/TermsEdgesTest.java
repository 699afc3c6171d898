import java.io.IOException;

/** The edges that the document's terms name, sentence by sentence. */
public final class TermsEdgesTest {
    private static final String HEAD = "disk overlap 1 log 3 fullest;";
    private static final String BAND = HEAD + "band 2;";
    private static Edges on;

    public static void main(String[] args) throws IOException {
        on = new Edges(args);
        on.section("I");
        tokens();
        diskLine();
        bandLines();
        hasLines();
        writeLines();
        unsureLines();
        readLines();
        faultsMet();
        faultsByNumber();
        on.section("II");
        shingles();
        log();
        writes();
        cleaning();
        cuts();
        down();
        recovery();
        extents();
        on.section("III");
        runs();
        fits();
        drawn();
        drawnCuts();
        acts();
        on.section("IV");
        trouble();
        on.end("TermsEdgesTest", "I|II|III|IV");
    }

    /** A LINE, told so often, each time with the next number for #. */
    private static String lines(String line, int count) {
        StringBuilder all = new StringBuilder();
        for (int i = 0; i < count; i++) {
            all.append(i == 0 ? "" : ";").append(line.replace("#", Integer.toString(i)));
        }
        return all.toString();
    }

    private static String padded(String text, int length, String last) {
        StringBuilder all = new StringBuilder(text);
        while (all.length() < length - last.length()) {
            all.append(' ');
        }
        return all.append(last).toString();
    }

    // ---- I

    private static void tokens() {
        on.edge("THE TEXT of a DISK (THE TAPE has 700 bytes", () -> {
            on.good(padded(BAND, 700, "band 3"), 5);
            ShingledDisk x = new ShingledDisk();
            Expect.feed(x, padded(BAND, 700, "band 3"));
            on.same("its bytes", x.size(11), 700);
            on.refused("a byte more than there is room for", x, 2, y -> y.disk(701));
            on.told("all of them", x, x.disk(700), 5);
        });
        on.edge("blanks, 32, part TOKENS and mean nothing else", () -> {
            on.good("   disk   overlap   1   log   3   fullest   ;   band   2   ", 2);
            on.good("disk overlap1log3fullest;band2", 2);
            on.fault("", "    ", 1, 4);
            on.fault(HEAD, "ba nd 2", 1, 0);
            on.fault(HEAD, "band 2;has 0 1 0", 1, 15);
            int[] others = {0, 9, 10, 13, 31, 33, 127, 128, 160, 255};
            for (int other : others) {
                on.fault(HEAD, "band" + (char) other + "2", 1, 4);
            }
        });
        on.edge("TOKENS: WORDS of 1 to 8 small letters that stand together", () -> {
            on.fault("", "d", 1, 0);
            on.fault("", "diskdisk", 1, 0);
            on.fault("", "diskdiskd", 1, 0);
            on.fault("", "diskoverlap 1 log 3 fullest;band 2", 1, 0);
            on.fault("disk overlap 1 log 3 ", "fullestt;band 2", 1, 0);
            on.fault("disk overlap 1 log 3 ", "fullesttt;band 2", 1, 0);
            on.fault("", "Disk", 1, 0);
            on.fault("", "`", 1, 0);
            on.fault("", "{", 1, 0);
            on.fault("", "disk OVERLAP", 1, 5);
        });
        on.edge("WHOLES of 1 to 4 digits that do", () -> {
            on.good(HEAD + "band 2", 2);
            on.good(HEAD + "band 0008", 8);
            on.fault(HEAD, "band 00008", 1, 5);
            on.good(BAND + "has 0001 9999", 2);
            on.fault(BAND, "has 00001 9999", 1, 4);
            on.fault(BAND, "has 1 10000", 1, 6);
            on.fault("disk overlap ", "00001 log 3 fullest;band 2", 1, 0);
            on.fault(HEAD, "band /", 1, 5);
            on.fault(HEAD, "band :", 1, 5);
        });
        on.edge("single ones of ;", () -> {
            on.fault(BAND, ";band 2", 1, 0);
            on.good(HEAD + "band 2 ; band 2", 4);
            on.fault(HEAD, "band 2:band 2", 1, 6);
            on.fault(HEAD, "band 2,band 2", 1, 6);
        });
        on.edge("LINE {; LINE}. LINE, one of:", () -> {
            on.fault("", "", 1, 0);
            on.fault("", ";", 1, 0);
            on.fault("", ";" + BAND + "band 2", 1, 0);
            on.fault(BAND, "", 1, 0);
            on.fault(BAND, " ", 1, 1);
            on.fault(HEAD, "band 2 band 2", 1, 7);
            on.fault(BAND, "bend 2", 1, 0);
            on.good(HEAD + "band 2", 2);
            on.good(BAND + "band 2", 4);
        });
    }

    private static void diskLine() {
        on.edge("disk overlap WHOLE log WHOLE HOW (1 .. 3;", () -> {
            int[] wrong = {0, 4, 5, 10, 9999};
            for (int n : wrong) {
                on.fault("disk overlap ", n + " log 3 fullest;band 2", 4, 0);
            }
            for (int n = 1; n <= 3; n++) {
                on.same("overlap " + n, on.disk("disk overlap " + n + " log 3 fullest;band 2").size(0), n);
            }
        });
        on.edge("2 .. 24;", () -> {
            int[] wrong = {0, 1, 25, 26, 9999};
            for (int n : wrong) {
                on.fault("disk overlap 1 log ", n + " fullest;band 2", 4, 0);
            }
            on.same("the least", on.disk("disk overlap 1 log 2 fullest;band 2").size(1), 2);
            on.same("the most", on.disk("disk overlap 1 log 24 fullest;band 2").size(1), 24);
        });
        on.edge("HOW: fullest, or oldest)", () -> {
            on.same("fullest", on.disk("disk overlap 1 log 2 fullest;band 2").size(2), 0);
            on.same("oldest", on.disk("disk overlap 1 log 2 oldest;band 2").size(2), 1);
            on.fault("disk overlap 1 log 2 ", "newest;band 2", 1, 0);
            on.fault("disk overlap 1 log 2", ";band 2", 1, 0);
            on.fault("disk overlap 1 log 2 ", "0;band 2", 1, 0);
            on.fault("disk overlap 1 log 2 ", "fullest oldest;band 2", 1, 8);
        });
        on.edge("ahead of all others", () -> {
            String[] others = {"band 2", "has 0 0", "write 0 0", "unsure 0 0", "read 0 0"};
            for (String other : others) {
                on.fault("", other + ";" + HEAD + "band 2", 6, 0);
            }
        });
    }

    private static void bandLines() {
        on.edge("band WHOLE (how many TRACKS, 2 .. 8", () -> {
            int[] wrong = {0, 1, 9, 10, 9999};
            for (int n : wrong) {
                on.fault(HEAD, "band " + n, 4, 5);
                on.fault(BAND, "band " + n, 4, 5);
            }
            on.good(HEAD + "band 2", 2);
            on.good(HEAD + "band 8", 8);
        });
        on.edge("8; up to 6)", () -> {
            on.good(HEAD + lines("band 8", 6), 48);
            on.fault(HEAD + lines("band 8", 6) + ";", "band 8", 5, 0);
            on.good(HEAD + lines("band 2", 6) + ";has 11 1", 12);
        });
    }

    private static void hasLines() {
        on.edge("has TRACK WHOLE (of a band told ahead", () -> {
            on.fault(HEAD, "has 0 0;band 2", 2, 4);
            on.good(BAND + "has 1 0", 2);
            on.fault(BAND, "has 2 0", 2, 4);
            on.fault(BAND, "has 2 0;band 2", 2, 4);
            on.good(BAND + "band 2;has 3 0", 4);
            on.fault(BAND, "band 2;has 4 0", 2, 11);
            on.good(BAND + "has 1 0;band 2", 4);
        });
        on.edge("told ahead; 0 .. 9,999", () -> {
            ShingledDisk x = on.disk(BAND + "has 0 0;has 1 9999");
            on.told("the least", x, x.read(0), 0);
            on.told("the most", x, x.read(1), 9999);
            on.fault(BAND, "has 0 10000", 1, 6);
        });
        on.edge("each TRACK once; those not told 0", () -> {
            on.fault(BAND, "has 1 5;has 1 5", 3, 12);
            ShingledDisk x = on.disk(BAND + "band 2;has 1 5;has 2 6");
            on.row("read", new int[] {0, 5, 6, 0}, x::read);
            on.told("a DISK told behind it", x, Expect.tell(x, HEAD + "band 4"), 4);
            on.row("read", new int[] {0, 0, 0, 0}, x::read);
        });
        on.edge("up to 12", () -> {
            String all = HEAD + "band 8;band 8;" + lines("has # 1#", 12);
            on.good(all, 16);
            on.same("the twelfth", on.disk(all).read(11), 111);
            on.fault(all + ";", "has 12 1", 5, 0);
        });
    }

    private static void writeLines() {
        on.edge("write TRACK WHOLE (likewise", () -> {
            on.fault(HEAD, "write 0 0;band 2", 2, 6);
            on.fault(BAND, "write 2 0;band 2", 2, 6);
            on.fault(BAND, "write 0 10000", 1, 8);
            ShingledDisk x = on.disk(BAND + "has 0 7;write 0 0;write 1 9999");
            on.told("the least", x, x.runRead(0), 0);
            on.told("the most", x, x.runRead(1), 9999);
            // no FAULT is told of a TRACK that is written already
            on.good(BAND + "write 1 0;write 1 0", 2);
        });
        on.edge("the RUN; up to 16", () -> {
            String all = BAND + lines("write 1 #", 16);
            ShingledDisk x = on.disk(all);
            on.same("writes", x.size(5), 16);
            on.told("the sixteenth", x, x.runRead(1), 15);
            on.fault(all + ";", "write 1 16", 5, 0);
        });
    }

    private static void unsureLines() {
        on.edge("unsure WHOLE WHOLE (a write told ahead, by its number, from 0", () -> {
            on.fault(BAND, "unsure 0 0", 2, 7);
            on.fault(BAND, "unsure 0 0;write 0 0", 2, 7);
            on.good(BAND + "write 0 0;unsure 0 0", 2);
            on.fault(BAND, "write 0 0;unsure 1 0", 2, 17);
            on.good(BAND + lines("write 1 #", 16) + ";unsure 15 0", 2);
            ShingledDisk x = on.disk(BAND + "write 0 1;write 1 2;unsure 1 3;read 1 3;read 0 1");
            on.same("the second write", x.fitAt(0), 1);
        });
        on.edge("which may have been of that, 0 .. 9,999", () -> {
            ShingledDisk x = on.disk(BAND + "write 0 5;unsure 0 0;read 0 0");
            on.same("the least", x.fitAt(0), 1);
            ShingledDisk y = on.disk(BAND + "write 0 5;unsure 0 9999;read 0 9999");
            on.same("the most", y.fitAt(0), 1);
            on.fault(BAND, "write 0 0;unsure 0 10000", 1, 19);
        });
        on.edge("each once", () -> {
            on.fault(BAND, "write 0 0;unsure 0 1;unsure 0 2", 3, 28);
            on.good(BAND + "write 0 0;write 0 0;unsure 1 1;unsure 0 1", 2);
        });
        on.edge("up to 4)", () -> {
            String all = BAND + lines("write 1 #", 5) + ";" + lines("unsure # 9", 4);
            on.same("unsure ones", on.disk(all).size(6), 4);
            on.fault(all + ";", "unsure 4 9", 5, 0);
        });
    }

    private static void readLines() {
        on.edge("or read TRACK WHOLE (what is READ behind the RUN", () -> {
            on.fault(HEAD, "read 0 0;band 2", 2, 5);
            on.fault(BAND, "read 2 0;band 2", 2, 5);
            on.good(BAND + "read 1 9999;read 0 0", 2);
            on.fault(BAND, "read 0 10000", 1, 7);
            ShingledDisk x = on.disk(BAND + "has 0 3;read 0 7;write 0 7");
            on.told("behind a write told later, too", x, x.judge(), -2);
            ShingledDisk y = on.disk(BAND + "has 0 3;read 0 3;write 0 7");
            on.told("not ahead of it", y, y.judge(), 0);
        });
        on.edge("behind the RUN; each TRACK once", () -> {
            on.fault(BAND, "read 1 1;read 1 2", 3, 14);
            on.good(BAND + "read 1 1;read 0 1", 2);
        });
        on.edge("once; up to 6)", () -> {
            String all = HEAD + "band 8;" + lines("read # 0", 6);
            on.same("read ones", on.disk(all).size(7), 6);
            on.fault(all + ";", "read 6 0", 5, 0);
            on.fault(all + ";", "read 0 0", 5, 0);
        });
    }

    private static void faultsMet() {
        on.edge("FAULTS, the first that is met from the left", () -> {
            on.fault("disk overlap ", "4 log 1 newest;has", 4, 0);
            on.fault("", "band 9 @;" + HEAD, 6, 0);
            on.fault(HEAD, "band 1;has 0 0;disk", 4, 5);
            on.fault(BAND, "has 2 @", 2, 4);
            on.fault(BAND, "@;disk", 1, 0);
            on.fault(BAND, "disk @", 3, 0);
            on.fault(BAND, "has 0 1;has 0 @", 3, 12);
            on.fault(HEAD + lines("band 8", 6) + ";", "band 9 @", 5, 0);
        });
        on.edge("of one place the least number", () -> {
            // the end lacks a TOKEN, and a band
            on.fault("", "", 1, 0);
            on.fault(HEAD, "", 1, 0);
            on.fault(HEAD, "   ", 1, 3);
            on.fault("disk overlap 1 log 3", "", 1, 0);
            // a TRACK that isn't told is out of all bounds, too
            on.fault(BAND, "has 9999 0", 2, 4);
        });
        on.edge("1 FORM: the first byte that begins no TOKEN", () -> {
            on.fault("", "@", 1, 0);
            on.fault(HEAD, "band 2-", 1, 6);
            on.fault(HEAD, "band -2", 1, 5);
            on.fault(HEAD, "band @@", 1, 5);
            on.fault(HEAD, "band 2 @", 1, 7);
            on.fault("disk overlap 1 log 3 fullest", (char) 200 + ";band 2", 1, 0);
        });
        on.edge("or TOKEN with which no DISK goes on", () -> {
            on.fault("", "2", 1, 0);
            on.fault("", "overlap", 1, 0);
            on.fault("", "risk", 1, 0);
            on.fault("", "disc", 1, 0);
            on.fault(HEAD, "hand 2", 1, 0);
            on.fault(HEAD, "bans 2", 1, 0);
            on.fault(BAND, "was 0 0", 1, 0);
            on.fault(BAND, "hat 0 0", 1, 0);
            on.fault(BAND, "writs 0 0", 1, 0);
            on.fault(BAND, "lead 0 0", 1, 0);
            on.fault(BAND, "reads 0 0", 1, 0);
            on.fault(BAND + "write 0 0;", "unsur 0 0", 1, 0);
            on.fault("disk ", "log", 1, 0);
            on.fault("disk overlap ", "log", 1, 0);
            on.fault("disk overlap 1 ", "2", 1, 0);
            on.fault("disk overlap 1 log ", "fullest", 1, 0);
            on.fault("disk overlap 1 log 2 ", "log", 1, 0);
            on.fault("disk overlap 1 log 2 fullest ", "band", 1, 0);
            on.fault(HEAD, "band ;", 1, 5);
            on.fault(HEAD, "band band", 1, 5);
            on.fault(HEAD, "band 2 2", 1, 7);
            String[] sorts = {"has", "write", "read"};
            for (String sort : sorts) {
                on.fault(BAND + sort, ";", 1, 0);
                on.fault(BAND + sort + " 0", ";", 1, 0);
                on.fault(BAND + sort + " 0 ", "band", 1, 0);
                on.fault(BAND + sort + " 0 0 ", "0", 1, 0);
            }
            on.fault(BAND + "write 0 0;unsure", ";", 1, 0);
            on.fault(BAND + "write 0 0;unsure 0 ", "read", 1, 0);
            on.fault(BAND + "write 0 0;unsure 0 0 ", "0", 1, 0);
        });
        on.edge("(the end: its place)", () -> {
            String[] unended = {"disk", "disk overlap", "disk overlap 1", "disk overlap 1 log",
                "disk overlap 1 log 3", HEAD, HEAD + "band", BAND, BAND + "has", BAND + "has 0",
                BAND + "write", BAND + "write 0", BAND + "write 0 0;unsure",
                BAND + "write 0 0;unsure 0", BAND + "read", BAND + "read 0"};
            for (String text : unended) {
                on.fault(text, "", 1, 0);
                on.fault(text + "  ", "", 1, 0);
            }
            // the end is that of the first n bytes
            ShingledDisk x = new ShingledDisk();
            Expect.feed(x, HEAD + "band 2");
            on.same("32 of 35 bytes", x.disk(33), -1);
            on.same("fault", x.fault(), 1);
            on.same("where", x.where(), 33);
        });
    }

    private static void faultsByNumber() {
        on.edge("2 a TRACK, a write that isn't told (whatever the WHOLE); at it", () -> {
            String[] sorts = {"has ", "write ", "read "};
            int[] numbers = {2, 3, 10, 9999};
            for (int n : numbers) {
                for (String sort : sorts) {
                    on.fault(BAND + sort, n + " 0", 2, 0);
                    on.fault(BAND + sort, n + " 9999", 2, 0);
                    on.fault(BAND + sort + " ", n + "", 2, 0);
                }
                on.fault(BAND + "write 0 0;unsure ", n + " 0", 2, 0);
            }
        });
        on.edge("3 a TRACK had already (has)", () -> {
            on.fault(BAND + "has 0 1;has ", "0 1", 3, 0);
            on.fault(BAND + "has 0 1;has ", "000 2", 3, 0);
            on.good(BAND + "has 0 1;read 0 1;write 0 1;has 1 1", 2);
        });
        on.edge("read already (read)", () -> {
            on.fault(BAND + "read 1 1;read 0 1;read ", "1 1", 3, 0);
            on.good(BAND + "read 0 1;has 0 1;write 0 1", 2);
        });
        on.edge("a write unsure already; at it", () -> {
            on.fault(BAND + "write 0 1;write 0 1;unsure 1 1;unsure ", "01 1", 3, 0);
            on.good(BAND + "write 0 1;write 0 1;unsure 1 1;unsure 00 1", 2);
        });
        on.edge("a second disk: at that WORD", () -> {
            on.fault(HEAD, "disk overlap 1 log 3 fullest;band 2", 3, 0);
            on.fault(BAND, " disk", 3, 1);
            on.fault(BAND, "disk 7", 3, 0);
        });
        on.edge("4 a WHOLE out of bounds; at it", () -> {
            on.fault("disk overlap  ", "0", 4, 0);
            on.fault("disk overlap 3 log  ", "25", 4, 0);
            on.fault(HEAD + "band   ", "0009", 4, 0);
        });
        on.edge("5 MANY: a LINE more of its sort than there is room for, at its first WORD", () -> {
            on.fault(HEAD + lines("band 2", 6) + "; ", "band", 5, 0);
            on.fault(HEAD + "band 8;band 8;" + lines("has # 0", 12) + "; ", "has 99", 5, 0);
            on.fault(BAND + lines("write 0 #", 16) + "; ", "write @", 5, 0);
            on.fault(BAND + lines("write 0 #", 5) + ";" + lines("unsure # 0", 4) + "; ", "unsure", 5, 0);
            on.fault(HEAD + "band 8;" + lines("read # 0", 6) + "; ", "read 7 0", 5, 0);
            // so many of one sort leave room for the others
            on.good(BAND + lines("write 0 #", 16) + ";has 0 0;unsure 0 0;read 0 0;band 2", 4);
        });
        on.edge("6 LACKS: any LINE ahead of the disk; at its WORD", () -> {
            on.fault("   ", "band", 6, 0);
            on.fault("   ", "has 0 0;" + BAND, 6, 0);
            on.fault("   ", "write", 6, 0);
            on.fault("   ", "unsure 9 9", 6, 0);
            on.fault("   ", "read ;", 6, 0);
        });
        on.edge("at the end: no band.", () -> {
            on.fault("disk overlap 1 log 3 fullest", "", 6, 0);
            on.fault("disk overlap 1 log 3 fullest   ", "", 6, 0);
        });
    }

    // ---- II

    private static void shingles() {
        on.edge("TRACKS are numbered from 0, band by band", () -> {
            ShingledDisk x = on.disk(BAND + "band 3;band 2");
            on.row("bandOf", new int[] {0, 0, 1, 1, 1, 2, 2}, x::bandOf);
            on.row("the first of", new int[] {0, 2, 5}, b -> x.band(b, 1));
        });
        on.edge("To write a TRACK in its band DAMAGES the next ones of the band, as many as overlap", () -> {
            for (int overlap = 1; overlap <= 3; overlap++) {
                for (int written = 0; written <= 8; written++) {
                    ShingledDisk x = on.disk("disk overlap " + overlap + " log 3 fullest;band 8");
                    x.cut(0, 9 + written);
                    int[] due = new int[8];
                    for (int t = written; written > 0 && t < 8 && t < written + overlap; t++) {
                        due[t] = -2;
                    }
                    on.row("overlap " + overlap + ", written " + written + ", track", due, x::track);
                }
            }
        });
        on.edge("(the GUARD behind the last one takes what is more)", () -> {
            String text = "disk overlap 3 log 3 fullest;band 2;band 2;has 2 7;has 3 8";
            ShingledDisk x = on.disk(text);
            on.told("cut", x, x.cut(0, 4), 1);
            on.row("track", new int[] {0, -2, 7, 8}, x::track);
            ShingledDisk y = on.disk(text);
            on.told("cut behind the last one", y, y.cut(0, 5), 0);
            on.row("track", new int[] {0, 0, 7, 8}, y::track);
            ShingledDisk z = on.disk(text);
            on.told("cut in the last band", z, z.cut(1, 4), 1);
            on.row("track", new int[] {0, 0, 7, -2}, z::track);
        });
    }

    private static void log() {
        on.edge("The LOG has so many PLACES", () -> {
            int[] logs = {2, 3, 23, 24};
            for (int places : logs) {
                ShingledDisk x = on.disk("disk overlap 1 log " + places + " oldest;band 8");
                for (int i = 0; i < places; i++) {
                    on.told("write " + i + " of " + places, x, x.write(i % 8, i), i);
                }
                on.same("full", x.entries(), places);
                on.same("nothing is cleaned", x.size(8), places);
                on.told("one more", x, x.write(0, 0), 0);
                on.same("16 for a cleaning", x.size(8), places + 17);
                on.same("entries", x.entries(), 1);
            }
        });
        on.edge("ENTRIES: a TRACK and what was written, the oldest ahead", () -> {
            ShingledDisk x = on.disk(HEAD + "band 8");
            x.write(7, 9999);
            x.write(0, 0);
            on.same("the oldest TRACK", x.entry(0, 0), 7);
            on.same("the oldest value", x.entry(0, 1), 9999);
            on.same("the latest TRACK", x.entry(1, 0), 0);
            on.same("the latest value", x.entry(1, 1), 0);
        });
        on.edge("An ENTRY is LIVE if no later one is of its TRACK", () -> {
            ShingledDisk x = on.disk("disk overlap 1 log 5 fullest;band 3");
            x.write(0, 1);
            on.same("the only one", x.entry(0, 2), 1);
            x.write(0, 1);
            x.write(2, 1);
            x.write(0, 1);
            on.row("live", new int[] {0, 0, 1, 1}, i -> x.entry(i, 2));
        });
        on.edge("READ of a TRACK: of its LIVE ENTRY, else of its band", () -> {
            ShingledDisk x = on.disk(HEAD + "band 2;has 0 5;has 1 6");
            on.same("of its band", x.read(0), 5);
            x.write(0, 0);
            on.same("0 of its ENTRY", x.read(0), 0);
            on.same("its band", x.track(0), 5);
            x.write(0, 9);
            on.same("of the later one", x.read(0), 9);
            on.same("the other TRACK", x.read(1), 6);
            x.clean(0);
            on.same("of its band again", x.read(0), 9);
        });
    }

    private static void writes() {
        on.edge("WRITE: an ENTRY more", () -> {
            ShingledDisk x = on.disk(HEAD + "band 2;has 0 5");
            on.same("of what it has already", x.write(0, 5), 0);
            on.same("again", x.write(0, 5), 1);
            on.same("entries", x.entries(), 2);
        });
        on.edge("If the LOG is full, a band is CLEANED ahead", () -> {
            ShingledDisk x = on.disk(HEAD + "band 2");
            x.write(0, 1);
            x.write(0, 2);
            x.write(0, 3);
            on.same("full, not cleaned", x.track(0), 0);
            on.same("its place", x.write(0, 4), 0);
            on.same("cleaned ahead of it", x.track(0), 3);
            on.same("its own value", x.read(0), 4);
            on.same("entries", x.entries(), 1);
            on.same("writes", x.size(8), 8);
        });
        on.edge("fullest: that with most ENTRIES, LIVE or not, of like ones the first", () -> {
            ShingledDisk x = on.disk("disk overlap 1 log 3 fullest;band 2;band 2;band 2");
            x.write(4, 1);
            x.write(2, 2);
            x.write(0, 3);
            on.same("of three like ones", x.write(5, 4), 2);
            on.row("the others stay", new int[] {4, 2, 5}, i -> x.entry(i, 0));
            on.same("most", x.write(2, 5), 1);
            on.row("band 2 is cleaned", new int[] {2, 2}, i -> x.entry(i, 0));
            x.write(0, 6);
            on.same("LIVE or not", x.write(0, 7), 1);
            on.row("band 1 is cleaned", new int[] {0, 0}, i -> x.entry(i, 0));
        });
        on.edge("oldest: that of the oldest ENTRY", () -> {
            ShingledDisk x = on.disk("disk overlap 1 log 3 oldest;band 2;band 2;band 2");
            x.write(4, 1);
            x.write(0, 2);
            x.write(1, 3);
            on.same("not the fullest", x.write(0, 4), 2);
            on.row("band 2 is cleaned", new int[] {0, 1, 0}, i -> x.entry(i, 0));
            on.same("all of the oldest one's band", x.write(2, 5), 0);
            x.write(4, 6);
            x.write(2, 7);
            on.same("by one that is not LIVE, too", x.write(0, 8), 1);
            on.row("band 1 is cleaned", new int[] {4, 0}, i -> x.entry(i, 0));
        });
    }

    private static ShingledDisk threeTracks() {
        ShingledDisk x = on.disk("disk overlap 1 log 5 oldest;band 3;band 2;has 0 10;has 1 11;has 2 12");
        x.write(4, 44);
        x.write(1, 21);
        x.write(3, 43);
        x.write(1, 31);
        return x;
    }

    private static void cleaning() {
        on.edge("CLEANING of a band of n TRACKS has 2n and 2 STEPS", () -> {
            for (int n = 2; n <= 8; n++) {
                int steps = 2 * n + 2;
                ShingledDisk x = on.disk(HEAD + "band " + n);
                on.told("steps", x, x.steps(0), steps);
                on.refused("one more", x, 2, y -> y.cut(0, steps + 1));
                on.told("all", x, x.cut(0, steps), 0);
            }
        });
        on.edge("n: what is READ of each TRACK, as the cleaning begins, in order, is written to the JOURNAL",
            () -> {
                int[] journal = {0, 1, 2, 3, 3};
                for (int k = 0; k <= 4; k++) {
                    ShingledDisk x = threeTracks();
                    x.cut(0, k);
                    on.told("journal", x, x.journal(), journal[k]);
                    on.row("the band as it was, track", new int[] {10, 11, 12}, x::track);
                }
                ShingledDisk x = threeTracks();
                x.cut(0, 4);
                x.recover();
                on.row("of the LIVE ENTRY or the band", new int[] {10, 31, 12}, x::track);
            });
        on.edge("1: the JOURNAL is FULL", () -> {
            ShingledDisk x = threeTracks();
            on.row("full", new int[] {0, 0, 0, 0, 1, 1, 1, 1, 0}, k -> x.fullThen(0, k));
        });
        on.edge("n: each TRACK, in order, is written in the band, from the JOURNAL", () -> {
            int[][] due = {{10, 11, 12}, {10, -2, 12}, {10, 31, -2}, {10, 31, 12}};
            for (int written = 0; written <= 3; written++) {
                ShingledDisk x = threeTracks();
                x.cut(0, 4 + written);
                on.row("track", due[written], x::track);
            }
        });
        on.edge("1: the band's ENTRIES are in the LOG no more (the others stay in their order),"
            + " the JOURNAL is empty", () -> {
                ShingledDisk x = threeTracks();
                x.cut(0, 7);
                on.same("ahead of it, entries", x.entries(), 4);
                on.same("ahead of it, journal", x.journal(), 3);
                ShingledDisk y = threeTracks();
                y.cut(0, 8);
                on.same("behind it, entries", y.entries(), 2);
                on.row("the others", new int[] {44, 43}, i -> y.entry(i, 1));
                on.same("behind it, journal", y.journal(), 0);
                on.same("behind it, recovery writes nothing", y.recover(), -2);
                ShingledDisk z = threeTracks();
                on.same("clean", z.clean(0), 2);
                on.row("the others", new int[] {44, 43}, i -> z.entry(i, 1));
                on.same("journal", z.journal(), 0);
            });
    }

    private static void cuts() {
        on.edge("CUT: a cleaning of which just so many STEPS are done", () -> {
            ShingledDisk x = threeTracks();
            x.cut(0, 0);
            on.same("none: entries", x.entries(), 4);
            on.same("none: journal", x.journal(), 0);
            on.same("none: writes", x.size(8), 4);
            on.row("none: track", new int[] {10, 11, 12, 0, 0}, x::track);
            ShingledDisk y = threeTracks();
            y.cut(0, 8);
            ShingledDisk z = threeTracks();
            z.clean(0);
            y.recover();
            on.same("all: as many writes as by a cleaning", y.size(8), z.size(8));
            on.row("all: track", new int[] {10, 31, 12, 0, 0}, y::track);
        });
        on.edge("then the disk is DOWN (behind all of them, too)", () -> {
            for (int k = 0; k <= 8; k++) {
                ShingledDisk x = threeTracks();
                x.cut(0, k);
                on.told("down behind " + k, x, x.down(), 1);
            }
        });
        on.edge("TRACK WRITES are counted: one for each ENTRY, each TRACK in the JOURNAL, in a band", () -> {
            int[] due = {0, 1, 2, 3, 3, 4, 5, 6, 6};
            for (int k = 0; k <= 8; k++) {
                ShingledDisk x = threeTracks();
                on.same("four ENTRIES", x.size(8), 4);
                x.cut(0, k);
                on.same("behind " + k, x.size(8), 4 + due[k]);
                x.recover();
                on.same("recovery behind " + k, x.size(8), 4 + due[k] + (k > 3 && k < 8 ? 3 : 0));
            }
        });
    }

    private static void down() {
        on.edge("nothing can be READ, written, cleaned, cut", () -> {
            int[] all = {0, 4, 8};
            for (int k : all) {
                ShingledDisk x = threeTracks();
                x.cut(0, k);
                on.refused("read", x, 5, y -> y.read(0));
                on.refused("read of another band", x, 5, y -> y.read(4));
                on.refused("written", x, 5, y -> y.write(0, 0));
                on.refused("cleaned", x, 5, y -> y.clean(1));
                on.refused("cut", x, 5, y -> y.cut(1, 0));
            }
        });
        on.edge("(all else is told as it is)", () -> {
            ShingledDisk x = threeTracks();
            x.cut(0, 5);
            on.told("track", x, x.track(1), -2);
            on.told("bandOf", x, x.bandOf(3), 1);
            on.told("band, DAMAGED", x, x.band(0, 4), 1);
            on.told("band, ENTRIES", x, x.band(0, 2), 2);
            on.told("wide", x, x.wide(), 6);
            on.told("journal", x, x.journal(), 3);
            on.told("entries", x, x.entries(), 4);
            on.told("entry", x, x.entry(3, 1), 31);
            on.told("live", x, x.live(), 3);
            on.told("extents", x, x.extents(), 3);
            on.told("extent", x, x.extent(0, 2), 3);
            on.told("extentFrom", x, x.extentFrom(0), 0);
            on.told("cleansNext", x, x.cleansNext(), 1);
            on.told("cleansThen", x, x.cleansThen(1), 0);
            on.told("steps", x, x.steps(0), 8);
            on.told("rids", x, x.rids(0), 2);
            on.told("runWrites", x, x.runWrites(), 0);
            on.told("runCleans", x, x.runCleans(), 0);
            on.told("runRead", x, x.runRead(1), 11);
            on.told("factor", x, x.factor(true), 1);
            on.told("bySize", x, x.bySize(2), 0);
            on.told("bestSize", x, x.bestSize(), 8);
            on.told("byLog", x, x.byLog(2), 0);
            on.told("logFor", x, x.logFor(0), 2);
            on.told("fits", x, x.fits(), 1);
            on.told("fitAt", x, x.fitAt(0), 0);
            on.told("could", x, x.could(), 0);
            on.told("surely", x, x.surely(), 0);
            on.told("ask", x, x.ask(), -2);
            on.told("askLeaves", x, x.askLeaves(), -2);
            on.told("judge", x, x.judge(), -2);
            on.told("drawnRead", x, x.drawnRead(1, 0, 0), 31);
            on.told("drawnWrites", x, x.drawnWrites(0, 0), 3);
            on.told("image", x, x.image(), 0);
            on.same("led", x.led(1), 2);
            on.same("size", x.size(8), 8);
            on.yes("undo", x.undo());
            on.yes("back", x.back(0));
            on.same("down again", x.down(), 1);
        });
    }

    private static void recovery() {
        on.edge("RECOVERY: if the JOURNAL is FULL, all TRACKS of its band are written from it, in order,"
            + " and its last STEP is done", () -> {
                for (int k = 4; k <= 7; k++) {
                    ShingledDisk x = threeTracks();
                    x.cut(0, k);
                    on.told("the band", x, x.recover(), 0);
                    on.row("track", new int[] {10, 31, 12, 0, 0}, x::track);
                    on.row("the others", new int[] {44, 43}, i -> x.entry(i, 1));
                    on.same("entries", x.entries(), 2);
                    on.same("journal", x.journal(), 0);
                }
            });
        on.edge("else it is empty then", () -> {
            int[] notFull = {0, 1, 2, 3};
            for (int k : notFull) {
                ShingledDisk x = threeTracks();
                x.cut(0, k);
                on.told("none", x, x.recover(), -2);
                on.same("journal", x.journal(), 0);
                on.same("entries", x.entries(), 4);
                on.row("track", new int[] {10, 11, 12, 0, 0}, x::track);
            }
        });
        on.edge("The disk isn't DOWN any more", () -> {
            for (int k = 0; k <= 8; k++) {
                ShingledDisk x = threeTracks();
                x.cut(0, k);
                x.recover();
                on.told("down", x, x.down(), 0);
                on.told("read", x, x.read(1), 31);
                on.told("write", x, x.write(0, 0), x.entries() - 1);
                on.told("clean", x, x.clean(1), 2);
                on.told("cut", x, x.cut(0, 1), 0);
            }
        });
    }

    private static ShingledDisk written(int... tracks) {
        ShingledDisk x = on.disk("disk overlap 1 log 9 fullest;band 2;band 2;band 2;band 2");
        for (int t : tracks) {
            x.write(t, t);
        }
        return x;
    }

    private static void extents() {
        on.edge("EXTENTS: LIVE ENTRIES of TRACKS next to each other at PLACES next to each other,"
            + " in the same order, are one", () -> {
                on.same("no ENTRY", written().extents(), 0);
                on.same("one", written(7).extents(), 1);
                on.same("two", written(4, 5).extents(), 1);
                on.same("the other order", written(5, 4).extents(), 2);
                on.same("TRACKS not next to each other", written(4, 6).extents(), 2);
                on.same("PLACES not next to each other", written(4, 0, 5).extents(), 3);
                on.same("one not LIVE", written(4, 5, 4).extents(), 2);
                on.same("LIVE behind one that is not", written(5, 4, 5).extents(), 1);
                on.same("the first and the last TRACK", written(0, 7).extents(), 2);
                on.same("the last and the first TRACK", written(7, 0).extents(), 2);
            });
        on.edge("(over the end of a band, too)", () -> {
            on.same("of two bands", written(1, 2).extents(), 1);
            on.same("how many TRACKS", written(1, 2).extent(0, 1), 2);
            on.same("all bands", written(0, 1, 2, 3, 4, 5, 6, 7).extents(), 1);
            on.same("all TRACKS", written(0, 1, 2, 3, 4, 5, 6, 7).extent(0, 1), 8);
        });
        on.edge("as few as can be", () -> {
            on.same("three in a row", written(4, 5, 6).extents(), 1);
            on.same("two by two", written(4, 5, 0, 1).extents(), 2);
            // cleaning takes out the one that stood between
            ShingledDisk x = written(0, 7, 1);
            on.same("apart", x.extents(), 3);
            x.clean(3);
            on.same("together", x.extents(), 1);
            on.same("its place", x.extent(0, 2), 0);
        });
    }

    // ---- III

    private static void runs() {
        on.edge("RUN: from the beginning on, as told", () -> {
            ShingledDisk x = on.disk("disk overlap 1 log 2 fullest;band 2;has 1 5;write 0 1;write 0 2;write 0 3");
            on.same("nothing of it is done NOW", x.entries(), 0);
            for (int i = 0; i < 3; i++) {
                on.told("writes", x, x.runWrites(), 7);
                on.told("cleans", x, x.runCleans(), 1);
                on.told("read 0", x, x.runRead(0), 3);
                on.told("read 1", x, x.runRead(1), 5);
                x.write(1, 77);
                x.write(1, 78);
                x.cut(0, 4);
                x.image();
                x.recover();
            }
            // each call by itself, behind a trial of something else
            ShingledDisk y = on.disk("disk overlap 1 log 2 fullest;band 2;write 0 1;write 0 2;write 1 3;"
                + "unsure 1 7;unsure 2 8");
            y.drawnWrites(0, 9);
            on.told("unsure writes as told", y, y.runRead(0), 2);
            y.drawnWrites(0, 9);
            on.told("unsure writes as told", y, y.runRead(1), 3);
            y.drawnWrites(0, 9);
            on.told("writes", y, y.runWrites(), 7);
            y.drawnWrites(0, 9);
            on.told("cleans", y, y.runCleans(), 1);
            y.drawnWrites(0, 9);
            on.told("upper", y, y.factor(false), 7);
            y.drawnWrites(0, 9);
            on.told("lower", y, y.factor(true), 3);
        });
        on.edge("By a size: the same TRACKS in bands of that size (the last one maybe less)", () -> {
            ShingledDisk x = on.disk("disk overlap 1 log 2 oldest;band 3;band 2;write 4 5;write 4 6;write 0 7");
            // TRACK 4 lies in a band of 1, 2, 1, then of all 5
            on.row("by 2 and", new int[] {5, 7, 5, 13, 13, 13, 13}, i -> x.bySize(2 + i));
            on.same("as told", x.runWrites(), 7);
            ShingledDisk y = on.disk("disk overlap 3 log 2 oldest;" + lines("band 8", 6)
                + ";write 47 5;write 47 6;write 0 7");
            // 48 TRACKS: the last band has 2, 3, 4, 3, 6, 6, 8
            on.row("of 48 by 2 and", new int[] {7, 9, 11, 9, 15, 15, 19}, i -> y.bySize(2 + i));
            // by 2 the last band is cleaned ahead of the third write, the first one ahead of the fourth
            ShingledDisk w = on.disk("disk overlap 3 log 2 oldest;" + lines("band 8", 6)
                + ";write 47 5;write 0 6;write 1 7;write 0 8");
            on.same("24 bands", w.bySize(2), 12);
            ShingledDisk z = on.disk("disk overlap 1 log 2 oldest;band 2;write 1 5;write 1 6;write 0 7");
            on.row("of two TRACKS by 2 and", new int[] {7, 7, 7, 7, 7, 7, 7}, i -> z.bySize(2 + i));
        });
        on.edge("all else as told", () -> {
            String run = ";band 8;write 0 0;write 3 0;write 4 0;write 1 0;write 0 0";
            // by 3: 0 | 3, 4: fullest cleans the second band, oldest the first one twice
            on.same("fullest", on.disk("disk overlap 1 log 3 fullest" + run).bySize(3), 11);
            on.same("oldest", on.disk("disk overlap 1 log 3 oldest" + run).bySize(3), 17);
            on.same("a LOG with room", on.disk("disk overlap 1 log 5 oldest" + run).bySize(3), 5);
        });
        on.edge("by a LOG: with so many PLACES", () -> {
            ShingledDisk x = on.disk("disk overlap 1 log 9 fullest;band 2;" + lines("write 1 #", 16));
            // each cleaning empties the LOG: one ahead of each n-th write but the first ones
            for (int n = 2; n <= 24; n++) {
                on.told("by " + n, x, x.byLog(n), 15 / n);
            }
            on.same("as told", x.runCleans(), 1);
            on.same("the LOG as told", x.size(1), 9);
            // by 2: fullest cleans bands 0, 0, 1; oldest 1, 0
            String run = ";band 2;band 5;write 6 0;write 0 1;write 0 2;write 6 3;write 6 4";
            on.same("fullest as told", on.disk("disk overlap 1 log 9 fullest" + run).byLog(2), 3);
            on.same("oldest as told", on.disk("disk overlap 1 log 9 oldest" + run).byLog(2), 2);
            ShingledDisk y = on.disk("disk overlap 1 log 9 fullest" + run);
            y.bySize(8);
            on.same("bands as told", y.byLog(2), 3);
        });
    }

    private static void fits() {
        String writes = "disk overlap 1 log 2 fullest;band 4;" + lines("write # 1", 4) + ";";
        on.edge("FITS: sets of unsure writes that were of the other ones by which, behind the RUN,"
            + " all is READ as told: all such", () -> {
                on.same("no unsure write", on.disk(writes + "read 0 1").fits(), 1);
                on.same("no unsure write, read otherwise", on.disk(writes + "read 0 2").fits(), 0);
                on.same("nothing read", on.disk(writes + lines("unsure # 2", 4)).fits(), 16);
                on.same("one read", on.disk(writes + lines("unsure # 2", 4) + ";read 3 2").fits(), 8);
                on.same("all read", on.disk(writes + lines("unsure # 2", 4) + ";" + lines("read # 2", 4)).fits(), 1);
                on.same("the other one is like it", on.disk(writes + "unsure 0 1;read 0 1").fits(), 2);
                on.same("never so", on.disk(writes + "unsure 0 2;read 0 3").fits(), 0);
                ShingledDisk x = on.disk("disk overlap 1 log 2 fullest;band 2;write 0 1;write 0 2;unsure 0 3;read 0 2");
                on.same("written over", x.fits(), 2);
            });
        on.edge("ASK: the unsure write by which, it being told, at most fewest FITS are left, the first such", () -> {
            ShingledDisk x = on.disk(writes + "unsure 3 2;unsure 2 2;unsure 1 2;read 3 2");
            on.told("not the one that is sure", x, x.ask(), 1);
            on.told("half", x, x.askLeaves(), 2);
            ShingledDisk y = on.disk(writes + "unsure 3 2;unsure 2 2");
            on.told("of like ones the first", y, y.ask(), 0);
            on.told("half of them", y, y.askLeaves(), 2);
        });
    }

    private static void drawn() {
        String text = "disk overlap 1 log 3 fullest;band 3;band 2;has 0 10";
        on.edge("By a SEED: n turns from NOW on", () -> {
            ShingledDisk x = on.disk(text + ";write 0 77");
            x.write(0, 11);
            x.write(4, 12);
            on.told("no turn: NOW", x, x.drawnRead(0, 5, 0), 11);
            on.told("no turn: NOW", x, x.drawnRead(4, 5, 0), 12);
            on.told("no turn: no write", x, x.drawnWrites(5, 0), 0);
            // 74, 5624: TRACK 4; then 28652
            on.told("a turn", x, x.drawnRead(4, 0, 1), 24);
            on.told("NOW stays", x, x.read(4), 12);
        });
        on.edge("each a WRITE: a DRAW mod TRACKS, one mod 100 for what", () -> {
            for (int seed = 0; seed < 300; seed++) {
                int first = next(seed);
                int second = next(first);
                ShingledDisk x = on.disk(text);
                on.told("by " + seed, x, x.drawnRead(first % 5, seed, 1), second % 100);
            }
        });
        on.edge("(SEED becomes (75 times SEED and 74) mod 65,537)", () -> {
            ShingledDisk x = on.disk(text);
            // 65474, 60886: just below 65,537; 65549 is 12, 974: just above
            on.told("872", x, x.drawnRead(4, 872, 1), 86);
            on.told("873", x, x.drawnRead(2, 873, 1), 74);
            // 65,536 becomes itself: TRACK 1, 36, cut behind 65,536 mod 9 STEPS, 7
            on.told("65,536", x, x.drawnRead(1, 65536, 1), 36);
            on.told("65,536 writes", x, x.drawnWrites(65536, 1), 10);
            on.told("65,536 by 100", x, x.drawnWrites(65536, 100), 1000);
        });
        on.edge("If the disk is DOWN, RECOVERY is ahead of all", () -> {
            for (int k = 0; k <= 8; k++) {
                ShingledDisk x = on.disk(text);
                x.write(0, 11);
                x.cut(0, k);
                int due = k > 3 && k < 8 ? 3 : 0;
                on.told("no turn, cut behind " + k, x, x.drawnWrites(0, 0), due);
                on.told("a turn, cut behind " + k, x, x.drawnWrites(0, 1), due + 1);
                on.told("read, cut behind " + k, x, x.drawnRead(0, 0, 0), 11);
                on.told("DOWN still", x, x.down(), 1);
            }
        });
    }

    private static int next(int seed) {
        return (int) ((75L * seed + 74) % 65537);
    }

    private static void drawnCuts() {
        on.edge("then a DRAW mod 8: by 0 a CUT of the band that would be cleaned next (if there is an ENTRY),"
            + " behind a DRAW mod (2n and 3) STEPS, and RECOVERY", () -> {
                for (int n = 2; n <= 8; n++) {
                    boolean[] seen = new boolean[2 * n + 3];
                    ShingledDisk x = on.disk("disk overlap 1 log 3 fullest;band " + n);
                    for (int seed = 0; seed < 65537; seed++) {
                        int third = next(next(next(seed)));
                        int k = next(third) % (2 * n + 3);
                        if (third % 8 == 0 && !seen[k]) {
                            seen[k] = true;
                            on.told(n + " TRACKS, cut behind " + k, x, x.drawnWrites(seed, 1), 1 + writesOfCut(n, k));
                        }
                    }
                    for (int k = 0; k < seen.length; k++) {
                        on.yes("a cut behind " + k, seen[k]);
                    }
                }
                // not by 1 to 7
                for (int seed = 0; seed < 100; seed++) {
                    ShingledDisk x = on.disk("disk overlap 1 log 3 fullest;band 2;band 2");
                    if (next(next(next(seed))) % 8 != 0) {
                        on.told("no cut by " + seed, x, x.drawnWrites(seed, 1), 1);
                    }
                }
            });
    }

    private static int writesOfCut(int n, int k) {
        int done = Math.min(k, n) + Math.max(0, Math.min(k - n - 1, n));
        return done + (k > n && k < 2 * n + 2 ? n : 0);
    }

    private static void acts() {
        on.edge("ACTS: WRITE, CLEAN, CUT, RECOVER", () -> {
            ShingledDisk x = on.disk(HEAD + "band 2");
            x.write(0, 1);
            on.same("a write", x.size(9), 1);
            x.clean(0);
            on.same("a cleaning", x.size(9), 2);
            x.cut(0, 0);
            on.same("a cut", x.size(9), 3);
            x.recover();
            on.same("a recovery", x.size(9), 4);
            x.image();
            x.drawnWrites(1, 100);
            x.damages(0, 5);
            x.feed(0, 0, 0, 0, 0);
            on.same("nothing else", x.size(9), 4);
            // a write that cleans a band ahead is one ACT
            for (int i = 0; i < 4; i++) {
                x.write(0, i);
            }
            on.same("with a cleaning ahead, too", x.size(9), 8);
        });
        on.edge("UNDO: the latest (16 are kept)", () -> {
            int[] counts = {1, 15, 16, 17, 18, 32, 33, 40};
            for (int count : counts) {
                ShingledDisk x = on.disk("disk overlap 1 log 24 fullest;band 2");
                for (int i = 0; i < count; i++) {
                    x.write(0, i + 1);
                }
                int kept = Math.min(count, 16);
                on.same("kept of " + count, x.size(9), kept);
                for (int i = 1; i <= kept; i++) {
                    on.yes("undo " + i, x.undo());
                    on.told("the latest left", x, x.read(0), count - i);
                }
                on.no("no more of " + count, x.undo());
                on.same("trouble", x.trouble(), 6);
                on.same("kept", x.size(9), 0);
                on.same("stays", x.read(0), count - kept);
            }
        });
        on.edge("IMAGES: up to 3", () -> {
            ShingledDisk x = on.disk(HEAD + "band 2");
            for (int i = 0; i < 3; i++) {
                on.told("image", x, x.image(), i);
            }
            on.refused("a fourth", x, 3, y -> y.image());
            on.same("images", x.size(10), 3);
        });
        on.edge("gone back to one, nothing can be undone", () -> {
            ShingledDisk x = on.disk(HEAD + "band 2");
            x.write(0, 1);
            x.image();
            x.write(0, 2);
            on.yes("back", x.back(0));
            on.same("acts", x.size(9), 0);
            on.no("undo", x.undo());
            on.same("trouble", x.trouble(), 6);
            on.same("stays", x.read(0), 1);
            x.write(0, 3);
            on.same("acts from then on", x.size(9), 1);
            on.yes("undo of those", x.undo());
            on.no("undo beyond them", x.undo());
            on.same("as by the image", x.read(0), 1);
        });
    }

    // ---- IV

    private static void trouble() {
        String text = HEAD + "band 2";
        on.edge("TROUBLE of the latest call that may be refused (those of which a number is told here)", () -> {
            ShingledDisk x = on.disk(text);
            on.same("refused", x.read(9), -1);
            for (int i = 0; i < 36; i++) {
                x.feed(0, 0, 0, 0, 0);
            }
            on.same("not of feed", x.trouble(), 1);
            x.fault();
            x.where();
            x.trouble();
            on.same("not of fault, where, trouble", x.trouble(), 1);
            x.size(0);
            x.size(99);
            on.same("not of size", x.trouble(), 1);
            x.led(0);
            on.ledThrows("led", x, 9);
            on.same("not of led", x.trouble(), 1);
            x.wide();
            on.same("of wide", x.trouble(), 0);
        });
        on.edge("0 it wasn't", () -> {
            ShingledDisk x = new ShingledDisk();
            on.same("new", x.trouble(), 0);
            x.down();
            on.same("refused", x.trouble(), 1);
            Expect.tell(x, text);
            on.same("a DISK", x.trouble(), 0);
            x.read(9);
            x.cleansNext();
            on.same("-2 is no refusal", x.trouble(), 0);
        });
        on.edge("1 there is none such", () -> on.refused("read", on.disk(text), 1, x -> x.read(2)));
        on.edge("2 a number", () -> on.refused("write", on.disk(text), 2, x -> x.write(0, 10000)));
        on.edge("3 no room", () -> {
            ShingledDisk x = on.disk(text);
            x.image();
            x.image();
            x.image();
            on.refused("image", x, 3, y -> y.image());
        });
        on.edge("4 a FAULT", () -> {
            ShingledDisk x = on.disk(text);
            on.same("disk", x.disk(0), -1);
            on.same("trouble", x.trouble(), 4);
        });
        on.edge("5 not so", () -> on.refused("recover", on.disk(text), 5, x -> x.recover()));
        on.edge("6 there is none.", () -> on.refused("undo", on.disk(text), 6, x -> x.undo() ? 0 : -1));
        on.edge("The constants: `NONE = -1`: There is none; refused.", () -> {
            on.same("NONE", ShingledDisk.NONE, -1);
            on.same("refused", new ShingledDisk().wide(), ShingledDisk.NONE);
        });
    }
}
