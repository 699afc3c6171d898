import java.io.IOException;

/** The edges that the document's promises name, sentence by sentence. */
public final class PromiseEdgesTest {
    private static final int BIG = Edges.BIG;
    private static final int LOW = Edges.LOW;
    private static final String HEAD = "disk overlap 1 log 3 fullest;";
    /** TRACKS 0, 1, 2 and 3, 4. */
    private static final String TWO = HEAD + "band 3;band 2;has 0 10;has 4 40";
    private static Edges on;

    public static void main(String[] args) throws IOException {
        on = new Edges(args);
        newObject();
        feed();
        disk();
        diskRefused();
        faultAndWhere();
        read();
        track();
        bands();
        wholeDisk();
        entries();
        extents();
        extentFrom();
        cleansNext();
        cleansThen();
        stepsAndRids();
        cutsThen();
        likewise();
        runs();
        factor();
        sizes();
        logs();
        fits();
        asks();
        judge();
        drawnRead();
        drawnWrites();
        write();
        clean();
        cut();
        recover();
        undo();
        image();
        back();
        led();
        size();
        trouble();
        on.end("PromiseEdgesTest", "Promise .*");
    }

    private static void promise(int number) {
        on.section("Promise " + number);
    }

    /** A promise that is refused only if there is no DISK. */
    private static void noDisk(int number, String what, Edges.Call call) {
        promise(number);
        on.edge("NONE: 1 (no DISK)", () -> on.noDisk(what, call));
    }

    private static ShingledDisk downBehind(int k) {
        ShingledDisk x = on.disk(TWO);
        x.write(1, 21);
        x.cut(0, k);
        return x;
    }

    // ---- 1 to 5

    private static void newObject() {
        promise(1);
        on.edge("No DISK.", () -> {
            ShingledDisk x = new ShingledDisk();
            for (int what = 0; what <= 11; what++) {
                on.same("size " + what, x.size(what), 0);
            }
            on.same("trouble", x.trouble(), 0);
            on.same("fault", x.fault(), 0);
            on.same("where", x.where(), -1);
            on.ledThrows("led", x, 0);
            on.refused("wide", x, 1, y -> y.wide());
            on.refused("read", x, 1, y -> y.read(0));
            on.refused("band", x, 1, y -> y.band(0, 0));
            on.refused("undo", x, 6, y -> y.undo() ? 0 : -1);
            on.refused("back", x, 1, y -> y.back(0) ? 0 : -1);
            // one object knows nothing of another one's DISK
            on.disk(TWO).write(0, 1);
            on.same("no TRACKS", new ShingledDisk().size(4), 0);
        });
    }

    private static void feed() {
        promise(2);
        on.edge("Twenty bytes come behind THE TAPE, of each number the highest first: how many it has", () -> {
            ShingledDisk x = new ShingledDisk();
            on.same("the first", x.feed(0x6469736b, 0x206f7665, 0x726c6170, 0x2031206c, 0x6f672032), 20);
            on.same("the second", x.feed(0x2066756c, 0x6c657374, 0x3b62616e, 0x64203240, 0x40404040), 40);
            on.told("disk overlap 1 log 2 fullest;band 2", x, x.disk(35), 2);
            on.same("the first again", x.feed(0x2020206b, 0, 0, 0, 0), 20);
            x.disk(20);
            on.same("k is the fourth byte", x.where(), 3);
            int[][] high = {{-1, 0}, {0x20ffffff, 1}, {0x2020ff20, 2}, {0x20202080, 3}};
            for (int[] number : high) {
                x.feed(number[0], -1, -1, -1, -1);
                x.disk(20);
                on.same("a byte above 127 begins no TOKEN", x.fault(), 1);
                on.same("where", x.where(), number[1]);
            }
        });
        on.edge("NONE, and none comes, if there would be more than 700.", () -> {
            ShingledDisk x = new ShingledDisk();
            for (int i = 1; i <= 35; i++) {
                on.same("feed " + i, x.feed(0x20202020, 0x20202020, 0x20202020, 0x20202020, 0x20202020), 20 * i);
            }
            on.same("none comes", x.feed(0, 0, 0, 0, 0), -1);
            on.same("none of the first number, either", x.feed(0x64, 0, 0, 0, 0), -1);
            on.same("700 bytes", x.size(11), 700);
            x.disk(700);
            on.same("the end of 700 blanks", x.where(), 700);
            on.same("room again", x.feed(0, 0, 0, 0, 0), 20);
        });
    }

    private static void disk() {
        promise(3);
        on.edge("The first n bytes of THE TAPE (it is empty then)", () -> {
            String text = HEAD + "band 3;band 8@@@@@@@";
            ShingledDisk x = new ShingledDisk();
            Expect.feed(x, text);
            on.told("up to the first band", x, x.disk(HEAD.length() + 6), 3);
            on.same("the rest is gone, too", x.size(11), 0);
            on.refused("of an empty TAPE", x, 2, y -> y.disk(1));
            Expect.feed(x, text);
            on.told("up to the second band", x, x.disk(HEAD.length() + 13), 11);
            Expect.feed(x, text);
            on.same("a byte more", x.disk(HEAD.length() + 14), -1);
            on.same("FORM", x.fault(), 1);
            on.same("at it", x.where(), HEAD.length() + 13);
            on.same("empty behind a FAULT, too", x.size(11), 0);
            on.same("no byte of an empty TAPE", x.disk(0), -1);
            on.same("a FAULT", x.trouble(), 4);
            on.same("at the end", x.where(), 0);
            Expect.feed(x, text);
            on.same("no byte of a TAPE", x.disk(0), -1);
            on.same("a FAULT", x.trouble(), 4);
            on.same("empty", x.size(11), 0);
        });
        on.edge("are the DISK from now on (an empty LOG, no TRACK WRITE counted; nothing to undo, no IMAGES)",
            () -> {
                ShingledDisk x = on.disk(TWO + ";write 0 1;unsure 0 2;read 0 2");
                x.write(0, 5);
                x.image();
                x.cut(0, 5);
                Expect.tell(x, HEAD + "band 4;has 3 7");
                on.told("entries", x, x.entries(), 0);
                on.told("not DOWN", x, x.down(), 0);
                on.told("journal", x, x.journal(), 0);
                on.row("track", new int[] {0, 0, 0, 7}, x::track);
                for (int what = 5; what <= 11; what++) {
                    on.same("size " + what, x.size(what), 0);
                }
                on.told("fits", x, x.fits(), 1);
                on.no("undo", x.undo());
                on.same("nothing to undo", x.trouble(), 6);
                on.no("back", x.back(0));
                on.same("no IMAGE", x.trouble(), 1);
                on.told("the first IMAGE", x, x.image(), 0);
                // nothing of a text is left behind the next one, the next but one, or one with a FAULT
                String much = TWO + ";write 0 1;write 1 2;unsure 1 3;read 0 1;read 1 3";
                for (int i = 0; i < 4; i++) {
                    on.told("much", x, Expect.tell(x, much), 5);
                    on.told("much, fits", x, x.fits(), 1);
                    on.same("a FAULT", Expect.tell(x, much + ";read 2 0;read 3 0;has 9"), -1);
                    on.told("little", x, Expect.tell(x, "disk overlap 2 log 7 oldest;band 2"), 2);
                    int[] due = {2, 7, 1, 1, 2, 0, 0, 0, 0, 0, 0, 0};
                    on.row("little, size", due, x::size);
                    on.row("little, read", new int[] {0, 0}, x::read);
                    on.told("little, fits", x, x.fits(), 1);
                    on.told("little, runWrites", x, x.runWrites(), 0);
                }
            });
        on.edge("how many TRACKS", () -> {
            on.good(HEAD + "band 2", 2);
            on.good(HEAD + "band 8;band 8;band 8;band 8;band 8;band 8", 48);
        });
    }

    private static void diskRefused() {
        on.edge("NONE: 2 (THE TAPE stays)", () -> {
            ShingledDisk x = new ShingledDisk();
            on.refused("of no byte", x, 2, y -> y.disk(1));
            on.refused("of no byte", x, 2, y -> y.disk(-1));
            Expect.feed(x, HEAD + "band 2");
            on.same("its bytes", x.size(11), 40);
            on.outOf("disk", x, 2, 0, 40, x::disk);
            on.told("what stayed", x, x.disk(35), 2);
        });
        on.edge("4 (the DISK stays)", () -> {
            ShingledDisk x = downBehind(5);
            x.image();
            String before = Edges.look(x).replaceFirst(" 0 1 3 :", " # 1 3 :");
            String[] faulty = {"", "disk overlap 3 log 9 oldest", HEAD + "band 8;has 0 9;has 8 9", "band 2"};
            for (String text : faulty) {
                on.same(text, Expect.tell(x, text), -1);
                on.same("a FAULT", x.trouble(), 4);
                String after = Edges.look(x).replaceFirst(" \\d 1 3 :", " # 1 3 :");
                on.yes(before + " stays, not " + after, before.equals(after));
            }
            on.told("recover", x, x.recover(), 0);
            on.told("read", x, x.read(1), 21);
            on.yes("undo", x.undo());
            on.yes("back", x.back(0));
        });
    }

    private static void faultAndWhere() {
        promise(4);
        on.edge("The FAULT of the latest disk() not refused by 2", () -> {
            ShingledDisk x = new ShingledDisk();
            Expect.tell(x, "band 2");
            on.same("6", x.fault(), 6);
            x.disk(-1);
            on.same("refused by 2", x.fault(), 6);
            x.read(0);
            on.same("behind another call", x.fault(), 6);
            Expect.tell(x, HEAD + "band 1");
            on.same("the latest", x.fault(), 4);
        });
        on.edge("0 without one.", () -> {
            ShingledDisk x = new ShingledDisk();
            on.same("no disk() yet", x.fault(), 0);
            x.disk(5);
            on.same("refused by 2 alone", x.fault(), 0);
            Expect.tell(x, "band 2");
            Expect.tell(x, TWO);
            on.same("a good text behind a FAULT", x.fault(), 0);
            x.disk(5);
            on.same("refused by 2", x.fault(), 0);
        });
        promise(5);
        on.edge("Its place, if the latest call that may be refused was by 4", () -> {
            ShingledDisk x = new ShingledDisk();
            Expect.tell(x, "  band 2");
            on.same("where", x.where(), 2);
            x.fault();
            x.trouble();
            x.size(0);
            x.feed(0, 0, 0, 0, 0);
            on.ledThrows("led", x, 0);
            on.same("behind calls that may not be refused", x.where(), 2);
            x.disk(0);
            on.same("the latest", x.where(), 0);
        });
        on.edge("NONE else.", () -> {
            ShingledDisk x = new ShingledDisk();
            on.same("new", x.where(), -1);
            Expect.tell(x, "  band 2");
            x.disk(5);
            on.same("behind 2", x.where(), -1);
            Expect.tell(x, "  band 2");
            x.wide();
            on.same("behind 1", x.where(), -1);
            Expect.tell(x, "  band 2");
            x.undo();
            on.same("behind 6", x.where(), -1);
            Expect.tell(x, TWO);
            on.same("behind a good text", x.where(), -1);
            Expect.tell(x, "  band 2");
            x.wide();
            on.same("behind a call that wasn't refused", x.where(), -1);
        });
    }

    // ---- 6 to 12

    private static void read() {
        promise(6);
        on.edge("READ. NONE: 1;", () -> {
            on.noDisk("read", x -> x.read(0));
            ShingledDisk x = on.disk(TWO);
            on.noneSuch("read", x, 5, x::read);
            x.cut(0, 0);
            on.refused("none such, DOWN", x, 1, y -> y.read(5));
        });
        on.edge("5 (DOWN)", () -> {
            int[] all = {0, 3, 4, 7, 8};
            for (int k : all) {
                on.refused("behind " + k, downBehind(k), 5, x -> x.read(4));
            }
        });
    }

    private static void track() {
        promise(7);
        on.edge("What lies on a TRACK in its band; -2 it is DAMAGED.", () -> {
            ShingledDisk x = downBehind(5);
            on.row("track", new int[] {10, -2, 0, 0, 40}, x::track);
            on.told("DAMAGED is no refusal", x, x.track(1), -2);
            x.recover();
            on.row("track", new int[] {10, 21, 0, 0, 40}, x::track);
        });
        on.edge("NONE: 1.", () -> {
            on.noDisk("track", x -> x.track(0));
            ShingledDisk x = on.disk(TWO);
            on.noneSuch("track", x, 5, x::track);
        });
    }

    private static void bands() {
        promise(8);
        on.edge("The band of a TRACK.", () -> {
            ShingledDisk x = on.disk(TWO);
            on.row("bandOf", new int[] {0, 0, 0, 1, 1}, x::bandOf);
        });
        on.edge("NONE: 1.", () -> {
            on.noDisk("bandOf", x -> x.bandOf(0));
            ShingledDisk x = on.disk(TWO);
            on.noneSuch("bandOf", x, 5, x::bandOf);
        });
        promise(9);
        on.edge("Of a band 0 how many TRACKS, 1 its first, 2 ENTRIES, 3 LIVE ones, 4 DAMAGED TRACKS.", () -> {
            ShingledDisk x = on.disk(TWO);
            on.row("an empty LOG", new int[] {3, 0, 0, 0, 0}, what -> x.band(0, what));
            x.write(3, 1);
            x.write(3, 2);
            x.write(4, 3);
            x.cut(1, 4);
            on.row("a full LOG", new int[] {2, 3, 3, 2, 1}, what -> x.band(1, what));
            on.row("the other band", new int[] {3, 0, 0, 0, 0}, what -> x.band(0, what));
            ShingledDisk y = on.disk(TWO);
            y.write(3, 1);
            y.write(0, 2);
            y.write(0, 3);
            on.row("the first ENTRY's", new int[] {2, 3, 1, 1, 0}, what -> y.band(1, what));
            on.row("the last ENTRY's", new int[] {3, 0, 2, 1, 0}, what -> y.band(0, what));
        });
        on.edge("NONE: 1.", () -> {
            on.noDisk("band", x -> x.band(0, 0));
            ShingledDisk x = on.disk(TWO);
            for (int what = 0; what <= 4; what++) {
                int asked = what;
                on.noneSuch("band, " + what, x, 2, b -> x.band(b, asked));
            }
            on.noneSuch("what", x, 5, what -> x.band(1, what));
        });
    }

    private static void wholeDisk() {
        promise(10);
        on.edge("How many TRACKS wide the disk is: all bands, behind each one but the last a GUARD as wide as"
            + " the overlap.", () -> {
                for (int overlap = 1; overlap <= 3; overlap++) {
                    String head = "disk overlap " + overlap + " log 3 fullest;";
                    on.same("one band", on.disk(head + "band 2").wide(), 2);
                    on.same("two bands", on.disk(head + "band 3;band 2").wide(), 5 + overlap);
                    on.same("six bands", on.disk(head + "band 8;band 8;band 8;band 8;band 8;band 8").wide(),
                        48 + 5 * overlap);
                }
            });
        noDisk(10, "wide", x -> x.wide());
        promise(11);
        on.edge("1 if it is DOWN, else 0.", () -> {
            on.same("new", on.disk(TWO).down(), 0);
            on.same("behind no STEP", downBehind(0).down(), 1);
            on.same("behind all STEPS", downBehind(8).down(), 1);
            ShingledDisk x = downBehind(5);
            x.recover();
            on.same("recovered", x.down(), 0);
        });
        noDisk(11, "down", x -> x.down());
        promise(12);
        on.edge("How many TRACKS are in the JOURNAL (written so far).", () ->
            on.row("behind", new int[] {0, 1, 2, 3, 3, 3, 3, 3, 0}, k -> downBehind(k).journal()));
        noDisk(12, "journal", x -> x.journal());
    }

    // ---- 13 to 18

    private static void entries() {
        promise(13);
        on.edge("How many ENTRIES.", () -> {
            ShingledDisk x = on.disk(HEAD + "band 2");
            int[] due = {0, 1, 2, 3, 1, 2, 3, 1};
            for (int i = 0; i < due.length; i++) {
                on.told("behind " + i, x, x.entries(), due[i]);
                x.write(0, i);
            }
        });
        noDisk(13, "entries", x -> x.entries());
        promise(14);
        on.edge("Of the i-th 0 its TRACK, 1 what was written, 2 1 if it is LIVE.", () -> {
            ShingledDisk x = on.disk(TWO);
            x.write(4, 9999);
            x.write(0, 0);
            x.write(4, 7);
            on.row("the first", new int[] {4, 9999, 0}, what -> x.entry(0, what));
            on.row("the second", new int[] {0, 0, 1}, what -> x.entry(1, what));
            on.row("the last", new int[] {4, 7, 1}, what -> x.entry(2, what));
        });
        on.edge("NONE: 1 (i, too).", () -> {
            on.refused("no DISK", new ShingledDisk(), 1, x -> x.entry(0, 0));
            ShingledDisk x = on.disk(TWO);
            on.noneSuch("an empty LOG", x, 0, i -> x.entry(i, 0));
            x.write(4, 1);
            x.write(4, 2);
            for (int what = 0; what <= 2; what++) {
                int asked = what;
                on.noneSuch("entry, " + what, x, 2, i -> x.entry(i, asked));
            }
            on.noneSuch("what", x, 3, what -> x.entry(1, what));
            x.write(4, 3);
            x.write(4, 4);
            on.noneSuch("behind a cleaning", x, 1, i -> x.entry(i, 1));
        });
        promise(15);
        on.edge("How many ENTRIES are LIVE.", () -> {
            ShingledDisk x = on.disk(TWO);
            on.told("none", x, x.live(), 0);
            x.write(0, 1);
            on.told("one", x, x.live(), 1);
            x.write(0, 2);
            on.told("one of two", x, x.live(), 1);
            x.write(4, 3);
            on.told("two of three", x, x.live(), 2);
            x.clean(0);
            on.told("one of one", x, x.live(), 1);
        });
        noDisk(15, "live", x -> x.live());
    }

    /** Six TRACKS in the LOG: 4, 0, 1, 7, 2 and 4 again. */
    private static ShingledDisk scattered() {
        ShingledDisk x = on.disk("disk overlap 1 log 9 fullest;band 3;band 3;band 3");
        int[] tracks = {4, 0, 1, 7, 2, 4};
        for (int t : tracks) {
            x.write(t, t);
        }
        return x;
    }

    private static void extents() {
        promise(16);
        on.edge("EXTENTS: how many.", () -> {
            on.same("an empty LOG", on.disk(TWO).extents(), 0);
            // 0, 1 | 2 | 4 | 7
            on.same("scattered", scattered().extents(), 4);
            ShingledDisk x = scattered();
            x.clean(2);
            // 4, 0, 1, 2, 4: 0, 1, 2 | 4
            on.same("moved together", x.extents(), 2);
        });
        noDisk(16, "extents", x -> x.extents());
        promise(17);
        on.edge("Of the i-th, by TRACKS, 0 its first TRACK, 1 how many, 2 the PLACE of the first.", () -> {
            ShingledDisk x = scattered();
            on.row("0 and 1", new int[] {0, 2, 1}, what -> x.extent(0, what));
            on.row("2", new int[] {2, 1, 4}, what -> x.extent(1, what));
            on.row("4", new int[] {4, 1, 5}, what -> x.extent(2, what));
            on.row("7", new int[] {7, 1, 3}, what -> x.extent(3, what));
        });
        on.edge("NONE: 1 (i, too).", () -> {
            on.refused("no DISK", new ShingledDisk(), 1, x -> x.extent(0, 0));
            ShingledDisk x = on.disk(TWO);
            on.noneSuch("an empty LOG", x, 0, i -> x.extent(i, 0));
            ShingledDisk y = scattered();
            for (int what = 0; what <= 2; what++) {
                int asked = what;
                on.noneSuch("extent, " + what, y, 4, i -> y.extent(i, asked));
            }
            on.noneSuch("what", y, 3, what -> y.extent(3, what));
        });
    }

    private static void extentFrom() {
        promise(18);
        on.edge("The EXTENT that has a TRACK, or the next one behind it, by TRACKS; -2 none.", () -> {
            ShingledDisk x = scattered();
            on.row("from", new int[] {0, 0, 1, 2, 2, 3, 3, 3, -2}, x::extentFrom);
            on.told("none is no refusal", x, x.extentFrom(8), -2);
            ShingledDisk y = on.disk(TWO);
            on.row("an empty LOG, from", new int[] {-2, -2, -2, -2, -2}, y::extentFrom);
            y.write(4, 1);
            on.row("the last TRACK, from", new int[] {0, 0, 0, 0, 0}, y::extentFrom);
            ShingledDisk z = on.disk(TWO);
            z.write(0, 1);
            on.row("the first TRACK, from", new int[] {0, -2, -2, -2, -2}, z::extentFrom);
        });
        on.edge("NONE: 1.", () -> {
            on.noDisk("extentFrom", x -> x.extentFrom(0));
            ShingledDisk x = scattered();
            on.noneSuch("extentFrom", x, 9, x::extentFrom);
        });
    }

    // ---- 19 to 26

    private static void cleansNext() {
        promise(19);
        on.edge("The band that would be CLEANED next; -2 there is no ENTRY.", () -> {
            String[] hows = {"fullest", "oldest"};
            for (String how : hows) {
                ShingledDisk x = on.disk("disk overlap 1 log 3 " + how + ";band 2;band 2");
                on.told("no ENTRY, " + how, x, x.cleansNext(), -2);
                x.write(3, 1);
                on.told("one ENTRY, " + how, x, x.cleansNext(), 1);
                x.write(0, 1);
                on.told("like ones, " + how, x, x.cleansNext(), how.equals("oldest") ? 1 : 0);
                x.write(3, 1);
                on.told("LIVE or not, " + how, x, x.cleansNext(), 1);
                x.clean(1);
                x.clean(0);
                on.told("no ENTRY again, " + how, x, x.cleansNext(), -2);
            }
        });
        noDisk(19, "cleansNext", x -> x.cleansNext());
    }

    private static void cleansThen() {
        promise(20);
        on.edge("The i-th band that would be, if no ENTRY came between; -2 none.", () -> {
            ShingledDisk x = on.disk("disk overlap 1 log 9 fullest;band 2;band 2;band 2");
            on.row("an empty LOG", new int[] {-2, -2, -2, -2}, x::cleansThen);
            x.write(4, 0);
            on.row("one band", new int[] {2, -2, -2, -2}, x::cleansThen);
            x.write(0, 0);
            x.write(2, 0);
            x.write(2, 0);
            on.row("fullest", new int[] {1, 0, 2, -2, -2}, x::cleansThen);
            on.told("the greatest i", x, x.cleansThen(BIG), -2);
            ShingledDisk y = on.disk("disk overlap 1 log 9 oldest;band 2;band 2;band 2");
            y.write(4, 0);
            y.write(0, 0);
            y.write(4, 0);
            y.write(2, 0);
            on.row("oldest", new int[] {2, 0, 1, -2, -2}, y::cleansThen);
            on.told("nothing is cleaned", y, y.entries(), 4);
        });
        on.edge("NONE: 1 (no DISK; i below 0).", () -> {
            on.noDisk("cleansThen", x -> x.cleansThen(0));
            ShingledDisk x = on.disk(TWO);
            on.refused("-1", x, 1, y -> y.cleansThen(-1));
            on.refused("the least", x, 1, y -> y.cleansThen(LOW));
            on.told("0 with no ENTRY", x, x.cleansThen(0), -2);
        });
    }

    private static void stepsAndRids() {
        promise(21);
        on.edge("How many STEPS its CLEANING has.", () -> {
            for (int n = 2; n <= 8; n++) {
                on.same("of " + n, on.disk(HEAD + "band " + n).steps(0), 2 * n + 2);
            }
        });
        on.edge("NONE: 1.", () -> {
            on.noDisk("steps", x -> x.steps(0));
            ShingledDisk x = on.disk(TWO);
            on.noneSuch("steps", x, 2, x::steps);
        });
        promise(22);
        on.edge("How many ENTRIES it takes away.", () -> {
            ShingledDisk x = on.disk(TWO);
            on.told("none", x, x.rids(0), 0);
            x.write(0, 1);
            x.write(0, 1);
            x.write(4, 1);
            on.told("LIVE or not", x, x.rids(0), 2);
            on.told("of the other", x, x.rids(1), 1);
            on.told("none is taken", x, x.entries(), 3);
        });
        on.edge("NONE: 1.", () -> {
            on.noDisk("rids", x -> x.rids(0));
            ShingledDisk x = on.disk(TWO);
            on.noneSuch("rids", x, 2, x::rids);
        });
    }

    private interface CutCall {
        long of(ShingledDisk x, int b, int k);
    }

    /** Refusals of a CUT, or of what would be behind one. */
    private static void noCut(String what, CutCall call) {
        on.noDisk(what, x -> call.of(x, 0, 0));
        ShingledDisk x = on.disk(TWO);
        x.write(1, 21);
        on.outOf(what + ", b", x, 1, 0, 1, b -> call.of(x, b, 0));
        on.refused(what + ", b ahead of k", x, 1, y -> call.of(y, 2, -1));
    }

    private static void noSteps(String what, CutCall call) {
        ShingledDisk x = on.disk(TWO);
        x.write(1, 21);
        on.outOf(what + ", k", x, 2, 0, 8, k -> call.of(x, 0, k));
        on.outOf(what + ", k of the other", x, 2, 0, 6, k -> call.of(x, 1, k));
    }

    private static void notDown(String what, CutCall call) {
        int[] all = {0, 3, 4, 7, 8};
        for (int k : all) {
            ShingledDisk x = downBehind(k);
            on.refused(what + ", DOWN", x, 5, y -> call.of(y, 0, 0));
            on.refused(what + ", DOWN, none such", x, 1, y -> call.of(y, 2, 0));
            on.refused(what + ", DOWN, a number", x, 2, y -> call.of(y, 1, 7));
        }
    }

    private static void cutsThen() {
        String text = "disk overlap 2 log 9 oldest;band 4;band 2;has 0 1;has 1 2";
        promise(23);
        on.edge("How many TRACKS are DAMAGED if a CLEANING is CUT behind k STEPS.", () -> {
            ShingledDisk x = on.disk(text);
            on.row("behind", new int[] {0, 0, 0, 0, 0, 0, 2, 2, 1, 0, 0}, k -> x.damages(0, k));
            on.row("of the last band, behind", new int[] {0, 0, 0, 0, 1, 0, 0}, k -> x.damages(1, k));
            on.told("nothing is cut", x, x.down(), 0);
            on.same("nothing to undo", x.size(9), 0);
        });
        on.edge("NONE: 1;", () -> noCut("damages", ShingledDisk::damages));
        on.edge("2;", () -> noSteps("damages", ShingledDisk::damages));
        on.edge("5 (DOWN)", () -> notDown("damages", ShingledDisk::damages));
        promise(24);
        on.edge("1 if the JOURNAL is FULL then, else 0.", () -> {
            ShingledDisk x = on.disk(text);
            on.row("behind", new int[] {0, 0, 0, 0, 0, 1, 1, 1, 1, 1, 0}, k -> x.fullThen(0, k));
            on.row("of the last band, behind", new int[] {0, 0, 0, 1, 1, 1, 0}, k -> x.fullThen(1, k));
        });
        promise(25);
        on.edge("What is READ of a TRACK behind that and RECOVERY.", () -> {
            ShingledDisk x = on.disk(text);
            x.write(1, 3);
            x.write(5, 6);
            int[] due = {1, 3, 0, 0, 0, 6};
            for (int k = 0; k <= 10; k++) {
                int steps = k;
                on.row("behind " + k, due, t -> x.readThen(0, steps, t));
            }
        });
        promise(26);
        on.edge("How many TRACK WRITES RECOVERY does then.", () -> {
            ShingledDisk x = on.disk(text);
            on.row("behind", new int[] {0, 0, 0, 0, 0, 4, 4, 4, 4, 4, 0}, k -> x.recoversBy(0, k));
            on.row("of the last band, behind", new int[] {0, 0, 0, 2, 2, 2, 0}, k -> x.recoversBy(1, k));
            on.same("none is counted", x.size(8), 0);
        });
    }

    private static void likewise() {
        CutCall first = (x, b, k) -> x.readThen(b, k, 0);
        promise(24);
        on.edge("NONE: likewise.", () -> {
            noCut("fullThen", ShingledDisk::fullThen);
            noSteps("fullThen", ShingledDisk::fullThen);
            notDown("fullThen", ShingledDisk::fullThen);
        });
        promise(25);
        on.edge("NONE: likewise.", () -> {
            noCut("readThen", first);
            noSteps("readThen", first);
            notDown("readThen", first);
            ShingledDisk x = on.disk(TWO);
            on.noneSuch("t", x, 5, t -> x.readThen(0, 8, t));
            on.refused("t ahead of k", x, 1, y -> y.readThen(0, 9, 5));
            x.cut(0, 0);
            on.refused("t, DOWN", x, 1, y -> y.readThen(0, 0, 5));
        });
        promise(26);
        on.edge("NONE: likewise.", () -> {
            noCut("recoversBy", ShingledDisk::recoversBy);
            noSteps("recoversBy", ShingledDisk::recoversBy);
            notDown("recoversBy", ShingledDisk::recoversBy);
        });
    }

    // ---- 27 to 34

    private static ShingledDisk run(String head, int writes) {
        StringBuilder text = new StringBuilder(head);
        for (int i = 0; i < writes; i++) {
            text.append(";write 1 ").append(100 + i);
        }
        return on.disk(text.toString());
    }

    private static void runs() {
        String head = "disk overlap 1 log 2 fullest;band 2;has 0 7";
        promise(27);
        on.edge("How many TRACK WRITES the RUN does.", () -> {
            int[] due = {0, 1, 2, 7, 8, 13};
            on.row("of so many", due, n -> run(head, n).runWrites());
            on.same("of the most", run(head, 16).runWrites(), 16 + 7 * 4);
        });
        noDisk(27, "runWrites", x -> x.runWrites());
        promise(28);
        on.edge("How many bands are CLEANED in it.", () -> {
            on.row("of so many", new int[] {0, 0, 0, 1, 1, 2}, n -> run(head, n).runCleans());
            on.same("of the most", run(head, 16).runCleans(), 7);
        });
        noDisk(28, "runCleans", x -> x.runCleans());
        promise(29);
        on.edge("What is READ of a TRACK behind it.", () -> {
            on.row("not written", new int[] {7, 7, 7, 7}, n -> run(head, n).runRead(0));
            on.row("written so often", new int[] {0, 100, 101, 102, 103}, n -> run(head, n).runRead(1));
        });
        on.edge("NONE: 1.", () -> {
            on.noDisk("runRead", x -> x.runRead(0));
            ShingledDisk x = run(head, 3);
            on.noneSuch("runRead", x, 2, x::runRead);
        });
    }

    private static void factor() {
        String head = "disk overlap 1 log 2 fullest;band 2";
        promise(30);
        on.edge("TRACK WRITES by writes of the RUN, the upper WHOLE or the lower, in lowest terms (0 by 1 with none).",
            () -> {
                // 0, 1, 2, 7, 8, 13, 14 by 0, 1, 2, 3, 4, 5, 6
                on.row("upper", new int[] {0, 1, 1, 7, 2, 13, 7}, n -> run(head, n).factor(false));
                on.row("lower", new int[] {1, 1, 1, 3, 1, 5, 3}, n -> run(head, n).factor(true));
                on.same("44 by 16", run(head, 16).factor(false), 11);
                on.same("11 by 4", run(head, 16).factor(true), 4);
                on.told("0 is no refusal", run(head, 0), run(head, 0).factor(false), 0);
            });
        on.edge("-1: 1 (no DISK).", () -> {
            on.noDisk("upper", x -> x.factor(false));
            on.noDisk("lower", x -> x.factor(true));
        });
    }

    private static void sizes() {
        String text = "disk overlap 1 log 2 oldest;band 3;band 2;write 4 5;write 4 6;write 0 7";
        promise(31);
        on.edge("How many TRACK WRITES it does by a band size (2 .. 8).", () -> {
            ShingledDisk x = on.disk(text);
            on.row("2 and", new int[] {5, 7, 5, 13, 13, 13, 13}, i -> x.bySize(2 + i));
            on.same("no write", on.disk(TWO).bySize(2), 0);
        });
        on.edge("NONE: 1 (no DISK);", () -> {
            on.noDisk("bySize", x -> x.bySize(2));
            on.refused("ahead of the number", new ShingledDisk(), 1, x -> x.bySize(9));
        });
        on.edge("2.", () -> {
            ShingledDisk x = on.disk(text);
            on.outOf("bySize", x, 2, 2, 8, x::bySize);
            on.refused("0", x, 2, y -> y.bySize(0));
        });
        promise(32);
        on.edge("The band size (2 .. 8) by which it does fewest, the greatest such.", () -> {
            on.same("5 by 2 and by 4", on.disk(text).bestSize(), 4);
            on.same("all like", on.disk(TWO).bestSize(), 8);
            String head = "disk overlap 1 log 3 fullest;band 8;";
            on.same("the least", on.disk(head + "write 0 1;write 1 1;write 0 1;write 1 1").bestSize(), 2);
            // by 7 alone the last TRACK has a band of its own
            on.same("7", on.disk(head + "write 7 0;write 7 1;write 5 2;write 1 3").bestSize(), 7);
            // 31 by 2 and by 5; 21 by 1 and 29 by 9, which are no band sizes
            StringBuilder run = new StringBuilder("disk overlap 1 log 6 oldest;band 8;band 8;band 2");
            int[] tracks = {8, 3, 4, 16, 0, 1, 13, 14, 7, 3, 15};
            for (int t : tracks) {
                run.append(";write ").append(t).append(" 0");
            }
            ShingledDisk x = on.disk(run.toString());
            on.row("2 and", new int[] {31, 35, 35, 31, 35, 39, 43}, i -> x.bySize(2 + i));
            on.told("not beyond 2 .. 8", x, x.bestSize(), 5);
        });
        noDisk(32, "bestSize", x -> x.bestSize());
    }

    private static void logs() {
        String head = "disk overlap 1 log 9 fullest;band 2";
        promise(33);
        on.edge("How many bands are CLEANED in it by a LOG of n PLACES (2 .. 24).", () -> {
            ShingledDisk x = run(head, 16);
            int[] due = {7, 5, 3, 3, 2, 2, 1, 1, 1, 1, 1, 1, 1, 1, 0, 0, 0, 0, 0, 0, 0, 0, 0};
            on.row("2 and", due, i -> x.byLog(2 + i));
            ShingledDisk y = run(head, 2);
            on.told("just full", y, y.byLog(2), 0);
            ShingledDisk z = run(head, 3);
            on.told("one more", z, z.byLog(2), 1);
        });
        on.edge("NONE: 1 (no DISK);", () -> {
            on.noDisk("byLog", x -> x.byLog(2));
            on.refused("ahead of the number", new ShingledDisk(), 1, x -> x.byLog(25));
        });
        on.edge("2.", () -> {
            ShingledDisk x = run(head, 16);
            on.outOf("byLog", x, 2, 2, 24, x::byLog);
            on.refused("0", x, 2, y -> y.byLog(0));
        });
        promise(34);
        on.edge("The least LOG (2 .. 24) by which no more than k (0 .. 16) are; -2.", () -> {
            ShingledDisk x = run(head, 16);
            int[] due = {16, 8, 6, 4, 4, 3, 3, 2, 2, 2, 2, 2, 2, 2, 2, 2, 2};
            on.row("for", due, x::logFor);
            // 16 writes at most: a LOG of 16 has room for all, and so -2 never comes
            for (int n = 2; n <= 16; n++) {
                on.same("for none of " + n, run(head, n).logFor(0), n);
            }
            on.same("for none of 0", run(head, 0).logFor(0), 2);
            on.same("for none of 1", run(head, 1).logFor(0), 2);
        });
        on.edge("NONE: 1 (no DISK);", () -> {
            on.noDisk("logFor", x -> x.logFor(0));
            on.refused("ahead of the number", new ShingledDisk(), 1, x -> x.logFor(-1));
        });
        on.edge("; 2.", () -> {
            ShingledDisk x = run(head, 16);
            on.outOf("logFor", x, 2, 0, 16, x::logFor);
        });
    }

    // ---- 35 to 41

    private static final String UNSURE = "disk overlap 1 log 2 fullest;band 4;write 0 1;write 1 1;write 2 1;write 3 1;"
        + "unsure 0 2;unsure 1 2;unsure 2 2;unsure 3 2";
    private static final String NO_FITS = UNSURE + ";read 0 3";
    private static final String SURE = "disk overlap 1 log 2 fullest;band 4;write 0 1";

    private static void fits() {
        promise(35);
        on.edge("FITS: how many.", () -> {
            on.same("none", on.disk(NO_FITS).fits(), 0);
            on.same("the empty set", on.disk(SURE).fits(), 1);
            on.same("all", on.disk(UNSURE).fits(), 16);
            on.same("half", on.disk(UNSURE + ";read 3 2").fits(), 8);
        });
        noDisk(35, "fits", x -> x.fits());
        promise(36);
        on.edge("The i-th, by bits of unsure writes as told.", () -> {
            ShingledDisk x = on.disk(UNSURE);
            for (int i = 0; i < 16; i++) {
                on.told("of all", x, x.fitAt(i), i);
            }
            ShingledDisk y = on.disk(UNSURE + ";read 3 2;read 0 1");
            on.row("of some", new int[] {8, 10, 12, 14}, y::fitAt);
            ShingledDisk z = on.disk(SURE + ";write 1 1;unsure 1 5;unsure 0 6;read 1 5;read 0 1");
            on.told("as told, not as written", z, z.fitAt(0), 1);
        });
        on.edge("NONE: 1 (i, too).", () -> {
            on.noDisk("fitAt", x -> x.fitAt(0));
            ShingledDisk x = on.disk(UNSURE);
            on.noneSuch("of all", x, 16, x::fitAt);
            ShingledDisk y = on.disk(NO_FITS);
            on.noneSuch("of none", y, 0, y::fitAt);
            ShingledDisk z = on.disk(SURE);
            on.noneSuch("of one", z, 1, z::fitAt);
        });
        promise(37);
        on.edge("Unsure writes in some, as bits.", () -> {
            on.same("no FITS", on.disk(NO_FITS).could(), 0);
            on.same("no unsure write", on.disk(SURE).could(), 0);
            on.same("all", on.disk(UNSURE).could(), 15);
            on.same("not the first", on.disk(UNSURE + ";read 0 1").could(), 14);
            on.same("not the last", on.disk(UNSURE + ";read 3 1").could(), 7);
            on.same("in the only one", on.disk(UNSURE + ";read 0 2;read 1 1;read 2 2;read 3 1").could(), 5);
        });
        noDisk(37, "could", x -> x.could());
        promise(38);
        on.edge("Unsure writes in all (0 without a set), as bits.", () -> {
            on.same("without a set", on.disk(NO_FITS).surely(), 0);
            on.told("without a set it isn't refused", on.disk(NO_FITS), on.disk(NO_FITS).surely(), 0);
            on.same("no unsure write", on.disk(SURE).surely(), 0);
            on.same("none in all", on.disk(UNSURE).surely(), 0);
            on.same("the first", on.disk(UNSURE + ";read 0 2").surely(), 1);
            on.same("the last", on.disk(UNSURE + ";read 3 2").surely(), 8);
            on.same("all in the only one", on.disk(UNSURE + ";read 0 2;read 1 2;read 2 2;read 3 2").surely(), 15);
        });
        noDisk(38, "surely", x -> x.surely());
    }

    private static void asks() {
        promise(39);
        on.edge("ASK; -2 no FITS, no unsure write.", () -> {
            ShingledDisk x = on.disk(NO_FITS);
            on.told("no FITS", x, x.ask(), -2);
            ShingledDisk y = on.disk(SURE);
            on.told("no unsure write", y, y.ask(), -2);
            ShingledDisk z = on.disk(SURE + ";read 0 9");
            on.told("neither", z, z.ask(), -2);
            on.same("all like", on.disk(UNSURE).ask(), 0);
            on.same("the last is open", on.disk(UNSURE + ";read 0 1;read 1 2;read 2 2").ask(), 3);
            on.same("one FIT", on.disk(UNSURE + ";read 0 1;read 1 2;read 2 2;read 3 1").ask(), 0);
        });
        noDisk(39, "ask", x -> x.ask());
        promise(40);
        on.edge("How many are left at most then; -2 likewise.", () -> {
            ShingledDisk x = on.disk(NO_FITS);
            on.told("no FITS", x, x.askLeaves(), -2);
            ShingledDisk y = on.disk(SURE);
            on.told("no unsure write", y, y.askLeaves(), -2);
            on.same("all like", on.disk(UNSURE).askLeaves(), 8);
            on.same("two FITS", on.disk(UNSURE + ";read 0 1;read 1 2;read 2 2").askLeaves(), 1);
            on.same("one FIT", on.disk(UNSURE + ";read 0 1;read 1 2;read 2 2;read 3 1").askLeaves(), 1);
        });
        noDisk(40, "askLeaves", x -> x.askLeaves());
    }

    private static void judge() {
        promise(41);
        on.edge("The first read, as told, that isn't so by writes as told; -2.", () -> {
            ShingledDisk x = on.disk(SURE);
            on.told("nothing read", x, x.judge(), -2);
            ShingledDisk y = on.disk(SURE + ";read 0 1;read 1 0");
            on.told("all so", y, y.judge(), -2);
            on.same("the first", on.disk(SURE + ";read 0 2;read 1 2").judge(), 0);
            on.same("the second", on.disk(SURE + ";read 0 1;read 1 2").judge(), 1);
            on.same("the sixth", on.disk("disk overlap 1 log 2 fullest;band 8;read 7 0;read 6 0;read 5 0;read 4 0;"
                + "read 3 0;read 2 1").judge(), 5);
            on.same("as told, whatever may have been", on.disk(UNSURE + ";read 2 1;read 1 2").judge(), 1);
            for (int t = 0; t < 4; t++) {
                on.same("as told", on.disk(UNSURE + ";read " + t + " 1").judge(), -2);
                on.same("otherwise", on.disk(UNSURE + ";read " + t + " 2").judge(), 0);
            }
            ShingledDisk z = on.disk(SURE + ";read 0 1");
            z.drawnWrites(0, 9);
            on.told("behind a trial of something else", z, z.judge(), -2);
        });
        noDisk(41, "judge", x -> x.judge());
    }

    // ---- 42, 43

    private static void noDraw(String what, ShingledDisk x, Edges.NumberCall bySeed, Edges.NumberCall byTurns) {
        on.outOf(what + ", seed", x, 2, 0, 65536, bySeed);
        on.outOf(what + ", n", x, 2, 0, 100, byTurns);
    }

    private static void drawnRead() {
        promise(42);
        on.edge("What is READ of a TRACK behind n turns (0 .. 100) by a SEED (0 .. 65,536).", () -> {
            ShingledDisk x = on.disk(TWO);
            on.row("no turn by 0", new int[] {10, 0, 0, 0, 40}, t -> x.drawnRead(t, 0, 0));
            on.row("no turn by 65,536", new int[] {10, 0, 0, 0, 40}, t -> x.drawnRead(t, 65536, 0));
            // 65,536 stays as it is: always TRACK 1, 36
            on.row("100 turns by 65,536", new int[] {10, 36, 0, 0, 40}, t -> x.drawnRead(t, 65536, 100));
            on.row("a turn by 0", new int[] {10, 0, 0, 0, 24}, t -> x.drawnRead(t, 0, 1));
            on.yes("100 turns by 0", x.drawnRead(0, 0, 100) >= 0);
            on.same("nothing is done", x.size(8), 0);
        });
        on.edge("NONE: 1;", () -> {
            on.noDisk("drawnRead", x -> x.drawnRead(0, 0, 0));
            ShingledDisk x = on.disk(TWO);
            on.noneSuch("t", x, 5, t -> x.drawnRead(t, 0, 100));
            on.refused("t ahead of the numbers", x, 1, y -> y.drawnRead(5, -1, 101));
        });
        on.edge("2.", () -> {
            ShingledDisk x = on.disk(TWO);
            noDraw("drawnRead", x, seed -> x.drawnRead(0, seed, 1), n -> x.drawnRead(0, 0, n));
        });
    }

    private static void drawnWrites() {
        promise(43);
        on.edge("How many TRACK WRITES they do (with RECOVERY ahead, if it is DOWN; n 0, too).", () -> {
            ShingledDisk x = on.disk(TWO);
            on.told("no turn", x, x.drawnWrites(0, 0), 0);
            on.told("a turn", x, x.drawnWrites(0, 1), 1);
            on.told("100 turns", x, x.drawnWrites(65536, 100), 1000);
            int[] recovered = {0, 0, 0, 0, 3, 3, 3, 3, 0};
            on.row("no turn, DOWN behind", recovered, k -> downBehind(k).drawnWrites(65536, 0));
            for (int k = 0; k <= 8; k++) {
                on.told("a turn, DOWN behind " + k, downBehind(k), downBehind(k).drawnWrites(0, 1), recovered[k] + 1);
            }
        });
        on.edge("NONE: 1 (no DISK);", () -> {
            on.noDisk("drawnWrites", x -> x.drawnWrites(0, 0));
            on.refused("ahead of the numbers", new ShingledDisk(), 1, x -> x.drawnWrites(-1, 101));
        });
        on.edge("2.", () -> {
            ShingledDisk x = on.disk(TWO);
            noDraw("drawnWrites", x, seed -> x.drawnWrites(seed, 0), n -> x.drawnWrites(65536, n));
            ShingledDisk y = downBehind(5);
            noDraw("drawnWrites, DOWN", y, seed -> y.drawnWrites(seed, 0), n -> y.drawnWrites(65536, n));
        });
    }

    // ---- 44 to 50

    private static void write() {
        promise(44);
        on.edge("WRITE (0 .. 9,999): its PLACE.", () -> {
            ShingledDisk x = on.disk(HEAD + "band 2;band 2");
            on.told("the least", x, x.write(0, 0), 0);
            on.told("the most", x, x.write(3, 9999), 1);
            on.told("the last PLACE", x, x.write(3, 1), 2);
            on.told("behind what a cleaning left", x, x.write(3, 2), 1);
            on.row("read", new int[] {0, 0, 0, 2}, x::read);
            ShingledDisk y = on.disk("disk overlap 1 log 24 oldest;band 2");
            for (int i = 0; i < 50; i++) {
                on.told("PLACES", y, y.write(1, i), i % 24);
            }
        });
        on.edge("NONE: 1;", () -> {
            on.noDisk("write", x -> x.write(0, 0));
            ShingledDisk x = on.disk(TWO);
            on.outOf("t", x, 1, 0, 4, t -> x.write(t, 0));
            on.refused("t ahead of the number", x, 1, y -> y.write(5, -1));
            on.refused("t, DOWN", downBehind(0), 1, y -> y.write(5, 0));
        });
        on.edge("2;", () -> {
            ShingledDisk x = on.disk(TWO);
            on.outOf("what", x, 2, 0, 9999, what -> x.write(0, what));
            on.refused("what, DOWN", downBehind(0), 2, y -> y.write(0, 10000));
            // a full LOG isn't cleaned for a write that is refused
            x.write(0, 1);
            x.write(0, 2);
            x.write(0, 3);
            on.outOf("what, a full LOG", x, 2, 0, 9999, what -> x.write(0, what));
        });
        on.edge("5 (DOWN)", () -> {
            int[] all = {0, 3, 4, 7, 8};
            for (int k : all) {
                on.refused("behind " + k, downBehind(k), 5, x -> x.write(4, 1));
            }
        });
    }

    private static void clean() {
        promise(45);
        on.edge("CLEAN (with no ENTRY, too): how many ENTRIES it takes away.", () -> {
            ShingledDisk x = on.disk(TWO);
            on.told("with no ENTRY", x, x.clean(0), 0);
            on.same("its writes", x.size(8), 6);
            on.same("an ACT", x.size(9), 1);
            on.row("track", new int[] {10, 0, 0, 0, 40}, x::track);
            x.write(4, 1);
            on.told("with no ENTRY of its own", x, x.clean(0), 0);
            x.write(4, 2);
            x.write(3, 3);
            on.told("all of a full LOG", x, x.clean(1), 3);
            on.row("track", new int[] {10, 0, 0, 3, 2}, x::track);
            on.told("entries", x, x.entries(), 0);
            on.told("not DOWN", x, x.down(), 0);
        });
        on.edge("NONE: 1;", () -> {
            on.noDisk("clean", x -> x.clean(0));
            ShingledDisk x = on.disk(TWO);
            x.write(0, 1);
            on.outOf("b", x, 1, 0, 1, x::clean);
            on.refused("b, DOWN", downBehind(0), 1, y -> y.clean(2));
        });
        on.edge("5 (DOWN)", () -> {
            int[] all = {0, 3, 4, 7, 8};
            for (int k : all) {
                on.refused("behind " + k, downBehind(k), 5, x -> x.clean(0));
                on.refused("the other, behind " + k, downBehind(k), 5, x -> x.clean(1));
            }
        });
    }

    private static void cut() {
        promise(46);
        on.edge("CUT behind k STEPS (0 .. all): DAMAGED TRACKS then.", () -> {
            on.row("of 3 TRACKS behind", new int[] {0, 0, 0, 0, 0, 1, 1, 0, 0}, k -> on.disk(TWO).cut(0, k));
            on.row("of 2 TRACKS behind", new int[] {0, 0, 0, 0, 1, 0, 0}, k -> on.disk(TWO).cut(1, k));
            ShingledDisk x = on.disk("disk overlap 3 log 3 fullest;band 8");
            int[] due = {0, 0, 0, 0, 0, 0, 0, 0, 0, 0, 3, 3, 3, 3, 3, 2, 1, 0, 0};
            for (int k = 0; k < due.length; k++) {
                on.told("of 8 TRACKS behind " + k, x, x.cut(0, k), due[k]);
                x.recover();
            }
        });
        on.edge("NONE: 1;", () -> noCut("cut", ShingledDisk::cut));
        on.edge("2;", () -> noSteps("cut", ShingledDisk::cut));
        on.edge("5 (DOWN)", () -> notDown("cut", ShingledDisk::cut));
    }

    private static void recover() {
        promise(47);
        on.edge("RECOVER: the band that is written; -2 none.", () -> {
            on.row("band 0 behind", new int[] {-2, -2, -2, -2, 0, 0, 0, 0, -2}, k -> downBehind(k).recover());
            for (int k = 0; k <= 6; k++) {
                ShingledDisk x = on.disk(TWO);
                x.cut(1, k);
                on.told("band 1 behind " + k, x, x.recover(), k > 2 && k < 6 ? 1 : -2);
            }
        });
        on.edge("NONE: 1 (no DISK);", () -> on.noDisk("recover", x -> x.recover()));
        on.edge("5 (it isn't DOWN)", () -> {
            on.refused("a new DISK", on.disk(TWO), 5, x -> x.recover());
            for (int k = 0; k <= 8; k++) {
                ShingledDisk x = downBehind(k);
                x.recover();
                on.refused("recovered already", x, 5, y -> y.recover());
            }
        });
    }

    private static long asNumber(boolean answer) {
        return answer ? 0 : -1;
    }

    private static void undo() {
        promise(48);
        on.edge("UNDO: true;", () -> {
            ShingledDisk x = on.disk(TWO);
            String[] looks = new String[6];
            looks[0] = Edges.look(x);
            x.write(1, 21);
            looks[1] = Edges.look(x);
            x.clean(0);
            looks[2] = Edges.look(x);
            x.write(3, 5);
            looks[3] = Edges.look(x);
            x.cut(1, 4);
            looks[4] = Edges.look(x);
            x.recover();
            for (int i = 4; i >= 0; i--) {
                x.read(99);
                on.yes("undo", x.undo());
                on.same("trouble", x.trouble(), 0);
                on.yes("as it was ahead of ACT " + i, looks[i].equals(Edges.look(x)));
            }
        });
        on.edge("false: 6.", () -> {
            on.refused("new", new ShingledDisk(), 6, x -> asNumber(x.undo()));
            on.refused("a new DISK", on.disk(TWO), 6, x -> asNumber(x.undo()));
            ShingledDisk x = on.disk(TWO);
            x.write(5, 0);
            x.write(0, -1);
            x.recover();
            on.refused("refused ACTS", x, 6, y -> asNumber(y.undo()));
            x.write(0, 1);
            x.undo();
            on.refused("undone already", x, 6, y -> asNumber(y.undo()));
        });
    }

    private static void image() {
        promise(49);
        on.edge("An IMAGE: its number.", () -> {
            ShingledDisk x = on.disk(TWO);
            on.told("the first", x, x.image(), 0);
            on.told("the second", x, x.image(), 1);
            x.cut(0, 5);
            on.told("DOWN, too", x, x.image(), 2);
            on.same("no ACT", x.size(9), 1);
        });
        on.edge("NONE: 1 (no DISK);", () -> on.noDisk("image", x -> x.image()));
        on.edge("3.", () -> {
            ShingledDisk x = on.disk(TWO);
            x.image();
            x.image();
            x.image();
            x.write(0, 1);
            on.refused("a fourth", x, 3, y -> y.image());
            on.yes("back", x.back(0));
            on.refused("gone back to one", x, 3, y -> y.image());
            on.yes("the third", x.back(2));
            on.same("as it was", x.read(0), 10);
            Expect.tell(x, TWO);
            on.told("a new DISK", x, x.image(), 0);
        });
    }

    private static void back() {
        promise(50);
        on.edge("All is as by an IMAGE (all IMAGES stay): true;", () -> {
            ShingledDisk x = on.disk(TWO);
            x.image();
            x.write(1, 21);
            x.image();
            x.cut(0, 5);
            x.image();
            int[] order = {2, 0, 1, 1, 2, 0};
            int[] writes = {0, 1, 5};
            int[] journal = {0, 0, 3};
            int[] entries = {0, 1, 1};
            for (int image : order) {
                x.read(99);
                on.yes("back " + image, x.back(image));
                on.same("trouble", x.trouble(), 0);
                on.same("writes by " + image, x.size(8), writes[image]);
                on.told("journal by " + image, x, x.journal(), journal[image]);
                on.told("entries by " + image, x, x.entries(), entries[image]);
                on.told("down by " + image, x, x.down(), image == 2 ? 1 : 0);
                on.told("track 1 by " + image, x, x.track(1), image == 2 ? -2 : 0);
                on.same("nothing to undo", x.size(9), 0);
                on.same("IMAGES stay", x.size(10), 3);
                // what is done from here on leaves the IMAGES alone
                x.recover();
                x.write(0, 99);
                x.clean(0);
            }
        });
        on.edge("false: 1.", () -> {
            on.refused("new", new ShingledDisk(), 1, x -> asNumber(x.back(0)));
            ShingledDisk x = on.disk(TWO);
            x.write(0, 1);
            for (int count = 0; count <= 3; count++) {
                on.outOf("back of " + count, x, 1, 0, count - 1, image -> asNumber(x.back(image)));
                x.image();
            }
        });
    }

    // ---- 51 to 53

    private static void led() {
        promise(51);
        on.edge("The i-th TRACK, by numbers, that has no LIVE ENTRY.", () -> {
            ShingledDisk x = on.disk(TWO);
            on.row("an empty LOG", new int[] {0, 1, 2, 3, 4}, x::led);
            x.write(0, 1);
            x.write(3, 1);
            x.write(3, 1);
            on.row("a full LOG", new int[] {1, 2, 4}, x::led);
            x.cut(1, 6);
            on.row("DOWN, too", new int[] {1, 2, 3, 4}, x::led);
        });
        on.edge("NoSuchElementException if there is none such.", () -> {
            ShingledDisk x = on.disk("disk overlap 1 log 2 fullest;band 2");
            int[] wrong = {-1, -2, 2, 3, LOW, BIG};
            for (int i : wrong) {
                on.ledThrows("led " + i, new ShingledDisk(), i);
                on.ledThrows("led " + i, x, i);
            }
            x.write(1, 1);
            on.ledThrows("one led", x, 1);
            x.write(0, 1);
            on.ledThrows("none led", x, 0);
            on.same("nothing is changed", x.entries(), 2);
            x.clean(0);
            on.same("led again", x.led(1), 1);
        });
    }

    private static void size() {
        promise(52);
        on.edge("0 overlap, 1 PLACES of the LOG, 2 1 if oldest, 3 bands, 4 TRACKS, 5 writes of the RUN, 6 unsure ones,"
            + " 7 read ones, 8 TRACK WRITES NOW (those undone not), 9 ACTS that can be undone, 10 IMAGES,"
            + " 11 bytes of THE TAPE.", () -> {
                ShingledDisk x = on.disk("disk overlap 2 log 7 oldest;band 3;band 2;write 0 1;write 1 1;write 2 1;"
                    + "unsure 0 1;unsure 2 1;read 0 1");
                x.write(0, 1);
                x.write(0, 1);
                x.undo();
                x.clean(1);
                x.image();
                x.feed(0, 0, 0, 0, 0);
                on.row("size", new int[] {2, 7, 1, 2, 5, 3, 2, 1, 5, 2, 1, 20}, x::size);
                x.undo();
                on.same("those undone not", x.size(8), 1);
                x.back(0);
                on.same("as by the IMAGE", x.size(8), 5);
            });
        on.edge("NONE for others;", () -> {
            int[] others = {-1, -2, 12, 13, LOW, BIG};
            ShingledDisk x = on.disk(TWO);
            for (int what : others) {
                on.same("new, " + what, new ShingledDisk().size(what), -1);
                on.told("with a DISK, " + what, x, x.size(what), -1);
            }
        });
        on.edge("0 for what there isn't.", () -> {
            ShingledDisk x = new ShingledDisk();
            ShingledDisk y = on.disk(HEAD + "band 2");
            for (int what = 0; what <= 11; what++) {
                on.told("no DISK, " + what, x, x.size(what), 0);
                if (what == 2 || what > 4) {
                    on.told("a bare DISK, " + what, y, y.size(what), 0);
                }
            }
        });
    }

    private static void trouble() {
        promise(53);
        on.edge("TROUBLE.", () -> {
            ShingledDisk x = new ShingledDisk();
            on.same("new", x.trouble(), 0);
            x.undo();
            on.same("6", x.trouble(), 6);
            on.same("6 still", x.trouble(), 6);
            x.disk(1);
            on.same("2", x.trouble(), 2);
            x.disk(0);
            on.same("4", x.trouble(), 4);
            x.wide();
            on.same("1", x.trouble(), 1);
            Expect.tell(x, TWO);
            on.same("0", x.trouble(), 0);
            x.recover();
            on.same("5", x.trouble(), 5);
            for (int i = 0; i < 4; i++) {
                x.image();
            }
            on.same("3", x.trouble(), 3);
            x.cleansNext();
            on.same("0 again", x.trouble(), 0);
        });
    }
}
