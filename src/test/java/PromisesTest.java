/** Each promise of the document by itself: ordinary inputs, edges, wrong inputs. */
public final class PromisesTest {
    private static final Expect E = new Expect();
    private static final String HEAD = "disk overlap 1 log 3 fullest;";
    private static final int BIG = Integer.MAX_VALUE;
    private static final int LOW = Integer.MIN_VALUE;

    public static void main(String[] args) {
        newObject();
        feed();
        disk();
        diskAnew();
        tokens();
        faultsByNumber();
        faultsMany();
        faultsOrder();
        faultAndWhere();
        read();
        track();
        bandOf();
        band();
        wide();
        down();
        journal();
        entries();
        extents();
        cleansNext();
        cleansThen();
        stepsAndRids();
        cutsThen();
        runs();
        sizes();
        logs();
        fits();
        asks();
        judge();
        drawn();
        drawnDown();
        write();
        clean();
        cut();
        recover();
        undo();
        images();
        led();
        size();
        trouble();
        E.end("PromisesTest");
    }

    // ---- promise 1
    private static void newObject() {
        ShingledDisk x = new ShingledDisk();
        E.same("1 trouble", x.trouble(), 0);
        E.same("1 fault", x.fault(), 0);
        E.same("1 where", x.where(), -1);
        E.refused("1 read", x, x.read(0), 1);
        E.refused("1 track", x, x.track(0), 1);
        E.refused("1 bandOf", x, x.bandOf(0), 1);
        E.refused("1 band", x, x.band(0, 0), 1);
        E.refused("1 wide", x, x.wide(), 1);
        E.refused("1 down", x, x.down(), 1);
        E.refused("1 journal", x, x.journal(), 1);
        E.refused("1 entries", x, x.entries(), 1);
        E.refused("1 entry", x, x.entry(0, 0), 1);
        E.refused("1 live", x, x.live(), 1);
        E.refused("1 extents", x, x.extents(), 1);
        E.refused("1 extent", x, x.extent(0, 0), 1);
        E.refused("1 extentFrom", x, x.extentFrom(0), 1);
        E.refused("1 cleansNext", x, x.cleansNext(), 1);
        E.refused("1 cleansThen", x, x.cleansThen(0), 1);
        E.refused("1 steps", x, x.steps(0), 1);
        E.refused("1 rids", x, x.rids(0), 1);
        E.refused("1 damages", x, x.damages(0, 0), 1);
        E.refused("1 fullThen", x, x.fullThen(0, 0), 1);
        E.refused("1 readThen", x, x.readThen(0, 0, 0), 1);
        E.refused("1 recoversBy", x, x.recoversBy(0, 0), 1);
        E.refused("1 runWrites", x, x.runWrites(), 1);
        E.refused("1 runCleans", x, x.runCleans(), 1);
        E.refused("1 runRead", x, x.runRead(0), 1);
        E.refused("1 factor", x, x.factor(false), 1);
        E.refused("1 bySize", x, x.bySize(2), 1);
        E.refused("1 bySize(9)", x, x.bySize(9), 1);
        E.refused("1 bestSize", x, x.bestSize(), 1);
        E.refused("1 byLog", x, x.byLog(2), 1);
        E.refused("1 logFor", x, x.logFor(0), 1);
        E.refused("1 logFor(-1)", x, x.logFor(-1), 1);
        E.refused("1 fits", x, x.fits(), 1);
        E.refused("1 fitAt", x, x.fitAt(0), 1);
        E.refused("1 could", x, x.could(), 1);
        E.refused("1 surely", x, x.surely(), 1);
        E.refused("1 ask", x, x.ask(), 1);
        E.refused("1 askLeaves", x, x.askLeaves(), 1);
        E.refused("1 judge", x, x.judge(), 1);
        E.refused("1 drawnRead", x, x.drawnRead(0, 0, 0), 1);
        E.refused("1 drawnWrites", x, x.drawnWrites(0, 0), 1);
        E.refused("1 drawnWrites(-1, 0)", x, x.drawnWrites(-1, 0), 1);
        E.refused("1 write", x, x.write(0, 0), 1);
        E.refused("1 clean", x, x.clean(0), 1);
        E.refused("1 cut", x, x.cut(0, 0), 1);
        E.refused("1 recover", x, x.recover(), 1);
        E.refused("1 image", x, x.image(), 1);
        E.no("1 back", x.back(0));
        E.same("1 back, trouble", x.trouble(), 1);
        E.no("1 undo", x.undo());
        E.same("1 undo, trouble", x.trouble(), 6);
        E.ledThrows("1 led", x, 0);
        for (int what = 0; what <= 11; what++) {
            E.same("1 size " + what, x.size(what), 0);
        }
    }

    // ---- promise 2
    private static void feed() {
        ShingledDisk x = new ShingledDisk();
        for (int i = 1; i <= 35; i++) {
            E.same("2 feed", x.feed(0, 0, 0, 0, 0), 20 * i);
        }
        E.same("2 feed beyond 700", x.feed(0, 0, 0, 0, 0), -1);
        E.same("2 no trouble of feed", x.trouble(), 0);
        E.same("2 none came", x.size(11), 700);
        E.refused("2 bytes of 0", x, x.disk(700), 4);
        E.same("2 where", x.where(), 0);
        // a text of just 700 bytes
        StringBuilder text = new StringBuilder(HEAD).append("band 2");
        while (text.length() < 700) {
            text.append(' ');
        }
        E.told("2 disk(700)", x, Expect.tell(x, text.toString()), 2);
        // the highest byte of a number is the first: "disk" is 64 69 73 6b
        x.feed(0x6469736b, 0x20202020, 0x20202020, 0x20202020, 0x202020ff);
        E.refused("2 disk", x, x.disk(20), 4);
        E.same("2 the end of disk", x.where(), 19);
        x.feed(0x6b736964, 0x20202020, 0x20202020, 0x20202020, 0x202020ff);
        E.refused("2 ksid", x, x.disk(20), 4);
        E.same("2 not disk", x.where(), 0);
        // feed is not among the calls of which a number is told
        x.feed(0, 0, 0, 0, 0);
        E.same("2 trouble stays", x.trouble(), 4);
        E.same("2 where stays", x.where(), 0);
    }

    // ---- promise 3
    private static void disk() {
        ShingledDisk x = new ShingledDisk();
        Expect.feed(x, HEAD + "band 3;band 8");
        E.refused("3 disk(-1)", x, x.disk(-1), 2);
        E.refused("3 disk(61)", x, x.disk(61), 2);
        E.refused("3 disk(least)", x, x.disk(LOW), 2);
        E.refused("3 disk(most)", x, x.disk(BIG), 2);
        E.same("3 the tape stays", x.size(11), 60);
        E.told("3 the first n bytes", x, x.disk(35), 3);
        E.same("3 the tape is empty", x.size(11), 0);
        E.told("3 two bands", x, Expect.tell(x, HEAD + "band 3;band 8"), 11);
        // all begins anew
        x.write(0, 7);
        x.cut(0, 8);
        x.image();
        E.refused("3 a fault", x, Expect.tell(x, HEAD), 4);
        E.same("3 the tape is empty by a fault, too", x.size(11), 0);
        E.same("3 the disk stays", x.size(4), 11);
        E.same("3 it stays down", x.down(), 1);
        E.same("3 the images stay", x.size(10), 1);
        E.same("3 the acts stay", x.size(9), 2);
        E.same("3 the writes stay", x.size(8), 7);
        E.told("3 once more", x, Expect.tell(x, HEAD + "band 2;has 1 5"), 2);
        E.same("3 entries", x.entries(), 0);
        E.same("3 down", x.down(), 0);
        E.same("3 journal", x.journal(), 0);
        E.same("3 writes", x.size(8), 0);
        E.same("3 acts", x.size(9), 0);
        E.same("3 images", x.size(10), 0);
        E.same("3 read 0", x.read(0), 0);
        E.same("3 read 1", x.read(1), 5);
        E.no("3 no image to go back to", x.back(0));
        E.no("3 nothing to undo", x.undo());
        // the most of everything
        StringBuilder text = new StringBuilder("disk overlap 3 log 24 oldest");
        for (int i = 0; i < 6; i++) {
            text.append(";band 8");
        }
        for (int i = 0; i < 12; i++) {
            text.append(";has ").append(36 + i).append(" 9999");
        }
        for (int i = 0; i < 16; i++) {
            text.append(";write ").append(3 * i).append(' ').append(i);
        }
        for (int i = 0; i < 4; i++) {
            text.append(";unsure ").append(15 - i).append(" 0");
        }
        for (int i = 0; i < 6; i++) {
            text.append(";read ").append(42 + i).append(" 1");
        }
        E.told("3 the most", x, Expect.tell(x, text.toString()), 48);
        E.same("3 has", x.read(47), 9999);
        E.same("3 has not", x.read(35), 0);
        E.same("3 overlap", x.size(0), 3);
        E.same("3 log", x.size(1), 24);
        E.same("3 oldest", x.size(2), 1);
        E.same("3 bands", x.size(3), 6);
        E.same("3 writes of the run", x.size(5), 16);
        E.same("3 unsure", x.size(6), 4);
        E.same("3 read", x.size(7), 6);
    }

    private static void diskAnew() {
        String head = "disk overlap 1 log 2 oldest;band 3";
        String much = head + ";has 0 1;has 1 2;write 0 3;write 1 4;write 2 5;unsure 0 6;unsure 1 7;read 2 5;read 1 9";
        ShingledDisk x = Expect.diskOf(much);
        E.same("35 none fits", x.fits(), 0);
        x.write(0, 1);
        x.cut(0, 5);
        // what one text tells is gone with the next but one, too
        for (int i = 0; i < 3; i++) {
            E.told("3 much again", x, Expect.tell(x, much), 3);
            E.same("52 writes of the run", x.size(5), 3);
            E.told("3 little", x, Expect.tell(x, head), 3);
            E.same("12 no journal", x.journal(), 0);
            E.refused("47 not down", x, x.recover(), 5);
            E.same("6 has nothing", x.read(0) + x.read(1), 0);
            for (int what = 5; what <= 11; what++) {
                E.same("52 little, size " + what, x.size(what), 0);
            }
            E.same("35 the empty set fits", x.fits(), 1);
            E.same("27 no write", x.runWrites(), 0);
            E.told("3 much", x, Expect.tell(x, much), 3);
            E.same("35 none fits", x.fits(), 0);
            x.cut(0, 4);
        }
        E.refused("3 a fault", x, Expect.tell(x, "disk overlap 3 log 9 fullest"), 4);
        E.same("52 the overlap stays", x.size(0), 1);
        E.same("52 the log stays", x.size(1), 2);
        E.same("52 oldest stays", x.size(2), 1);
        E.same("12 the journal stays", x.journal(), 3);
    }

    private static void fault(String text, int number, int place) {
        ShingledDisk x = new ShingledDisk();
        E.refused("4 [" + text + "]", x, Expect.tell(x, text), 4);
        E.same("4 fault of [" + text + "]", x.fault(), number);
        E.same("5 where of [" + text + "]", x.where(), place);
    }

    private static void faultBehind(String head, String rest, int number, int place) {
        fault(head + rest, number, head.length() + place);
    }

    private static void good(String text, int tracks) {
        ShingledDisk x = new ShingledDisk();
        E.told("3 [" + text + "]", x, Expect.tell(x, text), tracks);
        E.same("4 fault of [" + text + "]", x.fault(), 0);
        E.same("5 where of [" + text + "]", x.where(), -1);
    }

    private static void tokens() {
        good("disk overlap1log3fullest;band2", 2);
        good("  disk  overlap  1 log 3  fullest  ;  band  2  ", 2);
        good("disk overlap 0001 log 0002 oldest;band 0008", 8);
        good(HEAD + "band 2;band 3;has 4 0;write 4 0;unsure 0 0;read 4 9999;band 2", 7);
        fault("", 1, 0);
        fault("   ", 1, 3);
        fault(";", 1, 0);
        fault("Disk", 1, 0);
        fault("7", 1, 0);
        fault("disk", 1, 4);
        fault("disk ", 1, 5);
        fault("disk 1", 1, 5);
        fault("disk overlap", 1, 12);
        fault("disk overlap log", 1, 13);
        fault("disk overlap 1 2", 1, 15);
        fault("disk over lap 1", 1, 5);
        fault("disk overlap 1 log;", 1, 18);
        fault("disk overlap 1 log 2", 1, 20);
        fault("disk overlap 1 log 2;", 1, 20);
        fault("disk overlap 1 log 2 3", 1, 21);
        fault("disk overlap 1 log 2 full", 1, 21);
        fault("disk overlap 1 log 2 oldestt", 1, 21);
        fault("disk overlap 1 log 2 oldest,", 1, 27);
        fault("disk overlap 1\tlog", 1, 14);
        faultBehind(HEAD, "", 1, 0);
        faultBehind(HEAD, "  ", 1, 2);
        faultBehind(HEAD, ";", 1, 0);
        faultBehind(HEAD, "band", 1, 4);
        faultBehind(HEAD, "band x", 1, 5);
        faultBehind(HEAD, "band 2 2", 1, 7);
        faultBehind(HEAD, "band 2 band 2", 1, 7);
        faultBehind(HEAD, "band 2;", 1, 7);
        faultBehind(HEAD, "band 2;has", 1, 10);
        faultBehind(HEAD, "band 2;has 0", 1, 12);
        faultBehind(HEAD, "band 2;has 0;", 1, 12);
        faultBehind(HEAD, "band 2;has 0 1 2", 1, 15);
        faultBehind(HEAD, "band 2;write", 1, 12);
        faultBehind(HEAD, "band 2;write 0", 1, 14);
        faultBehind(HEAD, "band 2;write 0 0;unsure", 1, 23);
        faultBehind(HEAD, "band 2;write 0 0;unsure 0", 1, 25);
        faultBehind(HEAD, "band 2;read 0 x", 1, 14);
        faultBehind(HEAD, "band 2;reads 0 0", 1, 7);
        faultBehind(HEAD, "band 2;rea 0 0", 1, 7);
        faultBehind(HEAD, "hand 2", 1, 0);
        // the first FAULT stands, whatever comes behind it
        faultBehind(HEAD, "band;disk", 1, 4);
        faultBehind(HEAD, "band 9;disk", 4, 5);
        faultBehind(HEAD, "band 2;has;disk", 1, 10);
        faultBehind(HEAD, "band 2;has 0;disk", 1, 12);
        faultBehind(HEAD, "band 2;has 7;disk", 2, 11);
        fault("disk;disk", 1, 4);
        fault("disk overlap 1 log 3;disk", 1, 20);
        fault("risk overlap 1 log 3 fullest", 1, 0);
        fault("zz", 1, 0);
        fault("/", 1, 0);
        fault(":", 1, 0);
        fault("`", 1, 0);
        fault("{", 1, 0);
        faultBehind(HEAD, "band /", 1, 5);
        faultBehind(HEAD, "band :", 1, 5);
        // letters, digits that stand together in too great a number begin no TOKEN
        faultBehind(HEAD, "bandbandb 2", 1, 0);
        faultBehind(HEAD, "band 00002", 1, 5);
        faultBehind(HEAD, "band 2;has 0 00000", 1, 13);
        // bytes above 127
        faultBehind(HEAD, "band 2" + (char) 226, 1, 6);
        faultBehind(HEAD, "band 2" + (char) 0, 1, 6);
    }

    private static void faultsByNumber() {
        faultBehind(HEAD, "band 2;has 2 0", 2, 11);
        faultBehind(HEAD, "band 2;has 9999 0", 2, 11);
        faultBehind(HEAD, "has 0 0;band 2", 2, 4);
        faultBehind(HEAD, "band 2;write 2 0", 2, 13);
        faultBehind(HEAD, "band 2;read 2 0", 2, 12);
        faultBehind(HEAD, "band 2;unsure 0 0;write 0 0", 2, 14);
        faultBehind(HEAD, "band 2;write 0 0;unsure 9999 0", 2, 24);
        faultBehind(HEAD, "band 2;has 1 0;has 0 0;has 1 0", 3, 27);
        faultBehind(HEAD, "band 2;read 1 0;read 0 0;read 1 0", 3, 30);
        faultBehind(HEAD, "band 2;write 0 0;write 0 0;unsure 1 0;unsure 1 0", 3, 45);
        good(HEAD + "band 2;write 0 0;write 0 0;has 0 1;read 0 1;unsure 1 0;unsure 0 0", 2);
        faultBehind(HEAD, "disk", 3, 0);
        faultBehind(HEAD, "band 2; disk overlap 1 log 3 fullest", 3, 8);
        fault("disk overlap 0", 4, 13);
        fault("disk overlap 4", 4, 13);
        fault("disk overlap 9999 log", 4, 13);
        fault("disk overlap 3 log 1", 4, 19);
        fault("disk overlap 3 log 25", 4, 19);
        good("disk overlap 3 log 24 fullest;band 8", 8);
        faultBehind(HEAD, "band 1", 4, 5);
        faultBehind(HEAD, "band 9", 4, 5);
        faultBehind(HEAD, "band 0", 4, 5);
        fault("band 2;" + HEAD + "band 2", 6, 0);
        fault("  has 0 0;" + HEAD + "band 2", 6, 2);
        fault("write", 6, 0);
        fault("unsure", 6, 0);
        fault("read", 6, 0);
        fault("disk overlap 1 log 3 fullest", 6, 28);
        fault("disk overlap 1 log 3 fullest   ", 6, 31);
    }

    private static void faultsMany() {
        String bands = HEAD + "band 8;band 8;band 8;band 8;band 8;band 8";
        good(bands, 48);
        faultBehind(bands, ";band", 5, 1);
        StringBuilder has = new StringBuilder(HEAD + "band 8;band 8");
        for (int i = 0; i < 12; i++) {
            has.append(";has ").append(i).append(" 1");
        }
        good(has.toString(), 16);
        faultBehind(has.toString(), "; has 99 1", 5, 2);
        StringBuilder writes = new StringBuilder(HEAD + "band 8");
        for (int i = 0; i < 16; i++) {
            writes.append(";write 0 ").append(i);
        }
        good(writes.toString(), 8);
        faultBehind(writes.toString(), ";write 0 0", 5, 1);
        String unsure = writes + ";unsure 0 1;unsure 1 1;unsure 2 1;unsure 15 1";
        good(unsure, 8);
        faultBehind(unsure, ";unsure 0 1", 5, 1);
        StringBuilder reads = new StringBuilder(HEAD + "band 8");
        for (int i = 0; i < 6; i++) {
            reads.append(";read ").append(i).append(" 1");
        }
        good(reads.toString(), 8);
        faultBehind(reads.toString(), ";read 0 1", 5, 1);
    }

    private static void faultsOrder() {
        // the first from the left, whatever its number
        fault("disk overlap 4 log 1", 4, 13);
        fault("band 9 @", 6, 0);
        faultBehind(HEAD, "band 9;has 9 9;;", 4, 5);
        faultBehind(HEAD, "band 2;has 5;;", 2, 11);
        faultBehind(HEAD, "band 2;has 0 1;has 0;;", 3, 19);
        faultBehind(HEAD, "disk @", 3, 0);
        // of one place the least number: at the end FORM, not LACKS
        faultBehind(HEAD, "", 1, 0);
    }

    // ---- promises 4, 5
    private static void faultAndWhere() {
        ShingledDisk x = new ShingledDisk();
        Expect.tell(x, "disk overlap 4");
        E.same("4 fault", x.fault(), 4);
        E.same("5 where", x.where(), 13);
        E.same("5 where again", x.where(), 13);
        x.size(99);
        x.trouble();
        x.fault();
        E.ledThrows("5 led", x, 0);
        E.same("5 where behind calls that can't be refused", x.where(), 13);
        x.read(0);
        E.same("5 where behind another call", x.where(), -1);
        E.same("4 fault stays", x.fault(), 4);
        x.disk(99);
        E.same("4 fault stays behind 2", x.fault(), 4);
        E.same("5 no where behind 2", x.where(), -1);
        Expect.tell(x, HEAD + "band 2");
        E.same("4 no fault", x.fault(), 0);
        E.same("5 no where", x.where(), -1);
    }

    // ---- promise 6
    private static void read() {
        ShingledDisk x = Expect.diskOf(HEAD + "band 2;band 3;has 4 40");
        E.told("6 of the band", x, x.read(4), 40);
        E.told("6 not told", x, x.read(0), 0);
        x.write(4, 41);
        x.write(4, 42);
        E.told("6 of the live entry", x, x.read(4), 42);
        E.refused("6 read(5)", x, x.read(5), 1);
        E.refused("6 read(-1)", x, x.read(-1), 1);
        E.refused("6 read(least)", x, x.read(LOW), 1);
        E.refused("6 read(most)", x, x.read(BIG), 1);
        x.cut(0, 0);
        E.refused("6 down", x, x.read(4), 5);
        E.refused("6 down, none such", x, x.read(5), 1);
        x.recover();
        E.told("6 up again", x, x.read(4), 42);
    }

    // ---- promise 7
    private static void track() {
        ShingledDisk x = Expect.diskOf("disk overlap 2 log 3 fullest;band 4;band 2;has 1 11;has 4 44");
        x.write(1, 12);
        E.told("7 in the band", x, x.track(1), 11);
        // 4 in the journal, full, one track written: 0 lies, 1 and 2 are damaged
        x.cut(0, 6);
        E.told("7 written", x, x.track(0), 0);
        E.told("7 damaged 1", x, x.track(1), -2);
        E.told("7 damaged 2", x, x.track(2), -2);
        E.told("7 beyond the overlap", x, x.track(3), 0);
        E.told("7 another band", x, x.track(4), 44);
        x.recover();
        E.told("7 written anew", x, x.track(1), 12);
        E.refused("7 track(6)", x, x.track(6), 1);
        E.refused("7 track(-1)", x, x.track(-1), 1);
        E.refused("7 track(most)", x, x.track(BIG), 1);
        // the guard takes what is more
        x.cut(0, 8);
        E.told("7 the last", x, x.track(3), -2);
        E.told("7 the next band's first", x, x.track(4), 44);
    }

    // ---- promise 8
    private static void bandOf() {
        ShingledDisk x = Expect.diskOf(HEAD + "band 2;band 3;band 8");
        int[] due = {0, 0, 1, 1, 1, 2, 2, 2, 2, 2, 2, 2, 2};
        for (int t = 0; t < due.length; t++) {
            E.told("8 bandOf " + t, x, x.bandOf(t), due[t]);
        }
        E.refused("8 bandOf(13)", x, x.bandOf(13), 1);
        E.refused("8 bandOf(-1)", x, x.bandOf(-1), 1);
    }

    // ---- promise 9
    private static void band() {
        ShingledDisk x = Expect.diskOf("disk overlap 3 log 9 fullest;band 3;band 5");
        x.write(3, 1);
        x.write(3, 2);
        x.write(7, 3);
        x.write(0, 4);
        x.cut(1, 7);
        int[][] due = {{3, 0, 1, 1, 0}, {5, 3, 3, 2, 3}};
        for (int b = 0; b < 2; b++) {
            for (int what = 0; what < 5; what++) {
                E.told("9 band " + b + " " + what, x, x.band(b, what), due[b][what]);
            }
            E.refused("9 band, 5", x, x.band(b, 5), 1);
            E.refused("9 band, -1", x, x.band(b, -1), 1);
        }
        E.refused("9 band(2, 0)", x, x.band(2, 0), 1);
        E.refused("9 band(-1, 0)", x, x.band(-1, 0), 1);
        E.refused("9 band(most, 0)", x, x.band(BIG, 0), 1);
    }

    // ---- promise 10
    private static void wide() {
        ShingledDisk x = Expect.diskOf("disk overlap 3 log 9 fullest;band 3;band 5;band 2");
        E.told("10 wide", x, x.wide(), 16);
        E.told("10 one band", x, Expect.tell(x, "disk overlap 3 log 9 fullest;band 3"), 3);
        E.told("10 wide by one band", x, x.wide(), 3);
    }

    // ---- promise 11
    private static void down() {
        ShingledDisk x = Expect.diskOf(HEAD + "band 3");
        E.told("11 up", x, x.down(), 0);
        x.cut(0, 8);
        E.told("11 down behind all steps, too", x, x.down(), 1);
        x.recover();
        E.told("11 up again", x, x.down(), 0);
        x.cut(0, 0);
        E.told("11 down behind no step", x, x.down(), 1);
        x.undo();
        E.told("11 undone", x, x.down(), 0);
    }

    // ---- promise 12
    private static void journal() {
        int[] due = {0, 1, 2, 3, 3, 3, 3, 3, 0};
        for (int k = 0; k < due.length; k++) {
            ShingledDisk x = Expect.diskOf(HEAD + "band 3");
            E.told("12 journal", x, x.journal(), 0);
            x.cut(0, k);
            E.told("12 journal behind " + k, x, x.journal(), due[k]);
            x.recover();
            E.told("12 journal behind recovery", x, x.journal(), 0);
            x.clean(0);
            E.told("12 journal behind cleaning", x, x.journal(), 0);
        }
    }

    // ---- promises 13 to 15
    private static void entries() {
        ShingledDisk x = Expect.diskOf("disk overlap 1 log 5 fullest;band 3;band 3");
        E.told("13 none", x, x.entries(), 0);
        E.told("15 none", x, x.live(), 0);
        E.refused("14 none", x, x.entry(0, 0), 1);
        x.write(5, 50);
        x.write(1, 10);
        x.write(5, 51);
        x.write(2, 9999);
        E.told("13 entries", x, x.entries(), 4);
        E.told("15 live", x, x.live(), 3);
        int[][] due = {{5, 50, 0}, {1, 10, 1}, {5, 51, 1}, {2, 9999, 1}};
        for (int i = 0; i < due.length; i++) {
            for (int what = 0; what < 3; what++) {
                E.told("14 entry " + i + " " + what, x, x.entry(i, what), due[i][what]);
            }
            E.refused("14 entry, 3", x, x.entry(i, 3), 1);
            E.refused("14 entry, -1", x, x.entry(i, -1), 1);
        }
        E.refused("14 entry(4, 0)", x, x.entry(4, 0), 1);
        E.refused("14 entry(-1, 0)", x, x.entry(-1, 0), 1);
        E.refused("14 entry(most, 0)", x, x.entry(BIG, 0), 1);
        ShingledDisk y = Expect.diskOf(HEAD + "band 3");
        y.write(1, 1);
        y.write(2, 1);
        E.told("15 the first, too", y, y.live(), 2);
        E.told("9 the first live, too", y, y.band(0, 3), 2);
        // the others stay in their order
        x.clean(0);
        E.told("13 the others", x, x.entries(), 2);
        E.told("14 the others' first", x, x.entry(0, 1), 50);
        E.told("14 the others' second", x, x.entry(1, 1), 51);
        E.told("15 the others", x, x.live(), 1);
    }

    private static void extentIs(ShingledDisk x, int i, int first, int many, int place) {
        E.told("17 first of " + i, x, x.extent(i, 0), first);
        E.told("17 how many of " + i, x, x.extent(i, 1), many);
        E.told("17 place of " + i, x, x.extent(i, 2), place);
    }

    // ---- promises 16 to 18
    private static void extents() {
        ShingledDisk x = Expect.diskOf("disk overlap 1 log 12 fullest;band 3;band 3;band 4");
        E.told("16 none", x, x.extents(), 0);
        E.refused("17 none", x, x.extent(0, 0), 1);
        E.told("18 none", x, x.extentFrom(9), -2);
        // places: 0:8 1:9 2:2 3:3 4:4 5:7 6:6 7:2
        x.write(8, 1);
        x.write(9, 2);
        x.write(2, 3);
        x.write(3, 4);
        x.write(4, 5);
        E.told("16 over the end of a band", x, x.extents(), 2);
        extentIs(x, 0, 2, 3, 2);
        extentIs(x, 1, 8, 2, 0);
        x.write(7, 6);
        x.write(6, 7);
        E.told("16 in the same order alone", x, x.extents(), 4);
        x.write(2, 8);
        // 2 now at place 7: 3, 4 are one by themselves; 6 at 6, 7 at 5; 8, 9
        E.told("16 live ones alone", x, x.extents(), 5);
        extentIs(x, 0, 2, 1, 7);
        extentIs(x, 1, 3, 2, 3);
        extentIs(x, 2, 6, 1, 6);
        extentIs(x, 3, 7, 1, 5);
        extentIs(x, 4, 8, 2, 0);
        E.refused("17 extent(5, 0)", x, x.extent(5, 0), 1);
        E.refused("17 extent(-1, 0)", x, x.extent(-1, 0), 1);
        E.refused("17 extent(0, 3)", x, x.extent(0, 3), 1);
        E.refused("17 extent(0, -1)", x, x.extent(0, -1), 1);
        E.refused("17 extent(most, 0)", x, x.extent(BIG, 0), 1);
        int[] from = {0, 0, 0, 1, 1, 2, 2, 3, 4, 4};
        for (int t = 0; t < from.length; t++) {
            E.told("18 extentFrom " + t, x, x.extentFrom(t), from[t]);
        }
        E.refused("18 extentFrom(10)", x, x.extentFrom(10), 1);
        E.refused("18 extentFrom(-1)", x, x.extentFrom(-1), 1);
        x.clean(2);
        E.told("18 behind the last", x, x.extentFrom(5), -2);
        // track 1 at no place, track 0 at place 0 and 2: place 0 is not next to none
        ShingledDisk y = Expect.diskOf(HEAD + "band 4");
        y.write(1, 1);
        y.write(0, 2);
        E.told("16 the first place", y, y.extents(), 2);
        y.write(1, 3);
        E.told("16 written again behind", y, y.extents(), 1);
        extentIs(y, 0, 0, 2, 1);
        ShingledDisk z = Expect.diskOf(HEAD + "band 4");
        z.write(3, 1);
        E.told("16 the last track", z, z.extents(), 1);
        E.told("18 the last track", z, z.extentFrom(0), 0);
        E.told("18 itself", z, z.extentFrom(3), 0);
        z.write(0, 1);
        E.told("16 the first and the last", z, z.extents(), 2);
        extentIs(z, 1, 3, 1, 0);
    }

    // ---- promise 19
    private static void cleansNext() {
        ShingledDisk x = Expect.diskOf("disk overlap 1 log 9 fullest;band 2;band 2;band 2");
        E.told("19 none", x, x.cleansNext(), -2);
        x.write(4, 0);
        E.told("19 the only one", x, x.cleansNext(), 2);
        x.write(2, 0);
        E.told("19 of like ones the first", x, x.cleansNext(), 1);
        x.write(4, 0);
        E.told("19 live or not", x, x.cleansNext(), 2);
        ShingledDisk y = Expect.diskOf("disk overlap 1 log 9 oldest;band 2;band 2;band 2");
        E.told("19 none", y, y.cleansNext(), -2);
        y.write(2, 0);
        y.write(4, 0);
        y.write(4, 0);
        y.write(2, 1);
        y.write(0, 0);
        E.told("19 the oldest, not live, too", y, y.cleansNext(), 1);
        y.cut(1, 3);
        E.told("19 down, too", y, y.cleansNext(), 1);
    }

    // ---- promise 20
    private static void cleansThen() {
        ShingledDisk x = Expect.diskOf("disk overlap 1 log 9 fullest;band 2;band 2;band 2;band 2");
        E.told("20 none", x, x.cleansThen(0), -2);
        x.write(6, 0);
        x.write(2, 0);
        x.write(4, 0);
        x.write(5, 0);
        int[] due = {2, 1, 3, -2, -2, -2};
        for (int i = 0; i < due.length; i++) {
            E.told("20 fullest " + i, x, x.cleansThen(i), due[i]);
        }
        E.told("20 most", x, x.cleansThen(BIG), -2);
        E.refused("20 -1", x, x.cleansThen(-1), 1);
        E.refused("20 least", x, x.cleansThen(LOW), 1);
        E.same("20 nothing is cleaned", x.entries(), 4);
        ShingledDisk y = Expect.diskOf("disk overlap 1 log 9 oldest;band 2;band 2;band 2");
        y.write(4, 0);
        y.write(0, 0);
        y.write(4, 0);
        y.write(2, 0);
        int[] old = {2, 0, 1, -2};
        for (int i = 0; i < old.length; i++) {
            E.told("20 oldest " + i, y, y.cleansThen(i), old[i]);
        }
    }

    // ---- promises 21, 22
    private static void stepsAndRids() {
        ShingledDisk x = Expect.diskOf("disk overlap 1 log 9 oldest;band 2;band 8");
        x.write(2, 0);
        x.write(2, 0);
        x.write(9, 0);
        E.told("21 steps 0", x, x.steps(0), 6);
        E.told("21 steps 1", x, x.steps(1), 18);
        E.refused("21 steps 2", x, x.steps(2), 1);
        E.refused("21 steps -1", x, x.steps(-1), 1);
        E.told("22 rids 0", x, x.rids(0), 0);
        E.told("22 rids 1", x, x.rids(1), 3);
        E.refused("22 rids 2", x, x.rids(2), 1);
        E.refused("22 rids -1", x, x.rids(-1), 1);
    }

    // ---- promises 23 to 26
    private static void cutsThen() {
        ShingledDisk x = Expect.diskOf("disk overlap 2 log 9 oldest;band 4;band 2;has 0 1;has 1 2");
        x.write(1, 3);
        x.write(4, 4);
        int[] damaged = {0, 0, 0, 0, 0, 0, 2, 2, 1, 0, 0};
        for (int k = 0; k <= 10; k++) {
            boolean full = k >= 5 && k <= 9;
            E.told("23 damages " + k, x, x.damages(0, k), damaged[k]);
            E.told("24 fullThen " + k, x, x.fullThen(0, k), full ? 1 : 0);
            E.told("26 recoversBy " + k, x, x.recoversBy(0, k), full ? 4 : 0);
            E.told("25 of the band " + k, x, x.readThen(0, k, 0), 1);
            E.told("25 of the log " + k, x, x.readThen(0, k, 1), 3);
            E.told("25 of another band " + k, x, x.readThen(0, k, 4), 4);
        }
        // each by itself, behind another trial
        for (int k = 0; k <= 10; k++) {
            boolean full = k >= 5 && k <= 9;
            x.damages(0, 10 - k);
            E.told("24 fullThen by itself " + k, x, x.fullThen(0, k), full ? 1 : 0);
            x.damages(0, 10);
            E.told("26 recoversBy by itself " + k, x, x.recoversBy(0, k), full ? 4 : 0);
            x.runRead(0);
            E.told("25 readThen by itself " + k, x, x.readThen(0, k, 1), 3);
            x.fullThen(0, 5);
            E.told("23 damages by itself " + k, x, x.damages(0, k), damaged[k]);
        }
        int[] low = {-1, 11, LOW, BIG};
        for (int k : low) {
            E.refused("23 k", x, x.damages(0, k), 2);
            E.refused("24 k", x, x.fullThen(0, k), 2);
            E.refused("25 k", x, x.readThen(0, k, 0), 2);
            E.refused("26 k", x, x.recoversBy(0, k), 2);
        }
        E.refused("23 k of the other band", x, x.damages(1, 7), 2);
        E.told("23 the other band", x, x.damages(1, 4), 1);
        int[] noBand = {-1, 2, LOW, BIG};
        for (int b : noBand) {
            E.refused("23 b", x, x.damages(b, 99), 1);
            E.refused("24 b", x, x.fullThen(b, 99), 1);
            E.refused("25 b", x, x.readThen(b, 99, 0), 1);
            E.refused("26 b", x, x.recoversBy(b, 99), 1);
        }
        E.refused("25 t", x, x.readThen(0, 99, 6), 1);
        E.refused("25 t below", x, x.readThen(0, 0, -1), 1);
        E.same("23 nothing is cut", x.down(), 0);
        E.same("23 nothing is written", x.size(8), 2);
        E.same("23 nothing to undo of it", x.size(9), 2);
        x.cut(0, 0);
        E.refused("23 down", x, x.damages(0, 0), 5);
        E.refused("24 down", x, x.fullThen(0, 0), 5);
        E.refused("25 down", x, x.readThen(0, 0, 0), 5);
        E.refused("26 down", x, x.recoversBy(0, 0), 5);
        E.refused("23 down, none such", x, x.damages(2, 0), 1);
        E.refused("23 down, a number", x, x.damages(0, 11), 2);
        E.refused("25 down, no such track", x, x.readThen(0, 0, 6), 1);
    }

    // ---- promises 27 to 30
    private static void runs() {
        // the log of 2: 0, 3; full: band 0 is cleaned (the first of like ones): 6; 1 ; full:
        // 3 and 1: band 0 again: 6; then 4; in all 4 and 12
        ShingledDisk x = Expect.diskOf("disk overlap 1 log 2 fullest;band 3;band 2;has 2 9;"
            + "write 0 5;write 3 6;write 1 7;write 4 8");
        E.told("27 runWrites", x, x.runWrites(), 16);
        E.told("28 runCleans", x, x.runCleans(), 2);
        int[] due = {5, 7, 9, 6, 8};
        for (int t = 0; t < 5; t++) {
            E.told("29 runRead " + t, x, x.runRead(t), due[t]);
        }
        E.refused("29 runRead(5)", x, x.runRead(5), 1);
        E.refused("29 runRead(-1)", x, x.runRead(-1), 1);
        E.told("30 upper", x, x.factor(false), 4);
        E.told("30 lower", x, x.factor(true), 1);
        // from the beginning on, whatever is NOW
        x.write(0, 77);
        x.write(0, 78);
        x.cut(0, 5);
        E.told("27 down", x, x.runWrites(), 16);
        E.told("29 down", x, x.runRead(0), 5);
        E.same("27 nothing is written", x.size(8), 6);
        // oldest: 3, 0 | 1: band 1 is cleaned (4), then 0 and 1 | 4: band 0 (6)
        ShingledDisk y = Expect.diskOf("disk overlap 1 log 2 oldest;band 3;band 2;"
            + "write 3 6;write 0 5;write 1 7;write 4 8;write 4 9;write 4 10");
        E.told("27 oldest", y, y.runWrites(), 20);
        E.told("28 oldest", y, y.runCleans(), 3);
        E.told("30 upper, in lowest terms", y, y.factor(false), 10);
        E.told("30 lower, in lowest terms", y, y.factor(true), 3);
        E.told("29 the last one", y, y.runRead(4), 10);
        // each by itself, behind another trial; unsure writes are as told
        ShingledDisk w = Expect.diskOf("disk overlap 1 log 2 fullest;band 2;"
            + "write 0 5;write 1 6;write 0 7;unsure 1 8;unsure 2 9");
        w.drawnWrites(0, 9);
        E.told("27 by itself", w, w.runWrites(), 7);
        w.drawnWrites(0, 9);
        E.told("28 by itself", w, w.runCleans(), 1);
        w.drawnWrites(0, 9);
        E.told("29 by itself", w, w.runRead(0), 7);
        E.told("29 as told", w, w.runRead(1), 6);
        w.drawnWrites(0, 9);
        E.told("30 upper by itself", w, w.factor(false), 7);
        w.drawnWrites(0, 9);
        E.told("30 lower by itself", w, w.factor(true), 3);
        ShingledDisk v = Expect.diskOf(HEAD + "band 2;write 0 5");
        E.told("30 one write", v, v.factor(false), 1);
        E.told("30 by one", v, v.factor(true), 1);
        ShingledDisk z = Expect.diskOf(HEAD + "band 2");
        E.told("27 none", z, z.runWrites(), 0);
        E.told("28 none", z, z.runCleans(), 0);
        E.told("30 0", z, z.factor(false), 0);
        E.told("30 by 1", z, z.factor(true), 1);
    }

    // ---- promises 31, 32
    private static void sizes() {
        ShingledDisk x = Expect.diskOf("disk overlap 1 log 2 fullest;band 3;band 2;"
            + "write 0 5;write 3 6;write 4 7");
        // one cleaning each: 2: band 0 of 2; 3: of 3; 4: {0,1,2,3} of 4; 5 to 8: of 5
        int[] due = {7, 9, 11, 13, 13, 13, 13};
        for (int n = 2; n <= 8; n++) {
            E.told("31 bySize " + n, x, x.bySize(n), due[n - 2]);
        }
        E.told("32 bestSize", x, x.bestSize(), 2);
        E.refused("31 1", x, x.bySize(1), 2);
        E.refused("31 9", x, x.bySize(9), 2);
        E.refused("31 least", x, x.bySize(LOW), 2);
        // the last band is of one track
        ShingledDisk y = Expect.diskOf("disk overlap 1 log 2 oldest;band 3;band 2;"
            + "write 4 5;write 4 6;write 0 7");
        E.told("31 the last one", y, y.bySize(2), 5);
        E.told("31 the last one by 3", y, y.bySize(3), 7);
        E.told("31 the last one by 4", y, y.bySize(4), 5);
        E.told("31 all in one", y, y.bySize(8), 13);
        E.told("32 the greatest such", y, y.bestSize(), 4);
        ShingledDisk z = Expect.diskOf("disk overlap 1 log 2 oldest;band 8;band 8;band 8;band 8;"
            + "band 8;band 8;write 47 1;write 47 1;write 0 0");
        E.told("31 of 48 tracks by 2", z, z.bySize(2), 7);
        E.told("31 of 48 tracks by 5", z, z.bySize(5), 9);
        E.told("31 of 48 tracks by 7", z, z.bySize(7), 15);
        E.told("32 of 48 tracks", z, z.bestSize(), 2);
        E.told("27 as told", z, z.runWrites(), 19);
        // by 7 the last track has a band of its own
        ShingledDisk w = Expect.diskOf("disk overlap 1 log 3 fullest;band 5;band 3;"
            + "write 7 0;write 7 1;write 5 2;write 1 3");
        E.told("31 by 7", w, w.bySize(7), 6);
        E.told("32 7", w, w.bestSize(), 7);
        // fullest or oldest as told
        String run = ";band 8;write 0 0;write 2 0;write 3 0;write 1 0;write 0 0";
        E.same("31 fullest", Expect.diskOf("disk overlap 1 log 3 fullest" + run).bySize(3), 11);
        E.same("31 oldest", Expect.diskOf("disk overlap 1 log 3 oldest" + run).bySize(2), 13);
        E.same("31 oldest by 3", Expect.diskOf("disk overlap 1 log 3 oldest" + run).bySize(3), 11);
        String other = ";band 8;write 0 0;write 3 0;write 4 0;write 1 0;write 0 0";
        E.same("31 fullest, other", Expect.diskOf("disk overlap 1 log 3 fullest" + other).bySize(3), 11);
        E.same("31 oldest, other", Expect.diskOf("disk overlap 1 log 3 oldest" + other).bySize(3), 17);
    }

    // ---- promises 33, 34
    private static void logs() {
        StringBuilder text = new StringBuilder("disk overlap 1 log 20 fullest;band 2");
        for (int i = 0; i < 16; i++) {
            text.append(";write ").append(i % 2).append(" 1");
        }
        ShingledDisk x = Expect.diskOf(text.toString());
        E.told("33 2", x, x.byLog(2), 7);
        E.told("33 3", x, x.byLog(3), 5);
        E.told("33 8", x, x.byLog(8), 1);
        E.told("33 15", x, x.byLog(15), 1);
        E.told("33 16", x, x.byLog(16), 0);
        E.told("33 24", x, x.byLog(24), 0);
        E.refused("33 1", x, x.byLog(1), 2);
        E.refused("33 25", x, x.byLog(25), 2);
        E.refused("33 most", x, x.byLog(BIG), 2);
        E.told("34 0", x, x.logFor(0), 16);
        E.told("34 1", x, x.logFor(1), 8);
        E.told("34 5", x, x.logFor(5), 3);
        E.told("34 6", x, x.logFor(6), 3);
        E.told("34 7", x, x.logFor(7), 2);
        E.told("34 16", x, x.logFor(16), 2);
        E.refused("34 -1", x, x.logFor(-1), 2);
        E.refused("34 17", x, x.logFor(17), 2);
        // by 2: oldest: band 1, band 0; fullest: band 0, band 0, band 1
        String run = ";band 2;band 5;write 6 0;write 0 1;write 0 2;write 6 3;write 6 4";
        ShingledDisk y = Expect.diskOf("disk overlap 1 log 9 oldest" + run);
        E.told("33 oldest", y, y.byLog(2), 2);
        E.told("34 oldest", y, y.logFor(2), 2);
        ShingledDisk z = Expect.diskOf("disk overlap 1 log 9 fullest" + run);
        z.bySize(8);
        E.told("33 fullest", z, z.byLog(2), 3);
        E.told("33 fullest by 3", z, z.byLog(3), 1);
        E.told("34 fullest", z, z.logFor(2), 3);
        E.told("28 as told", z, z.runCleans(), 0);
    }

    // ---- promises 35 to 38
    private static void fits() {
        String head = "disk overlap 1 log 2 fullest;band 4;has 3 30;";
        // write 0 is overwritten by 2; unsure: (0) write 1, (1) write 0, (2) write 2
        ShingledDisk x = Expect.diskOf(head + "write 0 1;write 1 2;write 0 3;"
            + "unsure 1 5;unsure 0 6;unsure 2 3;read 1 5;read 0 3;read 3 30");
        E.told("35 fits", x, x.fits(), 4);
        int[] due = {1, 3, 5, 7};
        for (int i = 0; i < 4; i++) {
            E.told("36 fitAt " + i, x, x.fitAt(i), due[i]);
        }
        E.refused("36 4", x, x.fitAt(4), 1);
        E.refused("36 -1", x, x.fitAt(-1), 1);
        E.refused("36 most", x, x.fitAt(BIG), 1);
        E.told("37 could", x, x.could(), 7);
        E.told("38 surely", x, x.surely(), 1);
        ShingledDisk y = Expect.diskOf(head + "write 0 1;unsure 0 2;read 0 3");
        E.told("35 none", y, y.fits(), 0);
        E.refused("36 none", y, y.fitAt(0), 1);
        E.told("37 none", y, y.could(), 0);
        E.told("38 none", y, y.surely(), 0);
        ShingledDisk z = Expect.diskOf(head + "write 0 1;read 3 30");
        E.told("35 the empty set", z, z.fits(), 1);
        E.told("36 the empty set", z, z.fitAt(0), 0);
        E.told("37 the empty set", z, z.could(), 0);
        E.told("38 the empty set", z, z.surely(), 0);
        ShingledDisk w = Expect.diskOf(head + "write 0 1;write 1 1;write 2 1;write 3 1;"
            + "unsure 3 2;unsure 2 2;unsure 1 2;unsure 0 2");
        E.told("35 all", w, w.fits(), 16);
        E.told("36 the last", w, w.fitAt(15), 15);
        E.told("37 all", w, w.could(), 15);
        E.told("38 all", w, w.surely(), 0);
        ShingledDisk v = Expect.diskOf(head + "write 0 1;write 1 1;unsure 0 2;unsure 1 2;read 0 2;read 1 1");
        E.told("35 the only one", v, v.fits(), 1);
        E.told("36 the only one", v, v.fitAt(0), 1);
        E.told("37 the only one", v, v.could(), 1);
        E.told("38 the only one", v, v.surely(), 1);
        ShingledDisk u = Expect.diskOf(head + "write 0 1;write 1 1;write 2 1;write 3 1;"
            + "unsure 0 2;unsure 1 2;unsure 2 2;unsure 3 2;read 0 1;read 1 2;read 2 2");
        E.told("37 the later ones", u, u.could(), 14);
        E.told("38 the later ones", u, u.surely(), 6);
    }

    // ---- promises 39, 40
    private static void asks() {
        String head = "disk overlap 1 log 9 fullest;band 4;";
        ShingledDisk x = Expect.diskOf(head + "write 0 1;write 1 2;write 2 3;"
            + "unsure 0 5;unsure 1 6;unsure 2 7;read 0 5");
        E.told("35 fits", x, x.fits(), 4);
        E.told("39 the first of the best", x, x.ask(), 1);
        E.told("40 half", x, x.askLeaves(), 2);
        // the other values are the same as those told, or are overwritten
        ShingledDisk u = Expect.diskOf(head + "write 0 1;write 0 2;write 1 3;"
            + "unsure 2 3;unsure 1 2;unsure 0 9;read 0 2;read 1 3");
        E.told("35 all eight", u, u.fits(), 8);
        E.told("39 the first", u, u.ask(), 0);
        E.told("40 four", u, u.askLeaves(), 4);
        ShingledDisk y = Expect.diskOf(head + "write 0 1;write 1 2;unsure 1 6;unsure 0 5;read 0 1;read 1 6");
        E.told("39 one fit", y, y.ask(), 0);
        E.told("40 one fit", y, y.askLeaves(), 1);
        ShingledDisk t = Expect.diskOf(head + "write 0 1;write 1 2;unsure 0 5;unsure 1 6;read 0 5");
        E.told("39 the one that is open", t, t.ask(), 1);
        E.told("40 the one that is open", t, t.askLeaves(), 1);
        ShingledDisk z = Expect.diskOf(head + "write 0 1;unsure 0 5;read 1 6");
        E.told("39 no fits", z, z.ask(), -2);
        E.told("40 no fits", z, z.askLeaves(), -2);
        ShingledDisk w = Expect.diskOf(head + "write 0 1;read 0 1");
        E.told("39 no unsure write", w, w.ask(), -2);
        E.told("40 no unsure write", w, w.askLeaves(), -2);
        ShingledDisk v = Expect.diskOf(head + "write 0 1;unsure 0 5");
        E.told("39 one unsure write", v, v.ask(), 0);
        E.told("40 one unsure write", v, v.askLeaves(), 1);
    }

    // ---- promise 41
    private static void judge() {
        String head = "disk overlap 1 log 2 fullest;band 4;has 2 20;write 3 1;write 3 2;write 1 3;unsure 2 4;";
        ShingledDisk x = Expect.diskOf(head + "read 3 2;read 2 20;read 0 0;read 1 4");
        E.told("41 the last, by its number", x, x.judge(), 3);
        ShingledDisk y = Expect.diskOf(head + "read 3 2;read 2 21;read 1 4");
        E.told("41 the first", y, y.judge(), 1);
        ShingledDisk z = Expect.diskOf(head + "read 3 2;read 1 3");
        E.told("41 none", z, z.judge(), -2);
        ShingledDisk w = Expect.diskOf(HEAD + "band 2");
        E.told("41 nothing read", w, w.judge(), -2);
    }

    // ---- promises 42, 43
    private static void drawn() {
        ShingledDisk x = Expect.diskOf(HEAD + "band 3;band 2;has 0 10;has 4 40");
        E.told("42 no turn", x, x.drawnRead(0, 0, 0), 10);
        E.told("43 no turn", x, x.drawnWrites(65536, 0), 0);
        // 74: track 4; 5624: 24; 28652: 4 by 8
        E.told("42 a turn", x, x.drawnRead(4, 0, 1), 24);
        E.told("43 a turn", x, x.drawnWrites(0, 1), 1);
        E.refused("42 t", x, x.drawnRead(5, -1, 0), 1);
        E.refused("42 t below", x, x.drawnRead(-1, 0, 101), 1);
        int[] seeds = {-1, 65537, LOW, BIG};
        for (int seed : seeds) {
            E.refused("42 seed", x, x.drawnRead(0, seed, 0), 2);
            E.refused("43 seed", x, x.drawnWrites(seed, 0), 2);
        }
        int[] turns = {-1, 101, LOW, BIG};
        for (int n : turns) {
            E.refused("42 n", x, x.drawnRead(0, 0, n), 2);
            E.refused("43 n", x, x.drawnWrites(0, n), 2);
        }
        x.drawnWrites(7, 100);
        E.same("42 nothing is written", x.size(8), 0);
        E.same("42 nothing to undo", x.size(9), 0);
        E.same("42 the log stays", x.entries(), 0);
        for (int seed = 0; seed < 40; seed++) {
            E.told("43 by seed " + seed, x, x.drawnWrites(seed, 100), drawnByHand(seed, 100));
        }
        E.told("43 by the greatest seed", x, x.drawnWrites(65536, 100), drawnByHand(65536, 100));
    }

    /** The disk of HEAD with bands of 3 and 2 TRACKS: only how many ENTRIES each band has counts. */
    private static int drawnByHand(int seed, int n) {
        int[] tracks = {3, 2};
        int[] held = new int[2];
        int writes = 0;
        long s = seed;
        for (int i = 0; i < n; i++) {
            s = (75 * s + 74) % 65537;
            int b = s % 5 < 3 ? 0 : 1;
            s = (75 * s + 74) % 65537;
            if (held[0] + held[1] == 3) {
                int full = held[1] > held[0] ? 1 : 0;
                writes += 2 * tracks[full];
                held[full] = 0;
            }
            held[b]++;
            writes++;
            s = (75 * s + 74) % 65537;
            if (s % 8 == 0) {
                int full = held[1] > held[0] ? 1 : 0;
                s = (75 * s + 74) % 65537;
                int many = tracks[full];
                int k = (int) (s % (2 * many + 3));
                writes += Math.min(k, many) + Math.max(0, Math.min(k - many - 1, many));
                if (k > many) {
                    writes += k < 2 * many + 2 ? many : 0;
                    held[full] = 0;
                }
            }
        }
        return writes;
    }

    private static void drawnDown() {
        ShingledDisk x = Expect.diskOf(HEAD + "band 3;band 2;has 0 10;has 4 40");
        x.write(0, 9);
        x.cut(0, 5);
        E.told("43 recovery ahead", x, x.drawnWrites(0, 0), 3);
        E.told("42 recovery ahead", x, x.drawnRead(0, 0, 0), 9);
        E.told("43 recovery and a turn", x, x.drawnWrites(0, 1), 4);
        E.told("42 recovery and a turn", x, x.drawnRead(4, 0, 1), 24);
        E.told("11 it stays down", x, x.down(), 1);
    }

    // ---- promise 44
    private static void write() {
        ShingledDisk x = Expect.diskOf("disk overlap 1 log 3 fullest;band 2;band 2");
        E.told("44 first", x, x.write(0, 0), 0);
        E.told("44 second", x, x.write(2, 9999), 1);
        E.told("44 third", x, x.write(3, 7), 2);
        E.refused("44 t", x, x.write(4, -1), 1);
        E.refused("44 t below", x, x.write(-1, 0), 1);
        E.refused("44 what", x, x.write(0, 10000), 2);
        E.refused("44 what below", x, x.write(0, -1), 2);
        E.refused("44 what most", x, x.write(0, BIG), 2);
        E.same("44 nothing is kept of these", x.size(9), 3);
        E.told("44 band 1 is cleaned ahead", x, x.write(3, 8), 1);
        E.same("44 writes", x.size(8), 8);
        E.same("44 written in the band", x.track(2), 9999);
        E.same("44 of the log as it was", x.track(3), 7);
        E.same("44 read", x.read(3), 8);
        E.same("44 one act", x.size(9), 4);
        x.cut(0, 0);
        E.refused("44 down", x, x.write(0, 0), 5);
        E.refused("44 down, t", x, x.write(4, 0), 1);
        E.refused("44 down, what", x, x.write(0, 10000), 2);
        // oldest, live or not
        ShingledDisk y = Expect.diskOf("disk overlap 1 log 3 oldest;band 2;band 2");
        y.write(2, 1);
        y.write(0, 2);
        y.write(1, 3);
        E.told("44 by the oldest", y, y.write(0, 4), 2);
        E.same("44 by the oldest, its band", y.track(2), 1);
        E.same("44 by the oldest, the other", y.track(0), 0);
    }

    // ---- promise 45
    private static void clean() {
        ShingledDisk x = Expect.diskOf("disk overlap 3 log 9 fullest;band 3;band 2;has 1 5");
        x.write(0, 1);
        x.write(3, 2);
        x.write(0, 3);
        E.told("45 clean", x, x.clean(0), 2);
        E.same("45 track 0", x.track(0), 3);
        E.same("45 track 1", x.track(1), 5);
        E.same("45 damaged", x.band(0, 4), 0);
        E.same("45 entries", x.entries(), 1);
        E.same("45 writes", x.size(8), 9);
        E.same("45 down", x.down(), 0);
        E.told("45 with no entry", x, x.clean(0), 0);
        E.same("45 writes, too", x.size(8), 15);
        E.same("45 acts", x.size(9), 5);
        E.refused("45 b", x, x.clean(2), 1);
        E.refused("45 b below", x, x.clean(-1), 1);
        x.cut(0, 0);
        E.refused("45 down", x, x.clean(0), 5);
        E.refused("45 down, b", x, x.clean(2), 1);
    }

    // ---- promise 46
    private static void cut() {
        int[] damaged = {0, 0, 0, 0, 0, 0, 2, 2, 1, 0, 0};
        int[] writes = {0, 1, 2, 3, 4, 4, 5, 6, 7, 8, 8};
        for (int k = 0; k <= 10; k++) {
            ShingledDisk x = Expect.diskOf("disk overlap 2 log 9 oldest;band 4;band 2;has 3 8");
            x.write(1, 5);
            x.write(4, 6);
            E.told("46 cut " + k, x, x.cut(0, k), damaged[k]);
            E.same("46 writes " + k, x.size(8), 2 + writes[k]);
            E.same("46 entries " + k, x.entries(), k == 10 ? 1 : 2);
            E.same("46 in the band " + k, x.track(1), k < 6 ? 0 : k == 6 ? -2 : 5);
            E.same("46 its last " + k, x.track(3), k == 7 || k == 8 ? -2 : 8);
            E.refused("46 down", x, x.cut(0, k), 5);
            E.refused("46 down, b", x, x.cut(2, k), 1);
            E.refused("46 down, k", x, x.cut(0, 11), 2);
            E.same("46 acts", x.size(9), 3);
        }
        ShingledDisk x = Expect.diskOf(HEAD + "band 3");
        E.refused("46 b", x, x.cut(1, 0), 1);
        E.refused("46 b below", x, x.cut(-1, 99), 1);
        E.refused("46 k", x, x.cut(0, 9), 2);
        E.refused("46 k below", x, x.cut(0, -1), 2);
        E.refused("46 k most", x, x.cut(0, BIG), 2);
        E.same("46 not down by these", x.down(), 0);
    }

    // ---- promise 47
    private static void recover() {
        for (int k = 0; k <= 10; k++) {
            boolean full = k >= 5 && k <= 9;
            ShingledDisk x = Expect.diskOf("disk overlap 3 log 9 oldest;band 2;band 4;has 5 8");
            x.write(3, 5);
            x.write(0, 6);
            E.refused("47 not down", x, x.recover(), 5);
            x.cut(1, k);
            int before = x.size(8);
            E.told("47 recover " + k, x, x.recover(), full ? 1 : -2);
            E.same("47 writes " + k, x.size(8) - before, full ? 4 : 0);
            E.same("47 down " + k, x.down(), 0);
            E.same("47 journal " + k, x.journal(), 0);
            E.same("47 entries " + k, x.entries(), k > 4 ? 1 : 2);
            E.same("47 in the band " + k, x.track(3), k > 4 ? 5 : 0);
            E.same("47 damaged " + k, x.band(1, 4), 0);
            E.same("47 read 3 " + k, x.read(3), 5);
            E.same("47 read 5 " + k, x.read(5), 8);
            E.same("47 read 0 " + k, x.read(0), 6);
            E.refused("47 not down any more", x, x.recover(), 5);
            E.same("47 acts", x.size(9), 4);
        }
    }

    // ---- promise 48
    private static void undo() {
        ShingledDisk x = Expect.diskOf("disk overlap 2 log 4 fullest;band 4;band 2;has 0 1");
        for (int i = 0; i < 18; i++) {
            x.write(i % 6, i);
            E.same("48 kept", x.size(9), Math.min(i + 1, 16));
        }
        int writes = x.size(8);
        x.cut(0, 6);
        x.recover();
        E.same("48 16 are kept", x.size(9), 16);
        E.yes("48 undo recovery", x.undo());
        E.same("48 trouble", x.trouble(), 0);
        E.same("48 down again", x.down(), 1);
        E.same("48 the journal again", x.journal(), 4);
        E.same("48 damaged again", x.band(0, 4), 2);
        x.undo();
        E.same("48 up again", x.down(), 0);
        E.same("48 writes as ahead", x.size(8), writes);
        for (int i = 17; i >= 4; i--) {
            E.same("48 read", x.read(i % 6), i);
            E.yes("48 undo", x.undo());
        }
        E.same("48 the oldest of those kept", x.read(3), 3);
        E.no("48 no more", x.undo());
        E.same("48 none", x.trouble(), 6);
        E.same("48 stays as it is", x.read(3), 3);
        E.same("48 acts", x.size(9), 0);
        x.write(0, 5);
        x.clean(0);
        E.refused("48 ahead of it", x, x.read(99), 1);
        E.yes("48 undo cleaning", x.undo());
        E.same("48 not refused", x.trouble(), 0);
        E.same("48 the entry again", x.read(0), 5);
        // the full LOG had band 0 cleaned ahead of that write
        E.same("48 not in the band", x.track(0), 0);
        E.same("48 acts left", x.size(9), 1);
        x.write(1, 9);
        E.same("48 an act behind an undo", x.size(9), 2);
        x.undo();
        x.undo();
        E.same("48 both undone", x.size(9), 0);
    }

    // ---- promises 49, 50
    private static void images() {
        ShingledDisk x = Expect.diskOf("disk overlap 2 log 4 fullest;band 4;band 2;has 0 1");
        E.told("49 first", x, x.image(), 0);
        x.write(0, 2);
        E.told("49 second", x, x.image(), 1);
        x.write(0, 3);
        x.cut(0, 6);
        E.told("49 third, down", x, x.image(), 2);
        E.refused("49 no room", x, x.image(), 3);
        E.same("49 images", x.size(10), 3);
        E.same("49 no act", x.size(9), 3);
        Expect.feed(x, "abc");
        E.yes("50 back 0", x.back(0));
        E.same("50 trouble", x.trouble(), 0);
        E.same("50 the tape stays", x.size(11), 20);
        E.same("50 read", x.read(0), 1);
        E.same("50 writes", x.size(8), 0);
        E.same("50 nothing to undo", x.size(9), 0);
        E.no("50 undo", x.undo());
        E.same("50 images stay", x.size(10), 3);
        E.yes("50 back 2", x.back(2));
        E.same("50 down", x.down(), 1);
        E.same("50 journal", x.journal(), 4);
        E.same("50 writes", x.size(8), 7);
        E.same("50 recovers", x.recover(), 0);
        E.same("50 read of image 2", x.read(0), 3);
        E.refused("50 ahead of it", x, x.read(99), 1);
        E.yes("50 back 1", x.back(1));
        E.same("50 not refused", x.trouble(), 0);
        E.same("50 read of image 1", x.read(0), 2);
        x.write(0, 4);
        E.no("50 back -1", x.back(-1));
        E.same("50 none such", x.trouble(), 1);
        E.no("50 back 3", x.back(3));
        E.no("50 back most", x.back(BIG));
        E.same("50 stays", x.read(0), 4);
        E.same("50 the act stays", x.size(9), 1);
        E.yes("50 back 1 again", x.back(1));
        E.same("50 the image was left alone", x.read(0), 2);
        E.refused("49 no room still", x, x.image(), 3);
    }

    // ---- promise 51
    private static void led() {
        ShingledDisk x = Expect.diskOf("disk overlap 2 log 4 fullest;band 3;band 2");
        x.write(0, 2);
        x.write(3, 2);
        x.write(3, 2);
        E.same("51 first", x.led(0), 1);
        E.same("51 second", x.led(1), 2);
        E.same("51 third", x.led(2), 4);
        E.ledThrows("51 led(3)", x, 3);
        E.ledThrows("51 led(-1)", x, -1);
        E.ledThrows("51 led(least)", x, LOW);
        E.ledThrows("51 led(most)", x, BIG);
        x.clean(0);
        E.same("51 behind a cleaning", x.led(0), 0);
        x.read(99);
        E.ledThrows("51 led(9)", x, 9);
        E.same("51 no trouble of it", x.trouble(), 1);
    }

    // ---- promise 52
    private static void size() {
        ShingledDisk x = Expect.diskOf("disk overlap 2 log 7 oldest;band 3;band 2;has 0 0;"
            + "write 0 1;write 1 1;write 2 1;unsure 0 1;unsure 1 1;read 0 1");
        x.write(0, 1);
        x.write(0, 1);
        x.undo();
        x.clean(1);
        x.image();
        x.feed(0, 0, 0, 0, 0);
        int[] due = {2, 7, 1, 2, 5, 3, 2, 1, 5, 2, 1, 20};
        for (int what = 0; what < due.length; what++) {
            E.same("52 size " + what, x.size(what), due[what]);
        }
        x.read(99);
        E.same("52 12", x.size(12), -1);
        E.same("52 -1", x.size(-1), -1);
        E.same("52 least", x.size(LOW), -1);
        E.same("52 most", x.size(BIG), -1);
        E.same("52 no trouble of it", x.trouble(), 1);
        E.same("52 fullest", Expect.diskOf(HEAD + "band 2").size(2), 0);
    }

    // ---- promise 53
    private static void trouble() {
        ShingledDisk x = Expect.diskOf(HEAD + "band 2");
        E.same("53 none", x.trouble(), 0);
        x.read(2);
        E.same("53 there is none such", x.trouble(), 1);
        E.same("53 asked again", x.trouble(), 1);
        x.read(0);
        E.same("53 not refused", x.trouble(), 0);
        x.write(0, -1);
        E.same("53 a number", x.trouble(), 2);
        x.fault();
        x.where();
        x.size(0);
        x.feed(0, 0, 0, 0, 0);
        x.led(0);
        E.same("53 not of calls without a number", x.trouble(), 2);
        x.undo();
        E.same("53 there is none", x.trouble(), 6);
        x.image();
        x.image();
        x.image();
        x.image();
        E.same("53 no room", x.trouble(), 3);
        x.disk(20);
        E.same("53 a fault", x.trouble(), 4);
        x.recover();
        E.same("53 not so", x.trouble(), 5);
        x.cleansNext();
        E.same("53 -2 is no refusal", x.trouble(), 0);
    }
}
