import java.io.IOException;
import java.nio.file.Files;
import java.nio.file.Path;
import java.util.Arrays;
import java.util.LinkedHashMap;
import java.util.Map;
import java.util.regex.Matcher;
import java.util.regex.Pattern;

/**
 * Tests that each belong to one sentence of the document. The sentence must stand in the document,
 * once in its section; and at the end no sentence of the sections looked at may be without a test.
 */
final class Edges {
    static final int BIG = Integer.MAX_VALUE;
    static final int LOW = Integer.MIN_VALUE;

    interface Call {
        long on(ShingledDisk x);
    }

    interface NumberCall {
        long of(int number);
    }

    private static final Pattern HEADING = Pattern.compile("(?m)^## (.*)$");
    private static final Pattern TERM = Pattern.compile("(?m)^(I|II|III|IV)\\. ");
    private static final Pattern CALL_HEAD = Pattern.compile("`[^`]*`: ");

    private final Map<String, String> sections = new LinkedHashMap<>();
    private final Map<String, boolean[]> named = new LinkedHashMap<>();
    private final Expect expect = new Expect();
    private String section = "";
    private String sentence = "";

    Edges(String[] args) throws IOException {
        Path root = Path.of(args.length > 0 ? args[0] : ".");
        String doc = Files.readString(root.resolve("../shared/DOC.md"));
        Matcher m = HEADING.matcher(doc);
        String heading = "";
        int from = 0;
        while (m.find()) {
            put(heading, doc.substring(from, m.start()));
            heading = m.group(1);
            from = m.end();
        }
        put(heading, doc.substring(from));
    }

    private void put(String heading, String body) {
        if (heading.equals("Terms")) {
            Matcher m = TERM.matcher(body);
            String term = "";
            int from = 0;
            while (m.find()) {
                putSection(term, body.substring(from, m.start()));
                term = m.group(1);
                from = m.end();
            }
            // what stands behind the fourth term only tells how the face is parted
            putSection(term, body.substring(from).split("\n\nAhead of the calls")[0]);
        } else if (heading.startsWith("Promise ")) {
            putSection(heading.replaceAll(":.*", ""), CALL_HEAD.matcher(body).replaceFirst(""));
        }
    }

    private void putSection(String name, String body) {
        String text = body.replace("```text", " ").replace("```", " ").replaceAll("\\s+", " ").trim();
        sections.put(name, text);
        named.put(name, new boolean[text.length()]);
    }

    void section(String name) {
        section = name;
        expect.yes("the document has no section " + name, sections.containsKey(name));
    }

    /** A test of a sentence of the section. */
    void edge(String words, Runnable test) {
        sentence = section + " [" + words + "] ";
        String text = sections.getOrDefault(section, "");
        int at = text.indexOf(words);
        expect.yes(sentence + "stands in the document", at >= 0);
        expect.no(sentence + "stands there more than once", at >= 0 && text.indexOf(words, at + 1) >= 0);
        if (at >= 0) {
            Arrays.fill(named.get(section), at, at + words.length(), true);
        }
        int before = expect.asked();
        test.run();
        expect.yes(sentence + "asks something", expect.asked() > before);
        sentence = "";
    }

    /** Each word of the sections is in a sentence that has a test. */
    void end(String test, String sectionNames) {
        for (String name : sections.keySet()) {
            if (name.matches(sectionNames)) {
                expect.yes(name + ", without a test: " + unnamed(name), unnamed(name).isEmpty());
            }
        }
        expect.end(test);
    }

    private String unnamed(String name) {
        String text = sections.get(name);
        boolean[] has = named.get(name);
        StringBuilder rest = new StringBuilder();
        for (int i = 0; i < text.length(); i++) {
            boolean counts = Character.isLetterOrDigit(text.charAt(i));
            if (!has[i] && counts) {
                rest.append(text.charAt(i));
            } else if (rest.length() > 0 && rest.charAt(rest.length() - 1) != ' ') {
                rest.append(' ');
            }
        }
        return rest.toString().trim();
    }

    // ---- what a test asks

    void same(String what, long got, long due) {
        expect.same(sentence + what, got, due);
    }

    void row(String what, int[] due, NumberCall call) {
        for (int i = 0; i < due.length; i++) {
            same(what + " " + i, call.of(i), due[i]);
        }
    }

    void yes(String what, boolean got) {
        expect.yes(sentence + what, got);
    }

    void no(String what, boolean got) {
        expect.no(sentence + what, got);
    }

    /** The call answered what is due, unrefused. */
    void told(String what, ShingledDisk x, long got, long due) {
        expect.told(sentence + what, x, got, due);
    }

    void ledThrows(String what, ShingledDisk x, int i) {
        expect.ledThrows(sentence + what, x, i);
    }

    /** A DISK by a text in which nothing is wrong. */
    ShingledDisk disk(String text) {
        ShingledDisk x = new ShingledDisk();
        yes("a good text: " + text, Expect.tell(x, text) > 0);
        return x;
    }

    void good(String text, int tracks) {
        ShingledDisk x = new ShingledDisk();
        told("[" + text + "]", x, Expect.tell(x, text), tracks);
        same("fault() of [" + text + "]", x.fault(), 0);
        same("where() of [" + text + "]", x.where(), -1);
    }

    /** The FAULT of head and rest, its place counted from the rest on. */
    void fault(String head, String rest, int number, int place) {
        ShingledDisk x = new ShingledDisk();
        String text = head + rest;
        same("[" + text + "]", Expect.tell(x, text), -1);
        same("trouble() of [" + text + "]", x.trouble(), 4);
        same("fault() of [" + text + "]", x.fault(), number);
        same("where() of [" + text + "]", x.where(), head.length() + place);
        same("no DISK by [" + text + "]", x.size(4), 0);
    }

    /** The call is refused for that reason, and nothing is changed by it. */
    void refused(String what, ShingledDisk x, int trouble, Call call) {
        String before = look(x);
        same(what, call.on(x), -1);
        same(what + ", trouble()", x.trouble(), trouble);
        same(what + ", where()", x.where(), -1);
        String after = look(x);
        yes(what + " changes " + before + " to " + after, before.equals(after));
    }

    /** Of a number of things each is there, and no other one. */
    void noneSuch(String what, ShingledDisk x, int count, NumberCall call) {
        if (count > 0) {
            yes(what + "(0)", call.of(0) != -1 && x.trouble() == 0);
            yes(what + " of the last", call.of(count - 1) != -1 && x.trouble() == 0);
        }
        outOf(what, x, 1, 0, count - 1, call);
    }

    /** Numbers beyond the bounds are refused for that reason. */
    void outOf(String what, ShingledDisk x, int trouble, int least, int most, NumberCall call) {
        int[] wrong = {least - 1, least - 2, most + 1, most + 2, LOW, BIG};
        for (int number : wrong) {
            refused(what + " by " + number, x, trouble, y -> call.of(number));
        }
    }

    /** Refused by 1 of a new object, and of one that a text with a FAULT left without a DISK. */
    void noDisk(String what, Call call) {
        refused(what + ", new", new ShingledDisk(), 1, call);
        ShingledDisk x = new ShingledDisk();
        Expect.tell(x, "disk overlap 1 log 3 fullest;band 2;band 9");
        refused(what + ", behind a FAULT", x, 1, call);
        Expect.tell(x, "disk overlap 1 log 3 fullest;band 2");
        call.on(x);
        no(what + " is refused by 1 with a DISK", x.trouble() == 1);
    }

    /** What can be seen of a disk without a draw or a trial. */
    static String look(ShingledDisk x) {
        StringBuilder all = new StringBuilder();
        for (int what = 0; what <= 11; what++) {
            all.append(x.size(what)).append(' ');
        }
        all.append(x.fault()).append(' ').append(x.down()).append(' ').append(x.journal()).append(" :");
        for (int i = 0; i < x.entries(); i++) {
            all.append(' ').append(x.entry(i, 0)).append('=').append(x.entry(i, 1));
        }
        all.append(" :");
        for (int t = 0; t < x.size(4); t++) {
            all.append(' ').append(x.track(t));
        }
        return all.toString();
    }
}
