import java.io.IOException;
import java.nio.ByteBuffer;
import java.nio.charset.StandardCharsets;
import java.nio.file.Files;
import java.nio.file.Path;
import java.util.ArrayList;
import java.util.Arrays;
import java.util.List;
import java.util.function.Consumer;
import java.util.function.Supplier;

/** What the tests of edges share: sentences of the document with their checks, texts, rooms, and a view of all. */
abstract class Checks {
    static final int NONE = LastToWince.NONE;
    static final int NO_SUCH = NONE - 1;
    static final int LOW = Integer.MIN_VALUE;
    static final int HIGH = Integer.MAX_VALUE;
    static final int LAW = 0;
    static final int SPEECH = 1;
    static final int PINCHES = 2;
    static final int SALE = 3;

    private static int sentences = 0;
    private static int checks = 0;
    private static int wrong = 0;
    private static String now = "";
    private static String document = null;
    private static boolean[] quoted = new boolean[0];

    // ------------------------------------------------------------------ the document

    /** From Terms to the last promise, without headings, fences and signatures. */
    static void readDocument(Path path) throws IOException {
        if (!Files.isReadable(path)) {
            System.out.println("no document at " + path + ": its words are not compared");
            return;
        }
        StringBuilder kept = new StringBuilder();
        for (String line : Files.readAllLines(path)) {
            if (!line.startsWith("#") && !line.startsWith("```")) {
                kept.append(line.replace("====", "").replaceAll("^`[^`]*`: ", "")).append(' ');
            }
        }
        String whole = kept.toString().replaceAll("\\s+", " ");
        int from = whole.indexOf("An object is used");
        document = whole.substring(from, whole.indexOf("How the state is held inside"));
        quoted = new boolean[document.length()];
        // the face is a list of signatures, which LanguageTest compares
        int face = document.indexOf("public final class");
        Arrays.fill(quoted, face, document.indexOf("Quotients go downwards"), true);
    }

    /** One sentence of the document, in its words, and what must be so for it to hold. */
    static void says(String words, Runnable test) {
        now = "\"" + words + "\"";
        sentences++;
        quote(words);
        int before = checks;
        try {
            test.run();
        } catch (RuntimeException e) {
            complain("threw " + e);
        }
        if (checks == before) complain("nothing was checked");
    }

    private static void quote(String words) {
        if (document == null) return;
        int at = document.indexOf(words);
        if (at < 0) complain("does not stand in the document");
        for (; at >= 0; at = document.indexOf(words, at + 1)) Arrays.fill(quoted, at, at + words.length(), true);
    }

    private static void findUnquoted() {
        now = "the document";
        for (int i = 0; i < quoted.length; i++) {
            int from = i;
            while (i < quoted.length && !quoted[i]) i++;
            String rest = document.substring(from, i);
            if (rest.matches(".*[A-Za-z0-9].*")) complain("has no test for: " + rest);
        }
    }

    static void finish() {
        findUnquoted();
        System.out.println(sentences + " sentences, " + checks + " answers, " + wrong + " not as due");
        if (wrong != 0) System.exit(1);
    }

    // ------------------------------------------------------------------ checks

    private static void complain(String what) {
        wrong++;
        System.out.println(now + ": " + what);
    }

    static void is(String what, int got, int want) {
        checks++;
        if (got != want) complain(what + " answered " + got + ", due is " + want);
    }

    static void is(String what, boolean got, boolean want) {
        is(what, got ? 1 : 0, want ? 1 : 0);
    }

    static void are(String what, List<Integer> got, Integer... want) {
        checks++;
        if (!got.equals(Arrays.asList(want))) complain(what + " answered " + got + ", due is " + Arrays.asList(want));
    }

    /** A call that is refused answers so, and leaves an object as it would have been without it. */
    static void refused(String what, Supplier<LastToWince> maker, Call call, int answer) {
        LastToWince x = maker.get();
        is(what, call.on(x), answer);
        same(what + " changed something", x, maker.get());
    }

    static void changesNothing(String what, Supplier<LastToWince> maker, Consumer<LastToWince> calls) {
        LastToWince x = maker.get();
        calls.accept(x);
        same(what + " changed something", x, maker.get());
    }

    static void same(String what, LastToWince x, LastToWince y) {
        checks++;
        List<String> a = view(x);
        List<String> b = view(y);
        if (a.equals(b)) return;
        for (int i = 0; i < Math.min(a.size(), b.size()); i++) {
            if (!a.get(i).equals(b.get(i))) {
                complain(what + ": " + a.get(i) + ", due is " + b.get(i));
                return;
            }
        }
        complain(what + ": one shows more than the other");
    }

    interface Call {
        int on(LastToWince x);
    }

    static int flag(boolean b) {
        return b ? 1 : 0;
    }

    // ------------------------------------------------------------------ texts

    static void feedAll(LastToWince x, String text) {
        byte[] bytes = text.getBytes(StandardCharsets.ISO_8859_1);
        for (int i = 0; i < bytes.length; i += 20) {
            ByteBuffer b = ByteBuffer.wrap(Arrays.copyOfRange(bytes, i, i + 20));
            x.feed(b.getInt(), b.getInt(), b.getInt(), b.getInt(), b.getInt());
        }
        x.end(bytes.length);
    }

    static int tell(LastToWince x, int k, String text) {
        x.end(0);
        feedAll(x, text);
        return x.text(k);
    }

    /** A text that is read: so many lines. */
    static void reads(LastToWince x, int k, String text, int lines) {
        is("text " + k + " \"" + text + "\"", tell(x, k, text), lines);
        is("fault(0) of \"" + text + "\"", x.fault(0), 0);
        is("fault(1) of \"" + text + "\"", x.fault(1), NONE);
    }

    static void fails(LastToWince x, int k, String text, int fault, int place) {
        is("text " + k + " \"" + text + "\"", tell(x, k, text), NONE);
        is("fault(0) of \"" + text + "\"", x.fault(0), fault);
        is("fault(1) of \"" + text + "\"", x.fault(1), place);
    }

    // ------------------------------------------------------------------ rooms

    /** Dealers of the nerves told, whose skin is their number. */
    static LastToWince room(int purse, int... nerves) {
        LastToWince x = new LastToWince();
        for (int i = 0; i < nerves.length; i++) x.dealer(nerves[i], i % 10, purse, false);
        return x;
    }

    /** A room of n dealers alike but for their skin, and of so many lots. */
    static LastToWince crowd(int n, int lots) {
        LastToWince x = room(100, new int[n]);
        for (int i = 0; i < lots; i++) x.lot(0, 10);
        return x;
    }

    /** Something of everything, and room for more of it: one lot sold, two acts to be undone, an image. */
    static LastToWince half() {
        LastToWince x = room(500, 10, 60, 90);
        x.lot(1, 100);
        x.lot(2, 200);
        tell(x, LAW, "wince 700 when nerve<50;wince 20;price 7;calm 2;");
        tell(x, SPEECH, "say 3 for 2;say 5;");
        tell(x, PINCHES, "dealer 0 pinches 1;");
        tell(x, SALE, "lot 1 dark;bar 0;");
        x.state(77);
        tellThoughts(x, 1);
        x.image(true);
        x.sell(0);
        x.act(0, 1);
        tell(x, SPEECH, "say 4 for 3;say 9;");
        feedAll(x, "say 6;");
        return x;
    }

    /** As much of everything as can be, and a tape with no place for more. */
    static LastToWince full() {
        LastToWince x = new LastToWince();
        for (int i = 0; i < 10; i++) x.dealer(90 + i, i, 9990 + i, i % 2 == 0);
        for (int i = 0; i < 12; i++) x.lot(i % 6, 988 + i);
        tell(x, LAW, "calm 1;".repeat(15) + "wince 30;");
        tell(x, SPEECH, "say 7;".repeat(16));
        tell(x, PINCHES, "dealer 8 pinches 9;".repeat(16));
        tell(x, SALE, "bar 9;".repeat(15) + "lot 11;");
        x.state(LOW);
        for (int i = 0; i < 16; i++) tellThoughts(x, i);
        x.image(true);
        x.sell(11);
        for (int i = 0; i < 5; i++) x.act(i % 2 == 0 ? 2 : 3, 0);
        tell(x, SPEECH, "say 1 for 61;");
        for (int i = 0; i < 20; i++) x.feed(0, 0, 0, 0, 0);
        return x;
    }

    static List<Supplier<LastToWince>> makers() {
        return List.of(LastToWince::new, Checks::half, Checks::full);
    }

    private static void tellThoughts(LastToWince x, int i) {
        x.seen(i % 3, (i + 1) % 3);
        if (i < 6) x.claim(100 + i);
        if (i < 8) x.puts(i, 1023 >> i);
        if (i < 7) x.bring(90 + i, i);
        if (i < 12) x.breath(99 - i);
    }

    /** The state that so many draws lead to, by numbers that do not wrap. */
    static int drawn(int state, int draws) {
        long s = state & 0xFFFFFFFFL;
        for (int i = 0; i < draws; i++) s = (s * 1664525L + 1013904223L) % (1L << 32);
        return (int) s;
    }

    /** The first draw of a thousand from a state. */
    static int drawOf(int state) {
        return (int) (((drawn(state, 1) & 0xFFFFFFFFL) >> 8) % 1000);
    }

    static List<Integer> bookLine(LastToWince x, int i) {
        List<Integer> line = new ArrayList<>();
        for (int what = 0; what < 4; what++) line.add(x.book(i, what));
        return line;
    }

    static List<Integer> order(Call0 thought, int size) {
        List<Integer> found = new ArrayList<>();
        for (int i = 0; i < size; i++) found.add(thought.of(10 + i));
        return found;
    }

    interface Call0 {
        int of(int what);
    }

    // ------------------------------------------------------------------ a view of all

    /** All that shows. What can be undone, the tape and the image come last, since looking at them changes them. */
    static List<String> view(LastToWince x) {
        List<String> v = new ArrayList<>();
        viewRoom(v, x);
        viewThoughts(v, x);
        for (int i = 0; i < 7; i++) {
            v.add("undo " + i + " " + x.undo());
            for (int what = 2; what <= 6; what++) v.add("look " + what + " " + x.look(what) + " behind undo " + i);
        }
        int tape = x.feed(0, 0, 0, 0, 0);
        v.add("feed " + tape);
        v.add("text " + x.text(SPEECH) + " of the tape, fault " + x.fault(0) + " at " + x.fault(1));
        v.add("image " + x.image(false));
        for (int what = 0; what <= 13; what++) v.add("look " + what + " " + x.look(what) + " of the image");
        v.add("breaths of the image " + x.breaths(1));
        return v;
    }

    private static void viewRoom(List<String> v, LastToWince x) {
        for (int what = 0; what <= 13; what++) v.add("look " + what + " " + x.look(what));
        for (int what = 0; what < 2; what++) v.add("fault " + what + " " + x.fault(what));
        int dealers = x.look(0);
        for (int d = 0; d < dealers; d++) {
            StringBuilder b = new StringBuilder("dealer " + d);
            for (int what = 0; what < 8; what++) b.append(' ').append(x.of(d, what));
            v.add(b.toString());
        }
        int lots = x.look(1);
        for (int l = 0; l < lots; l++) {
            v.add("lot " + l + " " + x.lotOf(l, 0) + " " + x.lotOf(l, 1) + " " + x.lotOf(l, 2));
        }
        for (int i = 0; i < 6; i++) v.add("book " + i + " " + bookLine(x, i));
        for (int minute = 0; minute < 4; minute++) v.add("word " + minute + " " + x.word(minute));
        for (int d = 0; d < 3; d++) v.add("winces " + d + " " + x.winces(d, 0, 0) + " " + x.winces(d, 1, 1));
    }

    private static void viewThoughts(List<String> v, LastToWince x) {
        v.add("would " + x.would(0, 0) + " " + x.would(0, 1) + " " + x.would(0, 2));
        v.add("clears " + x.clears(0) + " " + x.clears(1) + " sat " + x.sat(0));
        v.add("ranks " + x.ranks(0) + " " + order(x::ranks, 4));
        v.add("buys " + x.buys(9999, 0) + " " + x.buys(9999, 1));
        for (int i = NONE; i < 6; i++) v.add("shares " + i + " " + x.shares(333, i));
        v.add("outs " + x.outs(0) + " " + x.outs(1) + " tells " + x.tells(NONE));
        for (int w = 0; w < 8; w++) v.add("tells " + w + " " + x.tells(1 << w));
        v.add("brings " + x.brings(0) + " " + order(x::brings, 7));
        v.add("breaths " + x.breaths(0) + " " + x.breaths(1));
        v.add("game " + x.game(0) + " " + x.game(1) + " rich " + x.rich(0) + " " + x.rich(1) + " " + x.rich(2));
    }
}
