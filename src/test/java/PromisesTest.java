import java.nio.ByteBuffer;
import java.nio.charset.StandardCharsets;
import java.util.Arrays;

/** Each promise by itself: ordinary inputs, the edges that the document names, and wrong inputs. */
public final class PromisesTest {
    private static final int NONE = LastToWince.NONE;
    private static final int LOW = Integer.MIN_VALUE;
    private static final int HIGH = Integer.MAX_VALUE;
    private static int wrong = 0;
    private static int checks = 0;
    private static String now = "";

    private static void is(String what, int got, int want) {
        checks++;
        if (got != want) {
            wrong++;
            System.out.println(now + ": " + what + " answered " + got + ", due is " + want);
        }
    }

    private static void is(String what, boolean got, boolean want) {
        is(what, got ? 1 : 0, want ? 1 : 0);
    }

    private static void feedAll(LastToWince x, String text) {
        byte[] bytes = text.getBytes(StandardCharsets.ISO_8859_1);
        for (int i = 0; i < bytes.length; i += 20) {
            ByteBuffer b = ByteBuffer.wrap(Arrays.copyOfRange(bytes, i, i + 20));
            x.feed(b.getInt(), b.getInt(), b.getInt(), b.getInt(), b.getInt());
        }
        x.end(bytes.length);
    }

    private static int tell(LastToWince x, int k, String text) {
        x.end(0);
        feedAll(x, text);
        return x.text(k);
    }

    private static void fault(LastToWince x, int k, String text, int kind, int place) {
        is("text " + k + " \"" + text + "\"", tell(x, k, text), NONE);
        is("fault(0) of \"" + text + "\"", x.fault(0), kind);
        is("fault(1) of \"" + text + "\"", x.fault(1), place);
    }

    /** Dealers of the nerves told, skin and purse alike. */
    private static LastToWince room(int purse, int... nerves) {
        LastToWince x = new LastToWince();
        for (int n : nerves) x.dealer(n, 1, purse, false);
        return x;
    }

    private static int drawn(int state, int draws) {
        long s = state & 0xFFFFFFFFL;
        for (int i = 0; i < draws; i++) s = (s * 1664525L + 1013904223L) & 0xFFFFFFFFL;
        return (int) s;
    }

    private static void newObject() {
        LastToWince x = new LastToWince();
        for (int i = 0; i <= 13; i++) is("look(" + i + ")", x.look(i), 0);
        is("fault(0)", x.fault(0), 0);
        is("fault(1)", x.fault(1), NONE);
        is("undo", x.undo(), false);
        is("image", x.image(false), false);
        is("house", x.house(), 0);
        is("feed", x.feed(0, 0, 0, 0, 0), 20);
        is("another object is by itself", new LastToWince().feed(0, 0, 0, 0, 0), 20);
        is("NONE", NONE, -1);
    }

    private static void state() {
        LastToWince x = room(100, 10, 20);
        x.lot(0, 10);
        is("state", x.state(12345), 0);
        is("state", x.state(-7), 12345);
        is("look(8)", x.look(8), -7);
        is("state", x.state(LOW), -7);
        is("state", x.state(12345), LOW);
        tell(x, 0, "wince 0;");
        x.sell(0);
        is("200 minutes of two draws", x.look(8), drawn(12345, 400));
        is("it can be undone", x.look(13), 1);
        x.state(x.look(8));
        is("telling the state forgets", x.look(13), 0);
    }

    private static void dealer() {
        LastToWince x = new LastToWince();
        int[][] bad = {{-1, 0, 0}, {100, 0, 0}, {0, -1, 0}, {0, 10, 0}, {0, 0, -1}, {0, 0, 10000}, {LOW, 0, 0},
            {HIGH, 0, 0}, {0, 0, HIGH}};
        for (int[] b : bad) is(Arrays.toString(b), x.dealer(b[0], b[1], b[2], true), NONE);
        is("none came", x.look(0), 0);
        is("greatest", x.dealer(99, 9, 9999, true), 0);
        is("least", x.dealer(0, 0, 0, false), 1);
        is("nerve", x.of(0, 0), 99);
        is("purse", x.of(0, 2), 9999);
        for (int i = 2; i < 10; i++) is("dealer", x.dealer(i, i % 10, i, false), i);
        x.act(2, 0);
        is("an eleventh", x.dealer(1, 1, 1, false), NONE);
        is("what can't be forgets nothing", x.look(13), 1);
        LastToWince y = new LastToWince();
        y.act(2, 0);
        y.dealer(1, 1, 1, false);
        is("a dealer forgets", y.look(13), 0);
    }

    private static void lot() {
        LastToWince x = new LastToWince();
        int[][] bad = {{-1, 0}, {6, 0}, {0, -1}, {0, 1000}, {LOW, 5}, {5, HIGH}};
        for (int[] b : bad) is(Arrays.toString(b), x.lot(b[0], b[1]), NONE);
        for (int i = 0; i < 12; i++) is("lot", x.lot(i % 6, i == 0 ? 999 : i), i);
        x.act(2, 0);
        is("a thirteenth", x.lot(0, 0), NONE);
        is("it forgets nothing", x.look(13), 1);
        is("look(1)", x.look(1), 12);
        is("all unsold", x.look(6), 4095);
        LastToWince y = new LastToWince();
        y.act(2, 0);
        y.lot(0, 0);
        is("a lot forgets", y.look(13), 0);
    }

    private static void set() {
        LastToWince x = room(100, 10, 20);
        x.lot(1, 2);
        int[] most = {99, 9, 9999, 999, 5};
        for (int what = 0; what < 5; what++) {
            is("most", x.set(what, 0, most[what]), true);
            is("beyond", x.set(what, 0, most[what] + 1), false);
            is("below", x.set(what, 0, -1), false);
            is("nobody", x.set(what, what < 3 ? 2 : 1, 0), false);
            is("nobody", x.set(what, -1, 0), false);
            is("nobody", x.set(what, LOW, 0), false);
        }
        is("nerve", x.of(0, 0), 99);
        is("skin", x.of(0, 1), 9);
        is("purse", x.of(0, 2), 9999);
        is("worth", x.lotOf(0, 1), 999);
        is("kind", x.lotOf(0, 0), 5);
        is("least", x.set(0, 1, 0), true);
        is("nerve", x.of(1, 0), 0);
        is("another what", x.set(5, 0, 0), false);
        is("another what", x.set(-1, 0, 0), false);
        x.act(2, 0);
        x.set(0, 5, 0);
        is("what can't be forgets nothing", x.look(13), 1);
        x.set(0, 0, 99);
        is("it forgets, even if it is so", x.look(13), 0);
    }

    private static void sell() {
        LastToWince x = room(100, 50, 10, 60, 20);
        x.lot(2, 80);
        x.lot(2, 81);
        x.lot(2, 82);
        is("none such", x.sell(3), NONE - 1);
        is("none such", x.sell(-1), NONE - 1);
        is("none such", x.sell(HIGH), NONE - 1);
        is("no act", x.look(13), 0);
        tell(x, 0, "wince 1000 when nerve<55 and minute=1; wince 0; price 30+minute*2+in; calm 50;");
        tell(x, 1, "say 4; say 6;");
        is("who never winces", x.sell(0), 2);
        is("two minutes", x.look(3), 2);
        is("winces are told minute by minute", x.book(0, 0), 1);
        is("the word of the second minute", x.book(0, 3), 6);
        is("by dealers", x.book(1, 2), 1);
        is("by dealers", x.book(2, 2), 3);
        is("sold", x.book(3, 1), 2);
        is("at minute 2", x.book(3, 0), 2);
        is("pays with in 1 and two minutes", x.of(2, 2), 100 - 35);
        is("taken", x.look(4), 35);
        is("nerve at most 99", x.of(2, 0), 99);
        is("three less", x.of(0, 0), 47);
        is("three less", x.of(1, 0), 7);
        is("winced", x.of(3, 5), 1);
        is("winner did not wince", x.of(2, 5), 0);
        is("lots", x.of(2, 6), 1);
        is("sold once", x.sell(0), NONE - 1);
        // all wince at once: the one with most nerve of them has it, though he winced, and he loses no nerve
        x = room(20, 2, 70, 70);
        x.lot(0, 90);
        tell(x, 0, "wince 1000; price winced*7; calm winced*2;");
        is("the least of those with most nerve", x.sell(0), 1);
        is("winced", x.of(1, 5), 1);
        is("price is asked when he has winced", x.of(1, 2), 13);
        is("and so is calm", x.of(1, 0), 72);
        is("nerve is 0 at least", x.of(0, 0), 0);
        is("nerve", x.of(2, 0), 67);
        is("lines", x.look(7), 4);
        // one alone has it at once, without a draw
        x = room(20, 5, 6);
        x.lot(0, 90);
        x.act(0, 1);
        is("alone", x.sell(0), 0);
        is("no minute", x.look(3), 0);
        is("no draw", x.look(8), 0);
        is("his purse is less than the price", x.of(0, 2), 0);
        is("taken", x.look(4), 20);
        is("calm is 5", x.of(0, 0), 10);
        x.lot(0, 10);
        is("nobody is in", x.sell(1), NONE);
        is("an act all the same", x.look(13), 1);
        is("not sold", x.lotOf(1, 2), NONE);
        sellPinched();
        sellByDraws();
    }

    private static void sellPinched() {
        LastToWince x = room(500, 1, 50, 60, 70, 80);
        x.lot(0, 90);
        tell(x, 0, "wince 1000 when nerve<10; wince 0 ;");
        tell(x, 2, "dealer 0 pinches 2; dealer 2 pinches 3; dealer 0 pinches 1;");
        x.act(0, 4);
        is("the dragged drag no more", x.sell(0), 3);
        is("winced", x.book(0, 1), 0);
        is("dragged, by dealers", x.book(1, 2), 1);
        is("dragged", x.book(1, 1), 1);
        is("dragged in the same minute", x.book(1, 0), 0);
        is("dragged", x.book(2, 2), 2);
        is("sold", x.book(3, 1), 2);
        is("dragged ones did not wince", x.of(1, 5) + x.of(2, 5), 0);
        is("nor lose nerve", x.of(1, 0), 50);
        // all out, one of them dragged: the one with most nerve of all stays, be he dragged
        x = room(500, 1, 50);
        x.lot(0, 90);
        tell(x, 0, "wince 1000 when nerve<10; wince 0 ;");
        tell(x, 2, "dealer 0 pinches 1;");
        is("the dragged one stays", x.sell(0), 1);
        is("dragged stands in the book", x.book(1, 1), 1);
        is("one minute", x.look(3), 1);
    }

    private static void sellByDraws() {
        // without a law wince is 300 less 3 times nerve
        int[] nerves = {10, 60};
        LastToWince x = room(500, nerves);
        x.lot(0, 90);
        x.state(99);
        int s = 99;
        int minutes = 0;
        boolean[] out = new boolean[2];
        while (!out[0] && !out[1]) {
            for (int d = 0; d < 2; d++) {
                s = drawn(s, 1);
                out[d] = (s >>> 8) % 1000 < 300 - 3 * nerves[d];
            }
            minutes++;
        }
        is("by draws", x.sell(0), out[1] && !out[0] ? 0 : 1);
        is("minutes", x.look(3), minutes);
        is("state", x.look(8), s);
        // 200 minutes without a wince: the light gives
        x = room(500, 30, 40, 40);
        x.lot(0, 90);
        tell(x, 0, "wince 0;");
        is("the light gives", x.sell(0), 1);
        is("minutes", x.look(3), 200);
        is("ahead of sold", x.book(0, 1), 3);
        is("at minute 200", x.book(0, 0), 200);
        is("its lot", x.book(0, 3), 0);
        is("sold", x.book(1, 1), 2);
        is("price: worth by 2", x.of(1, 2), 455);
    }

    private static void act() {
        LastToWince x = room(100, 10, 20);
        is("admit who is not barred", x.act(1, 0), false);
        is("bar", x.act(0, 1), true);
        is("barred", x.of(1, 4), 1);
        is("look(5)", x.look(5), 2);
        is("bar again", x.act(0, 1), false);
        is("admit", x.act(1, 1), true);
        is("barred", x.of(1, 4), 0);
        is("none such", x.act(0, 2), false);
        is("none such", x.act(1, -1), false);
        is("light when it is", x.act(3, 0), false);
        is("dark", x.act(2, LOW), true);
        is("dark", x.look(2), 1);
        is("dark again", x.act(2, 0), false);
        is("light", x.act(3, 77), true);
        is("other", x.act(4, 0), false);
        is("other", x.act(-1, 0), false);
        is("four acts", x.look(13), 4);
    }

    private static void house() {
        LastToWince x = room(100, 10, 90);
        x.lot(0, 10);
        x.lot(0, 10);
        x.lot(0, 10);
        tell(x, 0, "wince 1000 when nerve<50;wince 0;price 1+dark;");
        is("sale", tell(x, 3, "lot 0 dark; bar 1; lot 1 light; lot 0 dark; admit 1; bar 0; lot 2;"), 7);
        is("three are sold", x.house(), 3);
        is("in the dark", x.of(1, 2), 100 - 2 - 2);
        is("with 1 barred", x.lotOf(1, 2), 0);
        is("a lot that is sold darkens too", x.look(2), 1);
        is("barred", x.look(5), 1);
        is("one act", x.look(13), 1);
        is("nothing to sell", x.house(), 0);
        is("an act all the same", x.look(13), 2);
        x.undo();
        x.undo();
        is("all back", x.look(6), 7);
        is("all back", x.look(5), 0);
        is("all back", x.look(2), 0);
        x.act(0, 0);
        x.act(0, 1);
        tell(x, 3, "lot 0;");
        is("nobody in", x.house(), 0);
        is("not sold", x.look(6), 7);
    }

    private static void tape() {
        LastToWince x = new LastToWince();
        for (int i = 1; i <= 20; i++) is("feed", x.feed(0, 0, 0, 0, 0), 20 * i);
        is("full", x.feed(0, 0, 0, 0, 0), NONE);
        is("end beyond", x.end(401), false);
        is("end below", x.end(-1), false);
        is("end", x.end(LOW), false);
        is("end of all", x.end(400), true);
        is("end", x.end(381), true);
        is("too much", x.feed(0, 0, 0, 0, 0), NONE);
        is("end", x.end(380), true);
        is("just so much", x.feed(0, 0, 0, 0, 0), 400);
        is("end", x.end(0), true);
        // "say 1 for 2;say 3 ; " with the highest byte of each number first
        is("feed", x.feed(0x73617920, 0x3120666F, 0x7220323B, 0x73617920, 0x33203B0A), 20);
        is("text", x.text(1), 2);
        is("the order of bytes", x.word(2), 3);
        is("the tape is empty then", x.feed(0, 0, 0, 0, 0), 20);
        x.end(5);
        is("cut and fed behind", x.feed(0, 0, 0, 0, 0), 25);
        is("a fault", x.text(1), NONE);
        is("the tape is empty behind a fault", x.feed(0, 0, 0, 0, 0), 20);
        is("end", x.end(21), false);
        is("nothing changed", x.feed(0, 0, 0, 0, 0), 40);
        for (int k : new int[] {NONE, 4, LOW, HIGH}) {
            is("no such text", x.text(k), NONE);
            is("the tape is empty behind no such text", x.end(1), false);
            is("and goes on from there", x.feed(0, 0, 0, 0, 0), 20);
        }
        x = new LastToWince();
        x.act(2, 0);
        feedAll(x, "say 1;");
        is("the tape forgets nothing", x.look(13), 1);
    }

    private static void texts() {
        LastToWince x = room(100, 10, 20);
        x.lot(0, 10);
        is("no such", x.text(4), NONE);
        is("no such", x.text(-1), NONE);
        is("no such", x.text(HIGH), NONE);
        is("law", tell(x, 0, "wince 5;price 6;"), 2);
        is("lines", x.look(9), 2);
        fault(x, 0, "wince", 1, 5);
        is("it stays", x.look(9), 2);
        is("it stays", x.winces(0, 0, 0), 5);
        is("no such clears the fault", x.text(9), NONE);
        is("fault", x.fault(0), 0);
        is("place", x.fault(1), NONE);
        is("16 lines", tell(x, 1, "say 1;".repeat(16)), 16);
        fault(x, 1, "say 1;".repeat(17), 3, 96);
        fault(x, 1, "say 1;".repeat(16) + "for", 1, 96);
        fault(x, 1, "say 1;".repeat(16) + "say", 3, 96);
        fault(x, 0, "calm 1;".repeat(16) + " price 1;", 3, 113);
        fault(x, 2, "dealer 0 pinches 1;".repeat(16) + "dealer 0 pinches 0;", 3, 304);
        fault(x, 3, "bar 1;".repeat(16) + "lot 9;", 3, 96);
        is("16 of a law", tell(x, 0, "calm 1;".repeat(16)), 16);
        is("16 pinches", tell(x, 2, "dealer 0 pinches 1;".repeat(16)), 16);
        is("16 of a sale", tell(x, 3, "lot 0 dark;".repeat(16)), 16);
        is("look(10)", x.look(10), 16);
        is("look(11)", x.look(11), 16);
        is("look(12)", x.look(12), 16);
        is("blanks need not be", tell(x, 0, "wince5when nerve<5and not(1=2);\n\n calm\n3 ;"), 2);
        is("emptied", tell(x, 3, ""), 0);
        is("emptied", x.look(12), 0);
        x.act(2, 0);
        tell(x, 0, "");
        tell(x, 1, "");
        is("law and speech forget nothing", x.look(13), 1);
        fault(x, 2, "x", 1, 0);
        fault(x, 3, "x", 1, 0);
        is("a fault forgets nothing", x.look(13), 1);
        tell(x, 2, "");
        is("pinches forget", x.look(13), 0);
        x.act(3, 0);
        tell(x, 3, "");
        is("a sale forgets", x.look(13), 0);
    }

    private static void faults() {
        LastToWince x = room(100, 10, 20);
        x.lot(0, 10);
        is("another what", x.fault(2), NONE);
        is("another what", x.fault(-1), NONE);
        fault(x, 0, "wince 1 ", 1, 8);
        fault(x, 0, "  ;", 1, 2);
        fault(x, 0, "wincer 1;", 1, 0);
        fault(x, 0, "winceR 1;", 1, 0);
        fault(x, 0, "Wince 1;", 1, 0);
        for (String letter : new String[] {"a", "z", "A", "Z"}) fault(x, 0, "wince" + letter + " 1;", 1, 0);
        for (String sign : new String[] {"@", "[", "`", "{", ":"}) fault(x, 0, "wince" + sign + " 1;", 1, 5);
        fault(x, 0, ";".repeat(400), 1, 0);
        fault(x, 0, "calm" + "1".repeat(396), 1, 4);
        is("400 bytes", tell(x, 0, "calm" + "1+".repeat(197) + "1;"), 1);
        fault(x, 0, "calm" + "1+".repeat(198), 1, 400);
        fault(x, 0, "say 1;", 1, 0);
        fault(x, 0, "wince 12345;", 1, 6);
        fault(x, 0, "wince 1 2;", 1, 8);
        fault(x, 0, "wince -1;", 1, 6);
        fault(x, 0, "wince 1+;", 1, 8);
        fault(x, 0, "wince (1);", 1, 6);
        fault(x, 0, "wince 1/nerve;", 1, 8);
        fault(x, 0, "wince 1/0;", 2, 8);
        fault(x, 0, "wince 1/0000", 2, 8);
        fault(x, 0, "wince 1*/2;", 1, 8);
        fault(x, 0, "wince 1 when;", 1, 12);
        fault(x, 0, "wince 1 when 1;", 1, 14);
        fault(x, 0, "wince 1 when 1<2<3;", 1, 16);
        fault(x, 0, "wince 1 when (1<2;", 1, 17);
        fault(x, 0, "wince 1 when 1<2);", 1, 16);
        fault(x, 0, "wince 1 when 1<2 or;", 1, 19);
        fault(x, 0, "wince 1 when (nerve)<2;", 1, 19);
        fault(x, 0, "wince when 1<2;", 1, 6);
        fault(x, 0, "wince 1\t;", 1, 7);
        fault(x, 0, "wince 1" + (char) 233 + ";", 1, 7);
        fault(x, 0, "wince 1.;", 1, 7);
        fault(x, 0, "wince 1 when ((((((((1<2)))))))) and (((((((((1<2", 3, 45);
        fault(x, 0, "wince 1 when not not(not(not(not(not not", 3, 32);
        fault(x, 0, "wince 1 when not(not(not(not(not 1=1", 3, 29);
        is("eight open", tell(x, 0, "wince 1 when not(not(not(not(1=1))));"), 1);
        is("not closes", tell(x, 0, "wince 1 when " + "not 1=1 and ".repeat(9) + "1=1;"), 1);
        is("four digits", tell(x, 0, "wince 9999-0001;"), 1);
        fault(x, 1, "say 8;", 2, 4);
        fault(x, 1, "say 0 for 61;", 2, 10);
        fault(x, 1, "say 0 for 0", 2, 10);
        fault(x, 1, "say 0 for;", 1, 9);
        fault(x, 1, "say 0 1;", 1, 6);
        fault(x, 1, "say", 1, 3);
        is("edges", tell(x, 1, "say 7 for 60;say 0 for 1;"), 2);
        fault(x, 2, "dealer 2 pinches 0;", 2, 7);
        fault(x, 2, "dealer 0 pinches 2;", 2, 17);
        fault(x, 2, "dealer 1 pinches 1;", 2, 17);
        fault(x, 2, "dealer 0 bites 1;", 1, 9);
        fault(x, 2, "dealer 0 pinches dealer;", 1, 17);
        is("told twice", tell(x, 2, "dealer 0 pinches 1;dealer 0 pinches 1;"), 2);
        fault(x, 3, "lot 1;", 2, 4);
        fault(x, 3, "bar 2;", 2, 4);
        fault(x, 3, "admit 2;", 2, 6);
        fault(x, 3, "bar 1 dark;", 1, 6);
        fault(x, 3, "lot 0 dark light;", 1, 11);
        fault(x, 3, "dark;", 1, 0);
        fault(x, 3, "lot;", 1, 3);
        fault(new LastToWince(), 3, "bar 0;", 2, 4);
        fault(new LastToWince(), 2, "dealer 0 pinches 0;", 2, 7);
        is("right again", tell(x, 1, "say 1;"), 1);
        is("no fault", x.fault(0), 0);
        is("no place", x.fault(1), NONE);
    }

    private static void of() {
        LastToWince x = new LastToWince();
        x.dealer(11, 2, 33, true);
        x.dealer(12, 3, 34, false);
        x.dealer(12, 3, 34, false);
        tell(x, 2, "dealer 0 pinches 2;dealer 0 pinches 1;dealer 0 pinches 2;dealer 2 pinches 0;");
        int[] want = {11, 2, 33, 1, 0, 0, 0, 6};
        for (int i = 0; i < 8; i++) is("of(0, " + i + ")", x.of(0, i), want[i]);
        is("blind", x.of(1, 3), 0);
        is("pinches", x.of(1, 7), 0);
        is("pinches", x.of(2, 7), 1);
        is("other", x.of(0, 8), NONE);
        is("other", x.of(0, -1), NONE);
        is("nobody", x.of(3, 0), NONE);
        is("nobody", x.of(-1, 0), NONE);
        is("nobody", x.of(HIGH, 0), NONE);
        x.lot(3, 44);
        is("kind", x.lotOf(0, 0), 3);
        is("worth", x.lotOf(0, 1), 44);
        is("sold", x.lotOf(0, 2), NONE);
        is("other", x.lotOf(0, 3), NONE - 1);
        is("other", x.lotOf(0, -1), NONE - 1);
        is("none such", x.lotOf(1, 0), NONE - 1);
        is("none such", x.lotOf(-1, 2), NONE - 1);
        int who = x.sell(0);
        is("sold", x.lotOf(0, 2), who);
    }

    private static void winces() {
        LastToWince x = new LastToWince();
        x.dealer(40, 3, 10, true);
        x.dealer(99, 4, 0, false);
        x.dealer(0, 5, 10, false);
        x.lot(2, 300);
        is("without a law", x.winces(0, 0, 3), 180);
        is("without a law", x.winces(1, 0, 3), 3);
        is("without a law", x.winces(2, 0, 3), 300);
        is("nobody", x.winces(3, 0, 0), NONE);
        is("nobody", x.winces(-1, 0, 0), NONE);
        is("no lot", x.winces(0, 1, 0), NONE);
        is("no lot", x.winces(0, -1, 0), NONE);
        is("no word", x.winces(0, 0, 8), NONE);
        is("no word", x.winces(0, 0, -1), NONE);
        String[] laws = {"nerve+skin", "blind*7", "worth-kind", "word*100+word", "minute", "dark", "in", "winced",
            "2-5", "9999", "1+2*3", "20/3*3", "2-9/2", "7*9/8", "10-2-3", "9999*9999*9999/9999"};
        int[] want = {43, 7, 298, 505, 0, 0, 2, 0, 0, 1000, 7, 18, 0, 7, 5,
            Math.max(0, Math.min(1000, 9999 * 9999 * 9999 / 9999))};
        for (int i = 0; i < laws.length; i++) {
            is("law", tell(x, 0, "price 3;wince " + laws[i] + ";"), 2);
            is(laws[i], x.winces(0, 0, 5), want[i]);
        }
        // 9999 * 9999 * 23 wraps to -1995427273: by 9999 twice, each time towards 0, it is -19
        tell(x, 0, "wince 9999*9999*23/9999/9999+100;");
        is("towards 0", x.winces(0, 0, 0), 81);
        tell(x, 0, "wince 2-word*9/4+10;");
        is("a part is of its term alone", x.winces(0, 0, 1), 10);
        conditions(x);
        tell(x, 0, "wince in;");
        x.act(0, 0);
        is("in is all that would be, he himself or not", x.winces(0, 0, 0), 1);
        x.act(2, 0);
        tell(x, 0, "wince dark;");
        is("dark", x.winces(0, 0, 0), 1);
    }

    private static void conditions(LastToWince x) {
        String[] so = {"1<2", "2>1", "2=2", "not 2<1", "1<2 and 2<3", "2<1 or 1<2", "1=1 or 1=2 and 1=3",
            "(1=2 or 1=1) and 2=2", "not not 1=1", "not 1=2 and 1=1", "not (1=1 and 1=2)", "nerve+3>skin*14",
            "1=2 and 1=2 or 1=1", "not 1=1 or 1=1", "worth/7=42"};
        String[] not = {"1<1", "1>1", "1=2", "not 1=1", "1=1 and 1=2", "1=2 or 1=3", "not (1=1 or 1=2)",
            "(1=1 or 1=2) and 1=3", "not 1=1 and 1=1", "skin*14>nerve+3", "worth/7>42"};
        for (String b : so) {
            is("law", tell(x, 0, "wince 9 when " + b + ";wince 4;"), 2);
            is(b, x.winces(0, 0, 0), 9);
        }
        for (String b : not) {
            is("law", tell(x, 0, "wince 9 when " + b + ";wince 4;"), 2);
            is(b, x.winces(0, 0, 0), 4);
        }
        tell(x, 0, "wince 9 when 1=2; calm 4;");
        is("none is so", x.winces(0, 0, 0), 180);
        tell(x, 0, "wince 7 when 1=1; wince 8; wince 9;");
        is("the first", x.winces(0, 0, 0), 7);
    }

    private static void word() {
        LastToWince x = new LastToWince();
        is("empty", x.word(0), 0);
        is("empty", x.word(199), 0);
        tell(x, 1, "say 3 for 2;say 5;say 7 for 3;");
        int[] want = {3, 3, 5, 7, 7, 7, 3, 3, 5};
        for (int m = 0; m < want.length; m++) is("word " + m, x.word(m), want[m]);
        is("199", x.word(199), want[199 % 6]);
        is("200", x.word(200), NONE);
        is("-1", x.word(-1), NONE);
        is("far", x.word(LOW), NONE);
        tell(x, 1, "say 1 for 60;".repeat(3) + "say 2 for 60;");
        is("179", x.word(179), 1);
        is("180", x.word(180), 2);
    }

    private static void book() {
        LastToWince x = room(100, 10, 20, 30);
        x.lot(0, 10);
        x.lot(0, 10);
        is("empty", x.book(0, 0), NONE);
        tell(x, 0, "wince 1000 when nerve<20;wince 0;");
        tell(x, 2, "dealer 0 pinches 1;");
        tell(x, 1, "say 6;");
        x.sell(1);
        int[][] want = {{0, 0, 0, 6}, {0, 1, 1, 6}, {1, 2, 2, 1}};
        is("lines", x.look(7), 3);
        for (int i = 0; i < 3; i++) for (int w = 0; w < 4; w++) is("book " + i, x.book(i, w), want[i][w]);
        is("beyond", x.book(3, 0), NONE);
        is("below", x.book(-1, 0), NONE);
        is("other", x.book(0, 4), NONE);
        is("other", x.book(0, -1), NONE);
        x.undo();
        is("undone", x.look(7), 0);
        is("undone", x.book(0, 0), NONE);
    }

    private static void would() {
        LastToWince x = room(100, 10, 20, 30);
        x.lot(1, 50);
        tell(x, 0, "wince 500 when nerve<25 and minute=2;wince 499;price 8+minute;");
        is("who", x.would(0, 0), 2);
        is("minutes", x.would(0, 1), 3);
        is("pays", x.would(0, 2), 11);
        is("nothing stays", x.look(3) + x.look(4) + x.look(7) + x.look(8) + x.look(13) + x.of(0, 5), 0);
        is("nothing stays", x.of(2, 0), 30);
        is("other", x.would(0, 3), NONE);
        is("other", x.would(0, -1), NONE);
        is("none such", x.would(1, 0), NONE);
        is("none such", x.would(-1, 0), NONE);
        tell(x, 2, "dealer 0 pinches 2;dealer 2 pinches 1;");
        is("pinched, all out", x.would(0, 0), 2);
        tell(x, 0, "wince 499;");
        is("the light gives", x.would(0, 0), 2);
        is("the light gives", x.would(0, 1), 200);
        is("pays", x.would(0, 2), 25);
        x.set(2, 2, 7);
        is("pays his purse", x.would(0, 2), 7);
        tell(x, 0, "wince 0;");
        x.sell(0);
        is("sold or not, and 2 has nothing left", x.would(0, 0), 1);
        for (int d = 0; d < 3; d++) x.act(0, d);
        for (int w = 0; w < 3; w++) is("nobody", x.would(0, w), NONE);
    }

    private static void worst() {
        LastToWince x = room(100, 10, 20, 30);
        x.lot(1, 50);
        is("alike", x.worst(1, 0, 0), 0);
        is("alike", x.worst(1, 0, 1), 240);
        tell(x, 0, "wince 70 when word=3 or word=6;wince word*in;");
        is("the least", x.worst(0, 0, 0), 3);
        is("how much", x.worst(0, 0, 1), 70);
        tell(x, 0, "wince word*in;");
        is("the last", x.worst(0, 0, 0), 7);
        is("in as now would be", x.worst(0, 0, 1), 21);
        is("other", x.worst(0, 0, 2), NONE);
        is("other", x.worst(0, 0, -1), NONE);
        is("nobody", x.worst(3, 0, 0), NONE);
        is("nobody", x.worst(-1, 0, 1), NONE);
        is("no lot", x.worst(0, 1, 0), NONE);
        tell(x, 0, "wince 0;");
        is("none at all", x.worst(0, 0, 0), 0);
        is("none at all", x.worst(0, 0, 1), 0);
    }

    private static void clears() {
        LastToWince x = room(0, 1, 2, 3, 4, 5);
        is("each by himself", x.clears(0), 5);
        is("each by himself", x.clears(1), 31);
        tell(x, 2, "dealer 0 pinches 1;dealer 1 pinches 2;dealer 2 pinches 0;dealer 3 pinches 4;");
        is("a ring and a couple", x.clears(0), 2);
        is("the least", x.clears(1), 1 | 8);
        x.act(0, 1);
        is("barred ones pass nothing on: 2 drags 0", x.clears(1), 4 | 8);
        x.act(0, 3);
        is("4 by himself", x.clears(1), 4 | 16);
        is("other", x.clears(2), NONE);
        is("other", x.clears(-1), NONE);
        for (int d = 0; d < 5; d++) x.act(0, d);
        is("nobody", x.clears(0), 0);
        is("nobody", x.clears(1), 0);
        x = room(0, 1, 2, 3);
        tell(x, 2, "dealer 2 pinches 1;dealer 1 pinches 0;");
        is("a chain, told in any order", x.clears(1), 4);
    }

    private static void sat() {
        LastToWince x = room(0, 1, 2, 3, 4);
        is("nobody pinches", x.sat(0), 0);
        for (int i = 0; i < 4; i++) is("as they come", x.sat(10 + i), i);
        tell(x, 2, "dealer 0 pinches 1;dealer 0 pinches 1;dealer 1 pinches 2;dealer 2 pinches 3;");
        is("none side by side", x.sat(0), 0);
        int[] want = {1, 3, 0, 2};
        for (int i = 0; i < 4; i++) is("the first order", x.sat(10 + i), want[i]);
        tell(x, 2, "dealer 0 pinches 1;dealer 0 pinches 1;dealer 1 pinches 0;");
        x.act(0, 2);
        x.act(0, 3);
        is("each way once", x.sat(0), 2);
        is("other", x.sat(1), NONE);
        is("other", x.sat(9), NONE);
        is("other", x.sat(12), NONE);
        is("other", x.sat(-1), NONE);
        is("other", x.sat(LOW), NONE);
        x = room(0, 1, 2, 3, 4, 5, 6, 7, 8, 9);
        is("nine", x.sat(0), NONE);
        is("nine", x.sat(10), NONE);
        x.act(0, 0);
        is("eight", x.sat(0), 0);
        is("eight", x.sat(17), 8);
    }

    private static void seenAndRanks() {
        LastToWince x = room(0, 1, 2, 3, 4, 5, 6, 7, 8, 9, 10);
        is("alike", x.seen(1, 1), NONE);
        is("nobody", x.seen(10, 1), NONE);
        is("nobody", x.seen(1, 10), NONE);
        is("nobody", x.seen(1, -1), NONE);
        is("nobody", x.seen(-2, 1), NONE);
        is("none told", x.ranks(0), 0);
        x.act(2, 0);
        is("told", x.seen(5, 2), 1);
        is("it forgets nothing", x.look(13), 1);
        is("two of ten", x.ranks(10), 5);
        is("two of ten", x.ranks(11), 2);
        is("no third", x.ranks(12), NONE);
        is("told", x.seen(2, 7), 2);
        is("told", x.seen(7, 5), 3);
        is("a ring", x.ranks(0), 1);
        int[] ring = {2, 7, 5};
        for (int i = 0; i < 3; i++) is("the first order", x.ranks(10 + i), ring[i]);
        is("told twice", x.seen(5, 2), 4);
        int[] twice = {5, 2, 7};
        for (int i = 0; i < 3; i++) is("two weigh more", x.ranks(10 + i), twice[i]);
        is("one otherwise", x.ranks(0), 1);
        is("other", x.ranks(1), NONE);
        is("other", x.ranks(-1), NONE);
        is("other", x.ranks(HIGH), NONE);
        is("nothing is", x.seen(NONE, 99), 0);
        for (int i = 0; i < 9; i++) is("told", x.seen(i + 1, i), i + 1);
        for (int i = 0; i < 10; i++) is("downwards", x.ranks(10 + i), 9 - i);
        for (int i = 9; i < 16; i++) is("told", x.seen(0, 9), i + 1);
        is("a seventeenth", x.seen(0, 9), NONE);
        is("seven against one", x.ranks(0), 1);
    }

    private static void buys() {
        LastToWince x = room(9999, 1);
        is("nothing there", x.buys(1, 0), 0);
        int[] worths = {11, 7, 7, 0, 20};
        for (int w : worths) x.lot(0, w);
        is("5 and 3", x.buys(8, 0), 18);
        is("the least set", x.buys(8, 1), 3);
        is("10", x.buys(10, 0), 20);
        is("10", x.buys(10, 1), 16);
        is("all but what is worth nothing", x.buys(9999, 1), 23);
        is("1", x.buys(1, 0), 0);
        is("1", x.buys(1, 1), 0);
        is("0", x.buys(0, 0), NONE);
        is("10000", x.buys(10000, 0), NONE);
        is("other", x.buys(5, 2), NONE);
        is("other", x.buys(5, -1), NONE);
        x.lot(0, 1);
        is("one by 2 is 0", x.buys(1, 1), 32);
        x.sell(4);
        is("what is sold is not there", x.buys(9999, 1), 39);
    }

    private static void claimsAndShares() {
        LastToWince x = new LastToWince();
        is("no claims", x.shares(10, 0), NONE);
        is("no claims", x.shares(10, NONE), NONE);
        is("beyond", x.claim(1000), NONE);
        is("below", x.claim(-2), NONE);
        is("claim", x.claim(100), 1);
        is("claim", x.claim(200), 2);
        // (100 + 0) / 2 and (50 + 150) / 2
        is("first", x.shares(150, 0), 50);
        is("second", x.shares(150, 1), 100);
        is("over", x.shares(150, NONE), 0);
        is("all have theirs", x.shares(9999, NONE), 9699);
        is("nothing", x.shares(0, 1), 0);
        is("odd: 0.5 and 0.5", x.shares(1, 0), 0);
        is("odd: over", x.shares(1, NONE), 1);
        is("n", x.shares(-1, 0), NONE);
        is("n", x.shares(10000, 0), NONE);
        is("i", x.shares(5, 2), NONE);
        is("i", x.shares(5, -2), NONE);
        for (int i = 3; i <= 6; i++) is("claim", x.claim(i == 6 ? 0 : 999), i);
        is("a seventh", x.claim(5), NONE);
        is("a claim of 0", x.shares(9999, 5), 0);
        is("none is", x.claim(NONE), 0);
        is("no claims", x.shares(10, NONE), NONE);
        x.act(2, 0);
        x.claim(3);
        is("it forgets nothing", x.look(13), 1);
    }

    private static void palsy() {
        LastToWince x = new LastToWince();
        is("as it is", x.likely(123, 0, 0), 123000);
        is("never", x.likely(0, 20, 20), 0);
        is("always", x.likely(1000, 0, 40), 1000000);
        // 900000 of 900000 + 3600000, then of that 200000 of 200000 + 4800000
        is("once winced", x.likely(100, 1, 1), 200000);
        is("then not", x.likely(100, 1, 2), 40000);
        is("each downwards", x.likely(1, 0, 2), (int) (166L * 1000000 / (166 + 6 * (1000000 - 166))));
        int[][] bad = {{-1, 0, 0}, {1001, 0, 0}, {0, -1, 0}, {0, 21, 30}, {0, 5, 4}, {0, 0, 41}, {0, 0, -1},
            {LOW, 0, 0}, {0, LOW, HIGH}};
        for (int[] b : bad) is(Arrays.toString(b), x.likely(b[0], b[1], b[2]), NONE);
        is("most", x.likely(500, 20, 40) >= 0, true);
        is("below itself at once", x.quiet(999999), 1);
        is("142857 is not below itself", x.quiet(142857), 2);
        is("but below one more", x.quiet(142858), 1);
        is("0", x.quiet(0), NONE);
        is("a million", x.quiet(1000000), NONE);
        is("below", x.quiet(-5), NONE);
        for (int m = 1; m <= 8; m++) {
            int q = x.likely(500, 0, m);
            is("quiet by likely", x.quiet(q + 1), q + 1 > 999999 ? NONE : m);
        }
    }

    private static void outs() {
        LastToWince x = room(0, 1, 2, 3);
        is("word", x.puts(-1, 0), false);
        is("word", x.puts(8, 0), false);
        is("bits", x.puts(0, 1024), false);
        is("bits", x.puts(0, -1), false);
        is("by none", x.outs(0), NONE);
        is("by none", x.outs(1), NONE);
        is("puts", x.puts(7, 7), true);
        is("one", x.outs(0), 1);
        is("one", x.outs(1), 128);
        is("puts", x.puts(1, 3), true);
        is("puts", x.puts(2, 4), true);
        is("still one", x.outs(1), 128);
        x.puts(7, 0);
        is("two", x.outs(0), 2);
        is("two", x.outs(1), 6);
        x.puts(0, 4);
        is("the least", x.outs(1), 3);
        is("bits 0 .. 9, be there dealers or not", x.puts(3, 1023), true);
        x.puts(3, 0);
        x.act(0, 2);
        is("barred ones need not", x.outs(1), 2);
        x.puts(0, 1);
        is("it forgets nothing", x.look(13), 1);
        is("other", x.outs(2), NONE);
        is("other", x.outs(-1), NONE);
        x.act(0, 0);
        x.act(0, 1);
        is("nobody", x.outs(0), 0);
        is("nobody", x.outs(1), 0);
    }

    private static void tells() {
        LastToWince x = room(0, 1, 2, 3, 4);
        is("none", x.tells(255), 0);
        is("none", x.tells(NONE), 0);
        x.puts(0, 1);
        x.puts(1, 3);
        x.puts(2, 7);
        x.puts(3, 16 + 32);
        is("1 of 4", x.tells(1), 3);
        is("2 of 4", x.tells(2), 4);
        is("no words", x.tells(0), 0);
        is("who is not there is not told", x.tells(8), 0);
        is("both", x.tells(3), 5);
        is("all", x.tells(7), 6);
        is("all three", x.tells(NONE), 3);
        x.puts(3, 5);
        is("two are enough", x.tells(NONE), 2);
        x.act(0, 0);
        is("barred ones are told too", x.tells(1), 3);
        LastToWince two = room(0, 1, 2);
        two.puts(5, 1);
        is("two dealers, one word", two.tells(NONE), 1);
        is("bits", x.tells(256), NONE);
        is("bits", x.tells(-2), NONE);
        is("bits", x.tells(LOW), NONE);
    }

    private static void brings() {
        LastToWince x = new LastToWince();
        is("worth", x.bring(100, 0), NONE);
        is("worth", x.bring(-2, 0), NONE);
        is("tires", x.bring(1, 10), NONE);
        is("tires", x.bring(1, -1), NONE);
        is("nothing", x.brings(0), 0);
        is("nothing", x.brings(10), NONE);
        is("bring", x.bring(10, 9), 1);
        is("bring", x.bring(10, 3), 2);
        is("bring", x.bring(2, 9), 3);
        // 1, 0, 2: 10 + 7 + 0; 2, 1, 0: 2 + 1 + 0; 1, 2, 0: 10 + 0 + 0
        is("how much", x.brings(0), 17);
        int[] want = {1, 0, 2};
        for (int i = 0; i < 3; i++) is("order", x.brings(10 + i), want[i]);
        is("other", x.brings(13), NONE);
        is("other", x.brings(9), NONE);
        is("other", x.brings(-1), NONE);
        is("none is", x.bring(NONE, 77), 0);
        for (int i = 1; i <= 7; i++) is("bring", x.bring(99, 0), i);
        is("an eighth", x.bring(1, 1), NONE);
        is("all", x.brings(0), 693);
        for (int i = 0; i < 7; i++) is("the first order", x.brings(10 + i), i);
        x.act(2, 0);
        x.bring(NONE, 0);
        is("it forgets nothing", x.look(13), 1);
    }

    private static void breaths() {
        LastToWince x = new LastToWince();
        is("breath", x.breath(100), NONE);
        is("breath", x.breath(-2), NONE);
        int[][] rows = {{}, {5}, {2, 1}, {1, 1}, {3, 1, 2}, {2, 2, 1, 1}, {2, 1, 2, 1}, {5, 4, 3, 2, 1, 0},
            {2, 3, 1, 2, 3, 1}, {1, 2, 3, 4, 5, 6, 7, 8, 9, 10, 11, 0}, {1, 2, 0, 1, 2, 0, 1, 2, 0, 1, 2, 0},
            {99, 0, 99, 0, 99, 0}};
        int[] swaps = {0, 0, 1, 0, 2, 2, 1, 3, 2, 11, 5, 2};
        int[] couples = {0, 0, 1, 0, 2, 4, 3, 15, 7, 11, 26, 6};
        for (int i = 0; i < rows.length; i++) {
            is("none is", x.breath(NONE), 0);
            for (int j = 0; j < rows[i].length; j++) is("breath", x.breath(rows[i][j]), j + 1);
            is("swaps of " + Arrays.toString(rows[i]), x.breaths(0), swaps[i]);
            is("couples of " + Arrays.toString(rows[i]), x.breaths(1), couples[i]);
        }
        is("other", x.breaths(2), NONE);
        is("other", x.breaths(-1), NONE);
        x.breath(NONE);
        for (int i = 1; i <= 12; i++) is("breath", x.breath(7), i);
        is("a thirteenth", x.breath(7), NONE);
        x.act(2, 0);
        x.breath(NONE);
        is("it forgets nothing", x.look(13), 1);
    }

    /** A room in which dealer d has heaps[d] lots. */
    private static LastToWince heaps(int... heaps) {
        LastToWince x = new LastToWince();
        for (int i = 0; i < heaps.length; i++) x.dealer(0, 0, 9999, false);
        int lot = 0;
        for (int d = 0; d < heaps.length; d++) {
            for (int i = 0; i < heaps.length; i++) x.act(i == d ? 1 : 0, i);
            for (int i = 0; i < heaps[d]; i++) x.lot(0, 1);
            for (int i = 0; i < heaps[d]; i++) x.sell(lot++);
        }
        return x;
    }

    private static void game() {
        is("no dealers", heaps().game(0), NONE);
        is("no lots", heaps(0, 0).game(0), NONE);
        is("one", heaps(0, 1).game(0), 1);
        is("one", heaps(0, 1).game(1), 1);
        // of two one alone may be taken, and the other takes the last
        is("two", heaps(2).game(0), NONE);
        is("two", heaps(2).game(1), NONE);
        is("three", heaps(3).game(1), 1);
        is("four", heaps(4).game(1), 2);
        is("five", heaps(5).game(1), 3);
        is("six", heaps(6).game(0), NONE);
        is("alike", heaps(5, 5).game(0), NONE);
        is("the least dealer", heaps(1, 2).game(0), 0);
        is("3 and 1: 3 takes one of 3 loses", heaps(3, 1).game(0), 0);
        is("3 and 1: down to 1", heaps(3, 1).game(1), 2);
        is("other", heaps(1).game(2), NONE);
        is("other", heaps(1).game(-1), NONE);
        is("twelve", heaps(12).game(1), 6);
    }

    private static void rich() {
        LastToWince x = new LastToWince();
        for (int w = 0; w < 3; w++) is("nobody", x.rich(w), NONE);
        x.dealer(30, 0, 50, false);
        is("alone", x.rich(2), 30);
        x.dealer(10, 0, 60, false);
        is("of two the lower", x.rich(2), 10);
        x.dealer(20, 0, 60, false);
        is("the middle", x.rich(2), 20);
        is("the least of the richest", x.rich(0), 1);
        is("how much", x.rich(1), 60);
        x.lot(0, 100);
        x.act(0, 1);
        x.act(0, 2);
        tell(x, 0, "price 5;calm 0;");
        x.sell(0);
        is("with worth", x.rich(0), 0);
        is("with worth", x.rich(1), 145);
        x.set(3, 0, 14);
        is("worth as it is", x.rich(0), 1);
        x.set(3, 0, 15);
        is("as much", x.rich(0), 0);
        is("other", x.rich(3), NONE);
        is("other", x.rich(-1), NONE);
    }

    private static void undo() {
        LastToWince x = room(500, 10, 90);
        x.lot(0, 100);
        is("nothing", x.undo(), false);
        x.state(5);
        tell(x, 0, "wince 1000 when nerve<50;wince 0;");
        x.sell(0);
        is("sold", x.lotOf(0, 2), 1);
        x.act(0, 0);
        x.act(2, 0);
        x.act(1, 0);
        is("acts", x.look(13), 4);
        x.puts(0, 1);
        x.claim(1);
        x.seen(0, 1);
        x.bring(1, 1);
        x.breath(1);
        tell(x, 1, "say 3;");
        x.image(true);
        is("thought, speech and image forget nothing", x.look(13), 4);
        is("undo", x.undo(), true);
        is("admitted no more", x.of(0, 4), 1);
        is("undo", x.undo(), true);
        is("light", x.look(2), 0);
        is("undo", x.undo(), true);
        is("not barred", x.of(0, 4), 0);
        is("undo", x.undo(), true);
        is("not sold", x.lotOf(0, 2), NONE);
        is("state", x.look(8), 5);
        is("taken", x.look(4), 0);
        is("minute", x.look(3), 0);
        is("winced", x.of(0, 5), 0);
        is("nerve", x.of(0, 0), 10);
        is("purse", x.of(1, 2), 500);
        is("lots", x.of(1, 6), 0);
        is("book", x.look(7), 0);
        is("the law stays", x.look(9), 2);
        is("the speech stays", x.word(0), 3);
        is("thoughts stay", x.breath(2), 2);
        is("nothing", x.undo(), false);
        for (int i = 0; i < 8; i++) is("act", x.act(i % 2 == 0 ? 2 : 3, 0), true);
        is("six are kept", x.look(13), 6);
        for (int i = 0; i < 6; i++) {
            is("undo", x.undo(), true);
            is("dark", x.look(2), i % 2 == 0 ? 1 : 0);
        }
        is("no seventh", x.undo(), false);
        x.act(2, 0);
        x.undo();
        x.act(2, 0);
        is("acts behind undoing", x.look(13), 1);
    }

    private static void image() {
        LastToWince x = room(500, 10, 90);
        is("none", x.image(false), false);
        x.lot(0, 100);
        tell(x, 0, "wince 1000 when nerve<50;wince 0;");
        tell(x, 1, "say 3;");
        tell(x, 2, "dealer 0 pinches 1;");
        tell(x, 3, "lot 0;");
        x.state(77);
        x.sell(0);
        x.seen(0, 1);
        x.claim(5);
        x.puts(0, 3);
        x.bring(9, 9);
        x.breath(9);
        is("taken", x.image(true), true);
        is("it leaves what can be undone", x.look(13), 1);
        x.dealer(1, 1, 1, true);
        x.lot(1, 1);
        for (int k = 0; k < 4; k++) tell(x, k, "");
        x.set(0, 0, 44);
        x.seen(NONE, 0);
        x.seen(1, 2);
        x.claim(NONE);
        x.claim(7);
        x.puts(0, 0);
        x.bring(NONE, 0);
        x.bring(50, 1);
        x.breath(NONE);
        x.breath(1);
        x.sell(1);
        x.state(1);
        for (int again = 0; again < 2; again++) {
            x.text(9);
            feedAll(x, "say 9;");
            x.text(1);
            feedAll(x, "say 5;");
            x.act(2, 0);
            is("gone back", x.image(false), true);
            int[] want = {2, 1, 0, 1, 50, 0, 0, 3, drawn(77, 2), 2, 1, 1, 1, 0};
            for (int i = 0; i < want.length; i++) is("look(" + i + ")", x.look(i), want[i]);
            is("nothing to undo", x.undo(), false);
            is("fault() stays", x.fault(0), 2);
            is("the tape stays", x.text(1), 1);
            is("it is read", x.word(0), 5);
            is("nerve", x.of(0, 0), 7);
            is("pinches", x.of(0, 7), 2);
            is("law", x.winces(0, 0, 0), 1000);
            is("book", x.book(1, 1), 1);
            is("seen", x.ranks(10), 0);
            is("seen", x.ranks(11), 1);
            is("claims", x.shares(9, NONE), 4);
            is("puts", x.outs(0), 1);
            is("brings", x.brings(0), 9);
            x.bring(8, 1);
            is("what it tires", x.brings(10), 1);
            is("breaths", x.breath(1), 2);
            is("breaths", x.breaths(1), 1);
            is("a dealer anew", x.dealer(3, 3, 3, false), 2);
            is("he has nothing", x.of(2, 4) + x.of(2, 5) + x.of(2, 6), 0);
        }
    }

    private static void look() {
        LastToWince x = room(500, 10, 90, 50);
        x.lot(0, 100);
        x.lot(0, 100);
        x.lot(0, 100);
        x.act(0, 1);
        x.act(2, 0);
        tell(x, 0, "wince 1000 when nerve<50;wince 0;price 3;");
        tell(x, 1, "say 1;say 2;");
        x.sell(1);
        int[] want = {3, 3, 1, 1, 3, 2, 5, 2, drawn(0, 2), 3, 2, 0, 0, 3};
        for (int i = 0; i < want.length; i++) is("look(" + i + ")", x.look(i), want[i]);
        is("other", x.look(14), NONE);
        is("other", x.look(-1), NONE);
        is("other", x.look(LOW), NONE);
        is("other", x.look(HIGH), NONE);
    }

    public static void main(String[] args) {
        String[] names = {"1", "2", "3", "4", "5", "6", "7", "8", "9 and 10", "11", "12", "13 and 14", "15", "16",
            "17", "18", "19", "20", "21", "22 and 23", "24", "25 and 26", "27 and 28", "29 and 30", "31",
            "32 and 33", "34 and 35", "36", "37", "38", "39", "40"};
        Runnable[] promises = {PromisesTest::newObject, PromisesTest::state, PromisesTest::dealer,
            PromisesTest::lot, PromisesTest::set, PromisesTest::sell, PromisesTest::act, PromisesTest::house,
            PromisesTest::tape, PromisesTest::texts, PromisesTest::faults, PromisesTest::of, PromisesTest::winces,
            PromisesTest::word, PromisesTest::book, PromisesTest::would, PromisesTest::worst, PromisesTest::clears,
            PromisesTest::sat, PromisesTest::seenAndRanks, PromisesTest::buys, PromisesTest::claimsAndShares,
            PromisesTest::palsy, PromisesTest::outs, PromisesTest::tells, PromisesTest::brings,
            PromisesTest::breaths, PromisesTest::game, PromisesTest::rich, PromisesTest::undo,
            PromisesTest::image, PromisesTest::look};
        for (int i = 0; i < promises.length; i++) {
            now = "promise " + names[i];
            promises[i].run();
        }
        System.out.println(wrong == 0 ? checks + " answers are as due" : wrong + " of " + checks + " are not as due");
        if (wrong != 0) System.exit(1);
    }
}
