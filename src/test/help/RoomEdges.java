import java.util.function.Supplier;

/** A new object, state, dealers, lots, what is set, barred and darkened, and what is looked at. */
final class RoomEdges extends Checks {
    static void all() {
        newObject();
        state();
        dealers();
        lots();
        set();
        act();
        of();
        look();
    }

    private static void newObject() {
        says("Empty rooms.", () -> {
            LastToWince x = new LastToWince();
            for (int what = 0; what <= 13; what++) is("look(" + what + ")", x.look(what), 0);
            is("nobody", x.of(0, 0), NONE);
            is("no lot", x.lotOf(0, 0), NO_SUCH);
            is("no line in the book", x.book(0, 0), NONE);
            is("nothing to undo", x.undo(), false);
            is("no image", x.image(false), false);
            is("nothing seen", x.ranks(10), NONE);
            is("no claim", x.shares(1, NONE), NONE);
            is("nothing brought", x.brings(10), NONE);
            is("no breath", x.breaths(1), 0);
            is("no tape", x.end(1), false);
            is("no fault", x.fault(0), 0);
            is("no place", x.fault(1), NONE);
        });
        says("Empty rooms.", () -> {
            half();
            full();
            same("another object shows", new LastToWince(), new LastToWince());
            is("ten dealers of another", new LastToWince().dealer(0, 0, 0, false), 0);
        });
        says("The constants: `NONE = -1`: None.", () -> is("NONE", LastToWince.NONE, -1));
        says("An object is used for at most 512 calls after it has been made; what later calls answer is free.", () -> {
            LastToWince x = new LastToWince();
            for (int call = 1; call < 511; call++) is("call " + call, x.act(call % 2 == 1 ? 2 : 3, 0), true);
            is("call 511", x.look(13), 6);
            is("call 512", x.state(5), 0);
        });
    }

    private static void state() {
        says("STATE of draws (an int, 0 at first)", () -> {
            LastToWince x = new LastToWince();
            is("at first", x.look(8), 0);
            is("at first", x.state(1), 0);
        });
        says("STATE is told: what it was.", () -> {
            LastToWince x = new LastToWince();
            int before = 0;
            for (int v : new int[] {HIGH, LOW, NONE, 0, NO_SUCH, 1}) {
                is("state(" + v + ")", x.state(v), before);
                is("look(8)", x.look(8), v);
                before = v;
            }
        });
        says("a DRAW of m: it becomes 1664525 times itself + 1013904223 (ints, which wrap)", () -> {
            for (int v : new int[] {0, 1, -1, HIGH, LOW, 2579, -2579, 1 << 30}) {
                LastToWince x = crowd(2, 1);
                tell(x, LAW, "wince 1000;");
                x.state(v);
                x.sell(0);
                is("two draws from " + v, x.look(8), drawn(v, 2));
            }
        });
        says("then it is its highest 24 bits (without sign) modulo m.", () -> {
            boolean above = false;
            boolean below = false;
            for (int i = 0; i < 40; i++) {
                int v = i * 123456789;
                int draw = drawOf(v);
                above |= drawn(v, 1) >= 0;
                below |= drawn(v, 1) < 0;
                is("not below " + draw, firstWinces(v, draw), false);
                is("below " + (draw + 1), firstWinces(v, draw + 1), true);
            }
            is("states of both signs were asked", above && below, true);
        });
    }

    /** Whether dealer 0 winces in the first minute, from state v. */
    private static boolean firstWinces(int v, int wince) {
        LastToWince x = crowd(2, 1);
        tell(x, LAW, "wince " + wince + " when skin=0 and minute=0;wince 0;");
        x.state(v);
        x.sell(0);
        return x.book(0, 1) == 0;
    }

    private static void dealers() {
        says("1. DEALERS 0 .. 9 as they come", () -> {
            LastToWince x = new LastToWince();
            for (int i = 0; i < 10; i++) {
                is("the number", x.dealer(i, 9 - i, 9990 + i, i % 2 == 1), i);
                is("how many", x.look(0), i + 1);
            }
            for (int i = 0; i < 10; i++) {
                is("nerve", x.of(i, 0), i);
                is("skin", x.of(i, 1), 9 - i);
                is("purse", x.of(i, 2), 9990 + i);
                is("blind", x.of(i, 3), i % 2);
            }
        });
        says("NERVE 0 .. 99, SKIN 0 .. 9, PURSE 0 .. 9999, BLIND 0, 1", () -> {
            LastToWince x = new LastToWince();
            is("least", x.dealer(0, 0, 0, false), 0);
            is("most", x.dealer(99, 9, 9999, true), 1);
            int[] most = {99, 9, 9999, 1};
            for (int what = 0; what < 4; what++) {
                is("least", x.of(0, what), 0);
                is("most", x.of(1, what), most[what]);
            }
        });
        says("BARRED 0, 1 (0 at first), WINCED (how often, 0 at first), LOTS (how many he has, 0 at first).", () -> {
            LastToWince x = crowd(10, 0);
            for (int d = 0; d < 10; d++) for (int what = 4; what <= 6; what++) is("at first", x.of(d, what), 0);
        });
        says("A DEALER: the number; NONE if one can't be, or there are ten.", () -> {
            int[][] wrong = {{-1, 0, 0}, {100, 0, 0}, {0, -1, 0}, {0, 10, 0}, {0, 0, -1}, {0, 0, 10000}, {LOW, 0, 0},
                {HIGH, 0, 0}, {0, LOW, 0}, {0, HIGH, 0}, {0, 0, LOW}, {0, 0, HIGH}};
            for (int[] w : wrong) {
                String what = "dealer(" + w[0] + ", " + w[1] + ", " + w[2] + ")";
                refused(what, Checks::half, x -> x.dealer(w[0], w[1], w[2], true), NONE);
            }
            refused("an eleventh", Checks::full, x -> x.dealer(50, 5, 5000, false), NONE);
        });
    }

    private static void lots() {
        says("LOTS 0 .. 11 as they come", () -> {
            LastToWince x = new LastToWince();
            for (int i = 0; i < 12; i++) {
                is("the number", x.lot(i % 6, 988 + i), i);
                is("how many", x.look(1), i + 1);
            }
            for (int i = 0; i < 12; i++) {
                is("kind", x.lotOf(i, 0), i % 6);
                is("worth", x.lotOf(i, 1), 988 + i);
            }
        });
        says("KIND 0 .. 5, WORTH 0 .. 999", () -> {
            LastToWince x = new LastToWince();
            is("least", x.lot(0, 0), 0);
            is("most", x.lot(5, 999), 1);
            is("kind", x.lotOf(1, 0), 5);
            is("worth", x.lotOf(1, 1), 999);
        });
        says("SOLD: to a DEALER or none (none at first).", () -> {
            LastToWince x = crowd(10, 12);
            for (int i = 0; i < 12; i++) is("at first", x.lotOf(i, 2), NONE);
            for (int d = 1; d < 10; d++) x.act(0, d);
            is("to the first dealer", x.sell(11), 0);
            is("to the first dealer", x.lotOf(11, 2), 0);
            x.act(0, 0);
            x.act(1, 9);
            is("to the last dealer", x.sell(0), 9);
            is("to the last dealer", x.lotOf(0, 2), 9);
        });
        says("A LOT: the number; NONE if one can't be, or there are twelve.", () -> {
            int[][] wrong = {{-1, 0}, {6, 0}, {0, -1}, {0, 1000}, {LOW, 0}, {HIGH, 0}, {0, LOW}, {0, HIGH}};
            for (int[] w : wrong) {
                refused("lot(" + w[0] + ", " + w[1] + ")", Checks::half, x -> x.lot(w[0], w[1]), NONE);
            }
            refused("a thirteenth", Checks::full, x -> x.lot(3, 500), NONE);
        });
    }

    private static final int[] MOST = {99, 9, 9999, 999, 5};

    private static void set() {
        says("What 0 NERVE, 1 SKIN, 2 PURSE of DEALER who, 3 WORTH, 4 KIND of LOT who: true;", () -> {
            for (int what = 0; what < 5; what++) {
                LastToWince x = full();
                int last = what < 3 ? 9 : 11;
                is("least", x.set(what, 0, 0), true);
                is("least", valueOf(x, what, 0), 0);
                is("most", x.set(what, last, MOST[what]), true);
                is("most", valueOf(x, what, last), MOST[what]);
                LastToWince y = full();
                for (int other = 0; other < 5; other++) {
                    if (other == what) continue;
                    is("another is as it was", valueOf(x, other, 0), valueOf(y, other, 0));
                    is("another is as it was", valueOf(x, other, 9), valueOf(y, other, 9));
                }
                is("the next is as it was", valueOf(x, what, 1), valueOf(y, what, 1));
            }
        });
        says("false if one can't be, or another what.", () -> {
            for (int what = 0; what < 5; what++) {
                int its = what;
                for (int v : new int[] {-1, MOST[what] + 1, LOW, HIGH}) {
                    refused("set(" + what + ", 0, " + v + ")", Checks::half, x -> flag(x.set(its, 0, v)), 0);
                }
                for (int who : new int[] {-1, what < 3 ? 3 : 2, LOW, HIGH}) {
                    refused("set(" + what + ", " + who + ", 1)", Checks::half, x -> flag(x.set(its, who, 1)), 0);
                }
            }
            for (int what : new int[] {-1, 5, LOW, HIGH}) {
                refused("set(" + what + ", 0, 0)", Checks::half, x -> flag(x.set(what, 0, 0)), 0);
            }
        });
        says("2 PURSE of DEALER who, 3 WORTH, 4 KIND of LOT who", () -> {
            LastToWince few = crowd(1, 2);
            is("of dealers there is one", few.set(2, 1, 5), false);
            is("of lots there are two", few.set(3, 1, 5), true);
            is("of lots there are two", few.set(4, 1, 5), true);
            few = crowd(2, 1);
            is("of dealers there are two", few.set(2, 1, 5), true);
            is("of lots there is one", few.set(3, 1, 5), false);
            is("of lots there is one", few.set(4, 1, 5), false);
        });
    }

    private static int valueOf(LastToWince x, int what, int who) {
        return what < 3 ? x.of(who, what) : x.lotOf(who, what == 3 ? 1 : 0);
    }

    private static void act() {
        says("By hand: to SELL, to BAR, to ADMIT, DARK.", () -> {
            LastToWince x = crowd(10, 12);
            is("to bar the last", x.act(0, 9), true);
            is("to sell the last", x.sell(11), x.lotOf(11, 2));
            is("to admit the last", x.act(1, 9), true);
            is("dark", x.act(2, 0), true);
            is("light", x.act(3, 0), true);
            is("five acts", x.look(13), 5);
        });
        says("What 0 to BAR, 1 to ADMIT a DEALER, 2 DARK, 3 light (who not asked): true;", () -> {
            LastToWince x = crowd(10, 0);
            for (int d = 0; d < 10; d++) is("bar", x.act(0, d), true);
            is("all are", x.look(5), 1023);
            for (int d = 0; d < 10; d++) is("admit", x.act(1, d), true);
            is("none is", x.look(5), 0);
            for (int who : new int[] {-1, 10, LOW, HIGH, 0}) {
                is("dark", x.act(2, who), true);
                is("it is dark", x.look(2), 1);
                is("light", x.act(3, who), true);
                is("it is light", x.look(2), 0);
            }
            is("nobody there", new LastToWince().act(2, 0), true);
        });
        says("true; false if it is so, there is none such, or another what.", () -> {
            refused("bar who is barred", Checks::half, x -> flag(x.act(0, 1)), 0);
            refused("admit who is not", Checks::half, x -> flag(x.act(1, 0)), 0);
            refused("dark in the dark", Checks::full, x -> flag(x.act(2, 0)), 0);
            refused("light in the light", Checks::half, x -> flag(x.act(3, 0)), 0);
            for (int who : new int[] {-1, 3, LOW, HIGH}) {
                refused("bar " + who, Checks::half, x -> flag(x.act(0, who)), 0);
                refused("admit " + who, Checks::half, x -> flag(x.act(1, who)), 0);
            }
            refused("bar the eleventh", Checks::full, x -> flag(x.act(0, 10)), 0);
            for (int what : new int[] {-1, 4, LOW, HIGH}) {
                refused("act(" + what + ", 0)", Checks::half, x -> flag(x.act(what, 0)), 0);
            }
        });
    }

    private static void of() {
        says("Of a DEALER what 0 NERVE, 1 SKIN, 2 PURSE, 3 BLIND, 4 BARRED, 5 WINCED, 6 LOTS, "
            + "7 whom he pinches (a set).", () -> {
            LastToWince x = room(50, 99, 0, 0, 0, 0, 0, 0, 0, 0, 98);
            x.lot(0, 0);
            tell(x, LAW, "wince 1000;calm 0;");
            tell(x, PINCHES, "dealer 0 pinches 9;dealer 9 pinches 0;dealer 9 pinches 8;dealer 9 pinches 8;");
            x.sell(0);
            x.act(0, 9);
            int[] first = {99, 0, 50, 0, 0, 1, 1, 512};
            int[] last = {95, 9, 50, 0, 1, 1, 0, 257};
            for (int what = 0; what < 8; what++) {
                is("of(0, " + what + ")", x.of(0, what), first[what]);
                is("of(9, " + what + ")", x.of(9, what), last[what]);
            }
            is("who pinches nobody", x.of(1, 7), 0);
        });
        says("7 whom he pinches (a set). NONE if there is none such, or another what.", () -> {
            LastToWince x = full();
            for (int what = 0; what < 8; what++) {
                for (int d : new int[] {-1, 10, LOW, HIGH}) is("of(" + d + ", " + what + ")", x.of(d, what), NONE);
            }
            for (int what : new int[] {-1, 8, LOW, HIGH}) is("of(0, " + what + ")", x.of(0, what), NONE);
            is("one beyond those there are", half().of(3, 0), NONE);
        });
        says("Of a LOT what 0 KIND, 1 WORTH, 2 SOLD (NONE).", () -> {
            LastToWince x = full();
            int[] last = {5, 999, x.lotOf(11, 2)};
            for (int what = 0; what < 3; what++) is("lotOf(11, " + what + ")", x.lotOf(11, what), last[what]);
            is("it is sold", last[2] >= 0, true);
            is("not sold", x.lotOf(10, 2), NONE);
        });
        says("2 SOLD (NONE). NONE - 1 if there is none such, or another what.", () -> {
            LastToWince x = full();
            for (int what = 0; what < 3; what++) {
                for (int l : new int[] {-1, 12, LOW, HIGH}) {
                    is("lotOf(" + l + ", " + what + ")", x.lotOf(l, what), NO_SUCH);
                }
            }
            for (int what : new int[] {-1, 3, LOW, HIGH}) is("lotOf(0, " + what + ")", x.lotOf(0, what), NO_SUCH);
            is("one beyond those there are", half().lotOf(2, 0), NO_SUCH);
        });
    }

    private static void look() {
        says("DARK 0, 1 (0 at first), MINUTE 0 .. 99999 (0 at first), TAKEN (what was paid in all, an int, 0 at first).",
            () -> {
            LastToWince x = crowd(2, 12);
            for (int d = 0; d < 2; d++) x.set(2, d, 9999);
            for (int what = 2; what <= 4; what++) is("at first", x.look(what), 0);
            tell(x, LAW, "wince 0;price 9999;");
            for (int l = 0; l < 12; l++) {
                is("both are in", x.sell(l) >= 0, true);
                is("the most minutes", x.look(3), 200 * (l + 1));
                is("the most that can be paid", x.look(4), 9999 * (l + 1));
                x.set(2, x.lotOf(l, 2), 9999);
            }
        });
        says("What 0 DEALERS, 1 LOTS, 2 DARK, 3 MINUTE, 4 TAKEN, 5 those BARRED (a set), 6 LOTS not SOLD (a set), "
            + "7 lines of THE BOOK, 8 STATE, 9 lines of THE LAW, 10 of SPEECH, 11 of PINCHES, 12 of A SALE, "
            + "13 what can be undone.", () -> {
            LastToWince x = crowd(10, 12);
            tell(x, LAW, "wince 1000;price 3;");
            tell(x, SPEECH, "say 1;say 2;say 3;");
            tell(x, PINCHES, "dealer 9 pinches 0;".repeat(4));
            tell(x, SALE, "bar 9;".repeat(5));
            x.state(LOW);
            x.act(2, 0);
            x.sell(11);
            x.act(0, 9);
            int[] due = {10, 12, 1, 1, 3, 512, 2047, 11, drawn(LOW, 10), 2, 3, 4, 5, 3};
            for (int what = 0; what < due.length; what++) is("look(" + what + ")", x.look(what), due[what]);
        });
        says("13 what can be undone. NONE for another what. (STATE as it is.)", () -> {
            for (Supplier<LastToWince> made : makers()) {
                for (int what : new int[] {-1, 14, LOW, HIGH}) is("look(" + what + ")", made.get().look(what), NONE);
            }
            LastToWince x = new LastToWince();
            x.state(-5);
            is("look", x.look(8), -5);
            is("looking does not draw", x.look(8), -5);
            is("looking does not draw", x.state(0), -5);
        });
        says("5 those BARRED (a set), 6 LOTS not SOLD (a set)", () -> {
            LastToWince x = crowd(10, 12);
            is("none barred", x.look(5), 0);
            is("none sold", x.look(6), 4095);
            for (int d = 1; d < 10; d++) x.act(0, d);
            for (int l = 0; l < 12; l++) x.set(3, l, 1);
            for (int l = 0; l < 12; l++) x.sell(l);
            is("all sold", x.look(6), 0);
            x.act(0, 0);
            is("all barred", x.look(5), 1023);
        });
    }
}
