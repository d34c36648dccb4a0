import java.util.function.IntUnaryOperator;

/** All that is only thought about: nothing of it stays. */
final class ThoughtEdges extends Checks {
    private static final int[] FAR = {-1, LOW, HIGH};

    static void all() {
        nothingStays();
        would();
        worst();
        clears();
        sat();
        seen();
        ranks();
        buys();
        ring();
        palsy();
        out();
        tells();
        brings();
        breaths();
        game();
        rich();
    }

    /** What is asked of a number that is another than those told. */
    private static void noOther(String name, IntUnaryOperator asked, int... others) {
        for (int what : FAR) is(name + "(" + what + ")", asked.applyAsInt(what), NONE);
        for (int what : others) is(name + "(" + what + ")", asked.applyAsInt(what), NONE);
    }

    private static void nothingStays() {
        says("4. IN THOUGHT (nothing of it stays; no DRAWS: he winces, if wince is 500 at least).", () -> {
            for (var maker : makers()) {
                for (int part = 0; part < 6; part++) {
                    int asked = part;
                    changesNothing("thought of part " + part, maker, x -> askAll(x, asked));
                }
            }
        });
        says("4. IN THOUGHT (nothing of it stays;", () -> {
            // what was thought in a full room must not show in the small one that it goes back to
            for (int part = 0; part < 6; part++) {
                LastToWince x = smallThenLarge();
                askAll(x, part);
                x.image(false);
                LastToWince y = smallThenLarge();
                y.image(false);
                same("thought of part " + part, x, y);
            }
        });
        says("no DRAWS: he winces, if wince is 500 at least).", () -> {
            LastToWince x = room(50, 90, 10);
            x.lot(0, 10);
            int[] winces = {0, 499, 500, 501, 1000};
            for (int wince : winces) {
                tell(x, LAW, "wince " + wince + " when skin=0;wince 0;");
                is("who by " + wince, x.would(0, 0), wince < 500 ? 0 : 1);
                is("minutes by " + wince, x.would(0, 1), wince < 500 ? 200 : 1);
            }
            is("no draws", x.look(8), 0);
        });
    }

    /** An image with few dealers, and then ten of them who pinch one another, with much to think about. */
    private static LastToWince smallThenLarge() {
        LastToWince x = crowd(3, 2);
        x.seen(0, 1);
        for (int i = 0; i < 3; i++) x.bring(9, i);
        x.breath(3);
        x.breath(2);
        x.puts(0, 7);
        x.image(true);
        for (int d = 3; d < 8; d++) x.dealer(d, d, 100 * d, true);
        for (int l = 2; l < 12; l++) x.lot(0, 50 * l);
        StringBuilder ring = new StringBuilder();
        for (int d = 0; d < 8; d++) {
            ring.append("dealer ").append(d).append(" pinches ").append((d + 1) % 8).append(";");
            ring.append("dealer ").append(d).append(" pinches ").append((d + 3) % 8).append(";");
            x.seen(d, (d + 1) % 8);
            x.seen((d + 1) % 8, d);
        }
        tell(x, PINCHES, ring.toString());
        for (int i = 0; i < 10; i++) {
            x.bring(90 + i, i);
            x.breath(50 - i);
            x.puts(i, 1 << i);
            x.claim(100 + i);
        }
        return x;
    }

    /** What can be asked, rightly and wrongly, in parts so that an object is not asked too often. */
    private static void askAll(LastToWince x, int part) {
        for (int v = -2; v < 18; v++) {
            switch (part) {
                case 0:
                    x.would(v, 0);
                    x.would(0, v);
                    x.worst(0, v, 0);
                    break;
                case 1:
                    x.worst(v, 0, 1);
                    x.clears(v);
                    x.sat(v);
                    break;
                case 2:
                    x.ranks(v);
                    x.buys(v, 0);
                    x.shares(v, v - 10);
                    break;
                case 3:
                    x.likely(v, v, v + 1);
                    x.quiet(v);
                    x.outs(v);
                    break;
                case 4:
                    x.tells(v);
                    x.brings(v);
                    x.breaths(v);
                    break;
                default:
                    x.game(v);
                    x.rich(v);
                    x.winces(v, 0, 0);
            }
        }
    }

    private static void would() {
        says("WOULD of a LOT (SOLD or not): who has it; behind how many minutes; what he pays.", () -> {
            LastToWince x = crowd(10, 12);
            tell(x, LAW, "wince 500 when minute=2 and skin<9;wince 499;price 90+minute;");
            for (int again = 0; again < 2; again++) {
                is("who", x.would(11, 0), 9);
                is("minutes", x.would(11, 1), 3);
                is("pays", x.would(11, 2), 93);
                if (again == 0) is("sold to", x.sell(11) >= 0, true);
                x.set(2, x.lotOf(11, 2), 100);
            }
            x.set(2, 9, 92);
            is("pays his purse", x.would(11, 2), 92);
            for (int d = 0; d < 9; d++) x.act(0, d);
            is("alone", x.would(0, 0), 9);
            is("no minute", x.would(0, 1), 0);
            is("price by none", x.would(0, 2), 90);
            tell(x, LAW, "price 0;");
            is("pays nothing", x.would(0, 2), 0);
        });
        says("WOULD of a LOT (SOLD or not): who has it;", () -> {
            LastToWince x = room(50, 10, 60, 60, 5);
            x.lot(0, 10);
            tell(x, LAW, "wince 500 when skin=0;wince 499;");
            tell(x, PINCHES, "dealer 0 pinches 1;dealer 1 pinches 2;");
            is("the light gives", x.would(0, 0), 2);
            is("the light gives", x.would(0, 1), 200);
            tell(x, LAW, "wince 500;");
            is("all wince: of several the least", x.would(0, 0), 1);
            is("all wince", x.would(0, 1), 1);
            tell(x, LAW, "wince 500;price winced*5+in+minute;");
            is("he has winced, in thought", x.would(0, 2), 7);
            is("but not in truth", x.of(1, 5), 0);
            LastToWince y = new LastToWince();
            y.dealer(90, 9, 50, true);
            y.dealer(10, 1, 50, false);
            y.lot(5, 50);
            y.act(2, 0);
            tell(y, SPEECH, "say 1;say 6;");
            String[] so = {"blind=1", "skin=9", "nerve=90", "kind=5 and skin=9", "worth=50 and skin=9",
                "dark=1 and skin=9", "word=6 and skin=9", "minute=1 and skin=9", "in=2 and skin=9"};
            for (String b : so) {
                tell(y, LAW, "wince 500 when " + b + ";wince 0;");
                is("he winces when " + b, y.would(0, 0), 1);
            }
        });
        says("WOULD what 0 who, 1 minutes, 2 what he pays. NONE if nobody, there is none such, or another what.", () -> {
            LastToWince x = full();
            for (int what = 0; what < 3; what++) {
                int its = what;
                noOther("would of", lot -> x.would(lot, its), 12);
                is("the last lot", x.would(11, what) >= 0, true);
                is("one beyond those there are", half().would(2, what), NONE);
                is("no dealers", crowd(0, 1).would(0, what), NONE);
            }
            noOther("would(0, ..)", what -> x.would(0, what), 3);
            for (int d = 0; d < 10; d++) x.act(0, d);
            for (int what = 0; what < 3; what++) is("nobody is in", x.would(0, what), NONE);
        });
    }

    private static void worst() {
        says("WORST of a DEALER at a LOT: the WORD for which wince is greatest (minute 0, in as now would be; "
            + "of several the least); that.", () -> {
            LastToWince x = crowd(10, 12);
            String[] laws = {"wince 7;", "wince 0;", "wince word;", "wince 7-word;", "wince 50 when word=3 or word=6;",
                "wince 999+word;", "wince in*10+minute*500+word;", "wince 0-word;"};
            int[] words = {0, 0, 7, 0, 0, 1, 7, 0};
            int[] most = {7, 0, 7, 7, 300, 1000, 107, 0};
            for (int i = 0; i < laws.length; i++) {
                tell(x, LAW, laws[i]);
                is("the word by " + laws[i], x.worst(9, 11, 0), words[i]);
                is("that by " + laws[i], x.worst(9, 11, 1), most[i]);
            }
            tell(x, LAW, "wince 50 when word=3 or word=6;wince 49;");
            is("of several the least", x.worst(0, 0, 0), 3);
            is("that", x.worst(0, 0, 1), 50);
            x.act(0, 0);
            x.set(2, 1, 0);
            tell(x, LAW, "wince in;");
            is("in as now would be", x.worst(0, 0, 1), 8);
        });
        says("WORST what 0 the WORD, 1 how much. NONE if there is none such, or another what.", () -> {
            LastToWince x = full();
            for (int what = 0; what < 2; what++) {
                int its = what;
                noOther("worst of", d -> x.worst(d, 0, its), 10);
                noOther("worst at", l -> x.worst(0, l, its), 12);
                is("one beyond those there are", half().worst(3, 0, what), NONE);
                is("one beyond those there are", half().worst(0, 2, what), NONE);
            }
            noOther("worst(0, 0, ..)", what -> x.worst(0, 0, what), 2);
        });
    }

    private static void clears() {
        says("CLEARS: along PINCHES a DEALER drags out whom he pinches, those again, and so on "
            + "(BARRED ones are not there): the fewest DEALERS not BARRED who must wince so that all not BARRED are out: "
            + "how many; the set (of several the least).", () -> {
            is("nobody", crowd(0, 0).clears(0), 0);
            is("nobody", crowd(0, 0).clears(1), 0);
            LastToWince x = crowd(10, 0);
            is("each by himself", x.clears(0), 10);
            is("each by himself", x.clears(1), 1023);
            StringBuilder chain = new StringBuilder();
            for (int d = 0; d < 9; d++) chain.append("dealer ").append(d).append(" pinches ").append(d + 1).append(";");
            tell(x, PINCHES, chain.toString());
            is("a chain upwards", x.clears(1), 1);
            tell(x, PINCHES, chain + "dealer 9 pinches 0;");
            is("a ring", x.clears(0), 1);
            is("of several the least", x.clears(1), 1);
            x.act(0, 5);
            is("a ring with a gap", x.clears(1), 1 << 6);
            x.act(0, 0);
            is("with two gaps", x.clears(0), 2);
            is("with two gaps", x.clears(1), 1 << 1 | 1 << 6);
            StringBuilder back = new StringBuilder();
            for (int d = 0; d < 9; d++) back.append("dealer ").append(d + 1).append(" pinches ").append(d).append(";");
            x = crowd(10, 0);
            tell(x, PINCHES, back.toString());
            is("a chain downwards", x.clears(1), 512);
            tell(x, PINCHES, "dealer 8 pinches 9;".repeat(15) + "dealer 9 pinches 0;");
            is("the sixteenth line counts", x.clears(1), 1023 - 1 - 512);
            for (int d = 0; d < 10; d++) x.act(0, d);
            is("all barred", x.clears(0), 0);
            is("all barred", x.clears(1), 0);
        });
        says("CLEARS what 0 how many, 1 the set. NONE for another what.", () -> {
            for (var maker : makers()) {
                LastToWince x = maker.get();
                noOther("clears", x::clears, 2);
            }
        });
    }

    private static void sat() {
        says("SAT: DEALERS not BARRED (8 at most) in a row: the order in which fewest PINCHES (each way once, "
            + "however often told) are between those side by side: how many; who sits i-th: of several orders the first.",
            () -> {
            LastToWince x = crowd(9, 0);
            x.act(0, 4);
            is("none is between", x.sat(0), 0);
            are("the first order", order(x::sat, 9), 0, 1, 2, 3, 5, 6, 7, 8, NONE);
            tell(x, PINCHES, "dealer 0 pinches 1;dealer 4 pinches 0;dealer 0 pinches 4;");
            is("they part", x.sat(0), 0);
            are("the first order", order(x::sat, 8), 0, 2, 1, 3, 5, 6, 7, 8);
            LastToWince two = crowd(2, 0);
            tell(two, PINCHES, "dealer 1 pinches 0;".repeat(3));
            is("one way, however often", two.sat(0), 1);
            tell(two, PINCHES, "dealer 1 pinches 0;dealer 0 pinches 1;dealer 0 pinches 1;");
            is("both ways", two.sat(0), 2);
            are("the first order", order(two::sat, 3), 0, 1, NONE);
            LastToWince three = crowd(3, 0);
            tell(three, PINCHES, "dealer 0 pinches 1;dealer 1 pinches 0;dealer 1 pinches 2;");
            is("the one between two others", three.sat(0), 1);
            are("the first order", order(three::sat, 3), 0, 2, 1);
            tell(three, PINCHES, "dealer 0 pinches 1;dealer 1 pinches 0;dealer 1 pinches 2;dealer 2 pinches 1;"
                + "dealer 0 pinches 2;dealer 2 pinches 0;");
            is("all pinch all", three.sat(0), 4);
            are("the first order", order(three::sat, 3), 0, 1, 2);
            tell(three, PINCHES, "dealer 1 pinches 2;");
            is("what was told before is no more", three.sat(0), 0);
            are("the first order", order(three::sat, 3), 1, 0, 2);
            tell(three, PINCHES, "dealer 0 pinches 1;".repeat(15) + "dealer 1 pinches 2;");
            is("the sixteenth line counts", three.sat(0), 1);
            tell(three, PINCHES, "dealer 0 pinches 1;dealer 0 pinches 2;dealer 2 pinches 0;");
            three.act(0, 0);
            is("who is barred does not sit", three.sat(0), 0);
            are("who is barred does not sit", order(three::sat, 3), 1, 2, NONE);
            LastToWince one = crowd(2, 0);
            one.act(0, 0);
            is("one alone", one.sat(0), 0);
            are("one alone", order(one::sat, 2), 1, NONE);
        });
        says("SAT what 0 how many, 10 + i who. NONE if there are more than eight, there is none such, or another what.",
            () -> {
            LastToWince x = crowd(9, 0);
            for (int what = 9; what <= 19; what++) is("nine: sat(" + what + ")", x.sat(what), NONE);
            is("nine", x.sat(0), NONE);
            is("ten", crowd(10, 0).sat(0), NONE);
            x.act(0, 8);
            noOther("sat", x::sat, 1, 2, 9, 18, 19);
            is("the eighth", x.sat(17), 7);
            is("nobody", new LastToWince().sat(0), 0);
            LastToWince gone = crowd(3, 0);
            tell(gone, PINCHES, "dealer 0 pinches 1;dealer 1 pinches 2;dealer 2 pinches 0;");
            is("three", gone.sat(0), 2);
            for (int d = 0; d < 3; d++) gone.act(0, d);
            is("nobody any more", gone.sat(0), 0);
            is("nobody any more", gone.sat(10), NONE);
            noOther("sat", new LastToWince()::sat, 1, 9, 10);
        });
    }

    private static void seen() {
        says("SEEN, up to 16 told: DEALER a outlasted b.", () -> {
            LastToWince x = crowd(10, 0);
            for (int i = 0; i < 16; i++) is("told", x.seen(9, 0), i + 1);
            is("a seventeenth", x.seen(0, 9), NONE);
            is("all alike", x.ranks(0), 0);
            are("the order", order(x::ranks, 3), 9, 0, NONE);
            x.seen(NONE, 0);
            for (int i = 0; i < 15; i++) x.seen(9, 0);
            x.seen(8, 7);
            are("the sixteenth counts", order(x::ranks, 5), 8, 7, 9, 0, NONE);
        });
        says("SEEN is told (a NONE: nothing is then): how many; NONE if one can't be (alike), or there are sixteen.", () -> {
            for (int v : new int[] {LOW, -2, 3, HIGH}) {
                refused("seen(" + v + ", 0)", Checks::half, x -> x.seen(v, 0), NONE);
                refused("seen(0, " + v + ")", Checks::half, x -> x.seen(0, v), NONE);
            }
            refused("b NONE", Checks::half, x -> x.seen(0, NONE), NONE);
            for (int d = 0; d < 3; d++) {
                int its = d;
                refused("alike", Checks::half, x -> x.seen(its, its), NONE);
            }
            refused("a seventeenth", Checks::full, x -> x.seen(4, 5), NONE);
            for (int b : new int[] {NONE, 0, 10, LOW, HIGH}) {
                LastToWince x = full();
                is("seen(NONE, " + b + ")", x.seen(NONE, b), 0);
                is("nothing is", x.ranks(10), NONE);
                is("from the beginning", x.seen(9, 8), 1);
                are("that alone", order(x::ranks, 3), 9, 8, NONE);
            }
            is("none to forget", new LastToWince().seen(NONE, NONE), 0);
        });
    }

    private static void ranks() {
        says("RANKS: the order of all DEALERS told of by which fewest told are otherwise: how many; "
            + "the i-th: of several orders the first.", () -> {
            LastToWince x = crowd(10, 0);
            is("nobody told of", x.ranks(0), 0);
            for (int d = 0; d < 9; d++) x.seen(d + 1, d);
            is("a chain", x.ranks(0), 0);
            are("all ten", order(x::ranks, 11), 9, 8, 7, 6, 5, 4, 3, 2, 1, 0, NONE);
            x.seen(0, 9);
            is("a ring: one is otherwise", x.ranks(0), 1);
            are("the first order", order(x::ranks, 10), 0, 9, 8, 7, 6, 5, 4, 3, 2, 1);
            x.act(0, 9);
            is("barred ones are ranked too", x.ranks(11), 9);
            x.seen(NONE, 0);
            x.seen(3, 1);
            x.seen(8, 1);
            are("of several the first", order(x::ranks, 4), 3, 8, 1, NONE);
            x.seen(1, 3);
            x.seen(1, 3);
            is("each told counts", x.ranks(0), 1);
            are("each told counts", order(x::ranks, 3), 8, 1, 3);
            x.seen(NONE, 0);
            int[] told = {21, 43, 32, 32, 2, 30, 14, 41};
            for (int t : told) x.seen(t / 10, t % 10);
            is("what goes well at first need not go best", x.ranks(0), 1);
            are("what goes well at first need not go best", order(x::ranks, 6), 4, 3, 0, 2, 1, NONE);
        });
        says("RANKS what 0 how many, 10 + i the i-th. NONE if there is none such, or another what.", () -> {
            LastToWince x = crowd(10, 0);
            noOther("ranks", x::ranks, 1, 9, 10);
            for (int d = 0; d < 9; d++) x.seen(d, d + 1);
            is("the tenth", x.ranks(19), 9);
            noOther("ranks", x::ranks, 1, 9, 20);
        });
    }

    private static void buys() {
        says("BUYS of w (1 .. 9999): LOTS not SOLD with WORTH by 2 (each downwards) of w together at most: "
            + "the most WORTH; the set (of several the least).", () -> {
            LastToWince x = room(9999, 1);
            is("no lots", x.buys(9999, 0), 0);
            is("no lots", x.buys(9999, 1), 0);
            LastToWince one = room(9999, 1);
            one.lot(0, 1);
            is("worth 1 costs nothing", one.buys(1, 0), 1);
            is("worth 1 costs nothing", one.buys(1, 1), 1);
            for (int l = 0; l < 12; l++) x.lot(0, 999);
            is("all cost 12 times 499", x.buys(5988, 0), 11988);
            is("all", x.buys(5988, 1), 4095);
            is("eleven", x.buys(5987, 0), 10989);
            is("of several the least", x.buys(5987, 1), 2047);
            is("one", x.buys(499, 1), 1);
            is("none", x.buys(498, 0), 0);
            is("none", x.buys(498, 1), 0);
            x.sell(0);
            is("not what is sold", x.buys(9999, 1), 4094);
            is("not what is sold", x.buys(499, 1), 2);
            LastToWince odd = room(9999, 1);
            for (int worth : new int[] {3, 3, 0, 1, 2}) odd.lot(0, worth);
            is("1 by 2 and 1 by 2 and 0 and 1", odd.buys(2, 0), 7);
            is("what is worth nothing is left", odd.buys(2, 1), 1 | 2 | 8);
            is("1", odd.buys(1, 0), 4);
            is("1", odd.buys(1, 1), 1 | 8);
            is("3", odd.buys(3, 1), 1 | 2 | 8 | 16);
        });
        says("BUYS what 0 WORTH, 1 the set. NONE if w can't be, or another what.", () -> {
            for (var maker : makers()) {
                LastToWince x = maker.get();
                for (int what = 0; what < 2; what++) {
                    int its = what;
                    noOther("buys of", w -> x.buys(w, its), 0, 10000);
                    is("the least", x.buys(1, what), 0);
                    is("the most", x.buys(9999, what) >= 0, true);
                }
                noOther("buys(1, ..)", what -> x.buys(1, what), 2);
            }
        });
    }

    private static void ring() {
        says("RING: up to 6 told claims 0 .. 999.", () -> {
            LastToWince x = new LastToWince();
            is("the least", x.claim(0), 1);
            for (int i = 2; i <= 6; i++) is("the most", x.claim(999), i);
            is("a seventh", x.claim(1), NONE);
            is("none of 0", x.shares(9999, 0), 0);
            is("all of 999", x.shares(9999, 5), 999);
        });
        says("A claim of the RING (NONE: none is then): how many; NONE if one can't be, or there are six.", () -> {
            for (int v : new int[] {-2, 1000, LOW, HIGH}) {
                refused("claim(" + v + ")", Checks::half, x -> x.claim(v), NONE);
            }
            refused("a seventh", Checks::full, x -> x.claim(5), NONE);
            LastToWince x = full();
            is("none is then", x.claim(NONE), 0);
            is("none is then", x.shares(1, 0), NONE);
            is("from the beginning", x.claim(7), 1);
            is("it alone", x.shares(9, 0), 7);
            is("none to forget", new LastToWince().claim(NONE), 0);
        });
        says("SHARES of n (0 .. 9999): in an order each one has his claim, or what is left, if that is less; what a claim "
            + "has is the sum of that over all orders by how many orders there are, downwards; what is over: "
            + "n less all of these.", () -> {
            LastToWince x = new LastToWince();
            for (int i = 0; i < 6; i++) x.claim(1);
            int[][] due = {{0, 0, 0}, {1, 0, 1}, {5, 0, 5}, {6, 1, 0}, {7, 1, 1}, {9999, 1, 9993}};
            for (int[] d : due) {
                for (int i = 0; i < 6; i++) is("of " + d[0], x.shares(d[0], i), d[1]);
                is("over of " + d[0], x.shares(d[0], NONE), d[2]);
            }
            x.claim(NONE);
            x.claim(100);
            is("one alone", x.shares(99, 0), 99);
            is("one alone", x.shares(100, NONE), 0);
            is("one alone", x.shares(101, NONE), 1);
            x.claim(999);
            // 999 first leaves nothing of 500: 100 by 2; 500 and 400 by 2
            is("the first", x.shares(500, 0), 50);
            is("the second", x.shares(500, 1), 450);
            is("nothing over", x.shares(500, NONE), 0);
            x.claim(NONE);
            for (int i = 0; i < 6; i++) x.claim(999);
            is("the most", x.shares(9999, 3), 999);
            is("the most", x.shares(9999, NONE), 4005);
            is("as much as all claim", x.shares(5994, NONE), 0);
            is("one less", x.shares(5993, 0), 998);
            is("one less", x.shares(5993, NONE), 5);
        });
        says("SHARES: of claim i; what is over (i NONE). NONE if one can't be (no claims).", () -> {
            LastToWince x = new LastToWince();
            for (int i = NONE; i < 2; i++) is("no claims", x.shares(5, i), NONE);
            x.claim(3);
            for (int n : FAR) for (int i = NONE; i < 1; i++) is("n " + n, x.shares(n, i), NONE);
            for (int i = NONE; i < 1; i++) is("n 10000", x.shares(10000, i), NONE);
            for (int i : new int[] {-2, 1, 6, LOW, HIGH}) is("i " + i, x.shares(5, i), NONE);
            is("n 0", x.shares(0, 0), 0);
            is("n 9999", x.shares(9999, NONE), 9996);
            LastToWince six = full();
            is("the sixth", six.shares(9999, 5), 105);
            is("a seventh", six.shares(9999, 6), NONE);
        });
    }

    private static void palsy() {
        says("PALSY: told rows of what one did: n (0 .. 20) winces of m (n .. 40) words. LIKELY of p (0 .. 1000) "
            + "of a thousand: of a million: q is p times 1000; n times q 9 by (q 9 + (a million less q) 4), "
            + "m less n times with 1 and 6, of a million, downwards.", () -> {
            LastToWince x = new LastToWince();
            for (int p : new int[] {0, 1, 500, 999, 1000}) {
                is("no words", x.likely(p, 0, 0), p * 1000);
                int[][] rows = {{0, 1}, {1, 1}, {0, 40}, {20, 20}, {20, 40}, {20, 21}, {19, 40}, {7, 19}};
                for (int[] r : rows) {
                    is("likely(" + p + ", " + r[0] + ", " + r[1] + ")", x.likely(p, r[0], r[1]), likely(p, r[0], r[1]));
                }
            }
            is("never", x.likely(0, 20, 20), 0);
            is("always", x.likely(1000, 0, 40), 1000000);
            is("downwards: 692307.6..", x.likely(500, 1, 1), 692307);
            is("downwards each time", x.likely(1, 0, 3), 4);
        });
        says("LIKELY; NONE if one can't be.", () -> {
            LastToWince x = new LastToWince();
            int[][] wrong = {{-1, 0, 0}, {1001, 0, 0}, {0, -1, 0}, {0, 21, 21}, {0, 21, 40}, {0, 1, 0}, {0, 20, 19},
                {0, 0, 41}, {0, 20, 41}, {0, 0, -1}, {LOW, 0, 0}, {HIGH, 0, 0}, {0, LOW, 0}, {0, HIGH, HIGH}, {0, 0, LOW},
                {0, 0, HIGH}, {0, LOW, HIGH}};
            for (int[] w : wrong) {
                is("likely(" + w[0] + ", " + w[1] + ", " + w[2] + ")", x.likely(w[0], w[1], w[2]), NONE);
            }
        });
        says("QUIET: the fewest words m (1 .. 40), none winced, by which LIKELY of 500 falls below a told one "
            + "t (1 .. 999999).", () -> {
            LastToWince x = new LastToWince();
            is("the most", x.quiet(999999), 1);
            for (int m = 1; m < 8; m++) {
                is("below one more than it is", x.quiet(likely(500, 0, m) + 1), m);
                is("not below what it is", x.quiet(likely(500, 0, m)), m + 1);
            }
            is("one word at least", x.quiet(500001), 1);
            is("the least", x.quiet(1), 8);
        });
        says("QUIET; NONE if by none, or t can't be.", () -> {
            LastToWince x = new LastToWince();
            noOther("quiet", x::quiet, 0, 1000000);
            // even 1 is undercut in eight words, so by none there is no t
            for (int t = 1; t < 400; t++) is("quiet(" + t + ")", x.quiet(t) >= 1, true);
        });
    }

    private static int likely(int p, int n, int m) {
        java.math.BigInteger million = java.math.BigInteger.valueOf(1000000);
        java.math.BigInteger q = java.math.BigInteger.valueOf(1000L * p);
        for (int i = 0; i < m; i++) {
            java.math.BigInteger a = q.multiply(java.math.BigInteger.valueOf(i < n ? 9 : 1));
            java.math.BigInteger b = million.subtract(q).multiply(java.math.BigInteger.valueOf(i < n ? 4 : 6));
            q = a.multiply(million).divide(a.add(b));
        }
        return q.intValueExact();
    }

    private static void out() {
        says("OUT: told tables: WORD w puts out DEALER d (a set for each WORD; empty at first): the fewest WORDS that "
            + "put out all DEALERS not BARRED: how many; the set (of several the least).", () -> {
            LastToWince x = crowd(8, 0);
            is("empty at first", x.outs(0), NONE);
            for (int w = 0; w < 7; w++) x.puts(w, 1 << w);
            is("one is not put out", x.outs(0), NONE);
            is("one is not put out", x.outs(1), NONE);
            x.puts(7, 1 << 7);
            is("all words", x.outs(0), 8);
            is("all words", x.outs(1), 255);
            x.puts(7, 255);
            is("the last alone", x.outs(1), 128);
            x.puts(3, 255);
            is("of several the least", x.outs(1), 8);
            x.puts(3, 127);
            x.puts(7, 128);
            is("two", x.outs(0), 2);
            is("two", x.outs(1), 128 | 8);
            x.puts(3, 0);
            is("what is told anew is not told besides", x.outs(0), NONE);
            for (int d = 1; d < 8; d++) x.act(0, d);
            is("those not barred", x.outs(1), 1);
            x.act(0, 0);
            is("nobody", x.outs(0), 0);
            is("nobody", x.outs(1), 0);
            is("no dealers", new LastToWince().outs(0), 0);
            LastToWince ten = crowd(10, 0);
            ten.puts(0, 31);
            ten.puts(1, 1023 - 31);
            is("two words that are less as a set", ten.outs(1), 3);
            ten.puts(7, 1023);
            is("but one is fewer", ten.outs(1), 128);
            is("but one is fewer", ten.outs(0), 1);
            ten.puts(0, 1023);
            is("of several the least", ten.outs(1), 1);
            for (int w = 0; w < 8; w++) ten.puts(w, 511);
            is("the tenth is left", ten.outs(1), NONE);
        });
        says("OUT is told of a WORD: a set of DEALERS (bits 0 .. 9): true; false if one can't be.", () -> {
            for (int word : new int[] {-1, 8, LOW, HIGH}) {
                refused("puts(" + word + ", 1)", Checks::half, x -> flag(x.puts(word, 1)), 0);
            }
            for (int set : new int[] {-1, 1024, 1025, 2047, LOW, HIGH}) {
                refused("puts(0, " + set + ")", Checks::half, x -> flag(x.puts(0, set)), 0);
            }
            LastToWince x = crowd(10, 0);
            for (int word = 0; word < 8; word += 7) {
                is("the most", x.puts(word, 1023), true);
                is("the least", x.puts(word, 0), true);
                is("the tenth bit", x.puts(word, 512), true);
            }
            is("before any dealer comes", new LastToWince().puts(0, 1023), true);
        });
        says("OUT what 0 how many, 1 the set. NONE if by none, or another what.", () -> {
            LastToWince x = full();
            is("by one", x.outs(0), 1);
            noOther("outs", x::outs, 2);
            x.puts(0, 1);
            for (int what = 0; what < 2; what++) is("by none", x.outs(what), NONE);
        });
    }

    private static void tells() {
        says("TELLS: couples of DEALERS (a below b) that some WORD of a set tells apart (puts out just one of them): "
            + "how many; the fewest WORDS by which all couples that can be told apart are: how many.", () -> {
            LastToWince x = crowd(10, 0);
            is("nothing told", x.tells(255), 0);
            is("nothing told", x.tells(NONE), 0);
            for (int bit = 0; bit < 4; bit++) {
                int set = 0;
                for (int d = 0; d < 10; d++) if ((d >> bit & 1) != 0) set |= 1 << d;
                x.puts(bit + 4, set);
            }
            is("all 45 couples", x.tells(255), 45);
            is("all 45 couples", x.tells(240), 45);
            is("by four", x.tells(NONE), 4);
            is("by odd and even", x.tells(16), 25);
            is("by 8 and 9", x.tells(128), 16);
            is("by no word", x.tells(0), 0);
            x.act(0, 0);
            is("barred ones are told apart too", x.tells(255), 45);
            x.puts(4, 1023);
            is("who all go out are not told apart", x.tells(16), 0);
            is("all that can be", x.tells(255), 40);
            is("by three", x.tells(NONE), 3);
            LastToWince few = crowd(1, 0);
            few.puts(0, 1);
            is("one alone is no couple", few.tells(1), 0);
            is("one alone", few.tells(NONE), 0);
            few.dealer(0, 0, 0, false);
            is("two are one", few.tells(1), 1);
            is("by one", few.tells(NONE), 1);
            LastToWince four = crowd(4, 0);
            four.puts(0, 3);
            four.puts(1, 5);
            four.puts(7, 1);
            is("by the first two", four.tells(NONE), 2);
            is("by the first two", four.tells(3), 6);
            is("not by others", four.tells(129), 5);
            LastToWince nine = crowd(9, 0);
            for (int w = 0; w < 8; w++) nine.puts(w, 1 << w);
            is("all eight are needed", nine.tells(NONE), 8);
            is("seven do not do", nine.tells(127), 35);
        });
        says("TELLS of a set of WORDS; the fewest (words NONE). NONE if there are other bits.", () -> {
            for (int words : new int[] {-2, 256, 257, 511, LOW, HIGH}) {
                is("tells(" + words + ")", full().tells(words), NONE);
            }
            is("all bits", full().tells(255), 9 + 8 + 7 + 6 + 5 + 4 + 3);
        });
    }

    private static void brings() {
        says("BRINGS: up to 7 told lots (worth 0 .. 99, tires 0 .. 9): sold one behind the other; what a lot brings is its "
            + "worth less what all ahead of it tire together (0 at least): the order that brings most: that; the i-th: "
            + "of several orders the first.", () -> {
            LastToWince x = new LastToWince();
            is("none", x.brings(0), 0);
            x.bring(5, 9);
            is("one", x.brings(0), 5);
            x.bring(8, 9);
            is("not below 0", x.brings(0), 8);
            are("the order", order(x::brings, 3), 1, 0, NONE);
            x.bring(NONE, 0);
            x.bring(9, 9);
            x.bring(9, 8);
            x.bring(0, 0);
            is("just nothing, or 1", x.brings(0), 10);
            are("of several the first", order(x::brings, 3), 1, 0, 2);
            x.bring(NONE, 0);
            for (int i = 0; i < 7; i++) x.bring(99, 9);
            is("99 + 90 + .. + 45", x.brings(0), 504);
            are("alike ones", order(x::brings, 8), 0, 1, 2, 3, 4, 5, 6, NONE);
            x.bring(NONE, 0);
            for (int i = 0; i < 7; i++) x.bring(99, 9 - i);
            is("the least tiring first", x.brings(0), 693 - (3 * 6 + 4 * 5 + 5 * 4 + 6 * 3 + 7 * 2 + 8));
            are("the least tiring first", order(x::brings, 7), 6, 5, 4, 3, 2, 1, 0);
            x.bring(NONE, 0);
            for (int i = 0; i < 7; i++) x.bring(0, 0);
            is("nothing", x.brings(0), 0);
            are("of several the first", order(x::brings, 7), 0, 1, 2, 3, 4, 5, 6);
        });
        says("A lot for BRINGS (worth NONE: none is then): how many; NONE if one can't be, or there are seven.", () -> {
            int[][] wrong = {{-2, 0}, {100, 0}, {LOW, 0}, {HIGH, 0}, {0, -1}, {0, 10}, {0, LOW}, {0, HIGH}};
            for (int[] w : wrong) {
                refused("bring(" + w[0] + ", " + w[1] + ")", Checks::half, x -> x.bring(w[0], w[1]), NONE);
            }
            refused("an eighth", Checks::full, x -> x.bring(1, 1), NONE);
            for (int tires : new int[] {NONE, 0, 10, LOW, HIGH}) {
                LastToWince x = full();
                is("bring(NONE, " + tires + ")", x.bring(NONE, tires), 0);
                is("none is then", x.brings(10), NONE);
                is("from the beginning", x.bring(99, 9), 1);
                is("the least", x.bring(0, 0), 2);
                is("that", x.brings(0), 99);
            }
            is("none to forget", new LastToWince().bring(NONE, 0), 0);
        });
        says("BRINGS what 0 how much, 10 + i the i-th. NONE if there is none such, or another what.", () -> {
            LastToWince x = new LastToWince();
            noOther("brings", x::brings, 1, 9, 10);
            for (int i = 0; i < 7; i++) x.bring(1, 1);
            is("the seventh", x.brings(16), 6);
            noOther("brings", x::brings, 1, 9, 17);
        });
    }

    private static void breaths() {
        says("BREATHS, up to 12 told 0 .. 99: the fewest swaps of any two by which they stand from the least to the "
            + "greatest (alike ones anyhow); couples that stand wrongly.", () -> {
            int[][] rows = {{}, {99}, {0, 99}, {99, 0}, {5, 5}, {2, 1, 1}, {1, 1, 0}, {2, 3, 1}, {2, 1, 2, 1},
                {11, 10, 9, 8, 7, 6, 5, 4, 3, 2, 1, 0}, {1, 2, 3, 4, 5, 6, 7, 8, 9, 10, 11, 0},
                {7, 7, 7, 7, 7, 7, 7, 7, 7, 7, 7, 7}, {1, 1, 1, 1, 1, 1, 0, 0, 0, 0, 0, 0},
                {2, 0, 1, 2, 0, 1, 2, 0, 1, 2, 0, 1}, {1, 0, 3, 2, 5, 4, 7, 6, 9, 8, 11, 10}};
            int[] swaps = {0, 0, 0, 1, 0, 1, 1, 2, 1, 6, 11, 0, 6, 5, 6};
            int[] couples = {0, 0, 0, 1, 0, 2, 2, 2, 3, 66, 11, 0, 36, 26, 6};
            for (int i = 0; i < rows.length; i++) {
                LastToWince x = new LastToWince();
                for (int v : rows[i]) x.breath(v);
                is("swaps of row " + i, x.breaths(0), swaps[i]);
                is("couples of row " + i, x.breaths(1), couples[i]);
            }
        });
        says("A BREATH (NONE: none is then): how many; NONE if one can't be, or there are twelve.", () -> {
            for (int v : new int[] {-2, 100, LOW, HIGH}) {
                refused("breath(" + v + ")", Checks::half, x -> x.breath(v), NONE);
            }
            refused("a thirteenth", Checks::full, x -> x.breath(5), NONE);
            LastToWince x = full();
            is("none is then", x.breath(NONE), 0);
            is("none is then", x.breaths(1), 0);
            for (int i = 1; i <= 12; i++) is("from the beginning", x.breath(i % 2 == 0 ? 0 : 99), i);
            is("a thirteenth", x.breath(0), NONE);
            is("none to forget", new LastToWince().breath(NONE), 0);
        });
        says("BREATHS what 0 swaps, 1 couples. NONE for another what.", () -> {
            for (var maker : makers()) {
                LastToWince x = maker.get();
                noOther("breaths", x::breaths, 2);
            }
        });
    }

    /** A room in which dealer d has heaps[d] lots. */
    private static LastToWince heaps(int... heaps) {
        LastToWince x = room(9999, new int[heaps.length]);
        for (int d = 0; d < heaps.length; d++) x.act(0, d);
        for (int i = 0; i < 12; i++) x.lot(0, 0);
        int lot = 0;
        for (int d = 0; d < heaps.length; d++) {
            x.act(1, d);
            for (int i = 0; i < heaps[d]; i++) x.sell(lot++);
            x.act(0, d);
        }
        return x;
    }

    private static void game() {
        says("CHAIRS: of DEALERS LOTS they have. GAME: two by turns take away 1 up to what DEALER's heap is by 2, upwards; "
            + "who takes the last one of all wins: the DEALER (of several the least), how many (the fewest) who begins "
            + "well takes.", () -> {
            int[] takes = {NONE, 1, NONE, 1, 2, 3, NONE, 1, 2, 3, 4, 5, 6};
            for (int n = 0; n <= 12; n++) {
                is("a heap of " + n, heaps(n).game(0), takes[n] == NONE ? NONE : 0);
                is("a heap of " + n, heaps(n).game(1), takes[n]);
                is("the last dealer's " + n, heaps(0, 0, 0, 0, 0, 0, 0, 0, 0, n).game(0), takes[n] == NONE ? NONE : 9);
            }
            int[][] rows = {{1, 1}, {1, 1, 1}, {2, 1}, {0, 2, 1}, {6, 6}, {5, 5, 1}, {4, 2}, {3, 1}, {1, 3}, {2, 6},
                {1, 1, 1, 1, 1, 1, 1, 1, 1, 1}, {2, 1, 1, 1, 1, 1, 1, 1, 1, 1}, {5, 4, 3}, {7, 3}, {2, 2, 2, 3}};
            for (int[] row : rows) {
                int[] best = bestTake(row);
                String name = "heaps " + java.util.Arrays.toString(row);
                is(name, heaps(row).game(0), best == null ? NONE : best[0]);
                is(name, heaps(row).game(1), best == null ? NONE : best[1]);
            }
        });
        says("GAME what 0 the DEALER, 1 how many. NONE if who begins loses, or for another what.", () -> {
            is("no dealers", new LastToWince().game(0), NONE);
            is("no dealers", new LastToWince().game(1), NONE);
            for (int what = 0; what < 2; what++) {
                is("no lots", heaps(0, 0).game(what), NONE);
                is("alike heaps", heaps(4, 4).game(what), NONE);
            }
            LastToWince x = heaps(1);
            noOther("game", x::game, 2);
        });
    }

    /** The least dealer and the fewest taken from him behind which the other loses, by trying all; or null. */
    private static int[] bestTake(int[] heaps) {
        for (int d = 0; d < heaps.length; d++) {
            for (int take = 1; take <= (heaps[d] + 1) / 2; take++) {
                int[] left = heaps.clone();
                left[d] -= take;
                if (bestTake(left) == null) return new int[] {d, take};
            }
        }
        return null;
    }

    private static void rich() {
        says("RICH: the DEALER with most PURSE and WORTH of his LOTS together (of several the least); that.", () -> {
            LastToWince x = room(0, new int[10]);
            is("nobody has anything", x.rich(0), 0);
            is("nobody has anything", x.rich(1), 0);
            x.set(2, 9, 1);
            is("the last", x.rich(0), 9);
            x.set(2, 4, 1);
            is("of several the least", x.rich(0), 4);
            is("that", x.rich(1), 1);
            LastToWince all = room(9999, 1, 1);
            for (int l = 0; l < 12; l++) all.lot(0, 999);
            tell(all, LAW, "price 0;");
            all.act(0, 0);
            is("as they come", all.rich(0), 0);
            for (int l = 0; l < 12; l++) all.sell(l);
            is("who has all lots", all.rich(0), 1);
            is("the most that can be", all.rich(1), 9999 + 12 * 999);
            for (int l = 0; l < 12; l++) all.set(3, l, 0);
            is("worth as it is now", all.rich(0), 0);
        });
        says("MEDIAN: of NERVE of all DEALERS the one in the middle (of two the lower).", () -> {
            int[] nerves = {99, 0, 50, 50, 7, 98, 1, 3, 60, 2};
            int[] due = {99, 0, 50, 50, 50, 50, 50, 7, 50, 7};
            LastToWince x = new LastToWince();
            for (int i = 0; i < nerves.length; i++) {
                x.dealer(nerves[i], 0, 0, false);
                is("of " + (i + 1), x.rich(2), due[i]);
            }
            x.act(0, 2);
            is("barred ones too", x.rich(2), 7);
        });
        says("RICH what 0 the DEALER, 1 how much; MEDIAN what 2. NONE without DEALERS, or for another what.", () -> {
            for (int what = 0; what < 3; what++) {
                is("no dealers", new LastToWince().rich(what), NONE);
                is("lots alone", crowd(0, 12).rich(what), NONE);
            }
            LastToWince x = full();
            noOther("rich", x::rich, 3);
        });
    }
}
