import java.util.ArrayList;
import java.util.Arrays;
import java.util.HashMap;
import java.util.HashSet;
import java.util.List;
import java.util.Map;
import java.util.Random;
import java.util.Set;
import java.util.TreeSet;

/**
 * Long runs of drawn calls, answered by the class and by a model that follows the document's words
 * as slowly and plainly as can be: permutations are walked, orders tried, texts evaluated as trees.
 */
public final class ModelTest {
    private static final int NONE = -1;

    // ------------------------------------------------------------------ the model

    private static final class Dealer {
        int nerve, skin, purse, blind, barred, winced, lots;

        Dealer copy() {
            Dealer d = new Dealer();
            d.nerve = nerve; d.skin = skin; d.purse = purse; d.blind = blind;
            d.barred = barred; d.winced = winced; d.lots = lots;
            return d;
        }
    }

    private static final class Lot {
        int kind, worth, sold = NONE;

        Lot copy() {
            Lot l = new Lot();
            l.kind = kind; l.worth = worth; l.sold = sold;
            return l;
        }
    }

    /** What a sale can change. */
    private static final class Hall {
        List<Dealer> dealers = new ArrayList<>();
        List<Lot> lots = new ArrayList<>();
        List<int[]> book = new ArrayList<>();
        int dark, minute, taken, state;

        Hall copy() {
            Hall h = new Hall();
            for (Dealer d : dealers) h.dealers.add(d.copy());
            for (Lot l : lots) h.lots.add(l.copy());
            h.book.addAll(book);
            h.dark = dark; h.minute = minute; h.taken = taken; h.state = state;
            return h;
        }
    }

    private interface Num { int of(Map<String, Integer> facts); }

    private interface Cond { boolean of(Map<String, Integer> facts); }

    private record LawLine(String word, Num value, Cond when) { }

    private static final class Fault extends RuntimeException {
        final int kind, place;

        Fault(int kind, int place) {
            super(null, null, false, false);
            this.kind = kind;
            this.place = place;
        }
    }

    private record Token(String text, int place) { }

    /** A reader of texts that throws at the first thing that is wrong. */
    private static final class Texts {
        final String source;
        final List<Token> tokens = new ArrayList<>();
        final Set<String> keywords;
        int at = 0;

        Texts(byte[] bytes, String words) {
            source = new String(bytes, java.nio.charset.StandardCharsets.ISO_8859_1);
            keywords = new HashSet<>(Arrays.asList(words.split(" ")));
            var m = java.util.regex.Pattern.compile("[A-Za-z]+|[0-9]+|[^ \\n]").matcher(source);
            while (m.find()) tokens.add(new Token(m.group(), m.start()));
        }

        String peek() { return at < tokens.size() ? tokens.get(at).text : ""; }

        int place() { return at < tokens.size() ? tokens.get(at).place : source.length(); }

        boolean over() { return at >= tokens.size(); }

        Fault fault(int kind) { return new Fault(kind, place()); }

        boolean isNumber() { return peek().matches("[0-9]{1,4}"); }

        boolean takes(String t) {
            if (!peek().equals(t) || (Character.isLetter(t.charAt(0)) && !keywords.contains(t))) return false;
            at++;
            return true;
        }

        void needs(String t) { if (!takes(t)) throw fault(1); }

        int number(int least, int most) {
            if (!isNumber()) throw fault(1);
            int v = Integer.parseInt(peek());
            if (v < least || v > most) throw fault(2);
            at++;
            return v;
        }

        Num sum() {
            Num left = product();
            while (peek().equals("+") || peek().equals("-")) {
                boolean plus = peek().equals("+");
                at++;
                Num a = left, b = product();
                left = plus ? f -> a.of(f) + b.of(f) : f -> a.of(f) - b.of(f);
            }
            return left;
        }

        Num product() {
            Num left = atom();
            while (true) {
                Num a = left;
                if (takes("*")) {
                    Num b = atom();
                    left = f -> a.of(f) * b.of(f);
                } else if (takes("/")) {
                    int b = number(1, 9999);
                    left = f -> a.of(f) / b;
                } else {
                    return left;
                }
            }
        }

        Num atom() {
            if (isNumber()) {
                int v = number(0, 9999);
                return f -> v;
            }
            String name = peek();
            if (!Arrays.asList("nerve", "skin", "blind", "winced", "kind", "worth", "word", "minute", "dark", "in")
                .contains(name)) throw fault(1);
            at++;
            return f -> f.get(name);
        }

        Cond either(int open) {
            Cond left = both(open);
            while (takes("or")) {
                Cond a = left, b = both(open);
                left = f -> a.of(f) || b.of(f);
            }
            return left;
        }

        Cond both(int open) {
            Cond left = one(open);
            while (takes("and")) {
                Cond a = left, b = one(open);
                left = f -> a.of(f) && b.of(f);
            }
            return left;
        }

        Cond one(int open) {
            if (peek().equals("not") || peek().equals("(")) {
                if (open == 8) throw fault(3);
                if (takes("not")) {
                    Cond a = one(open + 1);
                    return f -> !a.of(f);
                }
                needs("(");
                Cond a = either(open + 1);
                needs(")");
                return a;
            }
            Num a = sum();
            String sign = peek();
            if (!sign.equals("<") && !sign.equals("=") && !sign.equals(">")) throw fault(1);
            at++;
            Num b = sum();
            return f -> sign.equals("<") ? a.of(f) < b.of(f) : sign.equals("=") ? a.of(f) == b.of(f)
                : a.of(f) > b.of(f);
        }
    }

    private static final class Model {
        Hall hall = new Hall();
        List<LawLine> law = new ArrayList<>();
        List<int[]> speech = new ArrayList<>();
        List<int[]> pinches = new ArrayList<>();
        List<String[]> sale = new ArrayList<>();
        List<int[]> seen = new ArrayList<>();
        List<Integer> ring = new ArrayList<>();
        int[] out = new int[8];
        List<int[]> brings = new ArrayList<>();
        List<Integer> breaths = new ArrayList<>();
        List<Hall> past = new ArrayList<>();
        byte[] tape = new byte[0];
        int fault = 0, place = NONE;
        Model image = null;
        int paid, minutes;

        boolean isDealer(int d) { return d >= 0 && d < hall.dealers.size(); }

        boolean isLot(int l) { return l >= 0 && l < hall.lots.size(); }

        int state(int v) {
            past.clear();
            int was = hall.state;
            hall.state = v;
            return was;
        }

        int dealer(int nerve, int skin, int purse, boolean blind) {
            if (nerve < 0 || nerve > 99 || skin < 0 || skin > 9 || purse < 0 || purse > 9999) return NONE;
            if (hall.dealers.size() == 10) return NONE;
            Dealer d = new Dealer();
            d.nerve = nerve; d.skin = skin; d.purse = purse; d.blind = blind ? 1 : 0;
            hall.dealers.add(d);
            past.clear();
            return hall.dealers.size() - 1;
        }

        int lot(int kind, int worth) {
            if (kind < 0 || kind > 5 || worth < 0 || worth > 999 || hall.lots.size() == 12) return NONE;
            Lot l = new Lot();
            l.kind = kind; l.worth = worth;
            hall.lots.add(l);
            past.clear();
            return hall.lots.size() - 1;
        }

        boolean set(int what, int who, int v) {
            int[] most = {99, 9, 9999, 999, 5};
            if (what < 0 || what > 4 || v < 0 || v > most[what]) return false;
            if (what <= 2 && !isDealer(who) || what > 2 && !isLot(who)) return false;
            if (what == 0) hall.dealers.get(who).nerve = v;
            if (what == 1) hall.dealers.get(who).skin = v;
            if (what == 2) hall.dealers.get(who).purse = v;
            if (what == 3) hall.lots.get(who).worth = v;
            if (what == 4) hall.lots.get(who).kind = v;
            past.clear();
            return true;
        }

        void keep() {
            past.add(hall.copy());
            if (past.size() > 6) past.remove(0);
        }

        int told(Hall h, String what, int d, int l, int word, int minute, int in) {
            Map<String, Integer> f = new HashMap<>();
            Dealer dealer = h.dealers.get(d);
            Lot lot = h.lots.get(l);
            f.put("nerve", dealer.nerve); f.put("skin", dealer.skin); f.put("blind", dealer.blind);
            f.put("winced", dealer.winced); f.put("kind", lot.kind); f.put("worth", lot.worth);
            f.put("word", word); f.put("minute", minute); f.put("dark", h.dark); f.put("in", in);
            int v = what.equals("wince") ? 300 - 3 * dealer.nerve : what.equals("price") ? lot.worth / 2 : 5;
            for (LawLine line : law) {
                if (line.word.equals(what) && (line.when == null || line.when.of(f))) {
                    v = line.value.of(f);
                    break;
                }
            }
            int most = what.equals("wince") ? 1000 : what.equals("price") ? 9999 : 99;
            return v < 0 ? 0 : v > most ? most : v;
        }

        int wordAt(int minute) {
            List<Integer> each = new ArrayList<>();
            for (int[] line : speech) for (int i = 0; i < line[1]; i++) each.add(line[0]);
            return each.isEmpty() ? 0 : each.get(minute % each.size());
        }

        List<Integer> entrants(Hall h) {
            List<Integer> in = new ArrayList<>();
            for (int d = 0; d < h.dealers.size(); d++) {
                if (h.dealers.get(d).barred == 0 && h.dealers.get(d).purse > 0) in.add(d);
            }
            return in;
        }

        int strongest(Hall h, List<Integer> among) {
            int best = among.get(0);
            for (int d : among) if (h.dealers.get(d).nerve > h.dealers.get(best).nerve) best = d;
            return best;
        }

        void note(Hall h, int what, int d, int which) {
            if (h.book.size() < 150) h.book.add(new int[] {h.minute, what, d, which});
        }

        int hold(Hall h, int lot, boolean thought) {
            List<Integer> in = entrants(h);
            if (in.isEmpty()) return NONE;
            Set<Integer> everWinced = new TreeSet<>();
            minutes = 0;
            while (in.size() > 1 && minutes < 200) {
                int word = wordAt(minutes);
                List<Integer> start = new ArrayList<>(in);
                Set<Integer> wince = new TreeSet<>();
                for (int d : start) {
                    int odds = told(h, "wince", d, lot, word, minutes, start.size());
                    boolean winces;
                    if (thought) {
                        winces = odds >= 500;
                    } else {
                        h.state = (int) (h.state * 1664525L + 1013904223L);
                        winces = ((h.state & 0xFFFFFFFFL) >> 8) % 1000 < odds;
                    }
                    if (winces) {
                        wince.add(d);
                        h.dealers.get(d).winced++;
                        note(h, 0, d, word);
                    }
                }
                everWinced.addAll(wince);
                in.removeAll(wince);
                Set<Integer> dragged = new TreeSet<>();
                for (int[] p : pinches) if (wince.contains(p[0]) && in.contains(p[1])) dragged.add(p[1]);
                for (int d : dragged) note(h, 1, d, word);
                in.removeAll(dragged);
                if (in.isEmpty()) in.add(strongest(h, start));
                minutes++;
                h.minute++;
            }
            int who = strongest(h, in);
            if (in.size() > 1) note(h, 3, who, lot);
            Dealer d = h.dealers.get(who);
            paid = Math.min(d.purse, told(h, "price", who, lot, 0, minutes, 1));
            d.purse -= paid;
            h.taken += paid;
            h.lots.get(lot).sold = who;
            d.lots++;
            note(h, 2, who, lot);
            d.nerve = Math.min(99, d.nerve + told(h, "calm", who, lot, 0, minutes, 1));
            for (int o : everWinced) {
                if (o != who) h.dealers.get(o).nerve = Math.max(0, h.dealers.get(o).nerve - 3);
            }
            return who;
        }

        int sell(int lot) {
            if (!isLot(lot) || hall.lots.get(lot).sold != NONE) return NONE - 1;
            keep();
            return hold(hall, lot, false);
        }

        boolean act(int what, int who) {
            if (what == 0 || what == 1) {
                if (!isDealer(who) || hall.dealers.get(who).barred == 1 - what) return false;
                keep();
                hall.dealers.get(who).barred = 1 - what;
                return true;
            }
            if (what == 2 && hall.dark == 0 || what == 3 && hall.dark == 1) {
                keep();
                hall.dark = 3 - what;
                return true;
            }
            return false;
        }

        int house() {
            keep();
            int n = 0;
            for (String[] line : sale) {
                int k = Integer.parseInt(line[1]);
                if (line[0].equals("bar")) hall.dealers.get(k).barred = 1;
                if (line[0].equals("admit")) hall.dealers.get(k).barred = 0;
                if (line[0].equals("lot")) {
                    if (line[2].equals("dark")) hall.dark = 1;
                    if (line[2].equals("light")) hall.dark = 0;
                    if (hall.lots.get(k).sold == NONE && hold(hall, k, false) != NONE) n++;
                }
            }
            return n;
        }

        int feed(int... five) {
            if (tape.length + 20 > 400) return NONE;
            var b = java.nio.ByteBuffer.allocate(tape.length + 20).put(tape);
            for (int v : five) b.putInt(v);
            tape = b.array();
            return tape.length;
        }

        boolean end(int n) {
            if (n < 0 || n > tape.length) return false;
            tape = Arrays.copyOf(tape, n);
            return true;
        }

        int text(int k) {
            fault = 0;
            place = NONE;
            byte[] bytes = tape;
            tape = new byte[0];
            if (k < 0 || k > 3) return NONE;
            try {
                return k == 0 ? readLaw(bytes) : k == 1 ? readSpeech(bytes)
                    : k == 2 ? readPinches(bytes) : readSale(bytes);
            } catch (Fault f) {
                fault = f.kind;
                place = f.place;
                return NONE;
            }
        }

        String begins(Texts t, int lines, String... words) {
            String w = t.peek();
            if (!Arrays.asList(words).contains(w)) throw t.fault(1);
            if (lines == 16) throw t.fault(3);
            t.at++;
            return w;
        }

        int readLaw(byte[] bytes) {
            Texts t = new Texts(bytes, "wince price calm when or and not nerve skin blind winced kind worth word "
                + "minute dark in");
            List<LawLine> lines = new ArrayList<>();
            while (!t.over()) {
                String w = begins(t, lines.size(), "wince", "price", "calm");
                Num value = t.sum();
                Cond when = t.takes("when") ? t.either(0) : null;
                t.needs(";");
                lines.add(new LawLine(w, value, when));
            }
            law = lines;
            return lines.size();
        }

        int readSpeech(byte[] bytes) {
            Texts t = new Texts(bytes, "say for");
            List<int[]> lines = new ArrayList<>();
            while (!t.over()) {
                begins(t, lines.size(), "say");
                int w = t.number(0, 7);
                int n = t.takes("for") ? t.number(1, 60) : 1;
                t.needs(";");
                lines.add(new int[] {w, n});
            }
            speech = lines;
            return lines.size();
        }

        int readPinches(byte[] bytes) {
            Texts t = new Texts(bytes, "dealer pinches");
            List<int[]> lines = new ArrayList<>();
            while (!t.over()) {
                begins(t, lines.size(), "dealer");
                int a = t.number(0, hall.dealers.size() - 1);
                t.needs("pinches");
                Fault twice = t.fault(2);
                int b = t.number(0, hall.dealers.size() - 1);
                if (a == b) throw twice;
                t.needs(";");
                lines.add(new int[] {a, b});
            }
            pinches = lines;
            past.clear();
            return lines.size();
        }

        int readSale(byte[] bytes) {
            Texts t = new Texts(bytes, "lot bar admit dark light");
            List<String[]> lines = new ArrayList<>();
            while (!t.over()) {
                String w = begins(t, lines.size(), "lot", "bar", "admit");
                int k = t.number(0, (w.equals("lot") ? hall.lots.size() : hall.dealers.size()) - 1);
                String light = "";
                if (w.equals("lot")) light = t.takes("dark") ? "dark" : t.takes("light") ? "light" : "";
                t.needs(";");
                lines.add(new String[] {w, Integer.toString(k), light});
            }
            sale = lines;
            past.clear();
            return lines.size();
        }

        int faultOf(int what) { return what == 0 ? fault : what == 1 ? place : NONE; }

        int of(int dealer, int what) {
            if (!isDealer(dealer) || what < 0 || what > 7) return NONE;
            Dealer d = hall.dealers.get(dealer);
            int set = 0;
            for (int[] p : pinches) if (p[0] == dealer) set |= 1 << p[1];
            return new int[] {d.nerve, d.skin, d.purse, d.blind, d.barred, d.winced, d.lots, set}[what];
        }

        int lotOf(int lot, int what) {
            if (!isLot(lot) || what < 0 || what > 2) return NONE - 1;
            Lot l = hall.lots.get(lot);
            return new int[] {l.kind, l.worth, l.sold}[what];
        }

        int winces(int d, int l, int w) {
            if (!isDealer(d) || !isLot(l) || w < 0 || w > 7) return NONE;
            return told(hall, "wince", d, l, w, 0, entrants(hall).size());
        }

        int word(int m) { return m < 0 || m > 199 ? NONE : wordAt(m); }

        int book(int i, int what) {
            return i < 0 || i >= hall.book.size() || what < 0 || what > 3 ? NONE : hall.book.get(i)[what];
        }

        int would(int l, int what) {
            if (!isLot(l) || what < 0 || what > 2) return NONE;
            int who = hold(hall.copy(), l, true);
            return who == NONE ? NONE : what == 0 ? who : what == 1 ? minutes : paid;
        }

        int worst(int d, int l, int what) {
            if (!isDealer(d) || !isLot(l) || what < 0 || what > 1) return NONE;
            int best = 0;
            for (int w = 1; w < 8; w++) if (winces(d, l, w) > winces(d, l, best)) best = w;
            return what == 0 ? best : winces(d, l, best);
        }

        List<Integer> present() {
            List<Integer> p = new ArrayList<>();
            for (int d = 0; d < hall.dealers.size(); d++) if (hall.dealers.get(d).barred == 0) p.add(d);
            return p;
        }

        boolean clear(int set) {
            List<Integer> present = present();
            Set<Integer> out = new HashSet<>();
            for (int d = 0; d < 10; d++) {
                if ((set & 1 << d) != 0) {
                    if (!present.contains(d)) return false;
                    out.add(d);
                }
            }
            boolean more = true;
            while (more) {
                more = false;
                for (int[] p : pinches) {
                    if (out.contains(p[0]) && present.contains(p[1])) more |= out.add(p[1]);
                }
            }
            return out.containsAll(present);
        }

        int clears(int what) {
            if (what != 0 && what != 1) return NONE;
            for (int n = 0; n <= 10; n++) {
                for (int set = 0; set < 1024; set++) {
                    if (Integer.bitCount(set) == n && clear(set)) return what == 0 ? n : set;
                }
            }
            throw new IllegalStateException();
        }

        int bestCost;
        List<Integer> bestOrder;

        interface Cost { int next(List<Integer> order, int next, List<Integer> rest); }

        /** All orders in turn; those that can no longer be better than the best so far are left. */
        void orders(List<Integer> order, List<Integer> rest, int cost, Cost c) {
            if (bestOrder != null && cost >= bestCost) return;
            if (rest.isEmpty()) {
                bestCost = cost;
                bestOrder = new ArrayList<>(order);
                return;
            }
            for (int i = 0; i < rest.size(); i++) {
                List<Integer> left = new ArrayList<>(rest);
                int next = left.remove(i);
                int more = c.next(order, next, left);
                order.add(next);
                orders(order, left, cost + more, c);
                order.remove(order.size() - 1);
            }
        }

        int answer(int what) {
            if (what == 0) return bestCost;
            return what >= 10 && what < 10 + bestOrder.size() ? bestOrder.get(what - 10) : NONE;
        }

        int sat(int what) {
            if (present().size() > 8) return NONE;
            Set<Integer> ways = new HashSet<>();
            for (int[] p : pinches) ways.add(p[0] * 10 + p[1]);
            bestOrder = null;
            orders(new ArrayList<>(), present(), 0, (order, next, rest) -> {
                if (order.isEmpty()) return 0;
                int last = order.get(order.size() - 1);
                return (ways.contains(last * 10 + next) ? 1 : 0) + (ways.contains(next * 10 + last) ? 1 : 0);
            });
            return answer(what);
        }

        int seen(int a, int b) {
            if (a == NONE) {
                seen.clear();
                return 0;
            }
            if (!isDealer(a) || !isDealer(b) || a == b || seen.size() == 16) return NONE;
            seen.add(new int[] {a, b});
            return seen.size();
        }

        int ranks(int what) {
            Set<Integer> of = new TreeSet<>();
            for (int[] s : seen) {
                of.add(s[0]);
                of.add(s[1]);
            }
            bestOrder = null;
            orders(new ArrayList<>(), new ArrayList<>(of), 0, (order, next, rest) -> {
                int n = 0;
                for (int[] s : seen) if (s[1] == next && rest.contains(s[0])) n++;
                return n;
            });
            return answer(what);
        }

        int buys(int w, int what) {
            if (w < 1 || w > 9999 || what < 0 || what > 1) return NONE;
            int best = 0, bestSet = 0;
            for (int set = 0; set < 4096; set++) {
                int cost = 0, worth = 0;
                boolean can = true;
                for (int l = 0; l < 12; l++) {
                    if ((set & 1 << l) == 0) continue;
                    if (!isLot(l) || hall.lots.get(l).sold != NONE) {
                        can = false;
                        break;
                    }
                    cost += hall.lots.get(l).worth / 2;
                    worth += hall.lots.get(l).worth;
                }
                if (can && cost <= w && worth > best) {
                    best = worth;
                    bestSet = set;
                }
            }
            return what == 0 ? best : bestSet;
        }

        int claim(int v) {
            if (v == NONE) {
                ring.clear();
                return 0;
            }
            if (v < 0 || v > 999 || ring.size() == 6) return NONE;
            ring.add(v);
            return ring.size();
        }

        long[] sums;
        long count;

        void walk(List<Integer> order, List<Integer> rest, int n) {
            if (rest.isEmpty()) {
                count++;
                int left = n;
                for (int i : order) {
                    int has = Math.min(left, ring.get(i));
                    sums[i] += has;
                    left -= has;
                }
                return;
            }
            for (int i = 0; i < rest.size(); i++) {
                List<Integer> less = new ArrayList<>(rest);
                order.add(less.remove(i));
                walk(order, less, n);
                order.remove(order.size() - 1);
            }
        }

        int shares(int n, int i) {
            if (ring.isEmpty() || n < 0 || n > 9999 || i < -1 || i >= ring.size()) return NONE;
            sums = new long[ring.size()];
            count = 0;
            List<Integer> all = new ArrayList<>();
            for (int c = 0; c < ring.size(); c++) all.add(c);
            walk(new ArrayList<>(), all, n);
            int over = n;
            for (long s : sums) over -= s / count;
            return i == NONE ? over : (int) (sums[i] / count);
        }

        int likely(int p, int n, int m) {
            if (p < 0 || p > 1000 || n < 0 || n > 20 || m < n || m > 40) return NONE;
            java.math.BigInteger million = java.math.BigInteger.valueOf(1000000);
            java.math.BigInteger q = java.math.BigInteger.valueOf(p * 1000L);
            for (int i = 0; i < m; i++) {
                var a = java.math.BigInteger.valueOf(i < n ? 9 : 1);
                var b = java.math.BigInteger.valueOf(i < n ? 4 : 6);
                q = q.multiply(a).multiply(million).divide(q.multiply(a).add(million.subtract(q).multiply(b)));
            }
            return q.intValue();
        }

        int quiet(int t) {
            if (t < 1 || t > 999999) return NONE;
            for (int m = 1; m <= 40; m++) if (likely(500, 0, m) < t) return m;
            return NONE;
        }

        boolean puts(int w, int set) {
            if (w < 0 || w > 7 || (set & ~1023) != 0) return false;
            out[w] = set;
            return true;
        }

        int outs(int what) {
            if (what != 0 && what != 1) return NONE;
            for (int n = 0; n <= 8; n++) {
                for (int set = 0; set < 256; set++) {
                    if (Integer.bitCount(set) != n) continue;
                    boolean all = true;
                    for (int d : present()) {
                        boolean goes = false;
                        for (int w = 0; w < 8; w++) goes |= (set & 1 << w) != 0 && (out[w] & 1 << d) != 0;
                        all &= goes;
                    }
                    if (all) return what == 0 ? n : set;
                }
            }
            return NONE;
        }

        int apart(int words) {
            int n = 0;
            for (int a = 0; a < hall.dealers.size(); a++) {
                for (int b = a + 1; b < hall.dealers.size(); b++) {
                    boolean told = false;
                    for (int w = 0; w < 8; w++) {
                        told |= (words & 1 << w) != 0 && (out[w] >> a & 1) != (out[w] >> b & 1);
                    }
                    n += told ? 1 : 0;
                }
            }
            return n;
        }

        int tells(int words) {
            if (words == NONE) {
                int all = apart(255), least = 8;
                for (int s = 0; s < 256; s++) if (apart(s) == all) least = Math.min(least, Integer.bitCount(s));
                return least;
            }
            return (words & ~255) != 0 ? NONE : apart(words);
        }

        int bring(int worth, int tires) {
            if (worth == NONE) {
                brings.clear();
                return 0;
            }
            if (worth < 0 || worth > 99 || tires < 0 || tires > 9 || brings.size() == 7) return NONE;
            brings.add(new int[] {worth, tires});
            return brings.size();
        }

        void sales(List<Integer> order, List<Integer> rest) {
            if (rest.isEmpty()) {
                int sum = 0, tired = 0;
                for (int i : order) {
                    sum += Math.max(0, brings.get(i)[0] - tired);
                    tired += brings.get(i)[1];
                }
                if (bestOrder == null || sum > bestCost) {
                    bestCost = sum;
                    bestOrder = new ArrayList<>(order);
                }
                return;
            }
            for (int i = 0; i < rest.size(); i++) {
                List<Integer> less = new ArrayList<>(rest);
                order.add(less.remove(i));
                sales(order, less);
                order.remove(order.size() - 1);
            }
        }

        int brings(int what) {
            bestOrder = null;
            List<Integer> all = new ArrayList<>();
            for (int i = 0; i < brings.size(); i++) all.add(i);
            sales(new ArrayList<>(), all);
            return answer(what);
        }

        int breath(int v) {
            if (v == NONE) {
                breaths.clear();
                return 0;
            }
            if (v < 0 || v > 99 || breaths.size() == 12) return NONE;
            breaths.add(v);
            return breaths.size();
        }

        int swaps(List<Integer> row, List<Integer> goal, Map<List<Integer>, Integer> known) {
            if (row.equals(goal)) return 0;
            Integer k = known.get(row);
            if (k != null) return k;
            int at = 0;
            while (row.get(at).equals(goal.get(at))) at++;
            int least = 99;
            for (int j = at + 1; j < row.size(); j++) {
                if (!row.get(j).equals(goal.get(at)) || row.get(j).equals(goal.get(j))) continue;
                List<Integer> next = new ArrayList<>(row);
                next.set(j, row.get(at));
                next.set(at, row.get(j));
                least = Math.min(least, 1 + swaps(next, goal, known));
            }
            known.put(new ArrayList<>(row), least);
            return least;
        }

        int breathsOf(int what) {
            if (what == 0) {
                List<Integer> goal = new ArrayList<>(breaths);
                goal.sort(null);
                return swaps(breaths, goal, new HashMap<>());
            }
            if (what != 1) return NONE;
            int n = 0;
            for (int i = 0; i < breaths.size(); i++) {
                for (int j = i + 1; j < breaths.size(); j++) n += breaths.get(i) > breaths.get(j) ? 1 : 0;
            }
            return n;
        }

        boolean wins(List<Integer> heaps, Map<List<Integer>, Boolean> known) {
            List<Integer> key = new ArrayList<>(heaps);
            key.removeIf(h -> h == 0);
            key.sort(null);
            Boolean k = known.get(key);
            if (k != null) return k;
            boolean w = false;
            for (int i = 0; i < key.size() && !w; i++) {
                for (int take = 1; take <= (key.get(i) + 1) / 2 && !w; take++) {
                    List<Integer> next = new ArrayList<>(key);
                    next.set(i, key.get(i) - take);
                    w = !wins(next, known);
                }
            }
            known.put(key, w);
            return w;
        }

        int game(int what) {
            if (what != 0 && what != 1) return NONE;
            Map<List<Integer>, Boolean> known = new HashMap<>();
            for (int d = 0; d < hall.dealers.size(); d++) {
                int heap = hall.dealers.get(d).lots;
                for (int take = 1; take <= (heap + 1) / 2; take++) {
                    List<Integer> next = new ArrayList<>();
                    for (Dealer o : hall.dealers) next.add(o.lots);
                    next.set(d, heap - take);
                    if (!wins(next, known)) return what == 0 ? d : take;
                }
            }
            return NONE;
        }

        int rich(int what) {
            if (hall.dealers.isEmpty() || what < 0 || what > 2) return NONE;
            if (what == 2) {
                List<Integer> nerves = new ArrayList<>();
                for (Dealer d : hall.dealers) nerves.add(d.nerve);
                nerves.sort(null);
                return nerves.get((nerves.size() + 1) / 2 - 1);
            }
            int best = NONE, who = NONE;
            for (int d = 0; d < hall.dealers.size(); d++) {
                int sum = hall.dealers.get(d).purse;
                for (Lot l : hall.lots) if (l.sold == d) sum += l.worth;
                if (sum > best) {
                    best = sum;
                    who = d;
                }
            }
            return what == 0 ? who : best;
        }

        boolean undo() {
            if (past.isEmpty()) return false;
            hall = past.remove(past.size() - 1);
            return true;
        }

        void from(Model o) {
            hall = o.hall.copy();
            law = o.law; speech = o.speech; pinches = o.pinches; sale = o.sale;
            seen = new ArrayList<>(o.seen);
            ring = new ArrayList<>(o.ring);
            out = o.out.clone();
            brings = new ArrayList<>(o.brings);
            breaths = new ArrayList<>(o.breaths);
        }

        boolean image(boolean taken) {
            if (taken) {
                image = new Model();
                image.from(this);
                return true;
            }
            if (image == null) return false;
            from(image);
            past.clear();
            return true;
        }

        int look(int what) {
            int barred = 0, unsold = 0;
            for (int d = 0; d < hall.dealers.size(); d++) barred |= hall.dealers.get(d).barred << d;
            for (int l = 0; l < hall.lots.size(); l++) if (hall.lots.get(l).sold == NONE) unsold |= 1 << l;
            int[] all = {hall.dealers.size(), hall.lots.size(), hall.dark, hall.minute, hall.taken, barred, unsold,
                hall.book.size(), hall.state, law.size(), speech.size(), pinches.size(), sale.size(), past.size()};
            return what < 0 || what >= all.length ? NONE : all[what];
        }
    }

    // ------------------------------------------------------------------ drawn calls

    private static int wrong = 0;
    private static final Map<String, Integer> asked = new java.util.TreeMap<>();

    private final Random random;
    private final LastToWince x = new LastToWince();
    private final Model y = new Model();
    private final long seed;
    private final int mood;
    private int calls = 0;

    private ModelTest(long seed) {
        this.seed = seed;
        random = new Random(seed);
        mood = random.nextInt(6);
    }

    private boolean due(String call, long got, long want) {
        calls++;
        asked.merge(call.substring(0, call.indexOf('(')), 1, Integer::sum);
        if (got != want) {
            wrong++;
            System.out.println("seed " + seed + ", call " + calls + ": " + call + " answered " + got
                + ", due is " + want);
        }
        return got == want;
    }

    private boolean due(String call, boolean got, boolean want) {
        return due(call, got ? 1L : 0L, want ? 1L : 0L);
    }

    private int upTo(int most) { return random.nextInt(most + 1); }

    /** Mostly 0 .. most, now and then a little or far beyond. */
    private int about(int most) {
        int r = random.nextInt(40);
        if (r == 0) return -1 - random.nextInt(3);
        if (r == 1) return most + 1 + random.nextInt(3);
        if (r == 2 && random.nextInt(4) == 0) return random.nextInt();
        if (r < 6) return most;
        return upTo(most);
    }

    private static final String[] FACTS = {"nerve", "skin", "blind", "winced", "kind", "worth", "word", "minute",
        "dark", "in"};

    private String gap() {
        int r = random.nextInt(12);
        return r == 0 ? "  " : r == 1 ? "\n" : " ";
    }

    private String unit() {
        int r = random.nextInt(10);
        if (r < 5) return FACTS[random.nextInt(FACTS.length)];
        return Integer.toString(r < 7 ? upTo(9) : r < 9 ? upTo(600) : about(9999));
    }

    private String term() {
        StringBuilder b = new StringBuilder(unit());
        while (random.nextInt(4) == 0) {
            if (random.nextBoolean()) b.append("*").append(unit());
            else b.append(random.nextBoolean() ? "/" : " / ").append(upTo(12));
        }
        return b.toString();
    }

    private String sum() {
        StringBuilder b = new StringBuilder(term());
        while (random.nextInt(3) == 0) b.append(random.nextBoolean() ? "+" : " - ").append(term());
        return b.toString();
    }

    private String condition(int deep) {
        int r = random.nextInt(8);
        if (deep > 0 && r < 2) return "not " + condition(deep - 1);
        if (deep > 0 && r < 4) return "(" + condition(deep - 1) + ")";
        if (deep > 0 && r == 4) return condition(deep - 1) + gap() + "and " + condition(deep - 1);
        if (deep > 0 && r == 5) return condition(deep - 1) + " or" + gap() + condition(deep - 1);
        return (random.nextBoolean() ? unit() : sum()) + "<=>".charAt(random.nextInt(3)) + unit();
    }

    private String nested(int deep) {
        StringBuilder b = new StringBuilder();
        int brackets = 0;
        for (int i = 0; i < deep; i++) {
            if (random.nextBoolean()) {
                b.append("not ");
            } else {
                b.append("(");
                brackets++;
            }
        }
        b.append(unit()).append("=").append(unit());
        for (int i = 0; i < brackets; i++) b.append(")");
        return b.toString();
    }

    private String law() {
        StringBuilder b = new StringBuilder();
        int r = random.nextInt(10);
        if (r == 0) {
            int n = 14 + upTo(4);
            for (int i = 0; i < n; i++) b.append(new String[] {"wince ", "price ", "calm "}[upTo(2)]).append(unit()).append(";");
            return b.toString();
        }
        int n = 1 + upTo(5);
        for (int i = 0; i < n; i++) {
            b.append(new String[] {"wince", "price", "calm", "wince"}[upTo(3)]).append(gap());
            b.append(mood < 2 && random.nextBoolean() ? Integer.toString(upTo(60)) : sum());
            if (random.nextInt(3) != 0) {
                b.append(" when ").append(random.nextInt(8) == 0 ? nested(6 + upTo(4)) : condition(upTo(3)));
            }
            b.append(random.nextBoolean() ? ";" : " ;").append(random.nextInt(5) == 0 ? "\n" : "");
        }
        return b.toString();
    }

    private String speech() {
        StringBuilder b = new StringBuilder();
        int n = random.nextInt(8) == 0 ? 14 + upTo(4) : upTo(5);
        for (int i = 0; i < n; i++) {
            b.append("say").append(gap()).append(random.nextInt(30) == 0 ? 8 : upTo(7));
            if (random.nextBoolean()) b.append(" for ").append(random.nextInt(30) == 0 ? about(60) : 1 + upTo(59));
            b.append(";");
        }
        return b.toString();
    }

    private String pinches() {
        StringBuilder b = new StringBuilder();
        int n = random.nextInt(8) == 0 ? 15 + upTo(3) : upTo(12);
        int d = Math.max(1, x.look(0));
        for (int i = 0; i < n; i++) {
            int from = random.nextInt(d);
            int to = random.nextInt(30) == 0 ? from : random.nextInt(30) == 0 ? d : (from + 1 + random.nextInt(Math.max(1, d - 1))) % d;
            b.append("dealer ").append(from).append(gap()).append("pinches ").append(to).append(";");
        }
        return b.toString();
    }

    private String sale() {
        StringBuilder b = new StringBuilder();
        int n = random.nextInt(8) == 0 ? 15 + upTo(3) : upTo(10);
        for (int i = 0; i < n; i++) {
            int r = random.nextInt(6);
            int d = Math.max(0, x.look(0) - 1), l = Math.max(0, x.look(1) - 1);
            if (r == 0) b.append("bar ").append(upTo(d));
            else if (r == 1) b.append("admit ").append(upTo(d));
            else b.append("lot ").append(random.nextInt(30) == 0 ? l + 1 : upTo(l))
                .append(new String[] {"", " dark", " light", ""}[upTo(3)]);
            b.append(random.nextBoolean() ? ";" : ";\n");
        }
        return b.toString();
    }

    private byte[] spoilt(String text) {
        byte[] b = text.getBytes(java.nio.charset.StandardCharsets.ISO_8859_1);
        if (b.length > 400) b = Arrays.copyOf(b, 400);
        if (b.length == 0 || random.nextInt(3) != 0) return b;
        int at = random.nextInt(b.length);
        switch (random.nextInt(6)) {
            case 0: b[at] = (byte) random.nextInt(256); break;
            case 1: b = Arrays.copyOf(b, at); break;
            case 2: b[at] = (byte) " ;0(notNA.\n\t".charAt(random.nextInt(12)); break;
            case 3: {
                byte[] c = new byte[b.length - 1];
                System.arraycopy(b, 0, c, 0, at);
                System.arraycopy(b, at + 1, c, at, c.length - at);
                b = c;
                break;
            }
            default: {
                String[] bits = {" not", "(", ")", " when ", ";", "/", " 0", "or ", "for 0", "dark", "12345", "+"};
                String s = new String(b, java.nio.charset.StandardCharsets.ISO_8859_1);
                s = s.substring(0, at) + bits[random.nextInt(bits.length)] + s.substring(at);
                b = s.getBytes(java.nio.charset.StandardCharsets.ISO_8859_1);
                if (b.length > 400) b = Arrays.copyOf(b, 400);
            }
        }
        return b;
    }

    private void feed(int a, int b, int c, int d, int e) {
        due("feed()", x.feed(a, b, c, d, e), y.feed(a, b, c, d, e));
    }

    private void tellText() {
        int k = random.nextInt(4);
        String s = k == 0 ? law() : k == 1 ? speech() : k == 2 ? pinches() : sale();
        byte[] bytes = spoilt(s);
        // now and then the tape is not cut first, so that what an earlier text left on it would show
        if (random.nextInt(8) > 0) due("end(0)", x.end(0), y.end(0));
        for (int i = 0; i < bytes.length; i += 20) {
            var five = java.nio.ByteBuffer.wrap(Arrays.copyOfRange(bytes, i, i + 20));
            feed(five.getInt(), five.getInt(), five.getInt(), five.getInt(), five.getInt());
        }
        due("end(n)", x.end(bytes.length), y.end(bytes.length));
        int as = random.nextInt(40) == 0 ? about(3) : k;
        boolean ok = due("text(" + as + ")", x.text(as), y.text(as));
        ok &= due("fault(0)", x.fault(0), y.faultOf(0));
        ok &= due("fault(1)", x.fault(1), y.faultOf(1));
        if (random.nextInt(8) == 0) feed(0, 0, 0, 0, 0);
        if (!ok) System.out.println("  the text: " + new String(bytes, java.nio.charset.StandardCharsets.ISO_8859_1));
    }

    private void compareAll() {
        for (int i = -1; i <= 14; i++) due("look(" + i + ")", x.look(i), y.look(i));
        for (int d = 0; d < y.hall.dealers.size(); d++) {
            for (int w = 0; w < 8; w++) due("of(" + d + ", " + w + ")", x.of(d, w), y.of(d, w));
        }
        for (int l = 0; l < y.hall.lots.size(); l++) {
            for (int w = 0; w < 3; w++) due("lotOf(" + l + ", " + w + ")", x.lotOf(l, w), y.lotOf(l, w));
        }
        for (int i = 0; i < Math.min(28, y.hall.book.size()); i++) {
            int line = y.hall.book.size() - 1 - i;
            for (int w = 0; w < 4; w++) due("book(" + line + ", " + w + ")", x.book(line, w), y.book(line, w));
        }
        due("image(now)", x.look(13), y.look(13));
    }

    private int bigOrSmall(int most) { return random.nextInt(3) == 0 ? upTo(3) : about(most); }

    private void tellRoom() {
        int a, b, c;
        switch (random.nextInt(mood == 5 ? 4 : 12)) {
            case 0: case 1: {
                a = about(99); b = about(9); c = random.nextInt(6) == 0 ? 0 : about(9999);
                boolean blind = random.nextBoolean();
                due("dealer(" + a + "," + b + "," + c + ")", x.dealer(a, b, c, blind), y.dealer(a, b, c, blind));
                break;
            }
            case 2: case 3:
                a = about(5); b = bigOrSmall(999);
                due("lot(" + a + "," + b + ")", x.lot(a, b), y.lot(a, b));
                break;
            case 4:
                a = about(4); b = about(a < 3 ? 9 : 11); c = about(new int[] {99, 9, 9999, 999, 5}[Math.max(0, Math.min(4, a))]);
                due("set(" + a + "," + b + "," + c + ")", x.set(a, b, c), y.set(a, b, c));
                break;
            case 5:
                a = random.nextInt();
                due("state(" + a + ")", x.state(a), y.state(a));
                break;
            case 6: {
                boolean taken = random.nextInt(3) != 0;
                due("image(" + taken + ")", x.image(taken), y.image(taken));
                break;
            }
            default:
                tellText();
        }
    }

    private void actOnce() {
        switch (random.nextInt(8)) {
            case 0: case 1: case 2: {
                int a = about(Math.max(0, x.look(1) - 1));
                due("sell(" + a + ")", x.sell(a), y.sell(a));
                break;
            }
            case 3: case 4: {
                int a = about(3), b = about(Math.max(0, x.look(0) - 1));
                due("act(" + a + "," + b + ")", x.act(a, b), y.act(a, b));
                break;
            }
            case 5:
                due("house()", x.house(), y.house());
                break;
            default:
                due("undo()", x.undo(), y.undo());
        }
    }

    private void tellThought() {
        int a, b;
        switch (random.nextInt(5)) {
            case 0:
                a = random.nextInt(40) == 0 ? NONE : about(Math.max(0, x.look(0) - 1)); b = about(Math.max(0, x.look(0) - 1));
                due("seen(" + a + "," + b + ")", x.seen(a, b), y.seen(a, b));
                break;
            case 1:
                a = random.nextInt(20) == 0 ? NONE : bigOrSmall(999);
                due("claim(" + a + ")", x.claim(a), y.claim(a));
                break;
            case 2:
                a = about(7); b = random.nextInt(3) == 0 ? 1 << upTo(9) : about(1023);
                due("puts(" + a + "," + b + ")", x.puts(a, b), y.puts(a, b));
                break;
            case 3:
                a = random.nextInt(20) == 0 ? NONE : bigOrSmall(99); b = about(9);
                due("bring(" + a + "," + b + ")", x.bring(a, b), y.bring(a, b));
                break;
            default:
                a = random.nextInt(30) == 0 ? NONE : mood == 0 ? upTo(3) : bigOrSmall(99);
                due("breath(" + a + ")", x.breath(a), y.breath(a));
        }
    }

    private void think() {
        int dealers = Math.max(0, x.look(0) - 1), lots = Math.max(0, x.look(1) - 1);
        int a, b, c;
        switch (random.nextInt(17)) {
            case 0:
                a = about(lots); b = about(2);
                due("would(" + a + "," + b + ")", x.would(a, b), y.would(a, b));
                break;
            case 1:
                a = about(dealers); b = about(lots); c = about(1);
                due("worst(" + a + "," + b + "," + c + ")", x.worst(a, b, c), y.worst(a, b, c));
                break;
            case 2:
                a = about(1);
                due("clears(" + a + ")", x.clears(a), y.clears(a));
                break;
            case 3:
                a = random.nextInt(3) == 0 ? about(0) : 10 + about(7);
                due("sat(" + a + ")", x.sat(a), y.sat(a));
                break;
            case 4:
                a = random.nextInt(3) == 0 ? about(0) : 10 + about(9);
                due("ranks(" + a + ")", x.ranks(a), y.ranks(a));
                break;
            case 5:
                a = bigOrSmall(random.nextBoolean() ? 9999 : 999); b = about(1);
                due("buys(" + a + "," + b + ")", x.buys(a, b), y.buys(a, b));
                break;
            case 6:
                a = bigOrSmall(random.nextBoolean() ? 9999 : 2000); b = random.nextInt(4) == 0 ? NONE : about(5);
                due("shares(" + a + "," + b + ")", x.shares(a, b), y.shares(a, b));
                break;
            case 7:
                a = about(1000); b = about(20); c = b + about(Math.max(0, 40 - b));
                due("likely(" + a + "," + b + "," + c + ")", x.likely(a, b, c), y.likely(a, b, c));
                break;
            case 8:
                a = random.nextInt(3) == 0 ? about(200) : about(999999);
                due("quiet(" + a + ")", x.quiet(a), y.quiet(a));
                break;
            case 9:
                a = about(1);
                due("outs(" + a + ")", x.outs(a), y.outs(a));
                break;
            case 10:
                a = random.nextInt(3) == 0 ? NONE : about(255);
                due("tells(" + a + ")", x.tells(a), y.tells(a));
                break;
            case 11:
                a = random.nextInt(3) == 0 ? about(0) : 10 + about(6);
                due("brings(" + a + ")", x.brings(a), y.brings(a));
                break;
            case 12:
                a = about(1);
                due("breaths(" + a + ")", x.breaths(a), y.breathsOf(a));
                break;
            case 13:
                a = about(1);
                due("game(" + a + ")", x.game(a), y.game(a));
                break;
            case 14:
                a = about(2);
                due("rich(" + a + ")", x.rich(a), y.rich(a));
                break;
            case 15:
                a = about(dealers); b = about(lots); c = about(7);
                due("winces(" + a + "," + b + "," + c + ")", x.winces(a, b, c), y.winces(a, b, c));
                break;
            default:
                a = about(199);
                due("word(" + a + ")", x.word(a), y.word(a));
        }
    }

    private void run() {
        int first = upTo(10);
        for (int i = 0; i < first; i++) {
            int nerve = mood == 3 ? 90 + upTo(9) : upTo(99), purse = 1 + upTo(9998);
            due("dealer()", x.dealer(nerve, i, purse, i % 2 == 0), y.dealer(nerve, i, purse, i % 2 == 0));
        }
        int lots = upTo(12);
        for (int i = 0; i < lots; i++) {
            int worth = upTo(999);
            due("lot()", x.lot(i % 6, worth), y.lot(i % 6, worth));
        }
        int thoughts = random.nextInt(4) == 0 ? 90 : upTo(20);
        for (int i = 0; i < thoughts; i++) tellThought();
        for (int i = 0; i < 60 && calls < 240 && wrong < 20; i++) {
            int r = random.nextInt(10);
            if (r < (mood == 4 ? 1 : 2)) tellRoom();
            else if (r < 5) actOnce();
            else if (r < 7) tellThought();
            else think();
        }
        compareAll();
    }

    public static void main(String[] args) {
        int runs = args.length > 0 ? Integer.parseInt(args[0]) : 4000;
        long from = args.length > 1 ? Long.parseLong(args[1]) : 1;
        for (long seed = from; seed < from + runs && wrong < 20; seed++) new ModelTest(seed).run();
        System.out.println("calls: " + asked);
        System.out.println(wrong == 0 ? "all answers are as the model's" : wrong + " answers are not as the model's");
        if (wrong != 0) System.exit(1);
    }
}
