import java.util.ArrayList;
import java.util.HashMap;
import java.util.LinkedHashSet;
import java.util.List;
import java.util.Map;
import java.util.Set;
import java.util.TreeSet;

/**
 * The document once more, word by word and without a thought for speed: everything that is asked is
 * found by trying all there is. RandomRuns holds PerfgaugeHouse against it.
 */
public final class NaiveHouse {
    record Flaw(int position, int kind, int from, int to) { }

    record Rate(int from, int distance, int weight, int price) { }

    record Span(int what, int from, int to) { }

    record Opinion(int piece, int day, int expert, boolean good) { }

    record Item(boolean isCover, int number, int reserve) { }

    record Bid(int bidder, int items, int amount) { }

    record Plating(int printing, List<Integer> positions) { }

    static final class Piece {
        int wide, high, sheet, light;
        boolean top, told;
        int[] seen = new int[9];
        boolean[] clear = new boolean[9];
        Integer[] gauge = new Integer[4];
        int[] marks = {2, 2, 2, 2, 2, 2, 2, 2};
        int[] shade;
    }

    static final class Cover {
        int from, to, weight, die, day, arrived;
        boolean taxed;
        int[] many = new int[10];
    }

    private int wide, high, today;
    private final List<Flaw> flaws = new ArrayList<>();
    private final List<Piece> pieces = new ArrayList<>();
    private final int[][] roads = new int[6][6];
    private final List<Rate> rates = new ArrayList<>();
    private final List<Span> issues = new ArrayList<>();
    private final List<Span> dies = new ArrayList<>();
    private final List<Cover> covers = new ArrayList<>();
    private final List<int[]> hands = new ArrayList<>();
    private final List<Opinion> opinions = new ArrayList<>();
    private final int[] trusts = {5, 5, 5, 5, 5};
    private final List<Item> items = new ArrayList<>();
    private final List<Bid> bids = new ArrayList<>();
    private final int[][] standards = new int[8][];

    private static void there(boolean is) {
        if (!is) throw new IndexOutOfBoundsException();
    }

    private static void given(boolean is) {
        if (!is) throw new IllegalArgumentException();
    }

    private static void state(boolean is) {
        if (!is) throw new IllegalStateException();
    }

    private static boolean in(int n, int from, int to) {
        return from <= n && n <= to;
    }

    private boolean isPosition(int p) {
        return p >= 0 && p < wide * high;
    }

    private boolean isPiece(int p) {
        return p >= 0 && p < pieces.size();
    }

    private boolean isCover(int c) {
        return c >= 0 && c < covers.size();
    }

    private long ofSheet(int sheet) {
        return pieces.stream().filter(p -> p.sheet == sheet).count();
    }

    public int plate(int w, int h) {
        given(in(w, 2, 6) && in(h, 2, 4));
        kept.clear();
        wide = w;
        high = h;
        flaws.clear();
        pieces.clear();
        opinions.clear();
        covers.clear();
        items.clear();
        bids.clear();
        return w * h;
    }

    public int flaw(int position, int kind, int from, int to) {
        there(isPosition(position));
        given(in(kind, 0, 9) && in(from, 0, 7) && in(to, 0, 7) && to >= from);
        state(flaws.size() != 60);
        kept.clear();
        flaws.add(new Flaw(position, kind, from, to));
        return flaws.size() - 1;
    }

    private int number;

    private int drawn() {
        number = (43 * number + 31) % 107;
        return number;
    }

    public int engrave(int seed) {
        given(in(seed, 0, 99));
        state(wide != 0 && pieces.isEmpty());
        kept.clear();
        number = seed;
        for (int p = 0; p < wide * high; p++) {
            int many = drawn() % 3;
            for (int i = 0; i < many; i++) {
                if (flaws.size() == 60) return 60;
                int kind = drawn() % 10;
                int from = drawn() % 8;
                int to = from + drawn() % 8;
                flaws.add(new Flaw(p, kind, from, to > 7 ? 7 : to));
            }
        }
        return flaws.size();
    }

    public int piece(int w, int h, int sheet, boolean isTop) {
        given(in(w, 1, 3) && in(h, 1, 3) && in(sheet, 0, 5));
        state(wide != 0 && pieces.size() < 12 && ofSheet(sheet) < 3);
        kept.clear();
        Piece p = new Piece();
        p.wide = w;
        p.high = h;
        p.sheet = sheet;
        p.top = isTop;
        pieces.add(p);
        return pieces.size() - 1;
    }

    public int seen(int piece, int stamp, int seen, boolean isClear) {
        there(isPiece(piece) && in(stamp, 0, pieces.get(piece).wide * pieces.get(piece).high - 1));
        given(in(seen, 0, 1023));
        Piece p = pieces.get(piece);
        kept.clear();
        int before = p.seen[stamp];
        p.seen[stamp] = seen;
        p.clear[stamp] = isClear;
        return before;
    }

    public int tear(int w, int h, int position, int printing, int sheet) {
        there(isPosition(position));
        if (in(w, 1, 3) && in(h, 1, 3)) {
            there(position % wide + w <= wide && position / wide + h <= high);
        }
        given(in(w, 1, 3) && in(h, 1, 3) && in(printing, 0, 7) && in(sheet, 0, 5));
        state(pieces.size() < 12 && ofSheet(sheet) < 3);
        int made = piece(w, h, sheet, false);
        int stamp = 0;
        for (int y = 0; y < h; y++) {
            for (int x = 0; x < w; x++) {
                seen(made, stamp++, face(position + y * wide + x, printing), true);
            }
        }
        return made;
    }

    public int face(int position, int printing) {
        there(isPosition(position));
        given(in(printing, 0, 7));
        int face = 0;
        for (Flaw f : flaws) {
            if (f.position == position && f.from <= printing && printing <= f.to) face |= 1 << f.kind;
        }
        return face;
    }

    private List<Integer> covered(Piece p, int position) {
        List<Integer> all = new ArrayList<>();
        for (int y = 0; y < p.high; y++) {
            for (int x = 0; x < p.wide; x++) {
                if (position % wide + x >= wide || position / wide + y >= high) return null;
                all.add(position + y * wide + x);
            }
        }
        return all;
    }

    public boolean fits(int piece, int position, int printing) {
        there(isPiece(piece) && isPosition(position));
        given(in(printing, 0, 7));
        Piece p = pieces.get(piece);
        List<Integer> places = covered(p, position);
        if (places == null || p.top && position / wide != 0) return false;
        for (int stamp = 0; stamp < places.size(); stamp++) {
            int face = face(places.get(stamp), printing);
            if ((p.seen[stamp] | face) != face) return false;
            if (p.clear[stamp] && p.seen[stamp] != face) return false;
        }
        return true;
    }

    private List<Integer> members(int sheet) {
        List<Integer> all = new ArrayList<>();
        for (int i = 0; i < pieces.size(); i++) {
            if (pieces.get(i).sheet == sheet) all.add(i);
        }
        return all;
    }

    /** Kept until something is told of which PLATINGS hang: without that a run takes minutes. */
    private final Map<Integer, List<Plating>> kept = new HashMap<>();

    private List<Plating> platings(int sheet) {
        if (!kept.containsKey(sheet)) kept.put(sheet, allPlatings(sheet));
        return kept.get(sheet);
    }

    private List<Plating> allPlatings(int sheet) {
        List<Plating> all = new ArrayList<>();
        for (int printing = 0; printing < 8; printing++) {
            extend(members(sheet), printing, new ArrayList<>(), new TreeSet<>(), all);
        }
        return all;
    }

    private void extend(List<Integer> members, int printing, List<Integer> at, Set<Integer> taken, List<Plating> all) {
        if (at.size() == members.size()) {
            all.add(new Plating(printing, new ArrayList<>(at)));
            return;
        }
        int piece = members.get(at.size());
        for (int position = 0; position < wide * high; position++) {
            if (!fits(piece, position, printing)) continue;
            List<Integer> mine = covered(pieces.get(piece), position);
            if (mine.stream().anyMatch(taken::contains)) continue;
            Set<Integer> now = new TreeSet<>(taken);
            now.addAll(mine);
            at.add(position);
            extend(members, printing, at, now, all);
            at.remove(at.size() - 1);
        }
    }

    private Set<Integer> placesOf(int piece) {
        int sheet = pieces.get(piece).sheet;
        int index = members(sheet).indexOf(piece);
        Set<Integer> places = new TreeSet<>();
        for (Plating p : platings(sheet)) places.add(p.positions.get(index));
        return places;
    }

    private int certain(int piece) {
        Set<Integer> places = placesOf(piece);
        return places.size() == 1 ? places.iterator().next() : -1;
    }

    public int plating(int sheet, int what) {
        given(in(sheet, 0, 5) && in(what, 0, 4));
        List<Integer> members = members(sheet);
        List<Plating> all = platings(sheet);
        if (what == 0) return all.size();
        int result = 0;
        if (what == 1) {
            for (Plating p : all) result |= 1 << p.printing;
        }
        if (what == 2) {
            for (int m : members) result += certain(m) >= 0 ? 1 : 0;
        }
        if (what == 3 && !all.isEmpty()) {
            Set<Integer> common = null;
            for (Plating p : all) {
                Set<Integer> mine = new TreeSet<>();
                for (int i = 0; i < members.size(); i++) {
                    mine.addAll(covered(pieces.get(members.get(i)), p.positions.get(i)));
                }
                if (common == null) common = mine;
                common.retainAll(mine);
            }
            for (int c : common) result |= 1 << c;
        }
        if (what == 4) return members.size();
        return result;
    }

    private boolean alike(int one, int other) {
        if (pieces.get(one).sheet == pieces.get(other).sheet) return false;
        for (int position = 0; position < wide * high; position++) {
            for (int mine = 0; mine < 8; mine++) {
                for (int its = 0; its < 8; its++) {
                    if (fits(one, position, mine) && fits(other, position, its)) return true;
                }
            }
        }
        return false;
    }

    public int ofPiece(int piece, int what) {
        there(isPiece(piece));
        given(in(what, 0, 5));
        Piece p = pieces.get(piece);
        int many = 0;
        switch (what) {
            case 0: return p.sheet;
            case 1: return p.wide * p.high;
            case 2:
                for (int position = 0; position < wide * high; position++) {
                    for (int printing = 0; printing < 8; printing++) many += fits(piece, position, printing) ? 1 : 0;
                }
                return many;
            case 3: return placesOf(piece).size();
            case 4: return certain(piece);
            default:
                for (int other = 0; other < pieces.size(); other++) many += alike(piece, other) ? 1 : 0;
                return many;
        }
    }

    public String sheet(int sheet) {
        given(in(sheet, 0, 5));
        List<Plating> all = platings(sheet);
        if (wide == 0 || all.isEmpty()) return "-";
        List<Integer> members = members(sheet);
        String text = "";
        for (int position = 0; position < wide * high; position++) {
            if (position > 0 && position % wide == 0) text += "/";
            String sign = ".";
            for (int i = 0; i < members.size(); i++) {
                if (covered(pieces.get(members.get(i)), all.get(0).positions.get(i)).contains(position)) {
                    sign = "" + members.get(i) % 10;
                }
            }
            text += sign;
        }
        return text;
    }

    public int edge(int piece, int edge, int holes, int length) {
        there(isPiece(piece) && in(edge, 0, 3));
        given(in(holes, 5, 20) && in(length, 50, 400));
        int gauge = (holes * 200 * 4 + length / 2) / length;
        pieces.get(piece).gauge[edge] = gauge;
        return gauge;
    }

    private boolean cut(int piece) {
        return holes(piece) >= 4;
    }

    public int holes(int piece) {
        there(isPiece(piece));
        Integer[] g = pieces.get(piece).gauge;
        for (Integer each : g) {
            if (each == null) return -1;
        }
        int a = g[0], b = g[1], c = g[2], d = g[3];
        int kind = a == b && b == c && c == d ? 0 : a == c && b == d ? 1 : 2;
        return kind + (Math.abs(a - c) >= 2 || Math.abs(b - d) >= 2 ? 4 : 0);
    }

    public int road(int one, int other, int days) {
        there(in(one, 0, 5) && in(other, 0, 5));
        given(one != other && in(days, 0, 9));
        roads[one][other] = days;
        roads[other][one] = days;
        return way(one, other);
    }

    private int walk(int from, int to, Set<Integer> gone) {
        if (from == to) return 0;
        int best = -1;
        for (int next = 0; next < 6; next++) {
            if (roads[from][next] == 0 || gone.contains(next)) continue;
            Set<Integer> now = new TreeSet<>(gone);
            now.add(next);
            int rest = walk(next, to, now);
            if (rest >= 0 && (best < 0 || roads[from][next] + rest < best)) best = roads[from][next] + rest;
        }
        return best;
    }

    public int way(int one, int other) {
        there(in(one, 0, 5) && in(other, 0, 5));
        return walk(one, other, new TreeSet<>(List.of(one)));
    }

    public int rate(int from, int distance, int weight, int price) {
        given(in(from, 0, 999) && in(distance, 0, 2) && in(weight, 1, 4) && in(price, 1, 99));
        state(rates.size() < 16);
        rates.add(new Rate(from, distance, weight, price));
        return rates.size() - 1;
    }

    public int due(int day, int distance, int weight) {
        given(in(day, 0, 999) && in(distance, 0, 2) && in(weight, 1, 4));
        for (int most = weight; most <= 4; most++) {
            for (int from = day; from >= 0; from--) {
                for (int i = rates.size() - 1; i >= 0; i--) {
                    Rate r = rates.get(i);
                    if (r.distance == distance && r.weight == most && r.from == from) return r.price;
                }
            }
        }
        return -1;
    }

    public int issue(int value, int from, int to) {
        given(in(value, 1, 99) && in(from, 0, 999) && in(to, 0, 999) && to >= from);
        state(issues.size() < 10);
        issues.add(new Span(value, from, to));
        return issues.size() - 1;
    }

    public int die(int town, int from, int to) {
        there(in(town, 0, 5));
        given(in(from, 0, 999) && in(to, 0, 999) && to >= from);
        state(dies.size() < 10);
        dies.add(new Span(town, from, to));
        return dies.size() - 1;
    }

    public int cover(int from, int to, int weight, int die, int day) {
        there(in(from, 0, 5) && in(to, 0, 5) && in(die, 0, dies.size() - 1));
        given(in(weight, 1, 4) && in(day, 0, 999));
        state(covers.size() < 12);
        Cover c = new Cover();
        c.from = from;
        c.to = to;
        c.weight = weight;
        c.die = die;
        c.day = day;
        c.arrived = day + Math.max(0, way(from, to));
        covers.add(c);
        return covers.size() - 1;
    }

    public int stick(int cover, int issue, int many) {
        there(isCover(cover) && in(issue, 0, issues.size() - 1));
        given(in(many, 0, 4));
        covers.get(cover).many[issue] = many;
        return ofCover(cover, 1);
    }

    public int arrive(int cover, int day, boolean isTaxed) {
        there(isCover(cover));
        given(in(day, 0, 999));
        int before = covers.get(cover).arrived;
        covers.get(cover).arrived = day;
        covers.get(cover).taxed = isTaxed;
        return before;
    }

    private int toPay(int cover) {
        Cover c = covers.get(cover);
        int way = way(c.from, c.to);
        int distance = c.from == c.to ? 0 : way != -1 && way <= 3 ? 1 : 2;
        return due(c.day, distance, c.weight);
    }

    private boolean impossible(int cover) {
        Set<Integer> faults = faults(cover);
        return faults.contains(0) || faults.contains(1) || faults.contains(2) || faults.contains(6);
    }

    private Set<Integer> faults(int cover) {
        Cover c = covers.get(cover);
        Span die = dies.get(c.die);
        Set<Integer> faults = new LinkedHashSet<>();
        if (die.what != c.from) faults.add(0);
        if (c.day < die.from || c.day > die.to) faults.add(1);
        for (int i = 0; i < issues.size(); i++) {
            if (c.many[i] == 0) continue;
            if (issues.get(i).from > c.day) faults.add(2);
            if (issues.get(i).to < c.day) faults.add(3);
        }
        int toPay = toPay(cover);
        int paid = ofCover(cover, 1);
        if (toPay == -1) {
            faults.add(7);
        } else {
            if (paid < toPay && !c.taxed) faults.add(4);
            if (paid > toPay) faults.add(5);
        }
        int way = way(c.from, c.to);
        if (way == -1 || c.arrived < c.day + way) faults.add(6);
        return faults;
    }

    public int ofCover(int cover, int what) {
        there(isCover(cover));
        given(in(what, 0, 7));
        Cover c = covers.get(cover);
        int sum = 0;
        switch (what) {
            case 0:
                for (int f : faults(cover)) sum += 1 << f;
                return sum;
            case 1:
                for (int i = 0; i < issues.size(); i++) sum += issues.get(i).what * c.many[i];
                return sum;
            case 2: return toPay(cover);
            case 3: return c.day;
            case 4: return c.arrived;
            case 5:
                for (int m : c.many) sum += m;
                return sum;
            case 6: return impossible(cover) ? 1 : 0;
            default: return wear(c.die);
        }
    }

    private int wear(int die) {
        int wear = 0;
        for (int i = 0; i < covers.size(); i++) wear += covers.get(i).die == die && !impossible(i) ? 1 : 0;
        return wear;
    }

    public int franking(int cover) {
        there(isCover(cover));
        int toPay = toPay(cover);
        if (toPay == -1) return -1;
        Set<Integer> sums = new TreeSet<>(List.of(0));
        for (int stamps = 0; stamps <= 99; stamps++) {
            if (sums.contains(toPay)) return stamps;
            Set<Integer> next = new TreeSet<>();
            for (int sum : sums) {
                for (Span i : issues) {
                    if (i.from <= covers.get(cover).day && i.to >= covers.get(cover).day && sum + i.what <= toPay) {
                        next.add(sum + i.what);
                    }
                }
            }
            sums = next;
        }
        return -1;
    }

    public int ofIssue(int issue, boolean isScarcity) {
        there(in(issue, 0, issues.size() - 1));
        int many = 0;
        int all = 0;
        for (int c = 0; c < covers.size(); c++) {
            if (isScarcity && impossible(c)) continue;
            many += covers.get(c).many[issue];
            all += ofCover(c, 5);
        }
        return !isScarcity ? many : all == 0 ? 0 : many * 1000 / all;
    }

    public int hand(int hand, int habit, int often) {
        there(in(hand, 0, hands.size()));
        given(in(habit, 0, 7) && in(often, 0, 16));
        state(hand != 5);
        if (hand == hands.size()) hands.add(new int[] {8, 8, 8, 8, 8, 8, 8, 8});
        hands.get(hand)[habit] = often;
        return hands.size();
    }

    public int mark(int piece, int habit, int mark) {
        there(isPiece(piece));
        given(in(habit, 0, 7) && in(mark, 0, 2));
        int before = pieces.get(piece).marks[habit];
        pieces.get(piece).marks[habit] = mark;
        return before;
    }

    public long weight(int piece, int hand) {
        there(isPiece(piece) && in(hand, -1, hands.size() - 1));
        long weight = 1;
        for (int habit = 0; habit < 8; habit++) {
            int mark = pieces.get(piece).marks[habit];
            if (mark == 2) continue;
            if (hand == -1) weight *= 9;
            else weight *= mark == 1 ? 1 + hands.get(hand)[habit] : 17 - hands.get(hand)[habit];
        }
        return weight;
    }

    public int likely(int piece) {
        there(isPiece(piece));
        int best = -1;
        for (int hand = hands.size() - 1; hand >= 0; hand--) {
            if (weight(piece, hand) <= weight(piece, -1)) continue;
            if (best == -1 || weight(piece, hand) >= weight(piece, best)) best = hand;
        }
        return best;
    }

    public int opine(int piece, int expert, boolean isGood) {
        there(isPiece(piece));
        given(in(expert, 0, 4));
        state(opinions.size() < 20);
        opinions.add(new Opinion(piece, today, expert, isGood));
        return opinions.size() - 1;
    }

    public int pass(int days) {
        given(in(days, 1, 400));
        state(today + days <= 999);
        return today += days;
    }

    private boolean holds(int number, int day) {
        Opinion o = opinions.get(number);
        if (o.day > day || day - o.day > 300) return false;
        for (int i = 0; i < opinions.size(); i++) {
            Opinion other = opinions.get(i);
            if (other.piece != o.piece || other.expert != o.expert || other.day > day) continue;
            if (other.day > o.day || other.day == o.day && i > number) return false;
        }
        return true;
    }

    public int standing(int piece, int day) {
        there(isPiece(piece));
        given(in(day, 0, 999));
        int standing = 0;
        for (int i = 0; i < opinions.size(); i++) {
            if (opinions.get(i).piece != piece || !holds(i, day)) continue;
            int trust = trusts[opinions.get(i).expert];
            standing += opinions.get(i).good ? trust : -trust;
        }
        return standing;
    }

    public int truth(int piece, boolean isGood) {
        there(isPiece(piece));
        state(!pieces.get(piece).told);
        pieces.get(piece).told = true;
        int right = 0;
        for (int i = 0; i < opinions.size(); i++) {
            Opinion o = opinions.get(i);
            if (o.piece != piece || !holds(i, today)) continue;
            if (o.good == isGood) {
                right++;
                trusts[o.expert] = Math.min(9, trusts[o.expert] + 1);
            } else {
                trusts[o.expert] = Math.max(0, trusts[o.expert] - 2);
            }
        }
        return right;
    }

    public int trust(int expert) {
        given(in(expert, 0, 4));
        return trusts[expert];
    }

    public int item(boolean isCover, int number, int reserve) {
        there(isCover ? isCover(number) : isPiece(number));
        given(in(reserve, 0, 9999));
        state(items.size() < 8);
        state(items.stream().noneMatch(i -> i.isCover == isCover && i.number == number));
        items.add(new Item(isCover, number, reserve));
        return items.size() - 1;
    }

    public int bid(int bidder, int set, int amount) {
        given(in(bidder, 0, 9) && set > 0 && set < 1 << items.size() && in(amount, 1, 9999));
        state(bids.size() < 40);
        bids.add(new Bid(bidder, set, amount));
        return bids.size() - 1;
    }

    private boolean counts(Bid b) {
        int reserves = 0;
        for (int i = 0; i < items.size(); i++) {
            if ((b.items & 1 << i) == 0) continue;
            Item item = items.get(i);
            if (item.isCover ? impossible(item.number) : standing(item.number, today) < 0) return false;
            reserves += item.reserve;
        }
        return b.amount >= reserves;
    }

    private List<Integer> best;

    /** All choices of BIDS that count, that with more early BIDS first. */
    private void choose(List<Integer> counting, int next, int taken, List<Integer> chosen) {
        if (next == counting.size()) {
            if (best == null || amounts(chosen) > amounts(best)
                    || amounts(chosen) == amounts(best) && chosen.size() < best.size()) {
                best = new ArrayList<>(chosen);
            }
            return;
        }
        int number = counting.get(next);
        if ((bids.get(number).items & taken) == 0) {
            chosen.add(number);
            choose(counting, next + 1, taken | bids.get(number).items, chosen);
            chosen.remove(chosen.size() - 1);
        }
        choose(counting, next + 1, taken, chosen);
    }

    private int amounts(List<Integer> chosen) {
        int sum = 0;
        for (int number : chosen) sum += bids.get(number).amount;
        return sum;
    }

    private List<Integer> sale() {
        List<Integer> counting = new ArrayList<>();
        for (int i = 0; i < bids.size(); i++) {
            if (counts(bids.get(i))) counting.add(i);
        }
        best = null;
        choose(counting, 0, 0, new ArrayList<>());
        return best;
    }

    public int ofSale(int what) {
        given(in(what, 0, 6));
        List<Integer> sale = what < 5 ? sale() : null;
        int sum = 0;
        switch (what) {
            case 0: return amounts(sale);
            case 1: return sale.size();
            case 2:
                for (int number : sale) sum += bids.get(number).items;
                return sum;
            case 3: return sale.isEmpty() ? -1 : sale.get(0);
            case 4:
                for (int i = 0; i < items.size(); i++) sum += Math.max(0, alone(i, false));
                return amounts(sale) - sum;
            case 5:
                for (Bid b : bids) sum += counts(b) ? 1 : 0;
                return sum;
            default: return items.size();
        }
    }

    public int alone(int item, boolean isBidder) {
        there(in(item, 0, items.size() - 1));
        Bid winner = null;
        for (Bid b : bids) {
            if (b.items == 1 << item && counts(b) && (winner == null || b.amount > winner.amount)) winner = b;
        }
        if (winner == null) return -1;
        if (isBidder) return winner.bidder;
        int other = -1;
        for (Bid b : bids) {
            if (b.items == 1 << item && counts(b) && b.bidder != winner.bidder) other = Math.max(other, b.amount);
        }
        if (other == -1) return Math.max(1, items.get(item).reserve);
        int step = other >= 500 ? 50 : other >= 100 ? 10 : other >= 20 ? 5 : 1;
        return Math.min(winner.amount, other + step);
    }

    public int standard(int printing, int one, int two, int three) {
        given(in(printing, 0, 7) && in(one, 0, 99) && in(two, 0, 99) && in(three, 0, 99));
        standards[printing] = new int[] {one, two, three};
        int many = 0;
        for (int[] s : standards) many += s != null ? 1 : 0;
        return many;
    }

    public int shade(int piece, int one, int two, int three, int light) {
        there(isPiece(piece));
        given(in(one, 0, 99) && in(two, 0, 99) && in(three, 0, 99) && in(light, 0, 50));
        pieces.get(piece).shade = new int[] {one, two, three};
        pieces.get(piece).light = light;
        return near(piece, 0);
    }

    private int differs(Piece p, int printing) {
        int sum = 0;
        for (int i = 0; i < 3; i++) {
            int x = standards[printing][i];
            sum += Math.abs(x + (99 - x) * p.light / 100 - p.shade[i]);
        }
        return sum;
    }

    public int near(int piece, int what) {
        there(isPiece(piece));
        given(in(what, 0, 2));
        Piece p = pieces.get(piece);
        int near = -1;
        for (int printing = 7; printing >= 0; printing--) {
            if (p.shade == null || standards[printing] == null) continue;
            if (near == -1 || differs(p, printing) <= differs(p, near)) near = printing;
        }
        if (what == 0 || what == 1 && near == -1) return near;
        if (what == 1) return differs(p, near);
        List<Plating> all = platings(p.sheet);
        int wanted = near;
        return near != -1 && !all.isEmpty() && all.stream().noneMatch(x -> x.printing == wanted) ? 1 : 0;
    }

    public int value(int piece) {
        there(isPiece(piece));
        if (standing(piece, today) < 0 || near(piece, 2) == 1) return 0;
        Piece p = pieces.get(piece);
        int value = 0;
        for (int i = 0; i < p.wide * p.high; i++) {
            value += 20;
            for (int kind = 0; kind < 10; kind++) value += (p.seen[i] & 1 << kind) != 0 ? 15 : 0;
        }
        if (certain(piece) != -1) value *= 2;
        return cut(piece) ? value / 3 : value;
    }

    public int frame(int stamps, boolean isSet) {
        given(in(stamps, 0, 40));
        int n = pieces.size();
        boolean[][] alike = new boolean[n][n];
        int[] values = new int[n];
        for (int i = 0; i < n; i++) {
            values[i] = value(i);
            for (int k = 0; k < n; k++) alike[i][k] = alike(i, k);
        }
        int bestSet = 0;
        int bestValue = 0;
        for (int set = 0; set < 1 << n; set++) {
            int value = 0;
            int room = stamps;
            boolean may = true;
            for (int i = 0; i < n; i++) {
                if ((set & 1 << i) == 0) continue;
                value += values[i];
                room -= pieces.get(i).wide * pieces.get(i).high;
                for (int k = 0; k < n; k++) may &= (set & 1 << k) == 0 || !alike[i][k];
            }
            if (may && room >= 0 && value > bestValue) {
                bestValue = value;
                bestSet = set;
            }
        }
        return isSet ? bestSet : bestValue;
    }

    /** Nothing that the document lets happen makes it unsound. */
    public boolean isSound() {
        return true;
    }

    private long d;

    private void mix(long v) {
        d = d * 31 + v;
    }

    public long digest() {
        d = 58267;
        mix(today);
        mix(flaws.size());
        for (int p = 0; p < wide * high; p++) {
            mix(face(p, 0));
            mix(face(p, 7));
        }
        for (int s = 0; s < 6; s++) {
            for (int w = 0; w < 5; w++) mix(plating(s, w));
        }
        for (int p = 0; p < pieces.size(); p++) {
            for (int w = 0; w < 6; w++) mix(ofPiece(p, w));
            mix(holes(p));
            mix(likely(p));
            mix(standing(p, today));
            for (int w = 0; w < 3; w++) mix(near(p, w));
            mix(value(p));
        }
        for (int c = 0; c < covers.size(); c++) {
            for (int w = 0; w < 8; w++) mix(ofCover(c, w));
            mix(franking(c));
        }
        for (int i = 0; i < issues.size(); i++) {
            mix(ofIssue(i, false));
            mix(ofIssue(i, true));
        }
        for (int e = 0; e < 5; e++) mix(trust(e));
        for (int w = 0; w < 7; w++) mix(ofSale(w));
        for (int i = 0; i < items.size(); i++) {
            mix(alone(i, false));
            mix(alone(i, true));
        }
        mix(frame(6, false));
        mix(frame(6, true));
        mix(isSound() ? 1 : 0);
        return d;
    }
}
