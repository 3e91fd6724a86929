import java.util.ArrayList;
import java.util.Arrays;

/**
 * A house where stamps are told apart. The words in capitals are those of the document;
 * the README tells where each part of it is kept.
 */
public final class PerfgaugeHouse {
    private static final int NONE = -1;
    private static final int LAST_DAY = 999;

    private static final int MOST_POSITIONS = 24;
    private static final int PRINTINGS = 8;
    private static final int ALL_PRINTINGS = 255;
    private static final int KINDS = 10;
    private static final int ALL_KINDS = 1023;
    private static final int MOST_FLAWS = 60;

    private static final int SHEETS = 6;
    private static final int MOST_PIECES = 12;
    private static final int MOST_PIECES_OF_SHEET = 3;
    private static final int MOST_STAMPS = 9;
    private static final int EDGES = 4;
    private static final int CUT = 4;

    private static final int TOWNS = 6;
    private static final int NO_WAY = 1000;
    private static final int MOST_RATES = 16;
    private static final int MOST_PRICE = 99;
    private static final int MOST_ISSUES = 10;
    private static final int MOST_DIES = 10;
    private static final int MOST_COVERS = 12;
    private static final int IMPOSSIBLE = 1 | 1 << 1 | 1 << 2 | 1 << 6;
    private static final int TOO_MANY_STAMPS = 1000;

    private static final int HABITS = 8;
    private static final int MOST_HANDS = 5;
    private static final int HONEST_OFTEN = 8;
    private static final int EXPERTS = 5;
    private static final int MOST_OPINIONS = 20;
    private static final int OPINION_DAYS = 300;

    private static final int MOST_ITEMS = 8;
    private static final int MOST_BIDS = 40;
    private static final int MOST_AMOUNT = 9999;

    private static final int SHADE_NUMBERS = 3;
    private static final int MOST_SHADE = 99;
    private static final int MOST_LIGHT = 50;
    private static final int MOST_FRAME = 40;

    private static final int DIGEST_START = 58267;

    private final Plate plate;
    private final ArrayList<Piece> pieces;
    private final Sheet[] sheets;
    private final Post post;
    private final ArrayList<Term> issues;
    private final ArrayList<Term> dies;
    private final ArrayList<Cover> covers;
    private final Hands hands;
    private final Experts experts;
    private final Sale sale;
    private final Standards standards;
    private int today;

    private final int[] fewestStamps;
    private final int[] frameStamps;
    private final int[] frameValues;

    public PerfgaugeHouse() {
        plate = new Plate();
        pieces = new ArrayList<>();
        sheets = new Sheet[SHEETS];
        for (int sheet = 0; sheet < SHEETS; sheet++) {
            sheets[sheet] = new Sheet();
        }
        post = new Post();
        issues = new ArrayList<>();
        dies = new ArrayList<>();
        covers = new ArrayList<>();
        hands = new Hands();
        experts = new Experts();
        sale = new Sale();
        standards = new Standards();
        fewestStamps = new int[MOST_PRICE + 1];
        frameStamps = new int[1 << MOST_PIECES];
        frameValues = new int[1 << MOST_PIECES];
    }

    // ---- the plate

    public int plate(int wide, int high) throws IllegalArgumentException {
        checkGiven(isWithin(wide, 2, 6) && isWithin(high, 2, 4));
        plate.begin(wide, high);
        pieces.clear();
        for (int sheet = 0; sheet < SHEETS; sheet++) {
            sheets[sheet].clear();
        }
        covers.clear();
        experts.forgetOpinions();
        sale.clear();
        return plate.positions();
    }

    public int flaw(int position, int kind, int from, int to)
            throws IndexOutOfBoundsException, IllegalArgumentException, IllegalStateException {
        checkThere(plate.has(position));
        checkGiven(isWithin(kind, 0, KINDS - 1) && isPrinting(from) && isPrinting(to) && from <= to);
        checkState(plate.flaws < MOST_FLAWS);
        int number = plate.flaws;
        plate.addFlaw(position, kind, from, to);
        for (int piece = 0; piece < pieces.size(); piece++) {
            pieces.get(piece).fitAnew(plate);
        }
        for (int sheet = 0; sheet < SHEETS; sheet++) {
            sheets[sheet].plateAnew();
        }
        return number;
    }

    public int engrave(int seed) throws IllegalArgumentException, IllegalStateException {
        checkGiven(isWithin(seed, 0, 99));
        checkState(plate.positions() > 0 && pieces.isEmpty());
        plate.engraveBy(seed);
        return plate.flaws;
    }

    public int piece(int wide, int high, int sheet, boolean isTop)
            throws IllegalArgumentException, IllegalStateException {
        checkGiven(isPieceSize(wide, high) && isSheet(sheet));
        checkState(plate.positions() > 0 && hasRoomForPiece(sheet));
        Piece made = new Piece(pieces.size(), wide, high, sheet, isTop);
        keepPiece(made);
        return made.number;
    }

    public int seen(int piece, int stamp, int seen, boolean isClear)
            throws IndexOutOfBoundsException, IllegalArgumentException {
        checkThere(isPiece(piece) && isWithin(stamp, 0, pieces.get(piece).stamps() - 1));
        checkGiven(isWithin(seen, 0, ALL_KINDS));
        Piece told = pieces.get(piece);
        int before = told.seen[stamp];
        told.seen[stamp] = seen;
        told.isClear[stamp] = isClear;
        told.fitAnew(plate);
        sheets[told.sheet].plateAnew();
        return before;
    }

    public int tear(int wide, int high, int position, int printing, int sheet)
            throws IndexOutOfBoundsException, IllegalArgumentException, IllegalStateException {
        boolean isSize = isPieceSize(wide, high);
        checkThere(plate.has(position) && (!isSize || plate.holds(position, wide, high)));
        checkGiven(isSize && isPrinting(printing) && isSheet(sheet));
        checkState(hasRoomForPiece(sheet));
        Piece made = new Piece(pieces.size(), wide, high, sheet, false);
        made.tearFrom(plate, position, printing);
        keepPiece(made);
        return made.number;
    }

    public int face(int position, int printing) throws IndexOutOfBoundsException, IllegalArgumentException {
        checkThere(plate.has(position));
        checkGiven(isPrinting(printing));
        return plate.faceAt(position, printing);
    }

    public boolean fits(int piece, int position, int printing)
            throws IndexOutOfBoundsException, IllegalArgumentException {
        checkThere(isPiece(piece) && plate.has(position));
        checkGiven(isPrinting(printing));
        return isInSet(position, pieces.get(piece).fits[printing]);
    }

    public int plating(int sheet, int what) throws IllegalArgumentException {
        checkGiven(isSheet(sheet) && isWithin(what, 0, 4));
        Sheet asked = sheets[sheet];
        switch (what) {
            case 0:
                return asked.platings;
            case 1:
                return asked.printings;
            case 2:
                return asked.certainPieces();
            case 3:
                return asked.covered;
            default:
                return asked.size;
        }
    }

    public int ofPiece(int piece, int what) throws IndexOutOfBoundsException, IllegalArgumentException {
        checkThere(isPiece(piece));
        checkGiven(isWithin(what, 0, 5));
        Piece asked = pieces.get(piece);
        switch (what) {
            case 0:
                return asked.sheet;
            case 1:
                return asked.stamps();
            case 2:
                return asked.fitPairs();
            case 3:
                return Integer.bitCount(sheets[asked.sheet].placesOf(asked));
            case 4:
                return certainPosition(asked);
            default:
                return Integer.bitCount(alikeTo(asked));
        }
    }

    public String sheet(int sheet) throws IllegalArgumentException {
        checkGiven(isSheet(sheet));
        StringBuilder text = new StringBuilder();
        if (plate.positions() == 0 || sheets[sheet].platings == 0) {
            text.append('-');
            return text.toString();
        }
        for (int row = 0; row < plate.high; row++) {
            if (row > 0) {
                text.append('/');
            }
            for (int column = 0; column < plate.wide; column++) {
                text.append(sheets[sheet].signAt(row * plate.wide + column));
            }
        }
        return text.toString();
    }

    // ---- edges

    public int edge(int piece, int edge, int holes, int length)
            throws IndexOutOfBoundsException, IllegalArgumentException {
        checkThere(isPiece(piece) && isWithin(edge, 0, EDGES - 1));
        checkGiven(isWithin(holes, 5, 20) && isWithin(length, 50, 400));
        int gauge = (holes * 200 * 4 + length / 2) / length;
        pieces.get(piece).gauges[edge] = gauge;
        return gauge;
    }

    public int holes(int piece) throws IndexOutOfBoundsException {
        checkThere(isPiece(piece));
        return pieces.get(piece).perforation();
    }

    // ---- covers

    public int road(int one, int other, int days) throws IndexOutOfBoundsException, IllegalArgumentException {
        checkThere(isTown(one) && isTown(other));
        checkGiven(one != other && isWithin(days, 0, 9));
        post.lay(one, other, days);
        return post.wayOf(one, other);
    }

    public int way(int one, int other) throws IndexOutOfBoundsException {
        checkThere(isTown(one) && isTown(other));
        return post.wayOf(one, other);
    }

    public int rate(int from, int distance, int weight, int price)
            throws IllegalArgumentException, IllegalStateException {
        checkGiven(isDay(from) && isWithin(distance, 0, 2) && isWithin(weight, 1, 4)
                && isWithin(price, 1, MOST_PRICE));
        checkState(post.rates < MOST_RATES);
        return post.addRate(from, distance, weight, price);
    }

    public int due(int day, int distance, int weight) throws IllegalArgumentException {
        checkGiven(isDay(day) && isWithin(distance, 0, 2) && isWithin(weight, 1, 4));
        return post.priceOn(day, distance, weight);
    }

    public int issue(int value, int from, int to) throws IllegalArgumentException, IllegalStateException {
        checkGiven(isWithin(value, 1, 99) && isDay(from) && isDay(to) && from <= to);
        checkState(issues.size() < MOST_ISSUES);
        issues.add(new Term(value, from, to));
        return issues.size() - 1;
    }

    public int die(int town, int from, int to)
            throws IndexOutOfBoundsException, IllegalArgumentException, IllegalStateException {
        checkThere(isTown(town));
        checkGiven(isDay(from) && isDay(to) && from <= to);
        checkState(dies.size() < MOST_DIES);
        dies.add(new Term(town, from, to));
        return dies.size() - 1;
    }

    public int cover(int from, int to, int weight, int die, int day)
            throws IndexOutOfBoundsException, IllegalArgumentException, IllegalStateException {
        checkThere(isTown(from) && isTown(to) && isWithin(die, 0, dies.size() - 1));
        checkGiven(isWithin(weight, 1, 4) && isDay(day));
        checkState(covers.size() < MOST_COVERS);
        Cover made = new Cover(from, to, weight, die, day);
        int way = post.wayOf(from, to);
        made.arrived = way == NONE ? day : day + way;
        covers.add(made);
        return covers.size() - 1;
    }

    public int stick(int cover, int issue, int many) throws IndexOutOfBoundsException, IllegalArgumentException {
        checkThere(isCoverNumber(cover) && isIssue(issue));
        checkGiven(isWithin(many, 0, 4));
        Cover told = covers.get(cover);
        told.stamps[issue] = many;
        return paidFor(told);
    }

    public int arrive(int cover, int day, boolean isTaxed)
            throws IndexOutOfBoundsException, IllegalArgumentException {
        checkThere(isCoverNumber(cover));
        checkGiven(isDay(day));
        Cover told = covers.get(cover);
        int before = told.arrived;
        told.arrived = day;
        told.isTaxed = isTaxed;
        return before;
    }

    public int ofCover(int cover, int what) throws IndexOutOfBoundsException, IllegalArgumentException {
        checkThere(isCoverNumber(cover));
        checkGiven(isWithin(what, 0, 7));
        Cover asked = covers.get(cover);
        switch (what) {
            case 0:
                return faultsOf(asked);
            case 1:
                return paidFor(asked);
            case 2:
                return priceFor(asked);
            case 3:
                return asked.day;
            case 4:
                return asked.arrived;
            case 5:
                return asked.allStamps();
            case 6:
                return isImpossible(asked) ? 1 : 0;
            default:
                return wearOf(asked.die);
        }
    }

    public int franking(int cover) throws IndexOutOfBoundsException {
        checkThere(isCoverNumber(cover));
        Cover asked = covers.get(cover);
        int price = priceFor(asked);
        if (price == NONE || price > MOST_PRICE) {
            return NONE;
        }
        fewestStamps[0] = 0;
        for (int sum = 1; sum <= price; sum++) {
            fewestStamps[sum] = fewestFor(sum, asked.day);
        }
        return fewestStamps[price] < TOO_MANY_STAMPS ? fewestStamps[price] : NONE;
    }

    public int ofIssue(int issue, boolean isScarcity) throws IndexOutOfBoundsException {
        checkThere(isIssue(issue));
        if (isScarcity) {
            return scarcityOf(issue);
        }
        int many = 0;
        for (int cover = 0; cover < covers.size(); cover++) {
            many += covers.get(cover).stamps[issue];
        }
        return many;
    }

    // ---- hands and opinions

    public int hand(int hand, int habit, int often)
            throws IndexOutOfBoundsException, IllegalArgumentException, IllegalStateException {
        checkThere(isWithin(hand, 0, hands.count));
        checkGiven(isWithin(habit, 0, HABITS - 1) && isWithin(often, 0, 16));
        checkState(hand < MOST_HANDS);
        hands.tell(hand, habit, often);
        return hands.count;
    }

    public int mark(int piece, int habit, int mark) throws IndexOutOfBoundsException, IllegalArgumentException {
        checkThere(isPiece(piece));
        checkGiven(isWithin(habit, 0, HABITS - 1) && isWithin(mark, 0, 2));
        Piece told = pieces.get(piece);
        int before = told.marks[habit];
        told.marks[habit] = mark;
        return before;
    }

    public long weight(int piece, int hand) throws IndexOutOfBoundsException {
        checkThere(isPiece(piece) && isWithin(hand, NONE, hands.count - 1));
        return hands.weightFor(pieces.get(piece), hand);
    }

    public int likely(int piece) throws IndexOutOfBoundsException {
        checkThere(isPiece(piece));
        return hands.likelyFor(pieces.get(piece));
    }

    public int opine(int piece, int expert, boolean isGood)
            throws IndexOutOfBoundsException, IllegalArgumentException, IllegalStateException {
        checkThere(isPiece(piece));
        checkGiven(isExpert(expert));
        checkState(experts.opinions < MOST_OPINIONS);
        return experts.addOpinion(piece, expert, today, isGood);
    }

    public int pass(int days) throws IllegalArgumentException, IllegalStateException {
        checkGiven(isWithin(days, 1, 400));
        checkState(today + days <= LAST_DAY);
        today += days;
        return today;
    }

    public int standing(int piece, int day) throws IndexOutOfBoundsException, IllegalArgumentException {
        checkThere(isPiece(piece));
        checkGiven(isDay(day));
        return experts.standingOf(piece, day);
    }

    public int truth(int piece, boolean isGood) throws IndexOutOfBoundsException, IllegalStateException {
        checkThere(isPiece(piece));
        Piece told = pieces.get(piece);
        checkState(!told.isTruthTold);
        told.isTruthTold = true;
        return experts.learn(piece, today, isGood);
    }

    public int trust(int expert) throws IllegalArgumentException {
        checkGiven(isExpert(expert));
        return experts.trust[expert];
    }

    // ---- sales

    public int item(boolean isCover, int number, int reserve)
            throws IndexOutOfBoundsException, IllegalArgumentException, IllegalStateException {
        checkThere(isCover ? isCoverNumber(number) : isPiece(number));
        checkGiven(isWithin(reserve, 0, MOST_AMOUNT));
        checkState(sale.items < MOST_ITEMS && !sale.offers(isCover, number));
        return sale.addItem(isCover, number, reserve);
    }

    public int bid(int bidder, int items, int amount) throws IllegalArgumentException, IllegalStateException {
        checkGiven(isWithin(bidder, 0, 9) && isWithin(items, 1, sale.allItems())
                && isWithin(amount, 1, MOST_AMOUNT));
        checkState(sale.bids.size() < MOST_BIDS);
        return sale.addBid(bidder, items, amount);
    }

    public int ofSale(int what) throws IllegalArgumentException {
        checkGiven(isWithin(what, 0, 6));
        sale.settle(barredItems());
        switch (what) {
            case 0:
                return sale.bestAmount();
            case 1:
                return sale.bestCount();
            case 2:
                return sale.soldItems();
            case 3:
                return sale.firstBid();
            case 4:
                return sale.gain();
            case 5:
                return sale.countingBids();
            default:
                return sale.items;
        }
    }

    public int alone(int item, boolean isBidder) throws IndexOutOfBoundsException {
        checkThere(isWithin(item, 0, sale.items - 1));
        sale.settle(barredItems());
        return isBidder ? sale.aloneBidder(item) : sale.alonePrice(item);
    }

    // ---- shades, values, frames

    public int standard(int printing, int one, int two, int three) throws IllegalArgumentException {
        checkGiven(isPrinting(printing) && isShade(one, two, three));
        standards.tell(printing, one, two, three);
        return standards.count;
    }

    public int shade(int piece, int one, int two, int three, int light)
            throws IndexOutOfBoundsException, IllegalArgumentException {
        checkThere(isPiece(piece));
        checkGiven(isShade(one, two, three) && isWithin(light, 0, MOST_LIGHT));
        Piece told = pieces.get(piece);
        told.hasShade = true;
        told.shade[0] = one;
        told.shade[1] = two;
        told.shade[2] = three;
        told.light = light;
        return standards.nearTo(told);
    }

    public int near(int piece, int what) throws IndexOutOfBoundsException, IllegalArgumentException {
        checkThere(isPiece(piece));
        checkGiven(isWithin(what, 0, 2));
        Piece asked = pieces.get(piece);
        if (what == 2) {
            return isContradicted(asked) ? 1 : 0;
        }
        int printing = standards.nearTo(asked);
        return what == 0 || printing == NONE ? printing : standards.difference(printing, asked);
    }

    public int value(int piece) throws IndexOutOfBoundsException {
        checkThere(isPiece(piece));
        return valueOf(pieces.get(piece));
    }

    public int frame(int stamps, boolean isSet) throws IllegalArgumentException {
        checkGiven(isWithin(stamps, 0, MOST_FRAME));
        int set = bestFrame(stamps);
        return isSet ? set : frameValues[set];
    }

    public boolean isSound() {
        sale.settle(barredItems());
        return areCertainPiecesFitting() && areWearsOfPossibleCovers()
                && sale.isWithoutCommonItems() && sale.gain() >= 0 && experts.areTrustsInRange();
    }

    public long digest() {
        long sum = mix(DIGEST_START, today);
        sum = mix(sum, plate.flaws);
        sum = mixFaces(sum);
        sum = mixSheets(sum);
        sum = mixPieces(sum);
        sum = mixCovers(sum);
        sum = mixIssues(sum);
        for (int expert = 0; expert < EXPERTS; expert++) {
            sum = mix(sum, experts.trust[expert]);
        }
        sum = mixSale(sum);
        sum = mix(sum, frame(6, false));
        sum = mix(sum, frame(6, true));
        return mix(sum, isSound() ? 1 : 0);
    }

    // ---- what calls ask of their arguments

    private static void checkThere(boolean isThere) {
        if (!isThere) {
            throw new IndexOutOfBoundsException("there is no such thing");
        }
    }

    private static void checkGiven(boolean isRight) {
        if (!isRight) {
            throw new IllegalArgumentException("what is given is out of its range");
        }
    }

    private static void checkState(boolean isPossible) {
        if (!isPossible) {
            throw new IllegalStateException("this cannot be done now");
        }
    }

    private static boolean isWithin(int number, int least, int most) {
        return number >= least && number <= most;
    }

    private static boolean isInSet(int number, int set) {
        return (set >> number & 1) != 0;
    }

    private static boolean isDay(int day) {
        return isWithin(day, 0, LAST_DAY);
    }

    private static boolean isPrinting(int printing) {
        return isWithin(printing, 0, PRINTINGS - 1);
    }

    private static boolean isSheet(int sheet) {
        return isWithin(sheet, 0, SHEETS - 1);
    }

    private static boolean isPieceSize(int wide, int high) {
        return isWithin(wide, 1, 3) && isWithin(high, 1, 3);
    }

    private static boolean isTown(int town) {
        return isWithin(town, 0, TOWNS - 1);
    }

    private static boolean isExpert(int expert) {
        return isWithin(expert, 0, EXPERTS - 1);
    }

    private static boolean isShade(int one, int two, int three) {
        return isWithin(one, 0, MOST_SHADE) && isWithin(two, 0, MOST_SHADE) && isWithin(three, 0, MOST_SHADE);
    }

    private boolean isPiece(int piece) {
        return isWithin(piece, 0, pieces.size() - 1);
    }

    private boolean isCoverNumber(int cover) {
        return isWithin(cover, 0, covers.size() - 1);
    }

    private boolean isIssue(int issue) {
        return isWithin(issue, 0, issues.size() - 1);
    }

    private boolean hasRoomForPiece(int sheet) {
        return pieces.size() < MOST_PIECES && sheets[sheet].size < MOST_PIECES_OF_SHEET;
    }

    // ---- pieces

    private void keepPiece(Piece made) {
        pieces.add(made);
        made.fitAnew(plate);
        sheets[made.sheet].add(made);
        sheets[made.sheet].plateAnew();
    }

    private int certainPosition(Piece piece) {
        int places = sheets[piece.sheet].placesOf(piece);
        return Integer.bitCount(places) == 1 ? smallestOf(places) : NONE;
    }

    private static int smallestOf(int positions) {
        for (int position = 0; position < MOST_POSITIONS; position++) {
            if (isInSet(position, positions)) {
                return position;
            }
        }
        return NONE;
    }

    private int alikeTo(Piece piece) {
        int set = 0;
        for (int other = 0; other < pieces.size(); other++) {
            if (isAlike(piece, pieces.get(other))) {
                set |= 1 << other;
            }
        }
        return set;
    }

    private static boolean isAlike(Piece one, Piece other) {
        return one.sheet != other.sheet
                && (one.fitWithin(ALL_PRINTINGS) & other.fitWithin(ALL_PRINTINGS)) != 0;
    }

    private boolean isBad(int piece) {
        return experts.standingOf(piece, today) < 0;
    }

    private boolean isContradicted(Piece piece) {
        int printing = standards.nearTo(piece);
        int printings = sheets[piece.sheet].printings;
        return printing != NONE && printings != 0 && !isInSet(printing, printings);
    }

    private int valueOf(Piece piece) {
        if (isBad(piece.number) || isContradicted(piece)) {
            return 0;
        }
        int value = 20 * piece.stamps() + 15 * piece.seenKinds();
        if (certainPosition(piece) != NONE) {
            value *= 2;
        }
        return piece.isCut() ? value / 3 : value;
    }

    /** Sets are tried by rising number, so that the first of equal VALUES is the smallest set. */
    private int bestFrame(int stamps) {
        int best = 0;
        frameStamps[0] = 0;
        frameValues[0] = 0;
        for (int number = 0; number < pieces.size(); number++) {
            Piece piece = pieces.get(number);
            int alike = alikeTo(piece);
            int value = valueOf(piece);
            for (int rest = 0; rest < 1 << number; rest++) {
                int set = rest | 1 << number;
                frameStamps[set] = frameStamps[rest] + piece.stamps();
                boolean isTaken = frameValues[rest] >= 0 && (rest & alike) == 0 && frameStamps[set] <= stamps;
                frameValues[set] = isTaken ? frameValues[rest] + value : NONE;
                if (frameValues[set] > frameValues[best]) {
                    best = set;
                }
            }
        }
        return best;
    }

    // ---- covers

    private int paidFor(Cover cover) {
        int paid = 0;
        for (int issue = 0; issue < issues.size(); issue++) {
            paid += cover.stamps[issue] * issues.get(issue).what;
        }
        return paid;
    }

    private int priceFor(Cover cover) {
        return post.priceOn(cover.day, post.distanceOf(cover.from, cover.to), cover.weight);
    }

    private int faultsOf(Cover cover) {
        return dieFaults(cover) | stampFaults(cover) | wayFaults(cover)
                | priceFaults(priceFor(cover), paidFor(cover), cover.isTaxed);
    }

    private int dieFaults(Cover cover) {
        Term die = dies.get(cover.die);
        int faults = die.what == cover.from ? 0 : 1;
        return die.isOn(cover.day) ? faults : faults | 1 << 1;
    }

    private int stampFaults(Cover cover) {
        int faults = 0;
        for (int issue = 0; issue < issues.size(); issue++) {
            if (cover.stamps[issue] > 0 && issues.get(issue).from > cover.day) {
                faults |= 1 << 2;
            }
            if (cover.stamps[issue] > 0 && issues.get(issue).to < cover.day) {
                faults |= 1 << 3;
            }
        }
        return faults;
    }

    private static int priceFaults(int price, int paid, boolean isTaxed) {
        if (price == NONE) {
            return 1 << 7;
        }
        if (paid > price) {
            return 1 << 5;
        }
        return paid < price && !isTaxed ? 1 << 4 : 0;
    }

    private int wayFaults(Cover cover) {
        int way = post.wayOf(cover.from, cover.to);
        return way == NONE || cover.arrived < cover.day + way ? 1 << 6 : 0;
    }

    private boolean isImpossible(Cover cover) {
        return ((dieFaults(cover) | stampFaults(cover) | wayFaults(cover)) & IMPOSSIBLE) != 0;
    }

    private int wearOf(int die) {
        int wear = 0;
        for (int number = 0; number < covers.size(); number++) {
            Cover cover = covers.get(number);
            if (cover.die == die && !isImpossible(cover)) {
                wear++;
            }
        }
        return wear;
    }

    /** Asks fewestStamps of all smaller sums, so these have to be there. */
    private int fewestFor(int sum, int day) {
        int fewest = TOO_MANY_STAMPS;
        for (int number = 0; number < issues.size(); number++) {
            Term issue = issues.get(number);
            if (issue.what <= sum && issue.isOn(day)) {
                fewest = Math.min(fewest, fewestStamps[sum - issue.what] + 1);
            }
        }
        return fewest;
    }

    private int scarcityOf(int issue) {
        int many = 0;
        int all = 0;
        for (int number = 0; number < covers.size(); number++) {
            Cover cover = covers.get(number);
            if (!isImpossible(cover)) {
                many += cover.stamps[issue];
                all += cover.allStamps();
            }
        }
        return all == 0 ? 0 : many * 1000 / all;
    }

    private int barredItems() {
        int barred = 0;
        for (int item = 0; item < sale.items; item++) {
            int number = sale.number[item];
            if (sale.isCover[item] ? isImpossible(covers.get(number)) : isBad(number)) {
                barred |= 1 << item;
            }
        }
        return barred;
    }

    // ---- soundness

    private boolean areCertainPiecesFitting() {
        for (int number = 0; number < pieces.size(); number++) {
            Piece piece = pieces.get(number);
            int position = certainPosition(piece);
            if (position != NONE && !isInSet(position, piece.fitWithin(sheets[piece.sheet].printings))) {
                return false;
            }
        }
        return true;
    }

    private boolean areWearsOfPossibleCovers() {
        int wears = 0;
        for (int die = 0; die < dies.size(); die++) {
            wears += wearOf(die);
        }
        int possible = 0;
        for (int cover = 0; cover < covers.size(); cover++) {
            if (!isImpossible(covers.get(cover))) {
                possible++;
            }
        }
        return wears == possible;
    }

    // ---- the checksum

    private static long mix(long sum, long number) {
        return sum * 31 + number;
    }

    private long mixFaces(long start) {
        long sum = start;
        for (int position = 0; position < plate.positions(); position++) {
            sum = mix(sum, plate.faceAt(position, 0));
            sum = mix(sum, plate.faceAt(position, PRINTINGS - 1));
        }
        return sum;
    }

    private long mixSheets(long start) {
        long sum = start;
        for (int sheet = 0; sheet < SHEETS; sheet++) {
            for (int what = 0; what <= 4; what++) {
                sum = mix(sum, plating(sheet, what));
            }
        }
        return sum;
    }

    private long mixPieces(long start) {
        long sum = start;
        for (int piece = 0; piece < pieces.size(); piece++) {
            for (int what = 0; what <= 5; what++) {
                sum = mix(sum, ofPiece(piece, what));
            }
            sum = mix(sum, holes(piece));
            sum = mix(sum, likely(piece));
            sum = mix(sum, standing(piece, today));
            for (int what = 0; what <= 2; what++) {
                sum = mix(sum, near(piece, what));
            }
            sum = mix(sum, value(piece));
        }
        return sum;
    }

    private long mixCovers(long start) {
        long sum = start;
        for (int cover = 0; cover < covers.size(); cover++) {
            for (int what = 0; what <= 7; what++) {
                sum = mix(sum, ofCover(cover, what));
            }
            sum = mix(sum, franking(cover));
        }
        return sum;
    }

    private long mixIssues(long start) {
        long sum = start;
        for (int issue = 0; issue < issues.size(); issue++) {
            sum = mix(sum, ofIssue(issue, false));
            sum = mix(sum, ofIssue(issue, true));
        }
        return sum;
    }

    private long mixSale(long start) {
        long sum = start;
        for (int what = 0; what <= 6; what++) {
            sum = mix(sum, ofSale(what));
        }
        for (int item = 0; item < sale.items; item++) {
            sum = mix(sum, alone(item, false));
            sum = mix(sum, alone(item, true));
        }
        return sum;
    }

    /** FLAWS are never taken back one by one, so the FACES that they make are kept, not they. */
    private static final class Plate {
        int wide;
        int high;
        int flaws;
        final int[] faces = new int[MOST_POSITIONS * PRINTINGS];

        void begin(int newWide, int newHigh) {
            wide = newWide;
            high = newHigh;
            flaws = 0;
            Arrays.fill(faces, 0);
        }

        int positions() {
            return wide * high;
        }

        boolean has(int position) {
            return isWithin(position, 0, positions() - 1);
        }

        boolean holds(int position, int pieceWide, int pieceHigh) {
            if (wide < 1 || !has(position)) {
                return false;
            }
            return position % wide + pieceWide <= wide && position / wide + pieceHigh <= high;
        }

        int faceAt(int position, int printing) {
            return faces[position * PRINTINGS + printing];
        }

        void addFlaw(int position, int kind, int from, int to) {
            for (int printing = from; printing <= to; printing++) {
                faces[position * PRINTINGS + printing] |= 1 << kind;
            }
            flaws++;
        }

        void engraveBy(int seed) {
            int drawn = seed;
            for (int position = 0; position < positions(); position++) {
                drawn = drawAfter(drawn);
                int many = drawn % 3;
                for (int flaw = 0; flaw < many && flaws < MOST_FLAWS; flaw++) {
                    drawn = drawAfter(drawn);
                    int kind = drawn % KINDS;
                    drawn = drawAfter(drawn);
                    int from = drawn % PRINTINGS;
                    drawn = drawAfter(drawn);
                    addFlaw(position, kind, from, Math.min(from + drawn % PRINTINGS, PRINTINGS - 1));
                }
            }
        }

        static int drawAfter(int ahead) {
            return (43 * ahead + 31) % 107;
        }
    }

    private static final class Piece {
        final int number;
        final int wide;
        final int high;
        final int sheet;
        final boolean isTop;
        /** Its number among the PIECES of its SHEET. */
        int place;
        final int[] seen = new int[MOST_STAMPS];
        final boolean[] isClear = new boolean[MOST_STAMPS];
        /** PRINTING by PRINTING the set of POSITIONS where it FITS. */
        final int[] fits = new int[PRINTINGS];
        /** How wide the PLATE is on which fits was asked. */
        int plateWide;
        /** EDGE by EDGE; 0, which no GAUGE can be, as long as it is not told. */
        final int[] gauges = new int[EDGES];
        final int[] marks = new int[HABITS];
        boolean isTruthTold;
        boolean hasShade;
        final int[] shade = new int[SHADE_NUMBERS];
        int light;

        Piece(int number, int wide, int high, int sheet, boolean isTop) {
            this.number = number;
            this.wide = wide;
            this.high = high;
            this.sheet = sheet;
            this.isTop = isTop;
            Arrays.fill(marks, 2);
        }

        int stamps() {
            return wide * high;
        }

        void tearFrom(Plate plate, int position, int printing) {
            for (int stamp = 0; stamp < stamps(); stamp++) {
                int there = position + stamp / wide * plate.wide + stamp % wide;
                seen[stamp] = plate.faceAt(there, printing);
                isClear[stamp] = true;
            }
        }

        void fitAnew(Plate plate) {
            plateWide = plate.wide;
            for (int printing = 0; printing < PRINTINGS; printing++) {
                int set = 0;
                for (int position = 0; position < plate.positions(); position++) {
                    if (fitsAt(plate, position, printing)) {
                        set |= 1 << position;
                    }
                }
                fits[printing] = set;
            }
        }

        private boolean fitsAt(Plate plate, int position, int printing) {
            if (!plate.holds(position, wide, high) || isTop && position >= plate.wide) {
                return false;
            }
            for (int stamp = 0; stamp < stamps(); stamp++) {
                int there = position + stamp / wide * plate.wide + stamp % wide;
                int face = plate.faceAt(there, printing);
                if ((seen[stamp] & ~face) != 0 || isClear[stamp] && seen[stamp] != face) {
                    return false;
                }
            }
            return true;
        }

        int fitPairs() {
            int pairs = 0;
            for (int printing = 0; printing < PRINTINGS; printing++) {
                pairs += Integer.bitCount(fits[printing]);
            }
            return pairs;
        }

        int fitWithin(int printings) {
            int set = 0;
            for (int printing = 0; printing < PRINTINGS; printing++) {
                if (isInSet(printing, printings)) {
                    set |= fits[printing];
                }
            }
            return set;
        }

        /** The set of POSITIONS that it has, with its first stamp at this one. */
        int coveredFrom(int position) {
            int set = 0;
            for (int row = 0; row < high; row++) {
                for (int column = 0; column < wide; column++) {
                    set |= 1 << position + row * plateWide + column;
                }
            }
            return set;
        }

        /** The set of POSITIONS (of its first stamp) at which it would have one of those covered. */
        int clashesWith(int covered) {
            int set = 0;
            for (int row = 0; row < high; row++) {
                for (int column = 0; column < wide; column++) {
                    set |= covered >> row * plateWide + column;
                }
            }
            return set;
        }

        /** The set of POSITIONS that it has, wherever of these its first stamp is. */
        int coveredFromAll(int positions) {
            int set = -1;
            for (int position = 0; position < MOST_POSITIONS && set != 0; position++) {
                if (isInSet(position, positions)) {
                    set &= coveredFrom(position);
                }
            }
            return set;
        }

        int seenKinds() {
            int kinds = 0;
            for (int stamp = 0; stamp < stamps(); stamp++) {
                kinds += Integer.bitCount(seen[stamp]);
            }
            return kinds;
        }

        boolean isGauged() {
            return gauges[0] != 0 && gauges[1] != 0 && gauges[2] != 0 && gauges[3] != 0;
        }

        boolean isCut() {
            return isGauged() && (Math.abs(gauges[0] - gauges[2]) >= 2 || Math.abs(gauges[1] - gauges[3]) >= 2);
        }

        int perforation() {
            if (!isGauged()) {
                return NONE;
            }
            int kind = 2;
            if (gauges[0] == gauges[2] && gauges[1] == gauges[3]) {
                kind = gauges[0] == gauges[1] ? 0 : 1;
            }
            return isCut() ? kind + CUT : kind;
        }
    }

    /** The PIECES of a SHEET, and what is known of its PLATINGS. */
    private static final class Sheet {
        final Piece[] members = new Piece[MOST_PIECES_OF_SHEET];
        int size;
        int platings = PRINTINGS;
        int printings = ALL_PRINTINGS;
        /** The set of POSITIONS that are covered in all PLATINGS. */
        int covered;
        /** PIECE by PIECE the set of POSITIONS at which it is in a PLATING. */
        final int[] places = new int[MOST_PIECES_OF_SHEET];
        final int[] first = new int[MOST_PIECES_OF_SHEET];
        /** Where the PIECES are while PLATINGS are looked for. */
        final int[] tried = new int[MOST_PIECES_OF_SHEET];

        void clear() {
            size = 0;
            plateAnew();
        }

        void add(Piece piece) {
            piece.place = size;
            members[size] = piece;
            size++;
        }

        void plateAnew() {
            Arrays.fill(places, 0);
            if (size == 0) {
                platings = PRINTINGS;
                printings = ALL_PRINTINGS;
                covered = 0;
                return;
            }
            platings = 0;
            printings = 0;
            covered = -1;
            for (int printing = 0; printing < PRINTINGS; printing++) {
                if (placeFrom(0, printing, 0)) {
                    printings |= 1 << printing;
                }
            }
            if (platings == 0) {
                covered = 0;
            }
        }

        /** Places the PIECES from this one on; goes one call deeper for each, so three at the most. */
        private boolean placeFrom(int place, int printing, int taken) {
            if (place >= size) {
                return false;
            }
            Piece piece = members[place];
            int free = piece.fits[printing] & ~piece.clashesWith(taken);
            if (place == size - 1) {
                return placeLast(free, taken);
            }
            boolean isPlated = false;
            for (int position = 0; position < MOST_POSITIONS; position++) {
                if (isInSet(position, free)) {
                    tried[place] = position;
                    if (placeFrom(place + 1, printing, taken | piece.coveredFrom(position))) {
                        places[place] |= 1 << position;
                        isPlated = true;
                    }
                }
            }
            return isPlated;
        }

        /** Each free POSITION of the last PIECE ends a PLATING, so they are counted at once. */
        private boolean placeLast(int free, int taken) {
            if (free == 0) {
                return false;
            }
            int last = size - 1;
            if (platings == 0) {
                tried[last] = smallestOf(free);
                System.arraycopy(tried, 0, first, 0, size);
            }
            platings += Integer.bitCount(free);
            places[last] |= free;
            covered &= taken | members[last].coveredFromAll(free);
            return true;
        }

        int placesOf(Piece piece) {
            return places[piece.place];
        }

        int certainPieces() {
            int many = 0;
            for (int place = 0; place < size; place++) {
                if (Integer.bitCount(places[place]) == 1) {
                    many++;
                }
            }
            return many;
        }

        /** Who is at a POSITION in the first PLATING, of which there has to be one. */
        char signAt(int position) {
            for (int place = 0; place < size; place++) {
                if (isInSet(position, members[place].coveredFrom(first[place]))) {
                    return (char) ('0' + members[place].number % 10);
                }
            }
            return '.';
        }
    }

    /** ROADS and RATES. */
    private static final class Post {
        final int[] roads = new int[TOWNS * TOWNS];
        final int[] ways = new int[TOWNS * TOWNS];
        int rates;
        final int[] rateFrom = new int[MOST_RATES];
        final int[] rateDistance = new int[MOST_RATES];
        final int[] rateWeight = new int[MOST_RATES];
        final int[] ratePrice = new int[MOST_RATES];

        Post() {
            Arrays.fill(ways, NO_WAY);
            for (int town = 0; town < TOWNS; town++) {
                ways[town * TOWNS + town] = 0;
            }
        }

        void lay(int one, int other, int days) {
            roads[one * TOWNS + other] = days;
            roads[other * TOWNS + one] = days;
            for (int from = 0; from < TOWNS; from++) {
                for (int to = 0; to < TOWNS; to++) {
                    int road = roads[from * TOWNS + to];
                    ways[from * TOWNS + to] = from == to ? 0 : road == 0 ? NO_WAY : road;
                }
            }
            for (int through = 0; through < TOWNS; through++) {
                shortenThrough(through);
            }
        }

        private void shortenThrough(int through) {
            for (int from = 0; from < TOWNS; from++) {
                for (int to = 0; to < TOWNS; to++) {
                    int round = ways[from * TOWNS + through] + ways[through * TOWNS + to];
                    ways[from * TOWNS + to] = Math.min(ways[from * TOWNS + to], round);
                }
            }
        }

        int wayOf(int one, int other) {
            int days = ways[one * TOWNS + other];
            return days < NO_WAY ? days : NONE;
        }

        int distanceOf(int one, int other) {
            if (one == other) {
                return 0;
            }
            return ways[one * TOWNS + other] <= 3 ? 1 : 2;
        }

        int addRate(int from, int distance, int weight, int price) {
            rateFrom[rates] = from;
            rateDistance[rates] = distance;
            rateWeight[rates] = weight;
            ratePrice[rates] = price;
            rates++;
            return rates - 1;
        }

        int priceOn(int day, int distance, int weight) {
            int best = NONE;
            for (int rate = 0; rate < rates; rate++) {
                boolean isFor = rateDistance[rate] == distance && rateWeight[rate] >= weight && rateFrom[rate] <= day;
                if (isFor && (best == NONE || goesBefore(rate, best))) {
                    best = rate;
                }
            }
            return best == NONE ? NONE : ratePrice[best];
        }

        /** Of two RATES that are the same in WEIGHT and FROM the later one goes before. */
        private boolean goesBefore(int later, int earlier) {
            if (rateWeight[later] != rateWeight[earlier]) {
                return rateWeight[later] < rateWeight[earlier];
            }
            return rateFrom[later] >= rateFrom[earlier];
        }
    }

    /** A DIE with its TOWN, or an ISSUE with its VALUE, from a DAY to a DAY. */
    private static final class Term {
        final int what;
        final int from;
        final int to;

        Term(int what, int from, int to) {
            this.what = what;
            this.from = from;
            this.to = to;
        }

        boolean isOn(int day) {
            return from <= day && day <= to;
        }
    }

    private static final class Cover {
        final int from;
        final int to;
        final int weight;
        final int die;
        final int day;
        int arrived;
        boolean isTaxed;
        /** ISSUE by ISSUE how many. */
        final int[] stamps = new int[MOST_ISSUES];

        Cover(int from, int to, int weight, int die, int day) {
            this.from = from;
            this.to = to;
            this.weight = weight;
            this.die = die;
            this.day = day;
        }

        int allStamps() {
            int all = 0;
            for (int issue = 0; issue < MOST_ISSUES; issue++) {
                all += stamps[issue];
            }
            return all;
        }
    }

    private static final class Hands {
        int count;
        final int[] often = new int[MOST_HANDS * HABITS];

        void tell(int hand, int habit, int times) {
            if (hand == count) {
                for (int each = 0; each < HABITS; each++) {
                    often[hand * HABITS + each] = HONEST_OFTEN;
                }
                count++;
            }
            often[hand * HABITS + habit] = times;
        }

        /** An honest one counts as a HAND of which all HABITS were found 8 times: 9 for 1 as for 0. */
        long weightFor(Piece piece, int hand) {
            long weight = 1;
            for (int habit = 0; habit < HABITS; habit++) {
                int times = hand == NONE ? HONEST_OFTEN : often[hand * HABITS + habit];
                if (piece.marks[habit] == 1) {
                    weight *= 1 + times;
                }
                if (piece.marks[habit] == 0) {
                    weight *= 17 - times;
                }
            }
            return weight;
        }

        int likelyFor(Piece piece) {
            int best = NONE;
            long most = weightFor(piece, NONE);
            for (int hand = 0; hand < count; hand++) {
                long weight = weightFor(piece, hand);
                if (weight > most) {
                    most = weight;
                    best = hand;
                }
            }
            return best;
        }
    }

    /** OPINIONS and TRUST. */
    private static final class Experts {
        final int[] trust = new int[EXPERTS];
        int opinions;
        final int[] opinionPiece = new int[MOST_OPINIONS];
        final int[] opinionExpert = new int[MOST_OPINIONS];
        final int[] opinionDay = new int[MOST_OPINIONS];
        final boolean[] isGood = new boolean[MOST_OPINIONS];

        Experts() {
            Arrays.fill(trust, 5);
        }

        void forgetOpinions() {
            opinions = 0;
        }

        int addOpinion(int piece, int expert, int day, boolean isGoodOne) {
            opinionPiece[opinions] = piece;
            opinionExpert[opinions] = expert;
            opinionDay[opinions] = day;
            isGood[opinions] = isGoodOne;
            opinions++;
            return opinions - 1;
        }

        /** DAYS rise with the numbers, so only the last OPINION up to that DAY can HOLD. */
        private int heldBy(int expert, int piece, int day) {
            int last = NONE;
            for (int opinion = 0; opinion < opinions; opinion++) {
                if (opinionExpert[opinion] == expert && opinionPiece[opinion] == piece && opinionDay[opinion] <= day) {
                    last = opinion;
                }
            }
            return last != NONE && day - opinionDay[last] <= OPINION_DAYS ? last : NONE;
        }

        int standingOf(int piece, int day) {
            int standing = 0;
            for (int expert = 0; expert < EXPERTS; expert++) {
                int held = heldBy(expert, piece, day);
                if (held != NONE) {
                    standing += isGood[held] ? trust[expert] : -trust[expert];
                }
            }
            return standing;
        }

        int learn(int piece, int day, boolean isTrulyGood) {
            int right = 0;
            for (int expert = 0; expert < EXPERTS; expert++) {
                int held = heldBy(expert, piece, day);
                if (held != NONE && isGood[held] == isTrulyGood) {
                    trust[expert] = Math.min(trust[expert] + 1, 9);
                    right++;
                } else if (held != NONE) {
                    trust[expert] = Math.max(trust[expert] - 2, 0);
                }
            }
            return right;
        }

        boolean areTrustsInRange() {
            for (int expert = 0; expert < EXPERTS; expert++) {
                if (!isWithin(trust[expert], 0, 9)) {
                    return false;
                }
            }
            return true;
        }
    }

    private static final class Bid {
        final int bidder;
        final int items;
        final int amount;

        Bid(int bidder, int items, int amount) {
            this.bidder = bidder;
            this.items = items;
            this.amount = amount;
        }
    }

    /** ITEMS, BIDS and the SALE of them. */
    private static final class Sale {
        int items;
        final boolean[] isCover = new boolean[MOST_ITEMS];
        final int[] number = new int[MOST_ITEMS];
        final int[] reserve = new int[MOST_ITEMS];
        final ArrayList<Bid> bids = new ArrayList<>();
        /** The set of ITEMS that no BID may be for now, with which the SALE was settled. */
        int barred;
        boolean isSettled;
        /** The set of BIDS that count. */
        long counting;
        /** For each set of ITEMS the best choice of BIDS for no others: AMOUNTS, how many, the set. */
        final int[] amounts = new int[1 << MOST_ITEMS];
        final int[] counts = new int[1 << MOST_ITEMS];
        final long[] choices = new long[1 << MOST_ITEMS];

        void clear() {
            items = 0;
            bids.clear();
            isSettled = false;
        }

        int allItems() {
            return (1 << items) - 1;
        }

        boolean offers(boolean isOfCover, int ofNumber) {
            for (int item = 0; item < items; item++) {
                if (isCover[item] == isOfCover && number[item] == ofNumber) {
                    return true;
                }
            }
            return false;
        }

        int addItem(boolean isOfCover, int ofNumber, int itsReserve) {
            isCover[items] = isOfCover;
            number[items] = ofNumber;
            reserve[items] = itsReserve;
            items++;
            isSettled = false;
            return items - 1;
        }

        int addBid(int bidder, int itsItems, int amount) {
            bids.add(new Bid(bidder, itsItems, amount));
            isSettled = false;
            return bids.size() - 1;
        }

        /**
         * Goes from the last BID to the first. Where one with it is as good as one without it, it is
         * taken: it is the smallest number in which the two differ.
         */
        void settle(int barredNow) {
            if (isSettled && barred == barredNow) {
                return;
            }
            barred = barredNow;
            isSettled = true;
            Arrays.fill(amounts, 0);
            Arrays.fill(counts, 0);
            Arrays.fill(choices, 0L);
            counting = 0;
            for (int bid = bids.size() - 1; bid >= 0; bid--) {
                if (countsNow(bids.get(bid))) {
                    counting |= 1L << bid;
                    offer(bids.get(bid), 1L << bid);
                }
            }
        }

        /** Large sets go first, so that what is asked of smaller ones is still without this BID. */
        private void offer(Bid bid, long choice) {
            for (int set = allItems(); set >= 0; set--) {
                if ((set & bid.items) == bid.items) {
                    int rest = set ^ bid.items;
                    int amount = amounts[rest] + bid.amount;
                    int count = counts[rest] + 1;
                    if (amount > amounts[set] || amount == amounts[set] && count <= counts[set]) {
                        amounts[set] = amount;
                        counts[set] = count;
                        choices[set] = choices[rest] | choice;
                    }
                }
            }
        }

        private boolean countsNow(Bid bid) {
            int reserves = 0;
            for (int item = 0; item < items; item++) {
                if (isInSet(item, bid.items)) {
                    reserves += reserve[item];
                }
            }
            return bid.amount >= reserves && (bid.items & barred) == 0;
        }

        private boolean isCounting(int bid) {
            return (counting >> bid & 1) != 0;
        }

        private boolean isChosen(int bid) {
            return (choices[allItems()] >> bid & 1) != 0;
        }

        int bestAmount() {
            return amounts[allItems()];
        }

        int bestCount() {
            return counts[allItems()];
        }

        int soldItems() {
            int sold = 0;
            for (int bid = 0; bid < bids.size(); bid++) {
                if (isChosen(bid)) {
                    sold |= bids.get(bid).items;
                }
            }
            return sold;
        }

        int firstBid() {
            for (int bid = 0; bid < bids.size(); bid++) {
                if (isChosen(bid)) {
                    return bid;
                }
            }
            return NONE;
        }

        int countingBids() {
            return Long.bitCount(counting);
        }

        boolean isWithoutCommonItems() {
            int sold = 0;
            for (int bid = 0; bid < bids.size(); bid++) {
                if (isChosen(bid)) {
                    if ((sold & bids.get(bid).items) != 0) {
                        return false;
                    }
                    sold |= bids.get(bid).items;
                }
            }
            return true;
        }

        int gain() {
            int given = 0;
            for (int item = 0; item < items; item++) {
                int price = alonePrice(item);
                given += price == NONE ? 0 : price;
            }
            return bestAmount() - given;
        }

        /** The greatest BID for just this ITEM that is not of that BIDDER (NONE: of any). */
        private int greatestAlone(int item, int exceptBidder) {
            int best = NONE;
            for (int order = 0; order < bids.size(); order++) {
                Bid bid = bids.get(order);
                boolean isAsked = bid.items == 1 << item && bid.bidder != exceptBidder && isCounting(order);
                if (isAsked && (best == NONE || bid.amount > bids.get(best).amount)) {
                    best = order;
                }
            }
            return best;
        }

        int aloneBidder(int item) {
            int best = greatestAlone(item, NONE);
            return best == NONE ? NONE : bids.get(best).bidder;
        }

        int alonePrice(int item) {
            int best = greatestAlone(item, NONE);
            if (best == NONE) {
                return NONE;
            }
            int next = greatestAlone(item, bids.get(best).bidder);
            if (next == NONE) {
                return Math.max(reserve[item], 1);
            }
            int amount = bids.get(next).amount;
            return Math.min(amount + stepOf(amount), bids.get(best).amount);
        }

        private static int stepOf(int amount) {
            if (amount < 20) {
                return 1;
            }
            if (amount < 100) {
                return 5;
            }
            return amount < 500 ? 10 : 50;
        }
    }

    private static final class Standards {
        int count;
        final boolean[] isTold = new boolean[PRINTINGS];
        final int[] numbers = new int[PRINTINGS * SHADE_NUMBERS];

        void tell(int printing, int one, int two, int three) {
            if (!isTold[printing]) {
                isTold[printing] = true;
                count++;
            }
            numbers[printing * SHADE_NUMBERS] = one;
            numbers[printing * SHADE_NUMBERS + 1] = two;
            numbers[printing * SHADE_NUMBERS + 2] = three;
        }

        int nearTo(Piece piece) {
            if (!piece.hasShade) {
                return NONE;
            }
            int best = NONE;
            for (int printing = 0; printing < PRINTINGS; printing++) {
                boolean isNearer = best == NONE || difference(printing, piece) < difference(best, piece);
                if (isTold[printing] && isNearer) {
                    best = printing;
                }
            }
            return best;
        }

        int difference(int printing, Piece piece) {
            int all = 0;
            for (int k = 0; k < SHADE_NUMBERS; k++) {
                int number = numbers[printing * SHADE_NUMBERS + k];
                int faded = number + (99 - number) * piece.light / 100;
                all += Math.abs(faded - piece.shade[k]);
            }
            return all;
        }
    }
}
