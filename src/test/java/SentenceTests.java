/**
 * The document once more from its first line to its last: sentences that say on what an answer hangs, and so
 * on what it does not hang. BoundaryTests stands at the numbers that the document names, this one between them.
 */
public final class SentenceTests extends Answers {
    public static void main(String[] args) {
        days();
        plates();
        flawsOfOthers();
        firstStamps();
        platingsOfOneSheet();
        edgesOfEach();
        roadsNow();
        daysShown();
        severalStamps();
        eachFault();
        taxed();
        frankingsAsAsked();
        marksOfEach();
        handsAreOnlyTold();
        truths();
        trustsThatChange();
        opinionsOfAll();
        faultsInSales();
        itemsOfBoth();
        soldOnly();
        biddersAlone();
        gains();
        anotherSale();
        shadesAndLights();
        contradictions();
        valuesHangOn();
        frames();
        soundEverywhere();
        end();
    }

    // ---- DAYS

    private static void days() {
        about("TODAY only becomes greater: what is told on a DAY does not wait for it");
        PerfgaugeHouse x = house(2, 2);
        x.pass(400);
        x.pass(400);
        x.piece(1, 1, 0, false);
        due(0, () -> x.rate(0, 0, 1, 5));
        due(1, () -> x.rate(999, 0, 1, 6));
        due(0, () -> x.issue(5, 0, 799));
        due(1, () -> x.issue(5, 801, 999));
        due(0, () -> x.die(0, 0, 3));
        due(1, () -> x.die(0, 900, 999));
        due(0, () -> x.cover(0, 0, 1, 0, 3));
        due(1, () -> x.cover(0, 0, 1, 1, 999));
        due(999, () -> x.arrive(1, 5, false));
        due(5, () -> x.due(998, 0, 1));
        due(6, () -> x.due(999, 0, 1));
        due(0, () -> x.opine(0, 3, true));
        due(0, () -> x.standing(0, 799));
        due(5, () -> x.standing(0, 999));
        about("TRUST stays as DAYS go by, and so does the truth");
        PerfgaugeHouse y = house(2, 2);
        y.piece(1, 1, 0, false);
        y.opine(0, 0, true);
        y.opine(0, 1, false);
        due(1, () -> y.truth(0, true));
        for (int days : new int[] {400, 400, 199}) y.pass(days);
        due(6, () -> y.trust(0));
        due(3, () -> y.trust(1));
        due(STATE, () -> y.truth(0, true));
        due(true, () -> y.isSound());
        due(0, () -> y.standing(0, 999));
        due(3, () -> y.standing(0, 300));
    }

    // ---- 1. The plate

    private static void plates() {
        about("plate: all PIECES are gone, of each SHEET");
        for (int sheet = 0; sheet < 6; sheet++) {
            int s = sheet;
            PerfgaugeHouse x = house(3, 2);
            x.flaw(4, 2, 0, 7);
            for (int i = 0; i < 3; i++) x.tear(1, 1, 3 + i, 0, s);
            due("02./.1.", () -> x.sheet(s));
            due(STATE, () -> x.piece(1, 1, s, false));
            due(6, () -> x.plate(3, 2));
            due(0, () -> x.plating(s, 4));
            due(8, () -> x.plating(s, 0));
            due(0, () -> x.plating(s, 3));
            due(".../...", () -> x.sheet(s));
            for (int i = 0; i < 3; i++) {
                int number = i;
                due(number, () -> x.piece(1, 1, s, false));
            }
            due(STATE, () -> x.piece(1, 1, s, false));
        }
        about("plate: a PLATE of the same size is made anew, too");
        PerfgaugeHouse y = house(2, 2);
        y.flaw(1, 7, 0, 7);
        due(4, () -> y.plate(2, 2));
        due(0, () -> y.face(1, 3));
        due(0, () -> y.flaw(1, 7, 0, 7));
        about("plate: one that is refused leaves all as it was");
        due(ARGUMENT, () -> y.plate(2, 5));
        due(128, () -> y.face(1, 3));
    }

    private static void flawsOfOthers() {
        about("flaw: PIECES that are there FIT by it from then on, each of them");
        PerfgaugeHouse x = house(3, 2);
        for (int sheet = 0; sheet < 4; sheet++) {
            for (int i = 0; i < 3; i++) x.piece(1, 1, sheet, false);
        }
        for (int piece = 0; piece < 12; piece++) x.seen(piece, 0, 1 << piece % 3, true);
        for (int sheet = 0; sheet < 4; sheet++) {
            int s = sheet;
            due(0, () -> x.plating(s, 0));
        }
        for (int i = 0; i < 3; i++) x.flaw(5 - i, i, 6, 7);
        for (int sheet = 0; sheet < 4; sheet++) {
            int s = sheet;
            due(2, () -> x.plating(s, 0));
            due(192, () -> x.plating(s, 1));
            due(3, () -> x.plating(s, 2));
            due(56, () -> x.plating(s, 3));
        }
        for (int piece = 0; piece < 12; piece++) {
            int p = piece;
            due(5 - p % 3, () -> x.ofPiece(p, 4));
            due(2, () -> x.ofPiece(p, 2));
            due(3, () -> x.ofPiece(p, 5));
        }
        due(".../210", () -> x.sheet(0));
        due(".../109", () -> x.sheet(3));
    }

    private static void firstStamps() {
        about("ARE ALIKE: at the same POSITION, which is that of the first stamp");
        PerfgaugeHouse x = house(3, 2);
        for (int i = 0; i < 3; i++) x.flaw(i, i, 0, 7);
        x.tear(2, 1, 0, 0, 0);
        x.tear(1, 1, 1, 0, 1);
        x.tear(2, 1, 1, 0, 2);
        // 0 has 0 and 1, 1 has 1, 2 has 1 and 2.
        due(0, () -> x.ofPiece(0, 5));
        due(1, () -> x.ofPiece(1, 5));
        due(1, () -> x.ofPiece(2, 5));
        about("ARE ALIKE: FITTING is asked of each for itself, not PLATINGS");
        PerfgaugeHouse y = house(2, 2);
        y.piece(2, 2, 0, false);
        y.piece(2, 2, 0, false);
        y.piece(1, 1, 1, false);
        due(0, () -> y.plating(0, 0));
        due(1, () -> y.ofPiece(0, 5));
        due(2, () -> y.ofPiece(2, 5));
        about("stamps of a PIECE are numbered row by row: what is SEEN, and what is torn");
        PerfgaugeHouse z = house(3, 3);
        for (int i = 0; i < 9; i++) z.flaw(i, i, 0, 7);
        z.piece(2, 3, 0, false);
        z.tear(2, 3, 1, 4, 1);
        int[] there = {1, 2, 4, 5, 7, 8};
        for (int stamp = 0; stamp < 6; stamp++) {
            int s = stamp;
            z.seen(0, s, 1 << there[s], true);
            due(1 << there[s], () -> z.seen(1, s, 1 << there[s], true));
        }
        due(1, () -> z.ofPiece(0, 4));
        due(8, () -> z.ofPiece(0, 2));
        z.seen(0, 1, 1 << 4, true);
        z.seen(0, 2, 1 << 2, true);
        due(0, () -> z.ofPiece(0, 2));
    }

    private static void platingsOfOneSheet() {
        about("PLATINGS are those of one SHEET: PIECES of another one take no room");
        PerfgaugeHouse x = house(2, 2);
        for (int sheet = 0; sheet < 6; sheet++) x.piece(2, 2, sheet, false);
        for (int sheet = 0; sheet < 6; sheet++) {
            int s = sheet;
            due(8, () -> x.plating(s, 0));
            due(15, () -> x.plating(s, 3));
        }
        about("covered in all PLATINGS: by whichever PIECE, not only by one that is CERTAIN");
        PerfgaugeHouse y = house(2, 2);
        y.flaw(0, 0, 0, 7);
        y.flaw(1, 0, 0, 7);
        y.piece(1, 1, 0, false);
        y.piece(1, 1, 0, false);
        y.seen(0, 0, 1, false);
        due(0, () -> y.plating(0, 3));
        y.seen(1, 0, 1, false);
        due(16, () -> y.plating(0, 0));
        due(0, () -> y.plating(0, 2));
        due(3, () -> y.plating(0, 3));
        about("DOUBT: different POSITIONS, however many PLATINGS there are");
        due(2, () -> y.ofPiece(0, 3));
        due(2, () -> y.ofPiece(1, 3));
        due(16, () -> y.ofPiece(0, 2));
        y.piece(1, 1, 0, false);
        due(32, () -> y.plating(0, 0));
        due(2, () -> y.ofPiece(2, 3));
        due(32, () -> y.ofPiece(2, 2));
        about("the first PLATING: PIECES in the order of their numbers");
        due("01/2.", () -> y.sheet(0));
        y.seen(1, 0, 0, true);
        // 1 has no FLAW now, so 0 and 2 can be at 0 and 1.
        due("02/1.", () -> y.sheet(0));
    }

    // ---- 2. Edges

    private static void edgesOfEach() {
        about("EDGES are told for PIECES: each has its own");
        PerfgaugeHouse x = house(2, 2);
        for (int i = 0; i < 3; i++) x.piece(1, 1, 0, false);
        for (int edge = 0; edge < 4; edge++) {
            x.edge(0, edge, 10, 200);
            x.edge(1, edge, 10, edge % 2 == 0 ? 200 : 195);
        }
        due(0, () -> x.holes(0));
        due(1, () -> x.holes(1));
        due(-1, () -> x.holes(2));
        due(60, () -> x.edge(1, 0, 15, 200));
        due(0, () -> x.holes(0));
        due(6, () -> x.holes(1));
        due(-1, () -> x.holes(2));
        about("told by GAUGES, whatever HOLES and LENGTHS they come from");
        due(40, () -> x.edge(0, 2, 5, 100));
        due(40, () -> x.edge(0, 3, 20, 400));
        due(0, () -> x.holes(0));
        about("GAUGE has nothing to do with what is SEEN");
        x.seen(0, 0, 1023, true);
        due(0, () -> x.holes(0));
    }

    // ---- 3. Covers

    private static void roadsNow() {
        about("ARRIVED is told once: it stays as ROADS become others");
        PerfgaugeHouse x = new PerfgaugeHouse();
        x.road(0, 1, 9);
        x.die(0, 0, 999);
        x.cover(0, 1, 1, 0, 100);
        x.cover(0, 2, 1, 0, 100);
        x.cover(0, 1, 1, 0, 100);
        x.arrive(2, 40, false);
        x.road(0, 1, 1);
        x.road(1, 2, 5);
        due(109, () -> x.ofCover(0, 4));
        due(100, () -> x.ofCover(1, 4));
        due(40, () -> x.ofCover(2, 4));
        x.road(0, 1, 0);
        due(109, () -> x.ofCover(0, 4));
        due(100, () -> x.ofCover(1, 4));
        due(40, () -> x.ofCover(2, 4));
        about("what had to be paid is asked by ROADS as they are now");
        x.rate(0, 1, 4, 11);
        x.rate(0, 2, 4, 22);
        due(22, () -> x.ofCover(0, 2));
        x.road(0, 1, 3);
        due(11, () -> x.ofCover(0, 2));
        due(22, () -> x.ofCover(1, 2));
        due(3, () -> x.road(0, 2, 3));
        due(11, () -> x.ofCover(1, 2));
        about("a ROAD is one of both TOWNS, from either");
        due(3, () -> x.way(1, 0));
        due(2, () -> x.road(1, 0, 2));
        due(2, () -> x.way(0, 1));
        due(5, () -> x.way(2, 1));
    }

    /** A house with RATES of 10, from DAY 151 on of 30, and a DIE and ISSUES of 10 (until 150) and 30 (from 151). */
    private static PerfgaugeHouse twoTimes() {
        PerfgaugeHouse x = new PerfgaugeHouse();
        x.rate(0, 0, 4, 10);
        x.rate(151, 0, 4, 30);
        x.die(0, 0, 999);
        x.issue(10, 0, 150);
        x.issue(30, 151, 999);
        return x;
    }

    private static void daysShown() {
        about("what had to be paid, and whether stamps were good, is asked on the DAY that it shows, not TODAY");
        PerfgaugeHouse x = twoTimes();
        x.cover(0, 0, 1, 0, 150);
        x.cover(0, 0, 1, 0, 151);
        x.stick(0, 0, 1);
        x.stick(1, 1, 1);
        int[] passed = {150, 1, 400, 400, 48};
        for (int days : passed) {
            due(0, () -> x.ofCover(0, 0));
            due(0, () -> x.ofCover(1, 0));
            due(10, () -> x.ofCover(0, 2));
            due(30, () -> x.ofCover(1, 2));
            due(1, () -> x.franking(0));
            due(1, () -> x.franking(1));
            due(2, () -> x.ofCover(0, 7));
            due(500, () -> x.ofIssue(0, true));
            x.pass(days);
        }
        about("nor on the DAY on which it ARRIVED");
        x.arrive(0, 999, false);
        due(0, () -> x.ofCover(0, 0));
        due(10, () -> x.ofCover(0, 2));
        due(1, () -> x.franking(0));
    }

    private static void severalStamps() {
        about("FAULT 2, FAULT 3: a stamp, be it one or several, in whatever order");
        PerfgaugeHouse x = new PerfgaugeHouse();
        x.rate(0, 0, 4, 4);
        x.die(0, 0, 999);
        x.issue(1, 0, 99);
        x.issue(1, 101, 999);
        x.issue(1, 0, 99);
        x.issue(1, 101, 999);
        x.issue(1, 0, 99);
        x.issue(1, 0, 999);
        x.cover(0, 0, 1, 0, 100);
        x.arrive(0, 100, true);
        for (int set = 0; set < 64; set++) {
            int s = set;
            for (int issue = 0; issue < 6; issue++) x.stick(0, issue, set >> issue & 1);
            int faults = ((s & 10) != 0 ? 4 : 0) | ((s & 21) != 0 ? 8 : 0) | (Integer.bitCount(s) > 4 ? 32 : 0);
            due(faults, () -> x.ofCover(0, 0));
            due((s & 10) != 0 ? 1 : 0, () -> x.ofCover(0, 6));
            if (set % 16 == 15) {
                x.plate(2, 2);
                x.cover(0, 0, 1, 0, 100);
                x.arrive(0, 100, true);
            }
        }
    }

    /** COVERS of which each has just the FAULT of its number (of 6 two: 6 is too early, 8 has no WAY). */
    private static PerfgaugeHouse coversOfFaults() {
        PerfgaugeHouse x = house(2, 2);
        x.road(0, 1, 4);
        x.rate(0, 2, 3, 10);
        x.die(0, 100, 200);
        x.die(1, 100, 200);
        x.issue(10, 101, 199);
        x.issue(9, 0, 999);
        x.issue(11, 0, 999);
        x.issue(10, 0, 999);
        for (int fault = 0; fault < 9; fault++) {
            int day = fault == 1 ? 201 : fault == 2 ? 100 : fault == 3 ? 200 : 150;
            x.cover(0, fault == 8 ? 5 : 1, fault == 7 ? 4 : 1, fault == 0 ? 1 : 0, day);
            x.stick(fault, fault == 2 || fault == 3 ? 0 : fault == 4 ? 1 : fault == 5 ? 2 : 3, 1);
        }
        x.arrive(6, 153, false);
        x.cover(0, 1, 1, 0, 150);
        x.stick(9, 3, 1);
        return x;
    }

    private static void eachFault() {
        about("FAULTS: each of them alone, and none");
        PerfgaugeHouse x = coversOfFaults();
        int[] faults = {1, 2, 4, 8, 16, 32, 64, 128, 64, 0};
        int[] impossible = {1, 1, 1, 0, 0, 0, 1, 0, 1, 0};
        for (int cover = 0; cover < 10; cover++) {
            int c = cover;
            due(faults[c], () -> x.ofCover(c, 0));
            about("IMPOSSIBLE is one with 0, 1, 2, or 6");
            due(impossible[c], () -> x.ofCover(c, 6));
        }
        about("WEAR of a DIE: COVERS that are not IMPOSSIBLE");
        due(5, () -> x.ofCover(9, 7));
        due(0, () -> x.ofCover(0, 7));
        about("SCARCITY: stamps on COVERS that are not IMPOSSIBLE, whatever other FAULTS these have");
        due(200, () -> x.ofIssue(0, true));
        due(200, () -> x.ofIssue(1, true));
        due(200, () -> x.ofIssue(2, true));
        due(400, () -> x.ofIssue(3, true));
        about("ofIssue: stamps on all COVERS");
        due(2, () -> x.ofIssue(0, false));
        due(6, () -> x.ofIssue(3, false));
        about("FAULTS come together, and go one by one");
        x.cover(2, 5, 4, 1, 99);
        x.stick(10, 0, 1);
        due(1 | 2 | 4 | 64, () -> { x.rate(0, 2, 4, 10); return x.ofCover(10, 0); });
        due(0, () -> x.ofCover(7, 0));
        x.road(2, 5, 9);
        due(1 | 2 | 4 | 64, () -> x.ofCover(10, 0));
        x.arrive(10, 108, true);
        due(1 | 2 | 4, () -> x.ofCover(10, 0));
        x.stick(10, 2, 4);
        due(1 | 2 | 4 | 32, () -> x.ofCover(10, 0));
        x.stick(10, 0, 0);
        due(1 | 2 | 32, () -> x.ofCover(10, 0));
        due(1, () -> x.ofCover(10, 6));
    }

    private static void taxed() {
        about("TAXED: only FAULT 4 is not asked then");
        PerfgaugeHouse x = coversOfFaults();
        int[] faults = {1, 2, 4, 8, 0, 32, 64, 128, 64, 0};
        int[] impossible = {1, 1, 1, 0, 0, 0, 1, 0, 1, 0};
        for (int cover = 0; cover < 10; cover++) {
            int c = cover;
            int arrived = x.ofCover(c, 4);
            int paid = x.ofCover(c, 1);
            int franking = x.franking(c);
            due(arrived, () -> x.arrive(c, arrived, true));
            due(faults[c], () -> x.ofCover(c, 0));
            due(paid, () -> x.ofCover(c, 1));
            due(c == 7 ? -1 : 10, () -> x.ofCover(c, 2));
            due(impossible[c], () -> x.ofCover(c, 6));
            due(c == 0 ? 0 : 5, () -> x.ofCover(c, 7));
            due(franking, () -> x.franking(c));
        }
        due(200, () -> x.ofIssue(1, true));
        due(400, () -> x.ofIssue(3, true));
        about("a COVER is not TAXED at first, of whatever weight");
        PerfgaugeHouse y = coversOfFaults();
        y.plate(2, 2);
        for (int weight = 1; weight <= 4; weight++) {
            int number = weight - 1;
            y.cover(0, 1, weight, 0, 150);
            due(weight == 4 ? 128 : 16, () -> y.ofCover(number, 0));
        }
    }

    private static void frankingsAsAsked() {
        about("franking: the fewest stamps of all ISSUES, whatever stamps are on it");
        PerfgaugeHouse x = twoTimes();
        x.cover(0, 0, 1, 0, 151);
        for (int i = 2; i < 9; i++) x.issue(7, 0, 999);
        due(1, () -> x.franking(0));
        x.plate(2, 2);
        x.rate(152, 0, 4, 50);
        x.cover(0, 0, 1, 0, 152);
        // 30 and 20 by sevens it cannot be.
        due(-1, () -> x.franking(0));
        due(9, () -> x.issue(10, 152, 152));
        due(3, () -> x.franking(0));
        x.stick(0, 9, 4);
        due(3, () -> x.franking(0));
        x.stick(0, 0, 1);
        // Now 50 is PAID by 5 stamps, one of them not good any more.
        due(50, () -> x.ofCover(0, 1));
        due(8, () -> x.ofCover(0, 0));
        due(3, () -> x.franking(0));
        about("franking: whatever is wrong with it");
        x.arrive(0, 0, false);
        due(1, () -> x.ofCover(0, 6));
        due(3, () -> x.franking(0));
        x.arrive(0, 0, true);
        due(3, () -> x.franking(0));
        about("franking: each of ten ISSUES can be used");
        PerfgaugeHouse y = new PerfgaugeHouse();
        y.die(0, 0, 999);
        y.rate(0, 0, 4, 99);
        for (int issue = 0; issue < 10; issue++) {
            int number = issue;
            y.issue(99, number, number);
            y.cover(0, 0, 1, 0, number);
            due(1, () -> y.franking(number));
        }
        y.cover(0, 0, 1, 0, 10);
        due(-1, () -> y.franking(10));
    }

    // ---- 4. Hands and opinions

    private static void marksOfEach() {
        about("MARKS of a PIECE: for each HABIT its own, for each PIECE its own");
        PerfgaugeHouse x = house(2, 2);
        for (int i = 0; i < 2; i++) x.piece(1, 1, 0, false);
        for (int habit = 0; habit < 8; habit++) x.mark(0, habit, habit % 2);
        due(43046721L, () -> x.weight(0, -1));
        due(1L, () -> x.weight(1, -1));
        due(1, () -> x.mark(0, 3, 2));
        due(4782969L, () -> x.weight(0, -1));
        for (int habit = 0; habit < 8; habit++) {
            int h = habit;
            due(h == 3 ? 2 : h % 2, () -> x.mark(0, h, h == 3 ? 2 : h % 2));
            due(2, () -> x.mark(1, h, 2));
        }
        about("a HAND keeps what was told of it as another HABIT, or another HAND, is told");
        for (int hand = 0; hand < 5; hand++) x.hand(hand, 0, hand);
        x.hand(2, 7, 16);
        x.hand(2, 1, 0);
        long[] weights = {17L, 16L, 15L, 14L, 13L};
        for (int hand = 0; hand < 5; hand++) {
            int number = hand;
            // MARKS are 0, 1, 0, none, 0, 1, 0, 1.
            long others = number == 2 ? 1L * 9 * 9 * 9 * 9 * 17 : 9L * 9 * 9 * 9 * 9 * 9;
            due(weights[number] * others, () -> x.weight(0, number));
        }
    }

    private static void handsAreOnlyTold() {
        about("a LIKELY hand is nothing for VALUE, STANDING or a sale");
        PerfgaugeHouse x = house(2, 2);
        x.piece(1, 1, 0, false);
        x.item(false, 0, 0);
        x.bid(0, 1, 9);
        x.hand(0, 0, 16);
        x.mark(0, 0, 1);
        due(0, () -> x.likely(0));
        due(20, () -> x.value(0));
        due(0, () -> x.standing(0, 0));
        due(9, () -> x.ofSale(0));
        due(1, () -> x.frame(1, true));
    }

    private static void truths() {
        about("the truth of a PIECE is told once for each, good or not");
        for (int told = 0; told < 4; told++) {
            boolean isGood = told % 2 == 0;
            boolean isGoodThen = told < 2;
            PerfgaugeHouse x = house(2, 2);
            x.piece(1, 1, 0, false);
            x.opine(0, 0, true);
            due(isGood ? 1 : 0, () -> x.truth(0, isGood));
            due(isGood ? 6 : 3, () -> x.trust(0));
            due(STATE, () -> x.truth(0, isGoodThen));
            due(isGood ? 6 : 3, () -> x.trust(0));
            about("an OPINION can be told of a PIECE of which the truth was told");
            due(1, () -> x.opine(0, 0, false));
            due(isGood ? -6 : -3, () -> x.standing(0, 0));
        }
        about("truth: returns how many EXPERTS were right, GOOD or not");
        PerfgaugeHouse y = house(2, 2);
        y.piece(1, 1, 0, false);
        y.piece(1, 1, 0, false);
        for (int expert = 0; expert < 5; expert++) {
            y.opine(0, expert, expert < 3);
            y.opine(1, expert, expert < 3);
        }
        due(2, () -> y.truth(0, false));
        due(3, () -> y.truth(1, true));
        // Each of them was right once and wrong once.
        for (int expert = 0; expert < 5; expert++) {
            int e = expert;
            due(4, () -> y.trust(e));
        }
        about("truth: only the OPINION that HOLDS TODAY, not one that it followed");
        PerfgaugeHouse z = house(2, 2);
        z.piece(1, 1, 0, false);
        z.opine(0, 0, true);
        z.pass(1);
        z.opine(0, 0, false);
        due(0, () -> z.truth(0, true));
        due(3, () -> z.trust(0));
    }

    private static void trustsThatChange() {
        about("STANDING is of TRUST as it is now: that of a truth makes another PIECE BAD");
        PerfgaugeHouse x = house(2, 2);
        for (int i = 0; i < 3; i++) x.piece(1, 1, i, false);
        x.opine(0, 0, true);
        x.opine(0, 1, false);
        x.opine(1, 0, true);
        x.opine(2, 0, true);
        x.item(false, 0, 0);
        x.bid(3, 1, 8);
        due(8, () -> x.ofSale(0));
        due(3, () -> x.alone(0, true));
        due(0, () -> x.standing(0, 0));
        due(0, () -> x.truth(1, false));
        due(-2, () -> x.standing(0, 0));
        due(0, () -> x.ofSale(0));
        due(-1, () -> x.alone(0, true));
        due(0, () -> x.value(0));
        due(3, () -> x.standing(2, 0));
        due(0, () -> x.truth(2, false));
        about("TRUST of 1 and of 0");
        due(1, () -> x.trust(0));
        due(1, () -> x.standing(2, 0));
        due(-4, () -> x.standing(0, 0));
        x.opine(0, 1, true);
        due(6, () -> x.standing(0, 0));
        due(8, () -> x.ofSale(0));
        x.piece(1, 1, 3, false);
        x.opine(3, 0, false);
        due(-1, () -> x.standing(3, 0));
        due(0, () -> x.value(3));
        due(0, () -> x.truth(3, true));
        due(0, () -> x.trust(0));
        due(0, () -> x.standing(3, 0));
        due(20, () -> x.value(3));
    }

    private static void opinionsOfAll() {
        about("OPINIONS: at most 20, of all PIECES and EXPERTS together");
        PerfgaugeHouse x = house(3, 4);
        for (int i = 0; i < 12; i++) x.piece(1, 1, i / 3, false);
        for (int opinion = 0; opinion < 20; opinion++) {
            int number = opinion;
            due(number, () -> x.opine(number % 12, number % 5, number % 2 == 0));
        }
        for (int piece = 0; piece < 12; piece++) {
            int p = piece;
            due(STATE, () -> x.opine(p, 0, true));
            due((p % 2 == 0 ? 5 : -5) * (p < 8 ? 2 : 1), () -> x.standing(p, 0));
        }
        about("HOLDS: of the same EXPERT none for that PIECE; what others think of it, or it of others, stays");
        PerfgaugeHouse y = house(2, 2);
        for (int i = 0; i < 2; i++) y.piece(1, 1, i, false);
        for (int expert = 0; expert < 5; expert++) {
            y.opine(0, expert, true);
            y.opine(1, expert, false);
        }
        due(25, () -> y.standing(0, 0));
        due(-25, () -> y.standing(1, 0));
        y.pass(300);
        y.opine(0, 4, false);
        due(15, () -> y.standing(0, 300));
        due(25, () -> y.standing(0, 299));
        due(-25, () -> y.standing(1, 300));
        due(-5, () -> y.standing(0, 301));
        due(0, () -> y.standing(1, 301));
    }

    // ---- 5. Sales

    private static void faultsInSales() {
        about("a BID counts, if none of its ITEMS is of a COVER that is IMPOSSIBLE, whatever other FAULTS it has");
        int[] faults = {1, 2, 4, 8, 16, 32, 64, 128, 64, 0};
        boolean[] counts = {false, false, false, true, true, true, false, true, false, true};
        PerfgaugeHouse x = coversOfFaults();
        for (int cover = 0; cover < 8; cover++) {
            x.item(true, cover, 0);
            x.bid(cover, 1 << cover, 10 + cover);
        }
        due(4, () -> x.ofSale(5));
        due(8 + 16 + 32 + 128, () -> x.ofSale(2));
        due(13 + 14 + 15 + 17, () -> x.ofSale(0));
        for (int cover = 0; cover < 8; cover++) {
            int c = cover;
            due(faults[c], () -> x.ofCover(c, 0));
            due(counts[c] ? c : -1, () -> x.alone(c, true));
            due(counts[c] ? 1 : -1, () -> x.alone(c, false));
        }
        PerfgaugeHouse y = coversOfFaults();
        for (int cover = 8; cover < 10; cover++) {
            y.item(true, cover, 0);
            y.bid(1, 1 << cover - 8, 5);
        }
        y.bid(2, 3, 100);
        due(1, () -> y.ofSale(5));
        due(2, () -> y.ofSale(2));
        y.road(0, 5, 4);
        y.arrive(8, 154, false);
        due(3, () -> y.ofSale(5));
        due(100, () -> y.ofSale(0));
    }

    private static void itemsOfBoth() {
        about("each ITEM is of a PIECE or a COVER: those of the same number are two");
        PerfgaugeHouse x = coversOfFaults();
        for (int i = 0; i < 2; i++) x.piece(1, 1, 0, false);
        due(0, () -> x.item(true, 0, 3));
        due(1, () -> x.item(false, 0, 4));
        due(2, () -> x.item(false, 1, 5));
        due(3, () -> x.item(true, 9, 6));
        due(STATE, () -> x.item(true, 9, 7));
        about("an ITEM can be of what is IMPOSSIBLE or BAD, and a BID be below RESERVE: it does not count");
        x.opine(1, 0, false);
        x.bid(0, 1, 50);
        x.bid(0, 2, 50);
        x.bid(0, 4, 50);
        x.bid(0, 8, 5);
        due(1, () -> x.ofSale(5));
        due(2, () -> x.ofSale(2));
        x.bid(0, 8, 6);
        x.bid(1, 10, 9);
        due(2, () -> x.ofSale(5));
        x.bid(1, 10, 10);
        due(3, () -> x.ofSale(5));
        due(56, () -> x.ofSale(0));
        x.piece(1, 1, 1, false);
        x.opine(2, 3, false);
        due(4, () -> x.item(false, 2, 0));
        due(7, () -> x.bid(0, 16, 1));
        due(3, () -> x.ofSale(5));
    }

    private static PerfgaugeHouse auction(int items) {
        PerfgaugeHouse x = house(3, 3);
        for (int i = 0; i < items; i++) {
            x.piece(1, 1, i / 3, false);
            x.item(false, i, 0);
        }
        return x;
    }

    private static void soldOnly() {
        about("SOLD are the ITEMS in the SALE, not those of other BIDS that count");
        PerfgaugeHouse x = auction(3);
        x.bid(0, 3, 10);
        x.bid(1, 1, 11);
        due(2, () -> x.ofSale(5));
        due(1, () -> x.ofSale(2));
        due(1, () -> x.ofSale(3));
        due(11, () -> x.ofSale(0));
        x.bid(2, 6, 1);
        due(7, () -> x.ofSale(2));
        due(12, () -> x.ofSale(0));
        due(2, () -> x.ofSale(1));
        about("a BIDDER can have several, and bid for the same ITEMS anew: each is a BID of its own");
        PerfgaugeHouse y = auction(3);
        due(0, () -> y.bid(4, 1, 30));
        due(1, () -> y.bid(4, 1, 20));
        due(2, () -> y.bid(4, 2, 20));
        due(3, () -> y.bid(4, 4, 20));
        due(4, () -> y.ofSale(5));
        due(70, () -> y.ofSale(0));
        due(3, () -> y.ofSale(1));
        due(7, () -> y.ofSale(2));
    }

    private static void biddersAlone() {
        about("another BIDDER: each of the ten, by the number that it has");
        for (int bidder = 0; bidder < 10; bidder++) {
            int b = bidder;
            PerfgaugeHouse x = auction(1);
            x.bid(b, 1, 80);
            x.bid(b, 1, 60);
            x.bid(b, 1, 90);
            due(b, () -> x.alone(0, true));
            due(1, () -> x.alone(0, false));
            due(89, () -> x.ofSale(4));
            x.bid((b + 1) % 10, 1, 50);
            due(b, () -> x.alone(0, true));
            due(55, () -> x.alone(0, false));
            x.bid((b + 9) % 10, 1, 95);
            due((b + 9) % 10, () -> x.alone(0, true));
            due(95, () -> x.alone(0, false));
        }
        about("another one who bid 1: it is a STEP more, not RESERVE");
        PerfgaugeHouse y = auction(1);
        y.bid(0, 1, 7);
        y.bid(1, 1, 1);
        due(2, () -> y.alone(0, false));
        about("each ITEM alone: what one has is nothing for another one");
        PerfgaugeHouse z = auction(8);
        for (int item = 0; item < 8; item++) {
            z.bid(0, 1 << item, 20 + item);
            z.bid(1, 1 << item, 10 + item);
        }
        for (int item = 0; item < 8; item++) {
            int i = item;
            due(0, () -> z.alone(i, true));
            due(11 + i, () -> z.alone(i, false));
        }
        due(8 * 9, () -> z.ofSale(4));
    }

    private static void gains() {
        about("GAIN can be 0, with several BIDS in the SALE, too");
        PerfgaugeHouse x = auction(3);
        for (int item = 0; item < 3; item++) {
            x.bid(0, 1 << item, 40);
            x.bid(1, 1 << item, 40);
        }
        due(3, () -> x.ofSale(1));
        due(120, () -> x.ofSale(0));
        due(0, () -> x.ofSale(4));
        about("GAIN: 0 for an ITEM that nobody has ONE BY ONE, though it is SOLD");
        PerfgaugeHouse y = house(2, 2);
        for (int i = 0; i < 2; i++) {
            y.piece(1, 1, 0, false);
            y.item(false, i, 30);
        }
        y.bid(0, 3, 60);
        due(60, () -> y.ofSale(4));
        y.bid(0, 1, 29);
        due(60, () -> y.ofSale(4));
        y.bid(0, 1, 31);
        due(30, () -> y.ofSale(4));
    }

    private static void anotherSale() {
        about("plate: ITEMS and BIDS are gone, at once");
        PerfgaugeHouse x = auction(8);
        for (int bid = 0; bid < 40; bid++) x.bid(bid % 10, 1 + bid, 100 + bid);
        due(40, () -> x.ofSale(5));
        x.plate(2, 2);
        int[] nothing = {0, 0, 0, -1, 0, 0, 0};
        for (int what = 0; what < 7; what++) {
            int w = what;
            due(nothing[w], () -> x.ofSale(w));
        }
        due(INDEX, () -> x.alone(0, true));
        due(ARGUMENT, () -> x.bid(0, 1, 1));
        x.piece(1, 1, 0, false);
        x.item(false, 0, 0);
        due(0, () -> x.ofSale(5));
        due(0, () -> x.ofSale(0));
        due(-1, () -> x.alone(0, false));
    }

    // ---- 6. Shades, values, frames

    private static void shadesAndLights() {
        about("SHADE and LIGHT are told anew, LIGHT 0, too; each PIECE has its own");
        PerfgaugeHouse x = house(2, 2);
        for (int i = 0; i < 2; i++) x.piece(1, 1, 0, false);
        x.standard(2, 0, 0, 0);
        due(2, () -> x.shade(0, 49, 49, 49, 50));
        due(0, () -> x.near(0, 1));
        due(-1, () -> x.near(1, 0));
        due(2, () -> x.shade(1, 0, 0, 0, 0));
        due(0, () -> x.near(0, 1));
        due(0, () -> x.near(1, 1));
        due(2, () -> x.shade(0, 49, 49, 49, 0));
        due(147, () -> x.near(0, 1));
        due(2, () -> x.shade(0, 1, 2, 4, 0));
        due(7, () -> x.near(0, 1));
        about("a STANDARD is told anew, and asked as it is now");
        due(1, () -> x.standard(2, 1, 2, 3));
        due(1, () -> x.near(0, 1));
        due(6, () -> x.near(1, 1));
        due(2, () -> x.standard(0, 1, 2, 4));
        due(0, () -> x.near(0, 0));
        due(0, () -> x.near(0, 1));
        about("a STANDARD can be of a PRINTING in which the PIECE does not FIT");
        x.flaw(0, 3, 1, 7);
        x.seen(0, 0, 8, false);
        due(0, () -> x.near(0, 0));
        due(1, () -> x.near(0, 2));
    }

    private static void contradictions() {
        about("CONTRADICTS: the SHEET has none in that PRINTING, though the PIECE itself FITS in it");
        PerfgaugeHouse x = house(2, 2);
        x.flaw(0, 0, 3, 3);
        x.flaw(1, 1, 3, 4);
        x.piece(1, 1, 0, false);
        x.piece(1, 1, 0, false);
        x.seen(0, 0, 2, false);
        x.standard(4, 5, 5, 5);
        due(4, () -> x.shade(0, 5, 5, 5, 0));
        due(0, () -> x.near(0, 2));
        x.seen(1, 0, 1, false);
        due(true, () -> x.fits(0, 1, 4));
        due(8, () -> x.plating(0, 1));
        due(1, () -> x.near(0, 2));
        due(0, () -> x.near(1, 2));
        due(0, () -> x.value(0));
        due(70, () -> x.value(1));
        about("CONTRADICTS: with whatever LIGHT");
        for (int light = 0; light <= 50; light += 25) {
            int l = light;
            due(4, () -> x.shade(0, 9, 9, 9, l));
            due(1, () -> x.near(0, 2));
            due(0, () -> x.value(0));
        }
        about("CONTRADICTS: each PIECE by its own NEAR PRINTING");
        x.standard(3, 90, 90, 90);
        due(3, () -> x.shade(1, 90, 90, 91, 0));
        due(0, () -> x.near(1, 2));
        due(1, () -> x.near(0, 2));
        due(3, () -> x.shade(0, 90, 90, 90, 0));
        due(0, () -> x.near(0, 2));
        due(70, () -> x.value(0));
    }

    private static void valuesHangOn() {
        about("VALUE: whether a stamp is CLEAR is nothing for it, nor whether the PIECE is TOP");
        PerfgaugeHouse x = house(4, 2);
        x.piece(2, 1, 0, false);
        x.piece(2, 1, 1, true);
        for (int piece = 0; piece < 2; piece++) {
            int p = piece;
            due(40, () -> x.value(p));
            x.seen(p, 0, 0, true);
            due(40, () -> x.value(p));
            x.seen(p, 1, 3, true);
            due(70, () -> x.value(p));
            x.seen(p, 1, 3, false);
            due(70, () -> x.value(p));
            x.seen(p, 0, 3, false);
            due(100, () -> x.value(p));
        }
        about("VALUE: of what is SEEN, also of KINDS that no POSITION has");
        due(0, () -> x.ofPiece(0, 2));
        about("VALUE: what one asks for it, or bids, is nothing for it");
        x.item(false, 0, 9999);
        x.bid(0, 1, 9999);
        due(100, () -> x.value(0));
        about("VALUE: BAD is asked TODAY");
        x.opine(0, 0, false);
        x.pass(1);
        x.opine(0, 0, true);
        due(-5, () -> x.standing(0, 0));
        due(100, () -> x.value(0));
        due(9999, () -> x.ofSale(0));
    }

    private static void frames() {
        about("a FRAME is asked anew: it keeps nothing of one that was asked before");
        PerfgaugeHouse x = house(4, 4);
        for (int i = 0; i < 3; i++) x.piece(2, 1, 0, false);
        due(120, () -> x.frame(40, false));
        due(20 * 4, () -> x.frame(5, false));
        due(3, () -> x.frame(5, true));
        due(0, () -> x.frame(1, true));
        due(120, () -> x.frame(6, false));
        x.opine(1, 0, false);
        due(80, () -> x.frame(6, false));
        due(5, () -> x.frame(6, true));
        x.plate(2, 2);
        due(0, () -> x.frame(40, false));
        due(0, () -> x.frame(40, true));
        x.piece(1, 1, 0, false);
        due(20, () -> x.frame(40, false));
        due(1, () -> x.frame(40, true));
        about("FRAME: PIECES of the same SHEET are not ALIKE; those that are SOLD are there, too");
        PerfgaugeHouse y = house(2, 2);
        for (int i = 0; i < 3; i++) y.piece(1, 1, 0, false);
        y.piece(1, 1, 1, false);
        y.seen(3, 0, 0, true);
        y.item(false, 0, 0);
        y.bid(0, 1, 5);
        due(60, () -> y.frame(40, false));
        due(7, () -> y.frame(40, true));
    }

    // ---- the whole

    private static void soundEverywhere() {
        about("isSound: with all that a house can hold, on the last DAY, and after a PLATE made anew");
        PerfgaugeHouse x = coversOfFaults();
        due(true, () -> x.isSound());
        for (int i = 0; i < 12; i++) x.piece(1, 1, i / 3, i % 2 == 0);
        for (int i = 0; i < 20; i++) x.opine(i % 12, i % 5, i % 3 == 0);
        for (int i = 0; i < 12; i++) x.truth(i, i % 2 == 0);
        for (int i = 0; i < 8; i++) x.item(i % 2 == 0, i, 10 * i);
        for (int i = 0; i < 40; i++) x.bid(i % 10, 1 + i * 6, 50 + i * 7);
        due(true, () -> x.isSound());
        for (int days : new int[] {400, 400, 199}) {
            x.pass(days);
            due(true, () -> x.isSound());
        }
        due(true, () -> x.ofSale(4) >= 0);
        x.plate(6, 4);
        due(true, () -> x.isSound());
        about("isSound: TRUST is 0 to 9, with both");
        PerfgaugeHouse y = house(3, 3);
        for (int i = 0; i < 9; i++) {
            int piece = i;
            y.piece(1, 1, piece / 3, false);
            y.opine(piece, 0, piece % 2 == 0);
            y.opine(piece, 1, piece % 2 != 0);
            due(1, () -> y.truth(piece, piece % 2 == 0));
            due(true, () -> y.isSound());
        }
        due(9, () -> y.trust(0));
        due(0, () -> y.trust(1));
        about("isSound: a PIECE that is CERTAIN in one PRINTING, in several, and in all of them");
        PerfgaugeHouse z = house(2, 2);
        for (int to = 0; to < 8; to++) {
            int last = to;
            z.plate(2, 2);
            z.flaw(3, 5, 0, last);
            z.piece(1, 1, 4, false);
            z.seen(0, 0, 32, true);
            due(3, () -> z.ofPiece(0, 4));
            due(last + 1, () -> z.plating(4, 0));
            due(true, () -> z.isSound());
        }
        about("two objects are two houses: what is told to one is nothing to the other");
        PerfgaugeHouse one = new PerfgaugeHouse();
        PerfgaugeHouse other = new PerfgaugeHouse();
        one.plate(2, 2);
        one.road(0, 1, 3);
        one.pass(5);
        one.piece(1, 1, 0, false);
        due("-", () -> other.sheet(0));
        due(-1, () -> other.way(0, 1));
        due(1, () -> other.pass(1));
        due(INDEX, () -> other.holes(0));
        due(true, () -> new PerfgaugeHouse().digest() == new PerfgaugeHouse().digest());
    }
}
