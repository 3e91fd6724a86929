import java.math.BigInteger;

/**
 * Each sentence of the document that names a number: what is let stands at the boundary itself, and what is one
 * step beyond it is not so any more. (What is refused one step beyond stands in RefusedCalls.)
 */
public final class BoundaryTests extends Answers {
    public static void main(String[] args) {
        days();
        plateSizes();
        positions();
        sixtyFlaws();
        printingsOfFlaws();
        seeds();
        sixtyEngraved();
        twelvePieces();
        stampsOfPieces();
        places();
        tops();
        seenAndClear();
        platings();
        certainPieces();
        alikePieces();
        sheetTexts();
        gauges();
        combs();
        ways();
        distances();
        sixteenRates();
        ratesThatApply();
        issuesAndDies();
        twelveCovers();
        dieFaults();
        stampFaults();
        paidFaults();
        wayFaults();
        wears();
        frankings();
        scarcities();
        fiveHands();
        weights();
        likelyHands();
        twentyOpinions();
        oldOpinions();
        laterOpinions();
        badPieces();
        trusts();
        eightItems();
        fortyBids();
        countingBids();
        sales();
        salesAskedBetween();
        steps();
        onesAlone();
        gains();
        standards();
        fadedShades();
        nearPrintings();
        contradictions();
        values();
        frames();
        aNewPlate();
        calls();
        digests();
        end();
    }

    private static PerfgaugeHouse bare() {
        return new PerfgaugeHouse();
    }

    // ---- DAYS

    private static void days() {
        about("DAYS are 0 to 999; TODAY is a DAY (0 at first; it only becomes greater)");
        PerfgaugeHouse x = house(2, 2);
        x.piece(1, 1, 0, false);
        due(0, () -> x.opine(0, 0, true));
        due(5, () -> x.standing(0, 0));
        due(1, () -> x.pass(1));
        due(401, () -> x.pass(400));
        due(801, () -> x.pass(400));
        due(STATE, () -> x.pass(199));
        due(999, () -> x.pass(198));
        due(STATE, () -> x.pass(1));
        due(1, () -> x.opine(0, 1, true));
        due(5, () -> x.standing(0, 999));
        due(0, () -> x.standing(0, 998));
        PerfgaugeHouse y = bare();
        y.pass(400);
        y.pass(400);
        due(STATE, () -> y.pass(200));
        due(999, () -> y.pass(199));
    }

    // ---- 1. The plate

    private static void plateSizes() {
        about("the PLATE is WIDE (2 to 6) and HIGH (2 to 4)");
        PerfgaugeHouse x = bare();
        for (int wide = 2; wide <= 6; wide++) {
            for (int high = 2; high <= 4; high++) {
                int w = wide;
                int h = high;
                due(w * h, () -> x.plate(w, h));
                due(0, () -> x.face(w * h - 1, 7));
                due(INDEX, () -> x.face(w * h, 7));
            }
        }
        due(ARGUMENT, () -> x.plate(1, 4));
        due(ARGUMENT, () -> x.plate(7, 2));
        due(ARGUMENT, () -> x.plate(6, 1));
        due(ARGUMENT, () -> x.plate(2, 5));
        due(0, () -> x.face(23, 0));
    }

    private static void positions() {
        about("POSITIONS are numbered row by row from above, each row from the left on, from 0");
        PerfgaugeHouse x = house(5, 3);
        x.flaw(7, 0, 0, 7);
        x.tear(1, 1, 7, 0, 0);
        due("...../..0../.....", () -> x.sheet(0));
        x.flaw(0, 1, 0, 7);
        x.tear(1, 1, 0, 0, 1);
        due("1..../...../.....", () -> x.sheet(1));
        x.flaw(14, 2, 0, 7);
        x.tear(1, 1, 14, 0, 2);
        due("...../...../....2", () -> x.sheet(2));
        x.flaw(4, 3, 0, 7);
        x.flaw(5, 4, 0, 7);
        x.tear(1, 1, 4, 0, 3);
        x.tear(1, 1, 5, 0, 3);
        due("....3/4..../.....", () -> x.sheet(3));
    }

    private static void sixtyFlaws() {
        about("FLAWS: at most 60");
        PerfgaugeHouse x = house(6, 4);
        for (int flaw = 0; flaw < 59; flaw++) {
            int number = flaw;
            due(number, () -> x.flaw(number % 24, number % 10, 0, 7));
        }
        due(0, () -> x.face(23, 7) & 1 << 9);
        due(59, () -> x.flaw(23, 9, 7, 7));
        due(1 << 9, () -> x.face(23, 7) & 1 << 9);
        due(0, () -> x.face(23, 6) & 1 << 9);
        int before = x.face(0, 7);
        due(STATE, () -> x.flaw(0, 9, 0, 7));
        due(before, () -> x.face(0, 7));
        about("a PLATE made anew is without FLAWS");
        due(4, () -> x.plate(2, 2));
        due(0, () -> x.face(0, 0));
        due(0, () -> x.flaw(0, 9, 0, 7));
    }

    private static void printingsOfFlaws() {
        about("a FLAW of a KIND (0 to 9), that was there from a PRINTING to a PRINTING (with both)");
        PerfgaugeHouse x = house(3, 2);
        x.flaw(0, 0, 0, 0);
        x.flaw(1, 9, 7, 7);
        x.flaw(2, 3, 0, 7);
        x.flaw(3, 4, 2, 5);
        x.flaw(4, 4, 2, 2);
        x.flaw(4, 4, 2, 3);
        x.flaw(4, 5, 3, 3);
        due(1, () -> x.face(0, 0));
        due(0, () -> x.face(0, 1));
        due(0, () -> x.face(1, 6));
        due(512, () -> x.face(1, 7));
        for (int printing = 0; printing < 8; printing++) {
            int p = printing;
            due(8, () -> x.face(2, p));
            due(p >= 2 && p <= 5 ? 16 : 0, () -> x.face(3, p));
        }
        due(0, () -> x.face(4, 1));
        due(16, () -> x.face(4, 2));
        due(48, () -> x.face(4, 3));
        due(0, () -> x.face(4, 4));
        due(0, () -> x.face(5, 0));
        about("FACE is the set of all KINDS then");
        for (int kind = 0; kind < 10; kind++) x.flaw(5, kind, 7, 7);
        due(1023, () -> x.face(5, 7));
        due(0, () -> x.face(5, 6));
    }

    /** What ENGRAVING by a SEED makes, drawn once more by the document's words. */
    private static final class Engraver {
        private int ahead;
        int flaws;
        final int[] faces = new int[24 * 8];

        Engraver(int seed) {
            ahead = seed;
        }

        private int draw() {
            ahead = (43 * ahead + 31) % 107;
            return ahead;
        }

        void engrave(int positions) {
            for (int position = 0; position < positions; position++) {
                for (int left = draw() % 3; left > 0; left--) {
                    if (flaws == 60) return;
                    int kind = draw() % 10;
                    int from = draw() % 8;
                    int to = Math.min(from + draw() % 8, 7);
                    for (int printing = from; printing <= to; printing++) faces[position * 8 + printing] |= 1 << kind;
                    flaws++;
                }
            }
        }
    }

    private static void seeds() {
        about("to ENGRAVE a PLATE by a SEED (0 to 99)");
        // The ROW of SEED 99: 8, 54, 106, 95, 50, 41, 82, 26, 79, 4, 96, 93, 71, 88, 70, 45, 40, 39, 103, 73, 67, 23.
        PerfgaugeHouse x = house(2, 2);
        due(6, () -> x.engrave(99));
        int[] firstFaces = {0, 1, 17, 17, 16, 16, 16, 16};
        for (int printing = 0; printing < 8; printing++) {
            int p = printing;
            due(firstFaces[p], () -> x.face(0, p));
            due(p == 4 ? 512 : p == 7 ? 8 : 0, () -> x.face(1, p));
            due(32, () -> x.face(2, p));
            due(p >= 3 ? 8 : 0, () -> x.face(3, p));
        }
        // The ROW of SEED 0 begins with 31, 80, 47, 19, 99: one FLAW of KIND 0 from 7 to 7, then none.
        PerfgaugeHouse y = house(2, 2);
        due(5, () -> y.engrave(0));
        due(0, () -> y.face(0, 6));
        due(1, () -> y.face(0, 7));
        due(0, () -> y.face(1, 7));
        due(ARGUMENT, () -> y.engrave(-1));
        due(ARGUMENT, () -> y.engrave(100));
        about("each SEED, on the smallest and on the greatest PLATE");
        for (int seed = 0; seed < 100; seed++) {
            compareEngraved(seed, 2, 2);
            compareEngraved(seed, 6, 4);
        }
    }

    private static void compareEngraved(int seed, int wide, int high) {
        PerfgaugeHouse x = house(wide, high);
        Engraver drawn = new Engraver(seed);
        drawn.engrave(wide * high);
        due(drawn.flaws, () -> x.engrave(seed));
        for (int face = 0; face < wide * high * 8; face++) {
            int f = face;
            due(drawn.faces[f], () -> x.face(f / 8, f % 8));
        }
    }

    private static void sixtyEngraved() {
        about("ENGRAVING ends as soon as there are 60 FLAWS (and FLAWS that there are stay)");
        PerfgaugeHouse x = withFlawsAtThree(57);
        due(60, () -> x.engrave(99));
        due(17, () -> x.face(0, 2));
        due(512, () -> x.face(1, 4));
        due(0, () -> x.face(1, 7));
        due(0, () -> x.face(2, 0));
        due(512, () -> x.face(3, 0));
        PerfgaugeHouse y = withFlawsAtThree(58);
        due(60, () -> y.engrave(99));
        due(17, () -> y.face(0, 2));
        due(0, () -> y.face(1, 4));
        PerfgaugeHouse z = withFlawsAtThree(59);
        due(60, () -> z.engrave(99));
        due(16, () -> z.face(0, 2));
        PerfgaugeHouse all = withFlawsAtThree(60);
        due(60, () -> all.engrave(99));
        due(0, () -> all.face(0, 2));
        due(512, () -> all.face(3, 0));
        due(STATE, () -> all.flaw(0, 0, 0, 0));
        PerfgaugeHouse under = withFlawsAtThree(54);
        due(60, () -> under.engrave(99));
        due(8, () -> under.face(3, 3));
        PerfgaugeHouse less = withFlawsAtThree(53);
        due(59, () -> less.engrave(99));
        due(59, () -> less.flaw(0, 0, 0, 0));
        due(STATE, () -> less.flaw(0, 0, 0, 0));
    }

    private static PerfgaugeHouse withFlawsAtThree(int flaws) {
        PerfgaugeHouse x = house(2, 2);
        for (int i = 0; i < flaws; i++) x.flaw(3, 9, 0, 0);
        return x;
    }

    private static void twelvePieces() {
        about("PIECES: at most 12 (3 of one SHEET)");
        PerfgaugeHouse x = house(2, 2);
        due(0, () -> x.piece(1, 1, 5, false));
        due(1, () -> x.tear(1, 1, 0, 0, 5));
        due(2, () -> x.plating(5, 4));
        due(2, () -> x.piece(1, 1, 5, true));
        due(3, () -> x.plating(5, 4));
        due(STATE, () -> x.piece(1, 1, 5, false));
        due(STATE, () -> x.tear(1, 1, 0, 0, 5));
        due(3, () -> x.plating(5, 4));
        for (int piece = 3; piece < 11; piece++) {
            int number = piece;
            due(number, () -> number % 2 == 0 ? x.piece(1, 1, number / 3, false) : x.tear(1, 1, 3, 7, number / 3));
        }
        due(2, () -> x.plating(3, 4));
        due(11, () -> x.piece(1, 1, 0, false));
        due(STATE, () -> x.piece(1, 1, 0, false));
        due(STATE, () -> x.tear(1, 1, 0, 0, 0));
        due(STATE, () -> x.piece(1, 1, 3, false));
        due(1, () -> x.plating(0, 4));
        due(0, () -> x.ofPiece(11, 0));
        due(INDEX, () -> x.ofPiece(12, 0));
        about("SHEETS are 0 to 5");
        PerfgaugeHouse y = house(2, 2);
        for (int sheet = 0; sheet < 6; sheet++) {
            int s = sheet;
            due(s, () -> y.piece(1, 1, s, false));
            due(s, () -> y.ofPiece(s, 0));
            due(1, () -> y.plating(s, 4));
        }
        due(ARGUMENT, () -> y.piece(1, 1, 6, false));
    }

    private static void stampsOfPieces() {
        about("each PIECE so many stamps wide and high (1 to 3 each)");
        for (int wide = 1; wide <= 3; wide++) {
            for (int high = 1; high <= 3; high++) {
                PerfgaugeHouse x = house(3, 3);
                int w = wide;
                int h = high;
                due(0, () -> x.piece(w, h, 0, false));
                due(1, () -> x.tear(w, h, 0, 0, 0));
                due(w * h, () -> x.ofPiece(0, 1));
                due(w * h, () -> x.ofPiece(1, 1));
                due((4 - w) * (4 - h) * 8, () -> x.ofPiece(0, 2));
                due(0, () -> x.seen(0, w * h - 1, 0, false));
                due(INDEX, () -> x.seen(0, w * h, 0, false));
                x.plate(3, 3);
                x.piece(w, h, 0, false);
                // One of 3 by 3 is CERTAIN there.
                due(20 * w * h * (w * h == 9 ? 2 : 1), () -> x.value(0));
            }
        }
        about("stamps are numbered as POSITIONS are, within the PIECE");
        PerfgaugeHouse x = house(4, 4);
        x.flaw(9, 5, 0, 7);
        x.piece(2, 3, 0, false);
        x.seen(0, 5, 32, false);
        // Stamp 5 is in row 2, column 1.
        due(true, () -> x.fits(0, 0, 0));
        due(8, () -> x.ofPiece(0, 2));
        x.seen(0, 5, 0, false);
        x.seen(0, 2, 32, false);
        due(true, () -> x.fits(0, 5, 0));
        due(8, () -> x.ofPiece(0, 2));
        x.tear(3, 2, 4, 0, 1);
        // 9 is stamp 4 of 4, 5, 6 and 8, 9, 10.
        due(0, () -> x.seen(1, 3, 0, false));
        due(32, () -> x.seen(1, 4, 0, false));
        due(0, () -> x.seen(1, 5, 0, false));
    }

    private static void places() {
        about("a PIECE FITS, if all of it is on the PLATE");
        PerfgaugeHouse x = house(4, 3);
        x.piece(2, 2, 0, false);
        for (int position = 0; position < 12; position++) {
            int p = position;
            due(p % 4 <= 2 && p / 4 <= 1, () -> x.fits(0, p, 0));
        }
        x.piece(3, 1, 1, false);
        for (int position = 0; position < 12; position++) {
            int p = position;
            due(p % 4 <= 1, () -> x.fits(1, p, 7));
        }
        x.piece(1, 3, 2, false);
        for (int position = 0; position < 12; position++) {
            int p = position;
            due(p <= 3, () -> x.fits(2, p, 3));
        }
        PerfgaugeHouse y = house(2, 2);
        y.piece(3, 1, 0, false);
        y.piece(1, 3, 1, false);
        for (int piece = 0; piece < 2; piece++) {
            int p = piece;
            due(0, () -> y.ofPiece(p, 2));
            due(0, () -> y.ofPiece(p, 3));
            due(-1, () -> y.ofPiece(p, 4));
            due(0, () -> y.plating(p, 0));
        }
        about("tear: not all of it would be on the PLATE");
        PerfgaugeHouse z = house(4, 3);
        due(0, () -> z.tear(2, 2, 6, 0, 0));
        due(INDEX, () -> z.tear(2, 2, 7, 0, 1));
        due(INDEX, () -> z.tear(2, 2, 8, 0, 1));
        due(INDEX, () -> z.tear(2, 2, 10, 0, 1));
        due(1, () -> z.tear(3, 3, 1, 0, 1));
        due(INDEX, () -> z.tear(3, 3, 2, 0, 1));
        due(INDEX, () -> z.tear(3, 3, 4, 0, 1));
        due(2, () -> z.tear(1, 1, 11, 7, 5));
        due(INDEX, () -> z.tear(1, 1, 12, 7, 5));
    }

    private static void tops() {
        about("if TOP: its first stamp in the first row");
        PerfgaugeHouse x = house(4, 3);
        x.piece(1, 2, 0, true);
        due(true, () -> x.fits(0, 0, 0));
        due(true, () -> x.fits(0, 3, 0));
        due(false, () -> x.fits(0, 4, 0));
        due(32, () -> x.ofPiece(0, 2));
        x.piece(1, 2, 1, false);
        due(true, () -> x.fits(1, 4, 0));
        due(64, () -> x.ofPiece(1, 2));
        about("what is torn is not TOP");
        x.tear(1, 1, 0, 0, 2);
        due(true, () -> x.fits(2, 4, 0));
    }

    private static void seenAndClear() {
        about("SEEN (0 at first), CLEAR (not at first)");
        PerfgaugeHouse x = house(2, 2);
        x.flaw(0, 0, 0, 3);
        x.flaw(0, 9, 0, 3);
        x.piece(1, 1, 0, false);
        due(true, () -> x.fits(0, 0, 0));
        due(0, () -> x.seen(0, 0, 1023, false));
        due(1023, () -> x.seen(0, 0, 0, false));
        due(0, () -> x.seen(0, 0, 0, true));
        due(false, () -> x.fits(0, 0, 0));
        due(true, () -> x.fits(0, 0, 4));
        about("SEEN is within FACE, and, if it is CLEAR, just that");
        x.seen(0, 0, 1, false);
        due(true, () -> x.fits(0, 0, 3));
        due(false, () -> x.fits(0, 0, 4));
        x.seen(0, 0, 512, true);
        due(false, () -> x.fits(0, 0, 3));
        x.seen(0, 0, 513, true);
        due(true, () -> x.fits(0, 0, 3));
        due(false, () -> x.fits(0, 0, 4));
        x.seen(0, 0, 513, false);
        due(true, () -> x.fits(0, 0, 3));
        x.seen(0, 0, 515, false);
        due(false, () -> x.fits(0, 0, 3));
        x.seen(0, 0, 515, true);
        due(false, () -> x.fits(0, 0, 3));
        about("seen: a set of KINDS (0 is let)");
        due(515, () -> x.seen(0, 0, 1023, true));
        due(ARGUMENT, () -> x.seen(0, 0, 1024, true));
        due(1023, () -> x.seen(0, 0, 0, true));
        due(ARGUMENT, () -> x.seen(0, 0, -1, true));
        about("what is torn is seen as FACE there, and CLEAR");
        PerfgaugeHouse y = house(2, 2);
        y.flaw(3, 2, 4, 4);
        y.tear(1, 1, 3, 4, 0);
        y.tear(1, 1, 3, 5, 1);
        due(1, () -> y.ofPiece(0, 2));
        due(31, () -> y.ofPiece(1, 2));
        due(false, () -> y.fits(1, 3, 4));
        y.flaw(3, 1, 4, 4);
        due(0, () -> y.ofPiece(0, 2));
        due(4, () -> y.seen(0, 0, 6, true));
        due(1, () -> y.ofPiece(0, 2));
    }

    private static void platings() {
        about("no two of these PIECES have a POSITION in common");
        PerfgaugeHouse x = house(3, 2);
        x.piece(2, 2, 0, false);
        x.piece(1, 2, 0, false);
        due(16, () -> x.plating(0, 0));
        due(63, () -> x.plating(0, 3));
        due("001/001", () -> x.sheet(0));
        x.piece(1, 1, 0, false);
        due(0, () -> x.plating(0, 0));
        PerfgaugeHouse one = house(3, 2);
        one.piece(2, 2, 0, false);
        one.piece(2, 1, 0, false);
        due(0, () -> one.plating(0, 0));
        due(0, () -> one.plating(0, 1));
        due(0, () -> one.plating(0, 3));
        due(2, () -> one.plating(0, 4));
        about("how many PLATINGS: none, one for each PRINTING, or many");
        PerfgaugeHouse bare = bare();
        PerfgaugeHouse none = house(6, 4);
        for (int sheet = 0; sheet < 6; sheet++) {
            int s = sheet;
            int[] answers = {8, 255, 0, 0, 0};
            for (int what = 0; what < 5; what++) {
                int w = what;
                due(answers[w], () -> bare.plating(s, w));
                due(answers[w], () -> none.plating(s, w));
            }
        }
        none.piece(1, 1, 0, false);
        due(24 * 8, () -> none.plating(0, 0));
        none.piece(1, 1, 0, false);
        due(24 * 23 * 8, () -> none.plating(0, 0));
        none.piece(1, 1, 0, false);
        due(24 * 23 * 22 * 8, () -> none.plating(0, 0));
        due(0, () -> none.plating(0, 3));
        due(8, () -> none.plating(1, 0));
        about("PRINTINGS of PLATINGS: the first and the last one");
        PerfgaugeHouse y = house(2, 2);
        y.flaw(0, 0, 0, 0);
        y.flaw(0, 1, 7, 7);
        y.tear(1, 1, 0, 0, 0);
        y.tear(1, 1, 0, 7, 1);
        due(1, () -> y.plating(0, 1));
        due(128, () -> y.plating(1, 1));
        due(1, () -> y.plating(0, 0));
        due(1, () -> y.plating(1, 0));
        about("all PIECES of a SHEET are of one PRINTING");
        y.piece(1, 1, 0, false);
        y.seen(2, 0, 2, false);
        due(0, () -> y.plating(0, 0));
        due(1, () -> y.ofPiece(2, 2));
        due(0, () -> y.ofPiece(2, 3));
    }

    private static void certainPieces() {
        about("CERTAIN, if it is the same in all PLATINGS of its SHEET (and there is one)");
        PerfgaugeHouse x = house(3, 2);
        x.flaw(0, 1, 3, 4);
        x.flaw(5, 2, 6, 6);
        x.piece(1, 1, 0, false);
        x.piece(1, 1, 1, false);
        x.piece(1, 1, 2, false);
        x.seen(0, 0, 2, false);
        x.seen(1, 0, 4, true);
        // By two PLATINGS at 0, by one at 5.
        due(2, () -> x.plating(0, 0));
        due(1, () -> x.plating(0, 2));
        due(1, () -> x.plating(0, 3));
        due(1, () -> x.ofPiece(0, 3));
        due(0, () -> x.ofPiece(0, 4));
        due(5, () -> x.ofPiece(1, 4));
        due(1, () -> x.ofPiece(1, 3));
        due(32, () -> x.plating(1, 3));
        due(6, () -> x.ofPiece(2, 3));
        due(-1, () -> x.ofPiece(2, 4));
        due(0, () -> x.plating(2, 2));
        // A second POSITION in another PRINTING.
        x.flaw(1, 1, 5, 5);
        due(3, () -> x.plating(0, 0));
        due(2, () -> x.ofPiece(0, 3));
        due(-1, () -> x.ofPiece(0, 4));
        due(0, () -> x.plating(0, 2));
        due(0, () -> x.plating(0, 3));
        // No PLATING any more.
        x.seen(0, 0, 8, false);
        due(0, () -> x.ofPiece(0, 3));
        due(-1, () -> x.ofPiece(0, 4));
        due(0, () -> x.plating(0, 2));
        about("CERTAIN at the last POSITION of the greatest PLATE");
        PerfgaugeHouse y = house(6, 4);
        y.flaw(23, 9, 7, 7);
        y.tear(1, 1, 23, 7, 5);
        due(23, () -> y.ofPiece(0, 4));
        due(1 << 23, () -> y.plating(5, 3));
        about("how many PIECES of a SHEET are CERTAIN: none to all three");
        PerfgaugeHouse three = house(3, 2);
        for (int position = 0; position < 3; position++) three.flaw(position * 2, position, 0, 7);
        for (int piece = 0; piece < 3; piece++) {
            int p = piece;
            three.piece(1, 1, 3, false);
            three.seen(p, 0, 1 << p, true);
            due(p + 1, () -> three.plating(3, 2));
            due(p * 2, () -> three.ofPiece(p, 4));
        }
        due(21, () -> three.plating(3, 3));
        due("0.1/.2.", () -> three.sheet(3));
        three.seen(1, 0, 0, false);
        due(2, () -> three.plating(3, 2));
        three.seen(0, 0, 0, true);
        due(1, () -> three.plating(3, 2));
        due(4, () -> three.ofPiece(2, 4));
        three.seen(2, 0, 0, true);
        due(0, () -> three.plating(3, 2));
        about("CERTAIN by the other PIECES alone");
        PerfgaugeHouse z = house(2, 2);
        z.flaw(3, 0, 0, 0);
        z.piece(2, 1, 0, false);
        z.piece(1, 1, 0, false);
        due(0, () -> z.plating(0, 2));
        z.seen(1, 0, 1, false);
        due(2, () -> z.plating(0, 2));
        due(0, () -> z.ofPiece(0, 4));
        due(16, () -> z.ofPiece(0, 2));
        due(1, () -> z.ofPiece(0, 3));
        due(11, () -> z.plating(0, 3));
        about("a PIECE that does not FIT spoils the PLATINGS of its SHEET alone");
        z.piece(3, 1, 0, false);
        z.piece(2, 2, 1, false);
        due(0, () -> z.plating(0, 0));
        due(-1, () -> z.ofPiece(0, 4));
        due(-1, () -> z.ofPiece(1, 4));
        due(0, () -> z.ofPiece(3, 4));
        due(15, () -> z.plating(1, 3));
    }

    private static void alikePieces() {
        about("two PIECES of different SHEETS ARE ALIKE, if each of them FITS at the same POSITION");
        PerfgaugeHouse x = house(2, 2);
        for (int piece = 0; piece < 12; piece++) x.piece(1, 1, piece / 3, false);
        for (int piece = 0; piece < 12; piece++) {
            int p = piece;
            due(9, () -> x.ofPiece(p, 5));
        }
        PerfgaugeHouse y = house(3, 2);
        y.flaw(2, 0, 0, 0);
        y.flaw(2, 1, 7, 7);
        y.tear(1, 1, 2, 0, 0);
        y.tear(1, 1, 2, 7, 1);
        due(1, () -> y.ofPiece(0, 5));
        about("each for its own PRINTING, by the POSITION of the first stamp");
        y.piece(2, 1, 2, true);
        // It FITS at 0 and 1, and so has 2 in common with these, but no first stamp.
        due(0, () -> y.ofPiece(2, 5));
        y.piece(1, 2, 3, true);
        due(3, () -> y.ofPiece(3, 5));
        due(1, () -> y.ofPiece(2, 5));
        about("PIECES of the same SHEET are not ALIKE");
        y.piece(1, 2, 3, true);
        due(3, () -> y.ofPiece(3, 5));
        due(3, () -> y.ofPiece(4, 5));
        due(2, () -> y.ofPiece(2, 5));
    }

    private static void sheetTexts() {
        about("each POSITION as the last digit of the number of its PIECE, '.' without one; '-' without a PLATING");
        PerfgaugeHouse x = house(2, 3);
        for (int i = 0; i < 9; i++) x.piece(1, 1, i / 3, false);
        x.piece(1, 1, 3, false);
        x.piece(1, 1, 3, false);
        x.piece(1, 1, 4, false);
        due("67/8./..", () -> x.sheet(2));
        due("90/../..", () -> x.sheet(3));
        due("1./../..", () -> x.sheet(4));
        due("../../..", () -> x.sheet(5));
        x.seen(11, 0, 1, false);
        due("-", () -> x.sheet(4));
        due("-", () -> bare().sheet(0));
        due("-", () -> bare().sheet(5));
        about("the first PLATING: the smallest PRINTING, then, PIECE by PIECE, the smallest POSITION");
        PerfgaugeHouse y = house(3, 2);
        y.flaw(0, 0, 4, 4);
        y.flaw(5, 0, 2, 2);
        y.piece(1, 1, 0, false);
        y.piece(1, 1, 0, false);
        y.seen(0, 0, 1, false);
        due("1../..0", () -> y.sheet(0));
        y.seen(1, 0, 1, false);
        due("-", () -> y.sheet(0));
        y.flaw(4, 0, 4, 4);
        due("0../.1.", () -> y.sheet(0));
        due(2, () -> y.plating(0, 0));
        PerfgaugeHouse z = house(3, 2);
        z.piece(2, 1, 0, false);
        z.piece(1, 2, 0, false);
        // 0 at 0 leaves 2 for the other one.
        due("001/..1", () -> z.sheet(0));
        z.piece(1, 2, 0, false);
        due("-", () -> z.sheet(0));
    }

    // ---- 2. Edges

    private static void gauges() {
        PerfgaugeHouse x = house(2, 2);
        x.piece(1, 1, 0, false);
        about("HOLES (5 to 20) that were counted on LENGTH (50 to 400)");
        due(80, () -> x.edge(0, 0, 5, 50));
        due(10, () -> x.edge(0, 1, 5, 400));
        due(320, () -> x.edge(0, 2, 20, 50));
        due(40, () -> x.edge(0, 3, 20, 400));
        due(ARGUMENT, () -> x.edge(0, 0, 4, 50));
        due(ARGUMENT, () -> x.edge(0, 0, 21, 50));
        due(ARGUMENT, () -> x.edge(0, 0, 5, 49));
        due(ARGUMENT, () -> x.edge(0, 0, 5, 401));
        about("GAUGE: (HOLES * 200 * 4 + LENGTH / 2) / LENGTH");
        // 12.539, 12.5 and 12.461 quarters
        due(13, () -> x.edge(0, 0, 5, 319));
        due(13, () -> x.edge(0, 0, 5, 320));
        due(12, () -> x.edge(0, 0, 5, 321));
        // 87.5, 86.15 and 84.85
        due(88, () -> x.edge(0, 0, 7, 64));
        due(86, () -> x.edge(0, 0, 7, 65));
        due(85, () -> x.edge(0, 0, 7, 66));
        // 82.24, 149.33, 126.73 and 44.94
        due(82, () -> x.edge(0, 0, 11, 107));
        due(149, () -> x.edge(0, 0, 14, 75));
        due(127, () -> x.edge(0, 0, 16, 101));
        due(45, () -> x.edge(0, 0, 5, 89));
        // 75.47
        due(75, () -> x.edge(0, 0, 15, 159));
        // 57.97, 51.95, 96 and 81.16
        due(58, () -> x.edge(0, 0, 5, 69));
        due(52, () -> x.edge(0, 0, 5, 77));
        due(96, () -> x.edge(0, 0, 6, 50));
        due(81, () -> x.edge(0, 0, 7, 69));
        for (int length = 50; length <= 400; length++) {
            int l = length;
            due((9 * 800 + l / 2) / l, () -> x.edge(0, 2, 9, l));
        }
    }

    /** A LENGTH on which 10 HOLES are this GAUGE (20 to 160). */
    private static int lengthFor(int gauge) {
        for (int length = 50; length <= 400; length++) {
            if ((8000 + length / 2) / length == gauge) return length;
        }
        throw new IllegalStateException("no LENGTH has GAUGE " + gauge);
    }

    private static int holesBy(int above, int right, int below, int left) {
        PerfgaugeHouse x = house(2, 2);
        x.piece(1, 1, 0, false);
        int[] gauges = {above, right, below, left};
        for (int edge = 0; edge < 4; edge++) {
            int got = x.edge(0, edge, 10, lengthFor(gauges[edge]));
            if (got != gauges[edge]) throw new IllegalStateException(got + " is not " + gauges[edge]);
        }
        return x.holes(0);
    }

    private static void combs() {
        about("COMB, if all four are the same; LINE, if those of 0 and 2 are, and those of 1 and 3; DOUBTFUL otherwise");
        due(0, () -> holesBy(40, 40, 40, 40));
        due(1, () -> holesBy(40, 41, 40, 41));
        due(1, () -> holesBy(40, 39, 40, 39));
        due(1, () -> holesBy(40, 44, 40, 44));
        due(2, () -> holesBy(40, 40, 41, 41));
        due(2, () -> holesBy(40, 41, 41, 40));
        due(2, () -> holesBy(41, 40, 40, 40));
        due(2, () -> holesBy(40, 41, 40, 40));
        due(2, () -> holesBy(40, 40, 41, 40));
        due(2, () -> holesBy(40, 40, 40, 41));
        due(2, () -> holesBy(40, 41, 41, 42));
        about("CUT, if one EDGE differs from the one across by 2 quarters or more");
        due(6, () -> holesBy(42, 40, 40, 40));
        due(6, () -> holesBy(40, 42, 40, 40));
        due(6, () -> holesBy(40, 40, 42, 40));
        due(6, () -> holesBy(40, 40, 40, 42));
        due(6, () -> holesBy(40, 41, 43, 41));
        due(6, () -> holesBy(40, 39, 41, 37));
        due(6, () -> holesBy(39, 42, 40, 40));
        due(2, () -> holesBy(39, 41, 40, 40));
        due(6, () -> holesBy(30, 30, 90, 90));
        about("a PIECE of which not all four are told is none of these, nor CUT");
        for (int missing = 0; missing < 4; missing++) {
            PerfgaugeHouse x = house(2, 2);
            x.piece(1, 1, 0, false);
            int last = missing;
            for (int edge = 0; edge < 4; edge++) {
                if (edge != last) x.edge(0, edge, 10, lengthFor(40 + edge * 10));
            }
            due(-1, () -> x.holes(0));
            due(20, () -> x.value(0));
            x.edge(0, last, 10, lengthFor(40 + last * 10));
            due(6, () -> x.holes(0));
            due(6, () -> x.value(0));
        }
        about("at most one row of four for each PIECE: it is told anew");
        PerfgaugeHouse x = house(2, 2);
        x.piece(1, 1, 0, false);
        x.piece(1, 1, 0, false);
        for (int edge = 0; edge < 4; edge++) x.edge(0, edge, 20, 50);
        due(0, () -> x.holes(0));
        due(-1, () -> x.holes(1));
        due(10, () -> x.edge(0, 3, 5, 400));
        due(6, () -> x.holes(0));
        due(320, () -> x.edge(0, 3, 20, 50));
        due(0, () -> x.holes(0));
    }

    // ---- 3. Covers

    private static void ways() {
        PerfgaugeHouse x = bare();
        about("a ROAD of two different TOWNS takes some DAYS (1 to 9; none at first)");
        for (int one = 0; one < 6; one++) {
            for (int other = 0; other < 6; other++) {
                int a = one;
                int b = other;
                due(a == b ? 0 : -1, () -> x.way(a, b));
            }
        }
        due(1, () -> x.road(0, 5, 1));
        due(9, () -> x.road(5, 0, 9));
        due(9, () -> x.way(0, 5));
        due(ARGUMENT, () -> x.road(0, 5, 10));
        due(9, () -> x.way(5, 0));
        due(-1, () -> x.road(0, 5, 0));
        due(-1, () -> x.road(0, 5, 0));
        due(-1, () -> x.way(5, 0));
        about("WAY of two TOWNS: the fewest DAYS by ROADS (0 for the same one)");
        for (int town = 0; town < 5; town++) x.road(town, town + 1, 9);
        due(45, () -> x.way(0, 5));
        due(45, () -> x.way(5, 0));
        due(0, () -> x.way(5, 5));
        due(36, () -> x.way(4, 0));
        due(9, () -> x.road(0, 4, 9));
        due(18, () -> x.way(0, 5));
        due(18, () -> x.way(0, 2));
        due(36, () -> x.road(2, 3, 0));
        due(36, () -> x.way(2, 3));
        due(9, () -> x.way(4, 3));
        due(-1, () -> x.road(0, 4, 0));
        due(-1, () -> x.way(2, 3));
        due(18, () -> x.way(0, 2));
        due(-1, () -> x.way(0, 3));
        due(18, () -> x.way(3, 5));
    }

    /** A house with RATES of 10, 20, 30 for the DISTANCES 0, 1, 2, and a DIE of TOWN 0. */
    private static PerfgaugeHouse threeRates() {
        PerfgaugeHouse x = bare();
        for (int distance = 0; distance < 3; distance++) x.rate(0, distance, 4, 10 + 10 * distance);
        x.die(0, 0, 999);
        return x;
    }

    private static void distances() {
        about("DISTANCE is 0 for the same TOWN, 1 for a WAY of 3 or less, 2 otherwise");
        PerfgaugeHouse x = threeRates();
        x.cover(0, 0, 1, 0, 0);
        x.cover(0, 1, 1, 0, 0);
        x.cover(0, 2, 1, 0, 0);
        due(10, () -> x.ofCover(0, 2));
        due(30, () -> x.ofCover(1, 2));
        int[] prices = {20, 20, 20, 30, 30};
        for (int days = 1; days <= 5; days++) {
            int d = days;
            x.road(0, 1, d);
            due(prices[d - 1], () -> x.ofCover(1, 2));
        }
        x.road(0, 1, 1);
        x.road(1, 2, 2);
        due(20, () -> x.ofCover(2, 2));
        x.road(1, 2, 3);
        due(30, () -> x.ofCover(2, 2));
        x.road(1, 2, 0);
        due(30, () -> x.ofCover(2, 2));
        due(10, () -> x.ofCover(0, 2));
        about("DISTANCE of each two TOWNS");
        PerfgaugeHouse y = threeRates();
        y.road(0, 2, 4);
        y.road(0, 5, 3);
        y.road(1, 3, 3);
        y.road(3, 4, 1);
        int[] far = {10, 30, 30, 30, 30, 20, 30, 10, 30, 20, 30, 30, 30, 30, 10, 30, 30, 30,
            30, 20, 30, 10, 20, 30, 30, 30, 30, 20, 10, 30, 20, 30, 30, 30, 30, 10};
        for (int pair = 0; pair < 36; pair++) {
            if (pair % 12 == 0) y.plate(2, 2);
            int p = pair;
            int number = y.cover(p / 6, p % 6, 1, 0, 0);
            due(far[p], () -> y.ofCover(number, 2));
        }
    }

    private static void sixteenRates() {
        about("RATES: at most 16");
        PerfgaugeHouse x = bare();
        for (int rate = 0; rate < 15; rate++) {
            int number = rate;
            due(number, () -> x.rate(0, 0, 4, 50));
        }
        due(-1, () -> x.due(999, 2, 4));
        due(15, () -> x.rate(999, 2, 4, 99));
        due(99, () -> x.due(999, 2, 4));
        due(STATE, () -> x.rate(999, 2, 4, 1));
        due(99, () -> x.due(999, 2, 4));
        x.plate(2, 2);
        due(STATE, () -> x.rate(0, 0, 1, 1));
        about("a RATE FROM a DAY, for a DISTANCE (0 to 2) and a WEIGHT (1 to 4), with a PRICE (1 to 99)");
        PerfgaugeHouse y = bare();
        due(0, () -> y.rate(0, 0, 1, 1));
        due(1, () -> y.rate(999, 2, 4, 99));
        due(1, () -> y.due(0, 0, 1));
        due(99, () -> y.due(999, 2, 1));
        due(-1, () -> y.due(998, 2, 1));
        due(-1, () -> y.due(0, 0, 2));
        due(-1, () -> y.due(0, 1, 1));
    }

    private static void ratesThatApply() {
        about("RATES for that DISTANCE with a WEIGHT that is not below it, FROM that DAY or an earlier one");
        PerfgaugeHouse x = bare();
        due(-1, () -> x.due(0, 0, 1));
        x.rate(100, 1, 2, 7);
        due(-1, () -> x.due(99, 1, 2));
        due(7, () -> x.due(100, 1, 2));
        due(7, () -> x.due(999, 1, 2));
        due(7, () -> x.due(100, 1, 1));
        due(-1, () -> x.due(100, 1, 3));
        due(-1, () -> x.due(100, 0, 1));
        due(-1, () -> x.due(100, 2, 1));
        about("PRICE of that with the smallest WEIGHT, of several the latest FROM, of several the greatest number");
        x.rate(900, 1, 3, 8);
        due(7, () -> x.due(950, 1, 2));
        due(8, () -> x.due(950, 1, 3));
        x.rate(50, 1, 2, 9);
        due(7, () -> x.due(100, 1, 2));
        due(9, () -> x.due(99, 1, 2));
        x.rate(101, 1, 2, 10);
        due(7, () -> x.due(100, 1, 2));
        due(10, () -> x.due(101, 1, 2));
        x.rate(101, 1, 2, 11);
        due(11, () -> x.due(101, 1, 2));
        x.rate(101, 1, 2, 6);
        due(6, () -> x.due(101, 1, 2));
        x.rate(0, 1, 1, 99);
        due(99, () -> x.due(999, 1, 1));
        due(6, () -> x.due(999, 1, 2));
        x.rate(101, 1, 4, 1);
        due(6, () -> x.due(899, 1, 2));
        due(1, () -> x.due(899, 1, 3));
        due(8, () -> x.due(900, 1, 3));
    }

    private static void issuesAndDies() {
        about("ISSUES: at most 10, each of a VALUE (1 to 99)");
        PerfgaugeHouse x = bare();
        due(0, () -> x.issue(1, 0, 0));
        due(1, () -> x.issue(99, 999, 999));
        due(2, () -> x.issue(99, 0, 999));
        for (int issue = 3; issue < 10; issue++) {
            int number = issue;
            due(number, () -> x.issue(1, 5, 5));
        }
        due(STATE, () -> x.issue(1, 5, 5));
        due(0, () -> x.ofIssue(9, false));
        due(INDEX, () -> x.ofIssue(10, false));
        about("DIES: at most 10, each of a TOWN, from a DAY to a DAY");
        due(0, () -> x.die(0, 0, 0));
        due(1, () -> x.die(5, 999, 999));
        due(2, () -> x.die(3, 0, 999));
        for (int die = 3; die < 10; die++) {
            int number = die;
            due(number, () -> x.die(1, 7, 7));
        }
        due(STATE, () -> x.die(1, 7, 7));
        due(0, () -> x.cover(1, 1, 1, 9, 7));
        due(INDEX, () -> x.cover(1, 1, 1, 10, 7));
        x.plate(2, 2);
        due(STATE, () -> x.issue(1, 5, 5));
        due(STATE, () -> x.die(1, 7, 7));
    }

    private static void twelveCovers() {
        about("COVERS: at most 12");
        PerfgaugeHouse x = threeRates();
        for (int cover = 0; cover < 11; cover++) {
            int number = cover;
            due(number, () -> x.cover(0, 1, 1, 0, 5));
        }
        due(INDEX, () -> x.ofCover(11, 3));
        due(11, () -> x.cover(5, 0, 4, 0, 999));
        due(999, () -> x.ofCover(11, 3));
        due(STATE, () -> x.cover(0, 1, 1, 0, 5));
        due(INDEX, () -> x.ofCover(12, 3));
        about("ARRIVED as the WAY takes then (on the DAY that it shows, if there is none; also above 999)");
        PerfgaugeHouse y = threeRates();
        for (int town = 0; town < 4; town++) y.road(town, town + 1, 9);
        y.cover(0, 4, 1, 0, 999);
        y.cover(0, 5, 1, 0, 999);
        y.cover(2, 2, 1, 0, 999);
        y.cover(0, 1, 1, 0, 990);
        y.cover(0, 1, 1, 0, 991);
        y.cover(0, 4, 1, 0, 0);
        int[] days = {1035, 999, 999, 999, 1000, 36};
        for (int cover = 0; cover < 6; cover++) {
            int c = cover;
            due(days[c], () -> y.ofCover(c, 4));
        }
        y.road(4, 5, 9);
        due(1044, () -> { y.cover(0, 5, 1, 0, 999); return y.ofCover(6, 4); });
        due(0, () -> y.ofCover(6, 0) & 1 << 6);
        due(999, () -> y.ofCover(1, 4));
        due(1 << 6, () -> y.ofCover(1, 0) & 1 << 6);
        due(1044, () -> y.arrive(6, 999, false));
        due(999, () -> y.arrive(6, 0, false));
        due(0, () -> y.ofCover(6, 4));
        about("of each ISSUE how many (0 to 4), of a weight (1 to 4)");
        y.issue(99, 0, 999);
        due(0, () -> y.ofCover(0, 5));
        due(396, () -> y.stick(0, 0, 4));
        due(4, () -> y.ofCover(0, 5));
        due(ARGUMENT, () -> y.stick(0, 0, 5));
        due(396, () -> y.ofCover(0, 1));
        due(0, () -> y.stick(0, 0, 0));
        due(0, () -> y.ofCover(0, 5));
        for (int i = 1; i < 10; i++) y.issue(99, 0, 999);
        for (int i = 0; i < 10; i++) y.stick(0, i, 4);
        due(3960, () -> y.ofCover(0, 1));
        due(40, () -> y.ofCover(0, 5));
        due(1 << 5, () -> y.ofCover(0, 0));
        due(100, () -> y.ofIssue(0, true));
        due(100, () -> y.ofIssue(9, true));
        due(4, () -> y.ofIssue(9, false));
        y.rate(0, 2, 1, 5);
        y.rate(0, 2, 3, 6);
        for (int weight = 1; weight <= 4; weight++) {
            int number = 6 + weight;
            y.cover(0, 5, weight, 0, 0);
            due(weight == 1 ? 5 : weight == 4 ? 30 : 6, () -> y.ofCover(number, 2));
        }
    }

    /** A COVER without a FAULT: from 0 to 1 by 2 DAYS, on DAY 150, with a DIE and an ISSUE of 100 to 200; PRICE 10. */
    private static PerfgaugeHouse faultless() {
        PerfgaugeHouse x = bare();
        x.road(0, 1, 2);
        x.rate(0, 1, 4, 10);
        x.die(0, 100, 200);
        x.die(0, 0, 999);
        x.die(1, 0, 999);
        x.issue(10, 100, 200);
        x.issue(10, 0, 999);
        x.issue(9, 0, 999);
        x.issue(11, 0, 999);
        x.issue(1, 0, 999);
        x.cover(0, 1, 1, 0, 150);
        x.stick(0, 0, 1);
        return x;
    }

    private static int faults(PerfgaugeHouse x, int to, int die, int day, int issue) {
        int number = x.cover(0, to, 1, die, day);
        x.stick(number, issue, 1);
        return x.ofCover(number, 0) * 2 + x.ofCover(number, 6);
    }

    private static void dieFaults() {
        about("FAULT 0: the DIE is not of the TOWN from which it went");
        PerfgaugeHouse x = faultless();
        due(0, () -> x.ofCover(0, 0));
        due(0, () -> x.ofCover(0, 6));
        due(0, () -> faults(x, 1, 1, 150, 0));
        due(1 * 2 + 1, () -> faults(x, 1, 2, 150, 0));
        about("FAULT 1: the DAY that it shows is not one of the DIE");
        due(2 * 2 + 1, () -> faults(x, 1, 0, 99, 1));
        due(0, () -> faults(x, 1, 0, 100, 1));
        due(0, () -> faults(x, 1, 0, 200, 1));
        due(2 * 2 + 1, () -> faults(x, 1, 0, 201, 1));
    }

    private static void stampFaults() {
        about("FAULT 2: a stamp came out later than that DAY");
        PerfgaugeHouse x = faultless();
        due(4 * 2 + 1, () -> faults(x, 1, 1, 99, 0));
        due(0, () -> faults(x, 1, 1, 100, 0));
        about("FAULT 3: a stamp was not good any more (it is not IMPOSSIBLE)");
        due(0, () -> faults(x, 1, 1, 200, 0));
        due(8 * 2, () -> faults(x, 1, 1, 201, 0));
        about("FAULTS 2 and 3 are of stamps that are on it");
        x.stick(1, 0, 0);
        due(16, () -> x.ofCover(1, 0));
        x.stick(4, 0, 0);
        due(16, () -> x.ofCover(4, 0));
        x.stick(4, 0, 4);
        due(8 + 32, () -> x.ofCover(4, 0));
    }

    private static void paidFaults() {
        about("FAULT 4: PAID is less than what had to be paid (not, if it is TAXED); 5: PAID is more");
        PerfgaugeHouse x = faultless();
        due(0, () -> faults(x, 1, 1, 150, 1));
        due(16 * 2, () -> faults(x, 1, 1, 150, 2));
        due(32 * 2, () -> faults(x, 1, 1, 150, 3));
        due(10, () -> x.ofCover(1, 1));
        due(9, () -> x.ofCover(2, 1));
        due(11, () -> x.ofCover(3, 1));
        x.arrive(1, 152, true);
        x.arrive(2, 152, true);
        x.arrive(3, 152, true);
        due(0, () -> x.ofCover(1, 0));
        due(0, () -> x.ofCover(2, 0));
        due(32, () -> x.ofCover(3, 0));
        due(152, () -> x.arrive(2, 152, false));
        due(16, () -> x.ofCover(2, 0));
        x.stick(2, 4, 1);
        due(0, () -> x.ofCover(2, 0));
        x.stick(2, 4, 2);
        due(32, () -> x.ofCover(2, 0));
        x.cover(0, 1, 1, 1, 150);
        due(0, () -> x.ofCover(4, 1));
        due(16, () -> x.ofCover(4, 0));
        about("what had to be paid is asked on the DAY that it shows");
        x.rate(151, 1, 4, 9);
        due(10, () -> x.ofCover(1, 2));
        due(0, () -> faults(x, 1, 1, 151, 2));
        x.rate(150, 1, 4, 9);
        due(9, () -> x.ofCover(1, 2));
        due(32, () -> x.ofCover(1, 0));
        due(0, () -> faults(x, 1, 1, 149, 1));
        about("FAULT 7: there was no RATE (4 and 5 are not asked then)");
        due(128 * 2, () -> faults(x, 0, 1, 150, 1));
        x.cover(0, 0, 1, 1, 150);
        due(128, () -> x.ofCover(8, 0));
        due(0, () -> x.ofCover(8, 6));
        due(-1, () -> x.ofCover(8, 2));
    }

    private static void wayFaults() {
        about("FAULT 6: there is no WAY, or it ARRIVED earlier than that DAY and WAY together");
        PerfgaugeHouse x = faultless();
        due(152, () -> x.arrive(0, 151, false));
        due(64, () -> x.ofCover(0, 0));
        due(1, () -> x.ofCover(0, 6));
        x.arrive(0, 152, false);
        due(0, () -> x.ofCover(0, 0));
        x.arrive(0, 999, false);
        due(0, () -> x.ofCover(0, 0));
        x.arrive(0, 152, false);
        x.road(0, 1, 3);
        due(64, () -> x.ofCover(0, 0));
        x.road(0, 1, 1);
        due(0, () -> x.ofCover(0, 0));
        x.road(0, 1, 0);
        due(64 + 128, () -> x.ofCover(0, 0));
        x.rate(150, 2, 1, 10);
        due(64, () -> x.ofCover(0, 0));
        x.arrive(0, 999, true);
        due(64, () -> x.ofCover(0, 0));
        about("by ROADS as they are now");
        x.road(0, 1, 4);
        due(0, () -> x.ofCover(0, 0));
        about("WAY is 0 for the same TOWN");
        PerfgaugeHouse y = faultless();
        y.rate(0, 0, 4, 10);
        due(0, () -> faults(y, 0, 1, 150, 1));
        due(150, () -> y.arrive(1, 149, false));
        due(64, () -> y.ofCover(1, 0));
        due(149, () -> y.arrive(1, 150, false));
        due(0, () -> y.ofCover(1, 0));
        about("ARRIVED on a DAY of 999 at most, for a COVER of a late DAY");
        due(0, () -> faults(y, 1, 1, 998, 1));
        due(1000, () -> y.arrive(2, 999, false));
        due(64, () -> y.ofCover(2, 0));
    }

    private static void wears() {
        about("WEAR of a DIE (0 at first): how many COVERS show it that are not IMPOSSIBLE");
        PerfgaugeHouse x = faultless();
        due(1, () -> x.ofCover(0, 7));
        x.arrive(0, 151, false);
        due(0, () -> x.ofCover(0, 7));
        x.cover(0, 1, 1, 0, 100);
        due(1, () -> x.ofCover(0, 7));
        x.cover(0, 1, 1, 1, 100);
        due(1, () -> x.ofCover(0, 7));
        due(1, () -> x.ofCover(2, 7));
        for (int i = 3; i < 12; i++) x.cover(0, 1, 1, 0, 200);
        due(10, () -> x.ofCover(0, 7));
        x.arrive(0, 152, false);
        due(11, () -> x.ofCover(0, 7));
        due(11, () -> x.ofCover(11, 7));
        x.road(0, 1, 3);
        due(0, () -> x.ofCover(11, 7));
        due(true, () -> x.isSound());
    }

    private static void frankings() {
        about("the fewest stamps of ISSUES that came out by the DAY that it shows, and were good then");
        PerfgaugeHouse x = bare();
        x.die(0, 0, 999);
        x.rate(0, 0, 1, 99);
        x.cover(0, 0, 1, 0, 500);
        due(-1, () -> x.franking(0));
        x.issue(1, 501, 999);
        x.issue(1, 0, 499);
        due(-1, () -> x.franking(0));
        x.issue(1, 500, 500);
        due(99, () -> x.franking(0));
        x.issue(50, 0, 500);
        due(50, () -> x.franking(0));
        x.issue(49, 500, 999);
        due(2, () -> x.franking(0));
        x.issue(99, 499, 501);
        due(1, () -> x.franking(0));
        about("by which just what has to be paid would be PAID (of an ISSUE as many as one likes)");
        x.rate(1, 0, 1, 98);
        due(2, () -> x.franking(0));
        x.rate(2, 0, 1, 5);
        due(5, () -> x.franking(0));
        x.issue(4, 0, 999);
        x.issue(3, 0, 999);
        x.rate(3, 0, 1, 6);
        due(2, () -> x.franking(0));
        x.rate(4, 0, 1, 1);
        due(1, () -> x.franking(0));
        about("NONE, if it cannot be, or there is no RATE");
        x.rate(5, 0, 1, 2);
        due(2, () -> x.franking(0));
        x.cover(0, 0, 2, 0, 500);
        due(-1, () -> x.franking(1));
        due(-1, () -> x.ofCover(1, 2));
        PerfgaugeHouse y = bare();
        y.die(0, 0, 999);
        y.issue(2, 0, 999);
        y.rate(0, 0, 1, 1);
        y.rate(9, 0, 1, 3);
        y.cover(0, 0, 1, 0, 0);
        y.cover(0, 0, 1, 0, 9);
        due(-1, () -> y.franking(0));
        due(-1, () -> y.franking(1));
        y.issue(1, 9, 9);
        due(-1, () -> y.franking(0));
        due(2, () -> y.franking(1));
    }

    private static void scarcities() {
        about("SCARCITY: in thousandths of all stamps on COVERS that are not IMPOSSIBLE (0 without any)");
        PerfgaugeHouse x = faultless();
        due(1000, () -> x.ofIssue(0, true));
        due(0, () -> x.ofIssue(1, true));
        x.stick(0, 1, 2);
        due(333, () -> x.ofIssue(0, true));
        due(666, () -> x.ofIssue(1, true));
        x.stick(0, 2, 4);
        due(142, () -> x.ofIssue(0, true));
        due(285, () -> x.ofIssue(1, true));
        due(571, () -> x.ofIssue(2, true));
        x.arrive(0, 151, false);
        due(0, () -> x.ofIssue(0, true));
        due(1, () -> x.ofIssue(0, false));
        due(4, () -> x.ofIssue(2, false));
        x.cover(0, 1, 1, 0, 150);
        due(0, () -> x.ofIssue(0, true));
        x.stick(1, 3, 1);
        due(1000, () -> x.ofIssue(3, true));
        due(0, () -> x.ofIssue(0, true));
        for (int cover = 2; cover < 12; cover++) {
            x.cover(0, 1, 1, 1, 150);
            x.stick(cover, 3, 4);
        }
        due(41, () -> x.ofIssue(3, false));
        due(1000, () -> x.ofIssue(3, true));
        x.stick(2, 4, 1);
        due(976, () -> x.ofIssue(3, true));
        due(23, () -> x.ofIssue(4, true));
    }

    // ---- 4. Hands and opinions

    private static void fiveHands() {
        about("HANDS: at most 5");
        PerfgaugeHouse x = house(2, 2);
        x.piece(1, 1, 0, false);
        due(INDEX, () -> x.hand(1, 0, 0));
        for (int hand = 0; hand < 4; hand++) {
            int number = hand;
            due(number + 1, () -> x.hand(number, 0, 0));
        }
        due(INDEX, () -> x.weight(0, 4));
        due(INDEX, () -> x.hand(5, 0, 0));
        due(5, () -> x.hand(4, 7, 16));
        due(STATE, () -> x.hand(5, 7, 16));
        due(INDEX, () -> x.hand(6, 7, 16));
        due(5, () -> x.hand(4, 7, 16));
        due(1L, () -> x.weight(0, 4));
        x.plate(2, 2);
        due(STATE, () -> x.hand(5, 7, 16));
        about("of each for each HABIT how often it was found in 16 of its works (0 to 16; 8 at first)");
        x.piece(1, 1, 0, false);
        for (int habit = 0; habit < 8; habit++) {
            int h = habit;
            due(2, () -> x.mark(0, h, 1));
            due(h == 7 ? 17L : 9L, () -> x.weight(0, 4));
            due(h == 0 ? 1L : 9L, () -> x.weight(0, 0));
            due(1, () -> x.mark(0, h, 0));
            due(h == 7 ? 1L : 9L, () -> x.weight(0, 4));
            due(h == 0 ? 17L : 9L, () -> x.weight(0, 0));
            due(0, () -> x.mark(0, h, 2));
            due(1L, () -> x.weight(0, 4));
        }
    }

    private static void weights() {
        about("WEIGHT: 1 and how often it was found, if the MARK is 1; 17 less how often, if it is 0 (as a long)");
        PerfgaugeHouse x = house(2, 2);
        x.piece(1, 1, 0, false);
        due(1L, () -> x.weight(0, -1));
        due(INDEX, () -> x.weight(0, -2));
        due(INDEX, () -> x.weight(0, 0));
        x.hand(0, 0, 0);
        due(INDEX, () -> x.weight(0, 1));
        due(1L, () -> x.weight(0, 0));
        x.mark(0, 0, 1);
        int[] often = {0, 1, 15, 16};
        for (int times : often) {
            x.hand(0, 0, times);
            due(1L + times, () -> x.weight(0, 0));
        }
        x.mark(0, 0, 0);
        for (int times : often) {
            x.hand(0, 0, times);
            due(17L - times, () -> x.weight(0, 0));
        }
        x.mark(0, 0, 2);
        due(1L, () -> x.weight(0, 0));
        about("the greatest WEIGHT, and that of an honest one");
        long most = 1;
        long honest = 1;
        for (int habit = 0; habit < 8; habit++) {
            x.hand(0, habit, habit % 2 == 0 ? 16 : 0);
            x.mark(0, habit, habit % 2 == 0 ? 1 : 0);
            most *= 17;
            honest *= 9;
            long m = most;
            long h = honest;
            due(m, () -> x.weight(0, 0));
            due(h, () -> x.weight(0, -1));
        }
        due(6975757441L, () -> x.weight(0, 0));
        due(43046721L, () -> x.weight(0, -1));
        due(0, () -> x.likely(0));
    }

    private static void likelyHands() {
        about("the LIKELY hand: the greatest WEIGHT, if that is greater than that of an honest one; NONE otherwise");
        PerfgaugeHouse x = house(2, 2);
        x.piece(1, 1, 0, false);
        due(-1, () -> x.likely(0));
        x.hand(0, 0, 8);
        due(-1, () -> x.likely(0));
        x.mark(0, 0, 1);
        due(-1, () -> x.likely(0));
        x.hand(0, 0, 9);
        due(0, () -> x.likely(0));
        x.hand(0, 0, 7);
        due(-1, () -> x.likely(0));
        x.mark(0, 0, 0);
        due(0, () -> x.likely(0));
        x.hand(1, 0, 7);
        due(0, () -> x.likely(0));
        x.hand(1, 0, 6);
        due(1, () -> x.likely(0));
        for (int hand = 2; hand < 5; hand++) x.hand(hand, 0, 6);
        due(1, () -> x.likely(0));
        x.hand(4, 0, 5);
        due(4, () -> x.likely(0));
        x.hand(0, 0, 5);
        due(0, () -> x.likely(0));
        // Greater than an int: 17 to the power of 8.
        for (int habit = 0; habit < 8; habit++) {
            x.mark(0, habit, 1);
            x.hand(3, habit, 16);
        }
        due(3, () -> x.likely(0));
    }

    private static void twentyOpinions() {
        about("OPINIONS: at most 20, each of one of EXPERTS (0 to 4)");
        PerfgaugeHouse x = house(2, 2);
        x.piece(1, 1, 0, false);
        for (int opinion = 0; opinion < 19; opinion++) {
            int number = opinion;
            due(number, () -> x.opine(0, number % 5, true));
        }
        due(25, () -> x.standing(0, 0));
        due(19, () -> x.opine(0, 4, false));
        due(15, () -> x.standing(0, 0));
        due(STATE, () -> x.opine(0, 3, false));
        due(15, () -> x.standing(0, 0));
        x.pass(400);
        due(STATE, () -> x.opine(0, 0, true));
        x.plate(2, 2);
        x.piece(1, 1, 0, false);
        due(0, () -> x.standing(0, 0));
        due(0, () -> x.opine(0, 0, true));
        due(5, () -> x.standing(0, 400));
        due(0, () -> x.standing(0, 399));
    }

    private static void oldOpinions() {
        about("it HOLDS on a DAY, if it is of that DAY or an earlier one, no more than 300 DAYS old");
        PerfgaugeHouse x = house(2, 2);
        x.piece(1, 1, 0, false);
        x.pass(100);
        x.opine(0, 0, true);
        due(0, () -> x.standing(0, 0));
        due(0, () -> x.standing(0, 99));
        due(5, () -> x.standing(0, 100));
        due(5, () -> x.standing(0, 101));
        due(5, () -> x.standing(0, 400));
        due(0, () -> x.standing(0, 401));
        due(0, () -> x.standing(0, 999));
        about("300 DAYS old TODAY, and 301");
        PerfgaugeHouse y = house(2, 2);
        y.piece(1, 1, 0, false);
        y.piece(1, 1, 0, false);
        for (int piece = 0; piece < 2; piece++) {
            y.opine(piece, 0, false);
            y.item(false, piece, 0);
            y.bid(0, 1 << piece, 7);
        }
        due(0, () -> y.value(0));
        due(0, () -> y.ofSale(5));
        y.pass(300);
        due(0, () -> y.value(0));
        due(0, () -> y.ofSale(5));
        due(1, () -> y.truth(0, false));
        due(6, () -> y.trust(0));
        y.pass(1);
        due(20, () -> y.value(0));
        due(2, () -> y.ofSale(5));
        due(0, () -> y.truth(1, false));
        due(6, () -> y.trust(0));
    }

    private static void laterOpinions() {
        about("and the same EXPERT has none of a later DAY (no later than that one), for that PIECE");
        PerfgaugeHouse x = house(2, 2);
        x.piece(1, 1, 0, false);
        x.piece(1, 1, 0, false);
        x.pass(10);
        x.opine(0, 2, true);
        x.pass(10);
        x.opine(0, 2, false);
        due(0, () -> x.standing(0, 9));
        due(5, () -> x.standing(0, 10));
        due(5, () -> x.standing(0, 19));
        due(-5, () -> x.standing(0, 20));
        due(-5, () -> x.standing(0, 320));
        due(0, () -> x.standing(0, 321));
        about("or with a greater number of the same DAY");
        x.opine(0, 2, true);
        due(5, () -> x.standing(0, 20));
        due(5, () -> x.standing(0, 19));
        x.opine(0, 2, false);
        due(-5, () -> x.standing(0, 20));
        about("those of another EXPERT, or for another PIECE, do not count for that");
        x.opine(1, 2, true);
        x.opine(0, 3, true);
        due(0, () -> x.standing(0, 20));
        due(5, () -> x.standing(1, 20));
        x.pass(1);
        x.opine(1, 2, false);
        due(0, () -> x.standing(0, 21));
        due(-5, () -> x.standing(1, 21));
        due(5, () -> x.standing(1, 20));
    }

    private static void badPieces() {
        about("it is BAD, if STANDING is below 0");
        PerfgaugeHouse x = house(2, 2);
        x.piece(1, 1, 0, false);
        x.piece(1, 1, 1, false);
        x.item(false, 0, 0);
        x.bid(0, 1, 1);
        x.opine(0, 0, true);
        x.opine(0, 1, false);
        due(0, () -> x.standing(0, 0));
        due(20, () -> x.value(0));
        due(1, () -> x.ofSale(5));
        // One that was right is trusted by 1 more.
        x.opine(1, 0, true);
        due(1, () -> x.truth(1, true));
        due(1, () -> x.standing(0, 0));
        due(20, () -> x.value(0));
        x.opine(0, 0, false);
        x.opine(0, 1, true);
        due(-1, () -> x.standing(0, 0));
        due(0, () -> x.value(0));
        due(0, () -> x.ofSale(5));
        due(20, () -> x.frame(1, false));
        due(2, () -> x.frame(1, true));
    }

    private static void trusts() {
        about("TRUST (0 to 9; 5 at first): 1 more, if that was so, otherwise 2 less (0 at least, 9 at most)");
        PerfgaugeHouse x = house(2, 2);
        for (int expert = 0; expert < 5; expert++) {
            int e = expert;
            due(5, () -> x.trust(e));
        }
        int[] rising = {6, 7, 8, 9, 9, 9};
        int[] falling = {3, 1, 0, 0, 0, 0};
        for (int i = 0; i < 6; i++) {
            int piece = i;
            x.piece(1, 1, piece / 3, false);
            x.opine(piece, 0, piece % 2 == 0);
            x.opine(piece, 4, piece % 2 != 0);
            due(1, () -> x.truth(piece, piece % 2 == 0));
            due(rising[piece], () -> x.trust(0));
            due(falling[piece], () -> x.trust(4));
            due(5, () -> x.trust(1));
        }
        about("2 less of 9; 1 more of 0");
        x.piece(1, 1, 2, false);
        x.opine(6, 0, false);
        x.opine(6, 4, true);
        due(1, () -> x.truth(6, true));
        due(7, () -> x.trust(0));
        due(1, () -> x.trust(4));
        x.piece(1, 1, 2, false);
        x.opine(7, 4, true);
        due(0, () -> x.truth(7, false));
        due(0, () -> x.trust(4));
        about("TRUST of 0 adds nothing to STANDING");
        due(0, () -> x.standing(7, 0));
        due(-7, () -> x.standing(6, 0));
        about("the truth is told once for each, right or not, by whoever");
        due(STATE, () -> x.truth(6, false));
        x.piece(1, 1, 2, false);
        due(0, () -> x.truth(8, true));
        due(STATE, () -> x.truth(8, true));
        x.piece(1, 1, 3, false);
        for (int expert = 0; expert < 5; expert++) x.opine(9, expert, true);
        due(5, () -> x.truth(9, true));
        due(1, () -> x.trust(4));
        due(8, () -> x.trust(0));
        due(6, () -> x.trust(3));
    }

    // ---- 5. Sales

    private static void eightItems() {
        about("ITEMS of a sale: at most 8, each of a PIECE or a COVER (each in one ITEM at most)");
        PerfgaugeHouse x = house(2, 2);
        x.die(0, 0, 999);
        for (int i = 0; i < 5; i++) {
            x.piece(1, 1, i / 3, false);
            x.cover(0, 0, 1, 0, 0);
        }
        for (int i = 0; i < 7; i++) {
            int number = i;
            due(number, () -> x.item(number >= 4, number % 4, 0));
            due(STATE, () -> x.item(number >= 4, number % 4, 0));
        }
        due(ARGUMENT, () -> x.bid(0, 128, 1));
        due(7, () -> x.item(false, 4, 0));
        due(0, () -> x.bid(0, 128, 1));
        due(1, () -> x.bid(0, 255, 1));
        due(ARGUMENT, () -> x.bid(0, 256, 1));
        due(STATE, () -> x.item(true, 4, 0));
        due(8, () -> x.ofSale(6));
        due(1, () -> x.alone(7, false));
        due(INDEX, () -> x.alone(8, false));
        about("a RESERVE (0 to 9999)");
        PerfgaugeHouse y = house(2, 2);
        y.piece(1, 1, 0, false);
        y.piece(1, 1, 0, false);
        due(ARGUMENT, () -> y.item(false, 0, -1));
        due(ARGUMENT, () -> y.item(false, 0, 10000));
        due(0, () -> y.item(false, 0, 9999));
        due(1, () -> y.item(false, 1, 0));
        y.bid(0, 1, 9998);
        due(0, () -> y.ofSale(5));
        y.bid(0, 1, 9999);
        due(1, () -> y.ofSale(5));
        due(9999, () -> y.ofSale(0));
        due(9999, () -> y.alone(0, false));
        y.bid(0, 3, 9999);
        due(2, () -> y.ofSale(5));
    }

    private static void fortyBids() {
        about("BIDS: at most 40, each of a BIDDER (0 to 9), of an AMOUNT (1 to 9999)");
        PerfgaugeHouse x = house(2, 2);
        x.piece(1, 1, 0, false);
        x.item(false, 0, 0);
        for (int bid = 0; bid < 39; bid++) {
            int number = bid;
            due(number, () -> x.bid(number % 10, 1, 1 + number));
        }
        due(39, () -> x.ofSale(5));
        due(38, () -> x.ofSale(3));
        due(39, () -> x.bid(9, 1, 9999));
        due(40, () -> x.ofSale(5));
        due(39, () -> x.ofSale(3));
        due(9999, () -> x.ofSale(0));
        due(STATE, () -> x.bid(0, 1, 9999));
        due(9999, () -> x.ofSale(0));
        due(9, () -> x.alone(0, true));
        x.plate(2, 2);
        x.piece(1, 1, 0, false);
        x.item(false, 0, 0);
        due(0, () -> x.bid(9, 1, 1));
        due(1, () -> x.ofSale(0));
        due(ARGUMENT, () -> x.bid(9, 1, 0));
        due(ARGUMENT, () -> x.bid(9, 1, 10000));
        due(ARGUMENT, () -> x.bid(10, 1, 1));
        due(ARGUMENT, () -> x.bid(-1, 1, 1));
        due(1, () -> x.bid(0, 1, 9999));
        due(0, () -> x.alone(0, true));
    }

    /** So many ITEMS of PIECES, each with this RESERVE. */
    private static PerfgaugeHouse auction(int items, int reserve) {
        PerfgaugeHouse x = house(3, 3);
        for (int i = 0; i < items; i++) {
            x.piece(1, 1, i / 3, false);
            x.item(false, i, reserve);
        }
        return x;
    }

    private static void countingBids() {
        about("a BID counts, if AMOUNT is no less than RESERVES of its ITEMS together");
        PerfgaugeHouse x = auction(3, 10);
        x.bid(0, 1, 9);
        due(0, () -> x.ofSale(5));
        x.bid(0, 1, 10);
        due(1, () -> x.ofSale(5));
        x.bid(0, 6, 19);
        due(1, () -> x.ofSale(5));
        x.bid(0, 6, 20);
        due(2, () -> x.ofSale(5));
        x.bid(0, 7, 29);
        due(2, () -> x.ofSale(5));
        x.bid(0, 7, 30);
        due(3, () -> x.ofSale(5));
        about("and none of its ITEMS is of a PIECE that is BAD TODAY");
        x.opine(1, 0, false);
        due(1, () -> x.ofSale(5));
        due(10, () -> x.ofSale(0));
        x.opine(1, 1, true);
        due(3, () -> x.ofSale(5));
        about("or of a COVER that is IMPOSSIBLE");
        PerfgaugeHouse y = faultless();
        y.plate(2, 2);
        y.piece(1, 1, 0, false);
        y.cover(0, 1, 1, 0, 150);
        y.item(true, 0, 0);
        y.item(false, 0, 0);
        y.bid(0, 1, 5);
        y.bid(0, 2, 5);
        y.bid(0, 3, 11);
        due(3, () -> y.ofSale(5));
        due(11, () -> y.ofSale(0));
        y.arrive(0, 151, false);
        due(1, () -> y.ofSale(5));
        due(5, () -> y.ofSale(0));
        due(2, () -> y.ofSale(2));
        due(-1, () -> y.alone(0, false));
        due(1, () -> y.alone(1, false));
        y.road(0, 1, 1);
        due(3, () -> y.ofSale(5));
        y.stick(0, 0, 4);
        due(3, () -> y.ofSale(5));
        y.opine(0, 4, false);
        due(1, () -> y.ofSale(5));
        due(1, () -> y.ofSale(2));
    }

    private static void sales() {
        about("the SALE without ITEMS, and without BIDS");
        int[] nothing = {0, 0, 0, -1, 0, 0, 0};
        for (int what = 0; what < 7; what++) {
            int w = what;
            due(nothing[w], () -> bare().ofSale(w));
            due(w == 6 ? 2 : nothing[w], () -> auction(2, 0).ofSale(w));
        }
        about("AMOUNTS are together the most (a BIDDER can have several)");
        PerfgaugeHouse x = auction(2, 0);
        x.bid(3, 3, 10);
        x.bid(3, 1, 5);
        x.bid(3, 2, 4);
        due(10, () -> x.ofSale(0));
        due(1, () -> x.ofSale(1));
        x.bid(3, 2, 6);
        due(11, () -> x.ofSale(0));
        due(2, () -> x.ofSale(1));
        due(1, () -> x.ofSale(3));
        due(3, () -> x.ofSale(2));
        about("of several such choices that with the fewest BIDS");
        PerfgaugeHouse y = auction(2, 0);
        y.bid(0, 1, 5);
        y.bid(0, 2, 5);
        due(2, () -> y.ofSale(1));
        y.bid(0, 3, 10);
        due(10, () -> y.ofSale(0));
        due(1, () -> y.ofSale(1));
        due(2, () -> y.ofSale(3));
        about("and of several that which has, at the smallest number in which they differ, that BID");
        PerfgaugeHouse z = auction(4, 0);
        z.bid(0, 2, 5);
        z.bid(1, 1, 5);
        z.bid(2, 1, 5);
        z.bid(3, 2, 5);
        due(0, () -> z.ofSale(3));
        due(2, () -> z.ofSale(1));
        z.bid(4, 4, 7);
        z.bid(5, 8, 7);
        due(15, () -> z.ofSale(2));
        due(24, () -> z.ofSale(0));
        PerfgaugeHouse pairs = auction(4, 0);
        pairs.bid(0, 3, 10);
        pairs.bid(1, 5, 10);
        pairs.bid(2, 9, 11);
        pairs.bid(3, 6, 9);
        pairs.bid(4, 10, 10);
        pairs.bid(5, 12, 10);
        // {0, 5}, {1, 4} and {2, 3} are 20 each.
        due(20, () -> pairs.ofSale(0));
        due(2, () -> pairs.ofSale(1));
        due(0, () -> pairs.ofSale(3));
        about("SOLD are the ITEMS in it: not all, if nobody wants them");
        PerfgaugeHouse some = auction(8, 0);
        some.bid(0, 128, 1);
        some.bid(0, 1, 1);
        due(129, () -> some.ofSale(2));
        due(2, () -> some.ofSale(0));
        some.bid(0, 255, 2);
        due(255, () -> some.ofSale(2));
        due(1, () -> some.ofSale(1));
        due(2, () -> some.ofSale(3));
        about("the last of 40 BIDS can be in it, also with BIDS ahead");
        PerfgaugeHouse full = auction(8, 0);
        for (int bid = 0; bid < 39; bid++) full.bid(bid % 10, 1 << bid % 7, 1);
        full.bid(0, 128, 9999);
        due(10006, () -> full.ofSale(0));
        due(8, () -> full.ofSale(1));
        due(0, () -> full.ofSale(3));
        PerfgaugeHouse greatest = auction(8, 0);
        for (int item = 0; item < 8; item++) greatest.bid(item, 1 << item, 9999);
        due(79992, () -> greatest.ofSale(0));
        due(8, () -> greatest.ofSale(1));
        due(79984, () -> greatest.ofSale(4));
    }

    private static void salesAskedBetween() {
        about("the SALE is that of the ITEMS and BIDS that there are, whatever was asked before");
        PerfgaugeHouse x = auction(1, 0);
        x.bid(0, 1, 7);
        due(7, () -> x.ofSale(0));
        x.piece(1, 1, 0, false);
        x.item(false, 1, 0);
        due(7, () -> x.ofSale(0));
        due(1, () -> x.ofSale(2));
        x.bid(0, 2, 5);
        due(12, () -> x.ofSale(0));
        due(2, () -> x.ofSale(1));
        x.bid(1, 3, 12);
        due(1, () -> x.ofSale(1));
        x.opine(0, 0, false);
        due(5, () -> x.ofSale(0));
        due(1, () -> x.ofSale(1));
        due(1, () -> x.ofSale(3));
        x.opine(0, 0, true);
        due(12, () -> x.ofSale(0));
        due(2, () -> x.ofSale(3));
        x.plate(2, 2);
        due(0, () -> x.ofSale(0));
        due(-1, () -> x.ofSale(3));
        due(0, () -> x.ofSale(4));
        x.piece(1, 1, 0, false);
        x.item(false, 0, 0);
        due(-1, () -> x.alone(0, true));
        x.bid(2, 1, 3);
        due(true, () -> x.isSound());
        due(2, () -> x.alone(0, true));
        due(3, () -> x.ofSale(0));
        about("isSound() is asked of the SALE as it is now");
        PerfgaugeHouse y = auction(1, 0);
        y.bid(0, 1, 500);
        y.bid(1, 1, 500);
        due(0, () -> y.ofSale(4));
        y.opine(0, 0, false);
        due(true, () -> y.isSound());
        y.pass(301);
        due(true, () -> y.isSound());
        y.bid(2, 1, 9999);
        y.bid(3, 1, 9998);
        due(true, () -> y.isSound());
        due(0, () -> y.ofSale(4));
    }

    /** What one pays, who bids 9999, if another one bids this. */
    private static int paidOver(int amount) {
        PerfgaugeHouse x = auction(1, 0);
        x.bid(0, 1, 9999);
        x.bid(1, 1, amount);
        return x.alone(0, false);
    }

    private static void steps() {
        about("STEP of an AMOUNT: 1 below 20, 5 below 100, 10 below 500, 50 from then on");
        int[][] paid = {{1, 2}, {2, 3}, {18, 19}, {19, 20}, {20, 25}, {21, 26}, {98, 103}, {99, 104}, {100, 110},
            {101, 111}, {498, 508}, {499, 509}, {500, 550}, {501, 551}, {9948, 9998}, {9949, 9999}, {9950, 9999},
            {9998, 9999}, {9999, 9999}};
        for (int[] each : paid) due(each[1], () -> paidOver(each[0]));
        about("a STEP of that, together, but no more than its own AMOUNT");
        PerfgaugeHouse x = auction(1, 0);
        x.bid(0, 1, 104);
        x.bid(1, 1, 99);
        due(104, () -> x.alone(0, false));
        x.bid(0, 1, 109);
        x.bid(1, 1, 100);
        due(109, () -> x.alone(0, false));
        x.bid(0, 1, 110);
        due(110, () -> x.alone(0, false));
        x.bid(0, 1, 111);
        due(110, () -> x.alone(0, false));
    }

    private static void onesAlone() {
        about("the BIDDER with the greatest AMOUNT (of several the BID that came first)");
        PerfgaugeHouse x = auction(2, 0);
        due(-1, () -> x.alone(0, true));
        due(-1, () -> x.alone(0, false));
        x.bid(7, 1, 30);
        due(7, () -> x.alone(0, true));
        x.bid(2, 1, 30);
        due(7, () -> x.alone(0, true));
        due(30, () -> x.alone(0, false));
        x.bid(2, 1, 31);
        due(2, () -> x.alone(0, true));
        due(31, () -> x.alone(0, false));
        x.bid(2, 1, 99);
        due(35, () -> x.alone(0, false));
        about("the greatest AMOUNT that another BIDDER bid so");
        x.bid(2, 1, 98);
        due(35, () -> x.alone(0, false));
        about("by BIDS for just that ITEM that count");
        x.bid(3, 3, 500);
        due(2, () -> x.alone(0, true));
        due(35, () -> x.alone(0, false));
        due(-1, () -> x.alone(1, true));
        due(-1, () -> x.alone(1, false));
        about("without another one RESERVE (1 at least)");
        for (int reserve = 0; reserve < 4; reserve++) {
            PerfgaugeHouse y = auction(1, reserve);
            int pays = reserve == 0 ? 1 : reserve;
            y.bid(6, 1, 50);
            due(pays, () -> y.alone(0, false));
            y.bid(6, 1, 70);
            due(pays, () -> y.alone(0, false));
            due(6, () -> y.alone(0, true));
        }
        PerfgaugeHouse z = auction(1, 40);
        z.bid(0, 1, 39);
        due(-1, () -> z.alone(0, true));
        due(-1, () -> z.alone(0, false));
        z.bid(1, 1, 40);
        due(1, () -> z.alone(0, true));
        due(40, () -> z.alone(0, false));
        z.bid(2, 1, 60);
        due(45, () -> z.alone(0, false));
    }

    private static void gains() {
        about("GAIN of the SALE: its AMOUNTS less what ONE BY ONE gives (0 for an ITEM that nobody has)");
        PerfgaugeHouse x = auction(2, 0);
        due(0, () -> x.ofSale(4));
        x.bid(0, 3, 50);
        due(50, () -> x.ofSale(4));
        x.bid(1, 1, 30);
        due(49, () -> x.ofSale(4));
        x.bid(2, 1, 30);
        due(20, () -> x.ofSale(4));
        x.bid(3, 2, 20);
        due(19, () -> x.ofSale(4));
        x.bid(4, 2, 20);
        due(0, () -> x.ofSale(4));
        due(true, () -> x.isSound());
        PerfgaugeHouse least = auction(1, 0);
        least.bid(0, 1, 1);
        due(0, () -> least.ofSale(4));
        least.bid(1, 1, 1);
        due(0, () -> least.ofSale(4));
        due(1, () -> least.alone(0, false));
    }

    // ---- 6. Shades, values, frames

    private static void standards() {
        about("a SHADE is three numbers (0 to 99); a STANDARD of a PRINTING is a SHADE (none at first)");
        PerfgaugeHouse x = house(2, 2);
        x.piece(1, 1, 0, false);
        due(-1, () -> x.near(0, 0));
        due(-1, () -> x.near(0, 1));
        due(0, () -> x.near(0, 2));
        due(-1, () -> x.shade(0, 0, 0, 0, 0));
        due(-1, () -> x.shade(0, 99, 99, 99, 50));
        due(-1, () -> x.near(0, 0));
        due(-1, () -> x.near(0, 1));
        due(1, () -> x.standard(7, 0, 99, 0));
        due(7, () -> x.near(0, 0));
        // FADED by 50: 49, 99, 49.
        due(100, () -> x.near(0, 1));
        due(2, () -> x.standard(0, 99, 99, 99));
        due(0, () -> x.near(0, 0));
        due(0, () -> x.near(0, 1));
        due(2, () -> x.standard(0, 99, 0, 99));
        for (int printing = 1; printing < 7; printing++) {
            int p = printing;
            due(p + 2, () -> x.standard(p, 50, 50, 50));
            due(p + 2, () -> x.standard(p, 50, 50, 50));
        }
        due(8, () -> x.standard(7, 99, 99, 99));
        due(7, () -> x.near(0, 0));
        x.piece(1, 1, 0, false);
        due(-1, () -> x.near(1, 0));
        due(-1, () -> x.near(1, 1));
        due(0, () -> x.near(1, 2));
    }

    /** By how much a STANDARD of three numbers x, FADED by LIGHT, differs from a SHADE of three 0. */
    private static int faded(int number, int light) {
        PerfgaugeHouse x = house(2, 2);
        x.piece(1, 1, 0, false);
        x.standard(3, number, number, number);
        x.shade(0, 0, 0, 0, light);
        return x.near(0, 1);
    }

    private static void fadedShades() {
        about("FADED by LIGHT (0 to 50), each number x of a STANDARD becomes x + (99 - x) * LIGHT / 100");
        due(0, () -> faded(0, 0));
        due(0, () -> faded(0, 1));
        due(3 * 1, () -> faded(0, 2));
        due(3 * 48, () -> faded(0, 49));
        due(3 * 49, () -> faded(0, 50));
        due(3 * 99, () -> faded(99, 0));
        due(3 * 99, () -> faded(99, 50));
        due(3 * 98, () -> faded(98, 50));
        due(3 * 98, () -> faded(97, 50));
        due(3 * 73, () -> faded(49, 49));
        due(3 * 74, () -> faded(49, 50));
        due(3 * 50, () -> faded(50, 2));
        due(3 * 50, () -> faded(50, 1));
        due(3 * 51, () -> faded(50, 3));
        about("by all three differences, without signs, together");
        PerfgaugeHouse x = house(2, 2);
        x.piece(1, 1, 0, false);
        x.standard(1, 50, 50, 50);
        x.shade(0, 40, 50, 60, 0);
        due(20, () -> x.near(0, 1));
        x.shade(0, 60, 60, 60, 0);
        due(30, () -> x.near(0, 1));
        x.shade(0, 40, 40, 40, 0);
        due(30, () -> x.near(0, 1));
        x.shade(0, 99, 0, 99, 0);
        due(148, () -> x.near(0, 1));
    }

    private static void nearPrintings() {
        about("the NEAR PRINTING: that of which the FADED STANDARD differs the least (of several the smallest number)");
        PerfgaugeHouse x = house(2, 2);
        x.piece(1, 1, 0, false);
        x.shade(0, 50, 50, 50, 0);
        x.standard(5, 52, 50, 50);
        x.standard(6, 51, 50, 50);
        due(6, () -> x.near(0, 0));
        due(1, () -> x.near(0, 1));
        x.standard(4, 50, 49, 50);
        due(4, () -> x.near(0, 0));
        x.standard(7, 50, 50, 50);
        due(7, () -> x.near(0, 0));
        due(0, () -> x.near(0, 1));
        x.standard(0, 50, 50, 50);
        due(0, () -> x.near(0, 0));
        x.standard(0, 50, 50, 51);
        due(7, () -> x.near(0, 0));
        due(7, () -> x.shade(0, 50, 50, 50, 1));
        // FADED by 49 those of 0, 6 and 7 are 74, 74, 74.
        due(0, () -> x.shade(0, 74, 74, 74, 49));
        due(0, () -> x.near(0, 1));
    }

    private static void contradictions() {
        about("it CONTRADICTS, if it has a NEAR PRINTING, and its SHEET has PLATINGS, but none in that PRINTING");
        PerfgaugeHouse x = house(2, 2);
        x.flaw(0, 0, 0, 6);
        x.piece(1, 1, 0, false);
        due(0, () -> x.near(0, 2));
        x.standard(7, 9, 9, 9);
        due(0, () -> x.near(0, 2));
        x.shade(0, 9, 9, 9, 0);
        due(0, () -> x.near(0, 2));
        due(20, () -> x.value(0));
        x.seen(0, 0, 1, false);
        due(1, () -> x.near(0, 2));
        due(0, () -> x.value(0));
        x.standard(6, 9, 9, 9);
        due(0, () -> x.near(0, 2));
        due(70, () -> x.value(0));
        x.standard(6, 9, 9, 8);
        due(1, () -> x.near(0, 2));
        x.seen(0, 0, 2, false);
        // Without PLATINGS there is nothing to contradict.
        due(0, () -> x.near(0, 2));
        due(35, () -> x.value(0));
        x.seen(0, 0, 1, false);
        x.piece(1, 1, 0, false);
        x.piece(1, 1, 1, false);
        due(1, () -> x.near(0, 2));
        due(0, () -> x.near(1, 2));
        x.seen(1, 0, 1, false);
        due(0, () -> x.plating(0, 0));
        due(0, () -> x.near(0, 2));
        x.shade(2, 9, 9, 9, 0);
        due(0, () -> x.near(2, 2));
    }

    private static void values() {
        about("VALUE: 20 for each of its stamps, and 15 for each KIND SEEN at each of them");
        PerfgaugeHouse x = house(4, 4);
        x.piece(3, 3, 0, false);
        due(180, () -> x.value(0));
        for (int stamp = 0; stamp < 9; stamp++) {
            int s = stamp;
            due(180 + s * 150, () -> x.value(0));
            x.seen(0, s, 1023, s % 2 == 0);
        }
        due(1530, () -> x.value(0));
        x.seen(0, 8, 1022, true);
        due(1515, () -> x.value(0));
        about("twice that, if it is CERTAIN; then a third of it, if it is CUT");
        PerfgaugeHouse y = house(2, 2);
        y.flaw(3, 4, 0, 7);
        y.piece(1, 1, 0, false);
        due(20, () -> y.value(0));
        y.seen(0, 0, 16, false);
        due(70, () -> y.value(0));
        for (int edge = 0; edge < 3; edge++) y.edge(0, edge, 10, lengthFor(40));
        due(70, () -> y.value(0));
        y.edge(0, 3, 10, lengthFor(41));
        due(70, () -> y.value(0));
        y.edge(0, 3, 10, lengthFor(42));
        due(23, () -> y.value(0));
        y.seen(0, 0, 32, false);
        due(11, () -> y.value(0));
        y.seen(0, 0, 0, false);
        due(6, () -> y.value(0));
        about("0, if it is BAD TODAY, or CONTRADICTS");
        y.opine(0, 0, false);
        due(0, () -> y.value(0));
        y.pass(300);
        due(0, () -> y.value(0));
        y.pass(1);
        due(6, () -> y.value(0));
        about("the greatest VALUE: 9 stamps with 10 KINDS each, CERTAIN");
        PerfgaugeHouse z = house(3, 3);
        for (int i = 0; i < 60; i++) z.flaw(i % 9, i / 9, 0, 7);
        z.tear(3, 3, 0, 0, 0);
        due(2 * (180 + 15 * 60), () -> z.value(0));
    }

    private static void frames() {
        about("a FRAME has room for so many stamps (0 to 40)");
        PerfgaugeHouse x = house(4, 4);
        x.piece(2, 1, 0, false);
        x.piece(3, 1, 0, false);
        due(0, () -> x.frame(0, false));
        due(0, () -> x.frame(0, true));
        due(0, () -> x.frame(1, false));
        due(0, () -> x.frame(1, true));
        due(40, () -> x.frame(2, false));
        due(1, () -> x.frame(2, true));
        due(60, () -> x.frame(3, false));
        due(2, () -> x.frame(3, true));
        due(60, () -> x.frame(4, false));
        due(100, () -> x.frame(5, false));
        due(3, () -> x.frame(5, true));
        due(100, () -> x.frame(40, false));
        due(ARGUMENT, () -> x.frame(41, false));
        due(0, () -> bare().frame(40, true));
        due(0, () -> bare().frame(0, false));
        about("stamps are together no more than 40");
        PerfgaugeHouse most = house(4, 4);
        for (int sheet = 0; sheet < 2; sheet++) {
            for (int i = 0; i < 3; i++) most.piece(3, 3, sheet, false);
        }
        for (int piece = 3; piece < 6; piece++) most.seen(piece, 0, 1, false);
        // Those of SHEET 1 FIT nowhere, so none is ALIKE another; each has 9 stamps.
        due(4 * 9 * 20 + 45, () -> most.frame(40, false));
        due(57, () -> most.frame(40, true));
        due(4 * 9 * 20 + 45, () -> most.frame(36, false));
        due(3 * 9 * 20 + 45, () -> most.frame(35, false));
        due(56, () -> most.frame(27, true));
        about("no two are ALIKE");
        PerfgaugeHouse y = house(2, 2);
        y.piece(1, 1, 0, false);
        y.piece(1, 1, 1, false);
        y.piece(1, 1, 2, false);
        y.seen(2, 0, 1, false);
        due(40 + 15, () -> y.frame(40, false));
        due(5, () -> y.frame(40, true));
        y.flaw(0, 0, 0, 7);
        // Now 2 is CERTAIN at 0, where the others FIT, too.
        due(70, () -> y.frame(40, false));
        due(4, () -> y.frame(40, true));
        due(4, () -> y.frame(1, true));
        about("of several choices the one of which the set of PIECES is the smallest number");
        PerfgaugeHouse z = house(4, 4);
        for (int i = 0; i < 3; i++) z.piece(1, 1, 0, false);
        z.piece(2, 1, 1, false);
        z.seen(3, 0, 512, false);
        z.seen(3, 1, 512, false);
        due(1, () -> z.frame(1, true));
        due(8, () -> z.frame(2, true));
        due(9, () -> z.frame(3, true));
        z.seen(3, 0, 0, false);
        z.seen(3, 1, 0, false);
        // All are ALIKE 3 now, which is worth as much as two of the others.
        due(3, () -> z.frame(2, true));
        due(40, () -> z.frame(2, false));
        due(7, () -> z.frame(3, true));
        z.opine(0, 0, false);
        due(2, () -> z.frame(1, true));
        due(6, () -> z.frame(2, true));
        z.opine(1, 0, false);
        z.opine(2, 0, false);
        due(0, () -> z.frame(1, true));
        due(8, () -> z.frame(2, true));
        z.opine(3, 0, false);
        due(0, () -> z.frame(40, true));
        due(0, () -> z.frame(40, false));
        about("a FRAME of all 12 PIECES");
        PerfgaugeHouse all = house(6, 4);
        for (int i = 0; i < 12; i++) {
            all.flaw(i, i % 10, 0, 7);
            all.flaw(i, (i + 1 + i / 10) % 10, 0, 7);
        }
        for (int i = 0; i < 12; i++) all.tear(1, 1, i, 0, i / 3);
        due(12 * 100, () -> all.frame(12, false));
        due(4095, () -> all.frame(12, true));
        due(2047, () -> all.frame(11, true));
        due(100, () -> all.frame(1, false));
    }

    // ---- the whole

    private static void aNewPlate() {
        about("plate: PIECES and what was told of them (OPINIONS, too), COVERS, ITEMS and BIDS are gone");
        PerfgaugeHouse x = faultless();
        x.plate(6, 4);
        x.cover(0, 1, 1, 0, 150);
        x.stick(0, 0, 4);
        for (int i = 0; i < 12; i++) x.piece(1, 1, i / 3, true);
        x.mark(0, 0, 1);
        x.shade(0, 1, 2, 3, 4);
        for (int edge = 0; edge < 4; edge++) x.edge(0, edge, 9, 99);
        x.truth(0, true);
        x.hand(0, 0, 16);
        x.standard(4, 1, 2, 3);
        for (int i = 0; i < 20; i++) x.opine(0, 0, false);
        for (int i = 0; i < 8; i++) x.item(false, i, 0);
        for (int i = 0; i < 40; i++) x.bid(0, 1, 1);
        x.flaw(5, 5, 5, 5);
        x.seen(2, 0, 32, false);
        x.seen(11, 0, 64, false);
        due(32, () -> x.plating(0, 1));
        due(32, () -> x.plating(0, 3));
        due(0, () -> x.plating(3, 1));
        due(0, () -> x.ofSale(5));
        x.pass(9);
        due(4, () -> x.plate(2, 2));
        due(INDEX, () -> x.ofPiece(0, 0));
        due(INDEX, () -> x.ofCover(0, 0));
        due(INDEX, () -> x.alone(0, false));
        due(0, () -> x.ofSale(6));
        due(0, () -> x.ofSale(5));
        due(0, () -> x.ofIssue(0, false));
        due(0, () -> x.ofIssue(0, true));
        for (int sheet = 0; sheet < 6; sheet++) {
            int q = sheet;
            due(8, () -> x.plating(q, 0));
            due(255, () -> x.plating(q, 1));
            due(0, () -> x.plating(q, 2));
            due(0, () -> x.plating(q, 3));
            due(0, () -> x.plating(q, 4));
            due("../..", () -> x.sheet(q));
        }
        due(0, () -> x.frame(40, true));
        due(0, () -> x.piece(1, 1, 0, false));
        due(32, () -> x.ofPiece(0, 2));
        due(4, () -> x.ofPiece(0, 3));
        due(0, () -> x.standing(0, 9));
        due(-1, () -> x.holes(0));
        due(-1, () -> x.near(0, 0));
        due(2, () -> x.mark(0, 0, 2));
        due(0, () -> x.seen(0, 0, 0, false));
        due(0, () -> x.truth(0, true));
        due(0, () -> x.opine(0, 0, true));
        due(0, () -> x.item(false, 0, 0));
        due(0, () -> x.bid(0, 1, 1));
        due(0, () -> x.cover(0, 1, 1, 0, 150));
        due(0, () -> x.ofCover(0, 5));
        about("plate: not ROADS, RATES, ISSUES, DIES, HANDS, TRUST, STANDARDS, TODAY");
        due(2, () -> x.way(0, 1));
        due(10, () -> x.due(0, 1, 4));
        due(5, () -> x.issue(1, 0, 0));
        due(3, () -> x.die(0, 0, 0));
        due(2, () -> x.hand(1, 0, 0));
        due(2, () -> { x.mark(0, 0, 1); return x.weight(0, 0) == 17L ? 2 : 0; });
        due(2, () -> x.standard(5, 0, 0, 0));
        due(10, () -> x.pass(1));
        due(5, () -> x.trust(0));
        due(5, () -> x.standing(0, 10));
    }

    private static void calls() {
        about("an object is used for at most 512 calls");
        PerfgaugeHouse x = house(6, 4);
        for (int call = 2; call <= 510; call++) x.road(call % 5, 5, 1 + call % 9);
        due(true, () -> x.digest() == x.digest());
    }

    private static BigInteger exact;

    private static void mix(long number) {
        exact = exact.multiply(BigInteger.valueOf(31)).add(BigInteger.valueOf(number));
    }

    /** The checksum as the document tells it, by numbers that have no end, of a house on this DAY. */
    private static BigInteger checksum(PerfgaugeHouse x, int today, int flaws, int positions) {
        exact = BigInteger.valueOf(58267);
        mix(today);
        mix(flaws);
        for (int position = 0; position < positions; position++) {
            mix(x.face(position, 0));
            mix(x.face(position, 7));
        }
        for (int i = 0; i < 30; i++) mix(x.plating(i / 5, i % 5));
        for (int piece = 0; isThere(x, piece, false); piece++) {
            for (int what = 0; what <= 5; what++) mix(x.ofPiece(piece, what));
            mix(x.holes(piece));
            mix(x.likely(piece));
            mix(x.standing(piece, today));
            for (int what = 0; what <= 2; what++) mix(x.near(piece, what));
            mix(x.value(piece));
        }
        for (int cover = 0; isThere(x, cover, true); cover++) {
            for (int what = 0; what <= 7; what++) mix(x.ofCover(cover, what));
            mix(x.franking(cover));
        }
        for (int issue = 0; !INDEX.equals(answerOf(issueAsked(x, issue))); issue++) {
            mix(x.ofIssue(issue, false));
            mix(x.ofIssue(issue, true));
        }
        for (int expert = 0; expert < 5; expert++) mix(x.trust(expert));
        for (int what = 0; what <= 6; what++) mix(x.ofSale(what));
        for (int item = 0; item < x.ofSale(6); item++) {
            mix(x.alone(item, false));
            mix(x.alone(item, true));
        }
        mix(x.frame(6, false));
        mix(x.frame(6, true));
        mix(x.isSound() ? 1 : 0);
        return exact;
    }

    private static boolean isThere(PerfgaugeHouse x, int number, boolean isCover) {
        return !INDEX.equals(answerOf(() -> isCover ? x.ofCover(number, 0) : x.ofPiece(number, 0)));
    }

    private static Call issueAsked(PerfgaugeHouse x, int issue) {
        return () -> x.ofIssue(issue, false);
    }

    private static void digests() {
        about("d becomes d * 31 + v, which wraps around as a 64-bit integer");
        compareChecksum(bare(), 0, 0, 0);
        PerfgaugeHouse late = bare();
        late.pass(400);
        late.pass(400);
        late.pass(199);
        compareChecksum(late, 999, 0, 0);
        PerfgaugeHouse flawed = house(6, 4);
        for (int i = 0; i < 60; i++) flawed.flaw(i % 24, i % 10, 0, 7);
        compareChecksum(flawed, 0, 60, 24);
        PerfgaugeHouse x = faultless();
        x.plate(3, 2);
        int flaws = x.engrave(99);
        x.tear(2, 1, 0, 0, 0);
        x.tear(1, 1, 5, 7, 0);
        x.piece(1, 2, 4, true);
        x.piece(1, 1, 1, false);
        for (int edge = 0; edge < 4; edge++) x.edge(1, edge, 10 + edge, 200);
        x.hand(0, 3, 16);
        x.mark(2, 3, 1);
        x.cover(0, 1, 1, 0, 150);
        x.stick(0, 0, 1);
        x.cover(1, 0, 2, 1, 160);
        x.stick(1, 3, 2);
        x.pass(7);
        x.opine(0, 0, true);
        x.opine(3, 1, false);
        x.truth(0, true);
        x.standard(3, 10, 20, 30);
        x.shade(2, 11, 22, 33, 4);
        x.item(false, 0, 5);
        x.item(true, 0, 0);
        x.item(false, 3, 0);
        x.bid(1, 1, 30);
        x.bid(2, 3, 60);
        x.bid(3, 2, 20);
        x.bid(4, 4, 9999);
        compareChecksum(x, 7, flaws, 6);
        about("digest: frame() of 6, VALUES and set");
        PerfgaugeHouse eight = house(4, 2);
        for (int i = 0; i < 8; i++) eight.flaw(i, i, 0, 7);
        for (int i = 0; i < 8; i++) eight.tear(1, 1, i, 0, i / 3);
        due(70 * 6, () -> eight.frame(6, false));
        due(63, () -> eight.frame(6, true));
        due(70 * 5, () -> eight.frame(5, false));
        due(127, () -> eight.frame(7, true));
        compareChecksum(eight, 0, 8, 8);
    }

    private static void compareChecksum(PerfgaugeHouse x, int today, int flaws, int positions) {
        BigInteger sum = checksum(x, today, flaws, positions);
        due(true, () -> sum.bitLength() > 64);
        due(sum.longValue(), () -> x.digest());
    }
}
