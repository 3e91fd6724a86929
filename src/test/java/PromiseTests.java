/** For each promise of the document: ordinary inputs, the edges that it names, and wrong inputs. */
public final class PromiseTests extends Answers {
    public static void main(String[] args) {
        theNewHouse();
        plates();
        flaws();
        engraving();
        pieces();
        seenAndFits();
        tears();
        platings();
        piecesAsked();
        sheets();
        edges();
        roads();
        rates();
        issuesAndDies();
        covers();
        faults();
        frankings();
        scarcities();
        handsAndMarks();
        opinions();
        truths();
        itemsAndBids();
        sales();
        aloneSales();
        shades();
        values();
        frames();
        soundness();
        digests();
        end();
    }

    private static long mixed(long... numbers) {
        long d = 58267;
        for (long v : numbers) d = d * 31 + v;
        return d;
    }

    private static void theNewHouse() {
        PerfgaugeHouse x = new PerfgaugeHouse();
        due(1, INDEX, () -> x.face(0, 0));
        due(1, STATE, () -> x.piece(1, 1, 0, false));
        due(1, "-", () -> x.sheet(0));
        due(1, 8, () -> x.plating(0, 0));
        due(1, 255, () -> x.plating(0, 1));
        due(1, 0, () -> x.plating(0, 3));
        due(1, -1, () -> x.way(0, 1));
        due(1, -1, () -> x.due(999, 0, 1));
        due(1, 5, () -> x.trust(0));
        due(1, 0, () -> x.ofSale(6));
        due(1, true, () -> x.isSound());
    }

    private static void plates() {
        PerfgaugeHouse x = new PerfgaugeHouse();
        due(2, ARGUMENT, () -> x.plate(1, 2));
        due(2, ARGUMENT, () -> x.plate(7, 2));
        due(2, ARGUMENT, () -> x.plate(2, 1));
        due(2, ARGUMENT, () -> x.plate(2, 5));
        due(2, STATE, () -> x.engrave(0));
        due(2, 4, () -> x.plate(2, 2));
        due(2, 24, () -> x.plate(6, 4));
        x.flaw(0, 1, 0, 7);
        x.piece(1, 1, 0, false);
        x.opine(0, 0, false);
        x.road(0, 1, 2);
        x.rate(0, 1, 1, 3);
        x.issue(3, 0, 9);
        x.die(0, 0, 9);
        x.cover(0, 1, 1, 0, 4);
        x.stick(0, 0, 1);
        x.hand(0, 0, 16);
        x.truth(0, false);
        x.standard(2, 1, 1, 1);
        x.pass(3);
        x.item(true, 0, 0);
        x.bid(0, 1, 5);
        due(2, 6, () -> x.plate(2, 3));
        due(2, 0, () -> x.face(0, 0));
        due(2, INDEX, () -> x.holes(0));
        due(2, INDEX, () -> x.ofCover(0, 0));
        due(2, 0, () -> x.ofSale(6));
        due(2, 0, () -> x.ofIssue(0, false));
        due(2, 2, () -> x.way(0, 1));
        due(2, 3, () -> x.due(0, 1, 1));
        due(2, 6, () -> x.trust(0));
        due(2, 8, () -> x.plating(0, 0));
        due(2, "../../..", () -> x.sheet(0));
        due(2, 0, () -> x.flaw(0, 0, 0, 0));
        due(2, 0, () -> x.piece(1, 1, 0, false));
        due(2, 0, () -> x.standing(0, 3));
        due(2, 2, () -> x.shade(0, 1, 1, 1, 0));
        due(2, 17L, () -> { x.mark(0, 0, 1); return x.weight(0, 0); });
        due(2, 0, () -> x.truth(0, true));
        due(2, 0, () -> x.opine(0, 0, true));
        due(2, 0, () -> x.cover(0, 1, 1, 0, 4));
        due(2, 0, () -> x.ofCover(0, 5));
        due(2, 0, () -> x.item(true, 0, 0));
        due(2, 0, () -> x.bid(0, 1, 5));
        due(2, 4, () -> x.pass(1));
    }

    private static void flaws() {
        PerfgaugeHouse x = house(2, 2);
        due(3, 0, () -> x.flaw(3, 9, 2, 4));
        due(3, 1, () -> x.flaw(3, 0, 4, 4));
        due(3, INDEX, () -> x.flaw(4, 9, 2, 4));
        due(3, INDEX, () -> x.flaw(-1, 10, 2, 4));
        due(3, ARGUMENT, () -> x.flaw(0, 10, 2, 4));
        due(3, ARGUMENT, () -> x.flaw(0, -1, 2, 4));
        due(3, ARGUMENT, () -> x.flaw(0, 0, -1, 4));
        due(3, ARGUMENT, () -> x.flaw(0, 0, 2, 8));
        due(3, ARGUMENT, () -> x.flaw(0, 0, 5, 4));
        due(8, 0, () -> x.face(3, 1));
        due(8, 512, () -> x.face(3, 2));
        due(8, 513, () -> x.face(3, 4));
        due(8, 0, () -> x.face(3, 5));
        due(8, INDEX, () -> x.face(4, 8));
        due(8, INDEX, () -> x.face(-1, 0));
        due(8, ARGUMENT, () -> x.face(3, 8));
        due(8, ARGUMENT, () -> x.face(3, -1));
        x.piece(1, 1, 0, false);
        x.seen(0, 0, 512, false);
        due(3, 2, () -> x.flaw(0, 9, 7, 7));
        due(3, 1, () -> x.fits(0, 0, 7) ? 1 : 0);
        for (int i = 3; i < 60; i++) x.flaw(1, 1, 1, 1);
        due(3, STATE, () -> x.flaw(0, 0, 0, 0));
        due(3, ARGUMENT, () -> x.flaw(0, 10, 0, 0));
    }

    private static void engraving() {
        PerfgaugeHouse x = house(2, 2);
        due(4, ARGUMENT, () -> x.engrave(-1));
        due(4, ARGUMENT, () -> x.engrave(100));
        // The ROW of SEED 0: 31, 80, 47, 19, 99, 8, 54, 106, 95, 50, 41, 82, 26: 31 % 3 = 1 FLAW of KIND 0
        // from 7 to 7 at 0; 99 % 3 = 0 at 1; 8 % 3 = 2 at 2: KIND 4 from 2 to 7, and KIND 0 from 1 to 3;
        // 26 % 3 = 2 at 3, of which the first draws 79, 4, 96: KIND 9 from 4 to 4, then 93, 71, 88: KIND 3, 7.
        due(4, 5, () -> x.engrave(0));
        due(4, 0, () -> x.face(0, 2));
        due(4, 1, () -> x.face(0, 7));
        due(4, 0, () -> x.face(1, 7));
        due(4, 1, () -> x.face(2, 1));
        due(4, 17, () -> x.face(2, 2));
        due(4, 16, () -> x.face(2, 7));
        due(4, 512, () -> x.face(3, 4));
        due(4, 8, () -> x.face(3, 7));
        due(4, 5, () -> x.flaw(0, 0, 0, 0));
        int flaws = 6;
        while (flaws < 60) flaws = x.engrave(0);
        due(4, 60, () -> x.engrave(5));
        PerfgaugeHouse none = new PerfgaugeHouse();
        due(4, ARGUMENT, () -> none.engrave(100));
        due(4, STATE, () -> none.engrave(1));
        PerfgaugeHouse held = house(2, 2);
        held.piece(1, 1, 0, false);
        due(4, STATE, () -> held.engrave(1));
    }

    private static void pieces() {
        PerfgaugeHouse x = house(2, 2);
        due(5, ARGUMENT, () -> x.piece(0, 1, 0, false));
        due(5, ARGUMENT, () -> x.piece(4, 1, 0, false));
        due(5, ARGUMENT, () -> x.piece(1, 0, 0, false));
        due(5, ARGUMENT, () -> x.piece(1, 4, 0, false));
        due(5, ARGUMENT, () -> x.piece(1, 1, -1, false));
        due(5, ARGUMENT, () -> x.piece(1, 1, 6, false));
        due(5, 0, () -> x.piece(3, 3, 0, false));
        due(5, 1, () -> x.piece(1, 1, 0, true));
        due(5, 2, () -> x.piece(2, 1, 0, false));
        due(5, STATE, () -> x.piece(1, 1, 0, false));
        due(5, ARGUMENT, () -> x.piece(1, 5, 0, false));
        for (int i = 3; i < 12; i++) x.piece(1, 1, i / 3, false);
        due(5, STATE, () -> x.piece(1, 1, 5, false));
        due(5, false, () -> x.fits(0, 0, 0));
        due(5, true, () -> x.fits(1, 1, 0));
        due(5, false, () -> x.fits(1, 2, 0));
    }

    private static void seenAndFits() {
        PerfgaugeHouse x = house(3, 2);
        x.flaw(4, 2, 3, 5);
        x.flaw(4, 7, 3, 3);
        x.piece(2, 1, 0, false);
        due(6, 0, () -> x.seen(0, 0, 4, false));
        due(6, 4, () -> x.seen(0, 0, 4, false));
        due(9, true, () -> x.fits(0, 4, 5));
        due(9, true, () -> x.fits(0, 4, 3));
        due(9, false, () -> x.fits(0, 4, 2));
        due(9, false, () -> x.fits(0, 3, 3));
        due(6, 4, () -> x.seen(0, 0, 4, true));
        due(9, true, () -> x.fits(0, 4, 5));
        due(9, false, () -> x.fits(0, 4, 3));
        due(6, 4, () -> x.seen(0, 0, 0, true));
        due(9, false, () -> x.fits(0, 4, 3));
        due(9, true, () -> x.fits(0, 4, 6));
        due(9, false, () -> x.fits(0, 2, 6));
        due(9, false, () -> x.fits(0, 5, 6));
        due(9, INDEX, () -> x.fits(1, 0, 0));
        due(9, INDEX, () -> x.fits(0, 6, 8));
        due(9, INDEX, () -> x.fits(0, -1, 0));
        due(9, ARGUMENT, () -> x.fits(0, 0, 8));
        due(9, ARGUMENT, () -> x.fits(0, 0, -1));
        due(6, INDEX, () -> x.seen(1, 0, 0, true));
        due(6, INDEX, () -> x.seen(-1, 0, 0, true));
        due(6, INDEX, () -> x.seen(0, 2, 1024, true));
        due(6, INDEX, () -> x.seen(0, -1, 0, true));
        due(6, ARGUMENT, () -> x.seen(0, 0, 1024, true));
        due(6, ARGUMENT, () -> x.seen(0, 0, -1, true));
        due(6, 0, () -> x.seen(0, 1, 1023, false));
        due(6, 1023, () -> x.seen(0, 1, 0, false));
        x.piece(1, 1, 0, true);
        due(9, true, () -> x.fits(1, 2, 0));
        due(9, false, () -> x.fits(1, 3, 0));
    }

    private static void tears() {
        PerfgaugeHouse x = house(3, 3);
        x.flaw(4, 1, 0, 4);
        x.flaw(8, 3, 2, 2);
        due(7, 0, () -> x.tear(2, 2, 4, 2, 0));
        due(7, 2, () -> x.seen(0, 0, 2, true));
        due(7, 8, () -> x.seen(0, 3, 8, true));
        due(7, true, () -> x.fits(0, 4, 2));
        due(7, false, () -> x.fits(0, 4, 3));
        due(7, 1, () -> x.tear(1, 1, 3, 0, 0));
        due(7, true, () -> x.fits(1, 3, 0));
        due(7, false, () -> x.fits(1, 4, 0));
        due(7, INDEX, () -> x.tear(1, 1, 9, 9, 9));
        due(7, INDEX, () -> x.tear(4, 1, 9, 0, 0));
        due(7, INDEX, () -> x.tear(1, 1, -1, 0, 0));
        due(7, INDEX, () -> x.tear(2, 1, 2, 9, 0));
        due(7, INDEX, () -> x.tear(1, 2, 6, 0, 0));
        due(7, ARGUMENT, () -> x.tear(4, 1, 0, 0, 0));
        due(7, ARGUMENT, () -> x.tear(4, 3, 8, 0, 0));
        due(7, ARGUMENT, () -> x.tear(0, 1, 0, 0, 0));
        due(7, ARGUMENT, () -> x.tear(1, 4, 0, 0, 0));
        due(7, ARGUMENT, () -> x.tear(1, 1, 0, 8, 0));
        due(7, ARGUMENT, () -> x.tear(1, 1, 0, 0, 6));
        due(7, 2, () -> x.tear(1, 1, 0, 0, 0));
        due(7, STATE, () -> x.tear(1, 1, 0, 0, 0));
        for (int i = 3; i < 12; i++) x.tear(3, 1, 0, 0, i / 3);
        due(7, STATE, () -> x.tear(1, 1, 0, 0, 5));
        due(7, INDEX, () -> new PerfgaugeHouse().tear(1, 1, 0, 0, 0));
    }

    private static void platings() {
        PerfgaugeHouse x = house(3, 2);
        due(10, 8, () -> x.plating(5, 0));
        due(10, 255, () -> x.plating(5, 1));
        due(10, 0, () -> x.plating(5, 2));
        due(10, 0, () -> x.plating(5, 3));
        due(10, 0, () -> x.plating(5, 4));
        x.flaw(1, 0, 3, 4);
        x.piece(2, 1, 0, false);
        x.piece(1, 1, 0, false);
        // The pair lies in one of 4 ways, and leaves 4 POSITIONS.
        due(10, 128, () -> x.plating(0, 0));
        due(10, 2, () -> x.plating(0, 4));
        x.seen(1, 0, 1, false);
        // The single one is at 1 in PRINTING 3 or 4; the pair has row 1.
        due(10, 4, () -> x.plating(0, 0));
        due(10, 24, () -> x.plating(0, 1));
        due(10, 1, () -> x.plating(0, 2));
        due(10, 18, () -> x.plating(0, 3));
        x.seen(0, 0, 1, false);
        due(10, 0, () -> x.plating(0, 0));
        due(10, 0, () -> x.plating(0, 1));
        due(10, 0, () -> x.plating(0, 2));
        due(10, 0, () -> x.plating(0, 3));
        due(10, ARGUMENT, () -> x.plating(-1, 0));
        due(10, ARGUMENT, () -> x.plating(6, 0));
        due(10, ARGUMENT, () -> x.plating(0, -1));
        due(10, ARGUMENT, () -> x.plating(0, 5));
        PerfgaugeHouse most = house(6, 4);
        for (int i = 0; i < 3; i++) most.piece(1, 1, 2, false);
        due(10, 24 * 23 * 22 * 8, () -> most.plating(2, 0));
        PerfgaugeHouse whole = house(2, 2);
        whole.piece(2, 2, 1, false);
        due(10, 8, () -> whole.plating(1, 0));
        due(10, 1, () -> whole.plating(1, 2));
        due(10, 15, () -> whole.plating(1, 3));
        whole.piece(1, 1, 1, false);
        due(10, 0, () -> whole.plating(1, 0));
    }

    private static void piecesAsked() {
        PerfgaugeHouse x = house(3, 2);
        x.flaw(1, 0, 3, 4);
        x.piece(2, 1, 4, false);
        x.piece(1, 1, 4, false);
        x.seen(1, 0, 1, false);
        due(11, 4, () -> x.ofPiece(0, 0));
        due(11, 2, () -> x.ofPiece(0, 1));
        due(11, 32, () -> x.ofPiece(0, 2));
        due(11, 2, () -> x.ofPiece(1, 2));
        due(11, 2, () -> x.ofPiece(0, 3));
        due(11, 1, () -> x.ofPiece(1, 3));
        due(11, -1, () -> x.ofPiece(0, 4));
        due(11, 1, () -> x.ofPiece(1, 4));
        due(11, 0, () -> x.ofPiece(0, 5));
        x.tear(1, 1, 1, 3, 5);
        // 2 is at 1 too; 0 can be there as well, by its own FITTING.
        due(11, 2, () -> x.ofPiece(2, 5));
        due(11, 1, () -> x.ofPiece(1, 5));
        // 3 FITS at 0 and 1 in PRINTINGS other than those of 1 and 2, and in all of them at 3 and 4.
        x.tear(2, 1, 0, 5, 3);
        due(11, 4, () -> x.ofPiece(3, 3));
        due(11, 3, () -> x.ofPiece(3, 5));
        x.tear(2, 1, 0, 3, 2);
        due(11, 0, () -> x.ofPiece(4, 4));
        due(11, 2, () -> x.ofPiece(4, 5));
        x.flaw(0, 9, 0, 7);
        due(11, 0, () -> x.ofPiece(4, 3));
        due(11, -1, () -> x.ofPiece(4, 4));
        due(11, 0, () -> x.ofPiece(4, 2));
        due(11, INDEX, () -> x.ofPiece(5, 0));
        due(11, INDEX, () -> x.ofPiece(-1, 6));
        due(11, ARGUMENT, () -> x.ofPiece(0, 6));
        due(11, ARGUMENT, () -> x.ofPiece(0, -1));
        PerfgaugeHouse own = house(2, 2);
        own.flaw(0, 0, 0, 0);
        own.flaw(0, 1, 1, 1);
        own.tear(1, 1, 0, 0, 0);
        own.tear(1, 1, 0, 1, 1);
        due(11, 1, () -> own.ofPiece(0, 5));
    }

    private static void sheets() {
        PerfgaugeHouse x = house(3, 2);
        due(12, ARGUMENT, () -> x.sheet(-1));
        due(12, ARGUMENT, () -> x.sheet(6));
        due(12, ".../...", () -> x.sheet(3));
        x.piece(1, 1, 3, false);
        x.piece(1, 2, 3, false);
        x.piece(1, 1, 3, true);
        due(12, "012/.1.", () -> x.sheet(3));
        x.flaw(2, 4, 6, 6);
        x.flaw(5, 4, 5, 6);
        x.seen(0, 0, 16, true);
        // In PRINTING 5 0 is at 5.
        due(12, "12./1.0", () -> x.sheet(3));
        x.seen(2, 0, 16, false);
        due(12, "1.2/1.0", () -> x.sheet(3));
        x.seen(1, 0, 16, false);
        due(12, "-", () -> x.sheet(3));
        for (int i = 3; i < 12; i++) x.piece(1, 1, i == 10 ? 5 : i % 3, i == 11);
        due(12, "0../...", () -> x.sheet(5));
        due(12, "-", () -> new PerfgaugeHouse().sheet(5));
    }

    private static void edges() {
        PerfgaugeHouse x = house(2, 2);
        due(13, INDEX, () -> x.edge(0, 0, 9, 200));
        x.piece(1, 1, 0, false);
        due(14, -1, () -> x.holes(0));
        due(13, 36, () -> x.edge(0, 0, 9, 200));
        due(13, 36, () -> x.edge(0, 1, 9, 200));
        due(13, 36, () -> x.edge(0, 2, 9, 202));
        due(14, -1, () -> x.holes(0));
        due(13, 36, () -> x.edge(0, 3, 9, 200));
        due(14, 0, () -> x.holes(0));
        due(13, 40, () -> x.edge(0, 1, 10, 200));
        due(14, 6, () -> x.holes(0));
        due(13, 40, () -> x.edge(0, 3, 10, 200));
        due(14, 1, () -> x.holes(0));
        due(13, 39, () -> x.edge(0, 1, 10, 205));
        due(14, 2, () -> x.holes(0));
        due(13, 38, () -> x.edge(0, 2, 10, 209));
        due(14, 6, () -> x.holes(0));
        due(13, 320, () -> x.edge(0, 0, 20, 50));
        due(13, 10, () -> x.edge(0, 2, 5, 400));
        due(13, INDEX, () -> x.edge(0, 4, 4, 200));
        due(13, INDEX, () -> x.edge(0, -1, 9, 200));
        due(13, INDEX, () -> x.edge(-1, 0, 9, 200));
        due(13, ARGUMENT, () -> x.edge(0, 0, 4, 200));
        due(13, ARGUMENT, () -> x.edge(0, 0, 21, 200));
        due(13, ARGUMENT, () -> x.edge(0, 0, 9, 49));
        due(13, ARGUMENT, () -> x.edge(0, 0, 9, 401));
        due(14, INDEX, () -> x.holes(1));
        due(14, INDEX, () -> x.holes(-1));
    }

    private static void roads() {
        PerfgaugeHouse x = new PerfgaugeHouse();
        due(16, 0, () -> x.way(5, 5));
        due(15, -1, () -> x.road(0, 1, 0));
        due(15, 9, () -> x.road(0, 1, 9));
        due(15, 1, () -> x.road(1, 2, 1));
        due(15, 8, () -> x.road(2, 0, 8));
        due(15, 5, () -> x.road(0, 2, 5));
        due(16, 6, () -> x.way(1, 0));
        due(16, -1, () -> x.way(0, 3));
        for (int i = 2; i < 5; i++) x.road(i, i + 1, 9);
        due(16, 32, () -> x.way(5, 0));
        due(15, 14, () -> x.road(1, 2, 0));
        due(15, INDEX, () -> x.road(-1, -1, 10));
        due(15, INDEX, () -> x.road(0, 6, 1));
        due(15, ARGUMENT, () -> x.road(3, 3, 1));
        due(15, ARGUMENT, () -> x.road(3, 4, 10));
        due(15, ARGUMENT, () -> x.road(3, 4, -1));
        due(16, 9, () -> x.way(3, 4));
        due(16, INDEX, () -> x.way(6, 0));
        due(16, INDEX, () -> x.way(0, -1));
    }

    private static void rates() {
        PerfgaugeHouse x = new PerfgaugeHouse();
        due(17, 0, () -> x.rate(10, 1, 4, 9));
        due(17, 1, () -> x.rate(20, 1, 2, 5));
        due(17, 2, () -> x.rate(15, 1, 2, 6));
        due(18, -1, () -> x.due(9, 1, 1));
        due(18, 9, () -> x.due(10, 1, 1));
        due(18, 6, () -> x.due(15, 1, 2));
        due(18, 5, () -> x.due(999, 1, 2));
        due(18, 9, () -> x.due(999, 1, 3));
        due(18, -1, () -> x.due(999, 0, 1));
        due(17, 3, () -> x.rate(20, 1, 2, 4));
        due(18, 4, () -> x.due(20, 1, 1));
        due(17, ARGUMENT, () -> x.rate(-1, 0, 1, 1));
        due(17, ARGUMENT, () -> x.rate(1000, 0, 1, 1));
        due(17, ARGUMENT, () -> x.rate(0, -1, 1, 1));
        due(17, ARGUMENT, () -> x.rate(0, 3, 1, 1));
        due(17, ARGUMENT, () -> x.rate(0, 0, 0, 1));
        due(17, ARGUMENT, () -> x.rate(0, 0, 5, 1));
        due(17, ARGUMENT, () -> x.rate(0, 0, 1, 0));
        due(17, ARGUMENT, () -> x.rate(0, 0, 1, 100));
        for (int i = 4; i < 16; i++) x.rate(999, 2, 1, 99);
        due(17, ARGUMENT, () -> x.rate(0, 0, 1, 100));
        due(17, STATE, () -> x.rate(0, 0, 1, 1));
        due(18, 99, () -> x.due(999, 2, 1));
        due(18, ARGUMENT, () -> x.due(-1, 0, 1));
        due(18, ARGUMENT, () -> x.due(1000, 0, 1));
        due(18, ARGUMENT, () -> x.due(0, 3, 1));
        due(18, ARGUMENT, () -> x.due(0, -1, 1));
        due(18, ARGUMENT, () -> x.due(0, 0, 0));
        due(18, ARGUMENT, () -> x.due(0, 0, 5));
    }

    private static void issuesAndDies() {
        PerfgaugeHouse x = new PerfgaugeHouse();
        due(19, ARGUMENT, () -> x.issue(0, 0, 0));
        due(19, ARGUMENT, () -> x.issue(100, 0, 0));
        due(19, ARGUMENT, () -> x.issue(1, -1, 0));
        due(19, ARGUMENT, () -> x.issue(1, 0, 1000));
        due(19, ARGUMENT, () -> x.issue(1, 1000, 1000));
        due(19, ARGUMENT, () -> x.issue(1, 5, 4));
        due(20, INDEX, () -> x.die(-1, 5, 4));
        due(20, INDEX, () -> x.die(6, 0, 1));
        due(20, ARGUMENT, () -> x.die(0, 5, 4));
        due(20, ARGUMENT, () -> x.die(0, -1, 4));
        due(20, ARGUMENT, () -> x.die(0, 0, 1000));
        for (int i = 0; i < 10; i++) {
            int number = i;
            due(19, number, () -> x.issue(99, 0, 0));
            due(20, number, () -> x.die(5, 999, 999));
        }
        due(19, STATE, () -> x.issue(1, 0, 0));
        due(19, ARGUMENT, () -> x.issue(0, 0, 0));
        due(20, STATE, () -> x.die(0, 0, 0));
        due(20, ARGUMENT, () -> x.die(0, 1, 0));
    }

    /** A house with two DIES (of 0 and 1), two ISSUES (2 from 10 to 20, 5 from 15 on), a ROAD of 4 DAYS. */
    private static PerfgaugeHouse post() {
        PerfgaugeHouse x = new PerfgaugeHouse();
        x.road(0, 1, 4);
        x.rate(0, 2, 4, 7);
        x.die(0, 10, 30);
        x.die(1, 0, 999);
        x.issue(2, 10, 20);
        x.issue(5, 15, 999);
        return x;
    }

    private static void covers() {
        PerfgaugeHouse x = post();
        due(21, INDEX, () -> x.cover(6, 0, 1, 0, 0));
        due(21, INDEX, () -> x.cover(0, -1, 9, 0, 0));
        due(21, INDEX, () -> x.cover(0, 1, 9, 2, 0));
        due(21, INDEX, () -> x.cover(0, 1, 9, -1, 0));
        due(21, ARGUMENT, () -> x.cover(0, 1, 0, 0, 0));
        due(21, ARGUMENT, () -> x.cover(0, 1, 5, 0, 0));
        due(21, ARGUMENT, () -> x.cover(0, 1, 1, 0, -1));
        due(21, ARGUMENT, () -> x.cover(0, 1, 1, 0, 1000));
        due(21, 0, () -> x.cover(0, 1, 1, 0, 999));
        due(21, 1003, () -> x.ofCover(0, 4));
        due(21, 1, () -> x.cover(0, 2, 1, 0, 16));
        due(21, 16, () -> x.ofCover(1, 4));
        due(21, 16, () -> x.ofCover(1, 3));
        due(21, 0, () -> x.ofCover(1, 5));
        due(22, 6, () -> x.stick(1, 0, 3));
        due(22, 26, () -> x.stick(1, 1, 4));
        due(22, 22, () -> x.stick(1, 0, 1));
        due(22, 5, () -> x.ofCover(1, 5));
        due(22, INDEX, () -> x.stick(2, 0, 0));
        due(22, INDEX, () -> x.stick(-1, 0, 0));
        due(22, INDEX, () -> x.stick(0, 2, 5));
        due(22, INDEX, () -> x.stick(0, -1, 0));
        due(22, ARGUMENT, () -> x.stick(0, 0, 5));
        due(22, ARGUMENT, () -> x.stick(0, 0, -1));
        due(23, 1003, () -> x.arrive(0, 5, true));
        due(23, 5, () -> x.arrive(0, 999, false));
        due(23, 999, () -> x.ofCover(0, 4));
        due(23, INDEX, () -> x.arrive(2, 1000, false));
        due(23, INDEX, () -> x.arrive(-1, 0, false));
        due(23, ARGUMENT, () -> x.arrive(0, 1000, false));
        due(23, ARGUMENT, () -> x.arrive(0, -1, false));
        for (int i = 2; i < 12; i++) x.cover(0, 0, 1, 1, 0);
        due(21, STATE, () -> x.cover(0, 0, 1, 1, 0));
        due(21, ARGUMENT, () -> x.cover(0, 0, 0, 1, 0));
    }

    private static void faults() {
        PerfgaugeHouse x = post();
        x.cover(0, 1, 1, 0, 16);
        x.stick(0, 0, 1);
        x.stick(0, 1, 1);
        due(24, 0, () -> x.ofCover(0, 0));
        due(24, 7, () -> x.ofCover(0, 1));
        due(24, 7, () -> x.ofCover(0, 2));
        due(24, 16, () -> x.ofCover(0, 3));
        due(24, 20, () -> x.ofCover(0, 4));
        due(24, 2, () -> x.ofCover(0, 5));
        due(24, 0, () -> x.ofCover(0, 6));
        due(24, 1, () -> x.ofCover(0, 7));
        x.stick(0, 0, 0);
        due(24, 16, () -> x.ofCover(0, 0));
        due(24, 0, () -> x.ofCover(0, 6));
        x.arrive(0, 19, true);
        due(24, 64, () -> x.ofCover(0, 0));
        due(24, 1, () -> x.ofCover(0, 6));
        due(24, 0, () -> x.ofCover(0, 7));
        x.arrive(0, 20, true);
        due(24, 0, () -> x.ofCover(0, 0));
        x.stick(0, 0, 2);
        due(24, 32, () -> x.ofCover(0, 0));
        x.road(0, 1, 3);
        // By a WAY of 3 it is DISTANCE 1, for which there is no RATE.
        due(24, 128, () -> x.ofCover(0, 0));
        due(24, -1, () -> x.ofCover(0, 2));
        x.road(0, 1, 0);
        due(24, 96, () -> x.ofCover(0, 0));
        due(24, 7, () -> x.ofCover(0, 2));
        x.road(0, 1, 4);
        x.cover(0, 1, 1, 1, 14);
        x.stick(1, 0, 1);
        x.stick(1, 1, 1);
        due(24, 5, () -> x.ofCover(1, 0));
        due(24, 0, () -> x.ofCover(1, 7));
        x.cover(0, 1, 4, 0, 9);
        x.stick(2, 0, 1);
        x.arrive(2, 20, true);
        due(24, 6, () -> x.ofCover(2, 0));
        x.cover(0, 1, 4, 0, 21);
        x.stick(3, 0, 1);
        x.stick(3, 1, 1);
        due(24, 8, () -> x.ofCover(3, 0));
        due(24, 0, () -> x.ofCover(3, 6));
        due(24, 2, () -> x.ofCover(3, 7));
        x.cover(0, 1, 4, 0, 31);
        due(24, 18, () -> x.ofCover(4, 0));
        x.cover(0, 0, 4, 0, 30);
        due(24, 128, () -> x.ofCover(5, 0));
        // The first and the last DAYS of a DIE and of ISSUES are good ones.
        x.cover(0, 1, 4, 0, 10);
        x.stick(6, 0, 4);
        due(24, 32, () -> x.ofCover(6, 0));
        x.cover(0, 1, 4, 0, 20);
        x.stick(7, 0, 1);
        x.stick(7, 1, 1);
        due(24, 0, () -> x.ofCover(7, 0));
        x.cover(0, 1, 4, 0, 15);
        x.stick(8, 1, 1);
        due(24, 16, () -> x.ofCover(8, 0));
        due(24, INDEX, () -> x.ofCover(9, 8));
        due(24, INDEX, () -> x.ofCover(-1, 0));
        due(25, INDEX, () -> x.franking(12));
        due(24, ARGUMENT, () -> x.ofCover(0, 8));
        due(24, ARGUMENT, () -> x.ofCover(0, -1));
    }

    private static void frankings() {
        PerfgaugeHouse x = post();
        x.cover(0, 1, 1, 0, 16);
        due(25, 2, () -> x.franking(0));
        x.rate(16, 2, 3, 10);
        due(25, 2, () -> x.franking(0));
        x.rate(16, 2, 2, 8);
        due(25, 4, () -> x.franking(0));
        x.issue(4, 16, 16);
        due(25, 2, () -> x.franking(0));
        x.rate(16, 2, 1, 3);
        due(25, -1, () -> x.franking(0));
        x.rate(16, 2, 1, 99);
        due(25, 20, () -> x.franking(0));
        x.cover(0, 1, 4, 0, 14);
        due(25, -1, () -> x.franking(1));
        x.cover(1, 1, 4, 0, 14);
        due(25, -1, () -> x.franking(2));
        due(25, INDEX, () -> x.franking(3));
        due(25, INDEX, () -> x.franking(-1));
        x.issue(8, 17, 17);
        x.issue(8, 15, 15);
        x.rate(16, 2, 1, 8);
        due(25, 2, () -> x.franking(0));
    }

    private static void scarcities() {
        PerfgaugeHouse x = post();
        due(26, 0, () -> x.ofIssue(0, true));
        x.cover(0, 1, 1, 0, 16);
        due(26, 0, () -> x.ofIssue(0, true));
        x.stick(0, 0, 1);
        x.stick(0, 1, 2);
        x.cover(0, 1, 1, 0, 20);
        x.stick(1, 1, 4);
        x.cover(0, 1, 1, 1, 20);
        x.stick(2, 0, 3);
        due(26, 4, () -> x.ofIssue(0, false));
        due(26, 142, () -> x.ofIssue(0, true));
        due(26, 857, () -> x.ofIssue(1, true));
        due(26, 6, () -> x.ofIssue(1, false));
        due(26, INDEX, () -> x.ofIssue(2, false));
        due(26, INDEX, () -> x.ofIssue(-1, true));
    }

    private static void handsAndMarks() {
        PerfgaugeHouse x = house(2, 2);
        x.piece(1, 1, 0, false);
        due(27, INDEX, () -> x.hand(1, 8, 0));
        due(27, INDEX, () -> x.hand(-1, 0, 0));
        due(27, ARGUMENT, () -> x.hand(0, 8, 0));
        due(27, ARGUMENT, () -> x.hand(0, -1, 0));
        due(27, ARGUMENT, () -> x.hand(0, 0, -1));
        due(27, ARGUMENT, () -> x.hand(0, 0, 17));
        due(29, INDEX, () -> x.weight(0, 0));
        due(29, 1L, () -> x.weight(0, -1));
        due(27, 1, () -> x.hand(0, 7, 16));
        due(28, 2, () -> x.mark(0, 7, 1));
        due(29, 17L, () -> x.weight(0, 0));
        due(29, 9L, () -> x.weight(0, -1));
        due(30, 0, () -> x.likely(0));
        due(28, 1, () -> x.mark(0, 7, 0));
        due(29, 1L, () -> x.weight(0, 0));
        due(30, -1, () -> x.likely(0));
        due(28, 2, () -> x.mark(0, 0, 0));
        due(28, 0, () -> x.mark(0, 0, 0));
        due(29, 9L, () -> x.weight(0, 0));
        due(27, 2, () -> x.hand(1, 0, 8));
        due(29, 81L, () -> x.weight(0, 1));
        due(30, -1, () -> x.likely(0));
        due(27, 3, () -> x.hand(2, 0, 3));
        due(27, 4, () -> x.hand(3, 0, 3));
        due(30, 2, () -> x.likely(0));
        due(27, 4, () -> x.hand(3, 7, 7));
        due(30, 3, () -> x.likely(0));
        due(27, 5, () -> x.hand(4, 0, 0));
        due(27, ARGUMENT, () -> x.hand(5, 0, 17));
        due(27, STATE, () -> x.hand(5, 0, 0));
        due(27, INDEX, () -> x.hand(6, 0, 0));
        for (int habit = 0; habit < 8; habit++) {
            x.hand(4, habit, 16);
            x.mark(0, habit, 1);
        }
        due(29, 6975757441L, () -> x.weight(0, 4));
        due(29, INDEX, () -> x.weight(1, 0));
        due(29, INDEX, () -> x.weight(0, 5));
        due(29, INDEX, () -> x.weight(0, -2));
        due(28, INDEX, () -> x.mark(1, 8, 0));
        due(28, ARGUMENT, () -> x.mark(0, 8, 0));
        due(28, ARGUMENT, () -> x.mark(0, -1, 0));
        due(28, ARGUMENT, () -> x.mark(0, 0, 3));
        due(28, ARGUMENT, () -> x.mark(0, 0, -1));
        due(28, 1, () -> x.mark(0, 0, 2));
        due(30, INDEX, () -> x.likely(1));
        due(30, INDEX, () -> x.likely(-1));
    }

    private static void opinions() {
        PerfgaugeHouse x = house(2, 2);
        due(31, INDEX, () -> x.opine(0, 5, true));
        x.piece(1, 1, 0, false);
        x.piece(1, 1, 0, false);
        due(31, ARGUMENT, () -> x.opine(0, 5, true));
        due(31, ARGUMENT, () -> x.opine(0, -1, true));
        due(31, 0, () -> x.opine(0, 0, true));
        due(33, 5, () -> x.standing(0, 0));
        due(33, 5, () -> x.standing(0, 300));
        due(33, 0, () -> x.standing(0, 301));
        due(33, 0, () -> x.standing(1, 0));
        due(32, ARGUMENT, () -> x.pass(0));
        due(32, ARGUMENT, () -> x.pass(401));
        due(32, ARGUMENT, () -> x.pass(-1));
        due(32, 1, () -> x.pass(1));
        due(31, 1, () -> x.opine(0, 1, false));
        due(31, 2, () -> x.opine(0, 0, false));
        due(31, 3, () -> x.opine(1, 0, true));
        due(33, 5, () -> x.standing(0, 0));
        due(33, -10, () -> x.standing(0, 1));
        due(33, -10, () -> x.standing(0, 301));
        due(33, 0, () -> x.standing(0, 302));
        due(31, 4, () -> x.opine(0, 0, true));
        due(33, 0, () -> x.standing(0, 1));
        due(33, 5, () -> x.standing(1, 1));
        due(33, INDEX, () -> x.standing(2, 1000));
        due(33, INDEX, () -> x.standing(-1, 0));
        due(33, ARGUMENT, () -> x.standing(0, 1000));
        due(33, ARGUMENT, () -> x.standing(0, -1));
        for (int i = 5; i < 20; i++) x.opine(0, 4, true);
        due(31, STATE, () -> x.opine(0, 4, true));
        due(31, ARGUMENT, () -> x.opine(0, 5, true));
        due(32, 401, () -> x.pass(400));
        due(32, 801, () -> x.pass(400));
        due(32, STATE, () -> x.pass(199));
        due(32, ARGUMENT, () -> x.pass(500));
        due(32, 999, () -> x.pass(198));
        due(32, STATE, () -> x.pass(1));
    }

    private static void truths() {
        PerfgaugeHouse x = house(3, 4);
        for (int i = 0; i < 12; i++) x.piece(1, 1, i / 3, false);
        due(34, INDEX, () -> x.truth(12, true));
        due(34, INDEX, () -> x.truth(-1, true));
        due(34, 0, () -> x.truth(11, true));
        due(34, STATE, () -> x.truth(11, false));
        for (int i = 0; i < 6; i++) {
            x.opine(i, 0, true);
            x.opine(i, 1, false);
        }
        x.opine(0, 1, true);
        x.opine(1, 2, true);
        due(34, 2, () -> x.truth(0, true));
        due(35, 6, () -> x.trust(0));
        due(35, 6, () -> x.trust(1));
        due(35, 5, () -> x.trust(2));
        due(34, 2, () -> x.truth(1, true));
        due(35, 7, () -> x.trust(0));
        due(35, 4, () -> x.trust(1));
        due(35, 6, () -> x.trust(2));
        for (int i = 2; i < 5; i++) {
            int piece = i;
            due(34, 1, () -> x.truth(piece, true));
        }
        due(35, 9, () -> x.trust(0));
        due(35, 0, () -> x.trust(1));
        x.pass(301);
        due(34, 0, () -> x.truth(5, false));
        due(35, 9, () -> x.trust(0));
        due(35, 0, () -> x.trust(1));
        due(35, ARGUMENT, () -> x.trust(5));
        due(35, ARGUMENT, () -> x.trust(-1));
    }

    private static void itemsAndBids() {
        PerfgaugeHouse x = house(3, 3);
        for (int i = 0; i < 9; i++) x.piece(1, 1, i / 3, false);
        x.die(0, 0, 9);
        x.cover(0, 0, 1, 0, 0);
        due(37, ARGUMENT, () -> x.bid(0, 1, 1));
        due(36, INDEX, () -> x.item(false, 9, -1));
        due(36, INDEX, () -> x.item(false, -1, 0));
        due(36, INDEX, () -> x.item(true, 1, 0));
        due(36, ARGUMENT, () -> x.item(true, 0, -1));
        due(36, ARGUMENT, () -> x.item(true, 0, 10000));
        due(36, 0, () -> x.item(false, 0, 9999));
        due(36, STATE, () -> x.item(false, 0, 0));
        due(36, ARGUMENT, () -> x.item(false, 0, -1));
        due(36, 1, () -> x.item(true, 0, 0));
        due(36, STATE, () -> x.item(true, 0, 0));
        for (int i = 1; i < 7; i++) x.item(false, i, 0);
        due(36, STATE, () -> x.item(false, 8, 0));
        due(36, 8, () -> x.ofSale(6));
        due(37, ARGUMENT, () -> x.bid(-1, 1, 1));
        due(37, ARGUMENT, () -> x.bid(10, 1, 1));
        due(37, ARGUMENT, () -> x.bid(0, 0, 1));
        due(37, ARGUMENT, () -> x.bid(0, 256, 1));
        due(37, ARGUMENT, () -> x.bid(0, -1, 1));
        due(37, ARGUMENT, () -> x.bid(0, 1, 0));
        due(37, ARGUMENT, () -> x.bid(0, 1, 10000));
        for (int i = 0; i < 40; i++) {
            int number = i;
            due(37, number, () -> x.bid(9, 255, 9999));
        }
        due(37, ARGUMENT, () -> x.bid(0, 0, 1));
        due(37, STATE, () -> x.bid(0, 1, 1));
        due(38, 9999, () -> x.ofSale(0));
        due(38, 0, () -> x.ofSale(3));
        due(38, 40, () -> x.ofSale(5));
    }

    private static PerfgaugeHouse auction(int items) {
        PerfgaugeHouse x = house(3, 3);
        for (int i = 0; i < items; i++) {
            x.piece(1, 1, i / 3, false);
            x.item(false, i, 0);
        }
        return x;
    }

    private static void sales() {
        PerfgaugeHouse x = auction(4);
        due(38, 0, () -> x.ofSale(0));
        due(38, 0, () -> x.ofSale(1));
        due(38, 0, () -> x.ofSale(2));
        due(38, -1, () -> x.ofSale(3));
        due(38, ARGUMENT, () -> x.ofSale(7));
        due(38, ARGUMENT, () -> x.ofSale(-1));
        x.bid(0, 1, 10);
        x.bid(1, 2, 10);
        due(38, 2, () -> x.ofSale(1));
        x.bid(2, 3, 20);
        // As much by one BID as by two.
        due(38, 1, () -> x.ofSale(1));
        due(38, 2, () -> x.ofSale(3));
        x.bid(3, 12, 20);
        x.bid(4, 6, 20);
        x.bid(5, 9, 20);
        // {2, 3} and {4, 5} are 40 each.
        due(38, 40, () -> x.ofSale(0));
        due(38, 2, () -> x.ofSale(3));
        due(38, 15, () -> x.ofSale(2));
        due(38, 38, () -> x.ofSale(4));
        x.bid(5, 9, 21);
        due(38, 4, () -> x.ofSale(3));
        due(38, 41, () -> x.ofSale(0));
        x.opine(3, 0, false);
        due(38, 4, () -> x.ofSale(5));
        due(38, 30, () -> x.ofSale(0));
        due(38, 7, () -> x.ofSale(2));
        due(38, 0, () -> x.ofSale(3));
        x.pass(301);
        due(38, 41, () -> x.ofSale(0));
        PerfgaugeHouse y = house(2, 2);
        y.piece(1, 1, 0, false);
        y.die(0, 0, 9);
        y.cover(0, 0, 1, 0, 0);
        y.item(true, 0, 5);
        y.item(false, 0, 6);
        y.bid(0, 3, 10);
        due(38, 0, () -> y.ofSale(5));
        y.bid(0, 3, 11);
        y.bid(0, 1, 4);
        y.bid(0, 1, 5);
        due(38, 2, () -> y.ofSale(5));
        due(38, 3, () -> y.ofSale(2));
        y.arrive(0, 0, false);
        due(38, 6, () -> y.ofSale(4));
        y.cover(1, 0, 1, 0, 0);
        y.item(true, 1, 0);
        y.bid(0, 4, 7);
        due(38, 2, () -> y.ofSale(5));
    }

    private static void aloneSales() {
        PerfgaugeHouse x = auction(1);
        due(39, INDEX, () -> x.alone(1, true));
        due(39, INDEX, () -> x.alone(-1, true));
        due(39, -1, () -> x.alone(0, true));
        due(39, -1, () -> x.alone(0, false));
        x.bid(3, 1, 15);
        due(39, 3, () -> x.alone(0, true));
        due(39, 1, () -> x.alone(0, false));
        x.bid(3, 1, 30);
        due(39, 1, () -> x.alone(0, false));
        x.bid(4, 1, 19);
        due(39, 20, () -> x.alone(0, false));
        x.bid(4, 1, 20);
        due(39, 25, () -> x.alone(0, false));
        x.bid(5, 1, 30);
        due(39, 3, () -> x.alone(0, true));
        due(39, 30, () -> x.alone(0, false));
        x.bid(6, 1, 300);
        due(39, 6, () -> x.alone(0, true));
        due(39, 35, () -> x.alone(0, false));
        x.bid(7, 1, 99);
        due(39, 104, () -> x.alone(0, false));
        x.bid(7, 1, 100);
        due(39, 110, () -> x.alone(0, false));
        x.bid(7, 1, 295);
        due(39, 300, () -> x.alone(0, false));
        x.bid(1, 1, 9999);
        x.bid(2, 1, 499);
        due(39, 509, () -> x.alone(0, false));
        x.bid(2, 1, 500);
        due(39, 550, () -> x.alone(0, false));
        due(39, 9449, () -> x.ofSale(4));
        x.opine(0, 0, false);
        due(39, -1, () -> x.alone(0, true));
        due(39, -1, () -> x.alone(0, false));
        PerfgaugeHouse y = house(2, 2);
        y.piece(1, 1, 0, false);
        y.item(false, 0, 40);
        y.bid(0, 1, 39);
        due(39, -1, () -> y.alone(0, false));
        y.bid(1, 1, 60);
        due(39, 40, () -> y.alone(0, false));
    }

    private static void shades() {
        PerfgaugeHouse x = house(2, 2);
        x.flaw(0, 0, 2, 2);
        x.piece(1, 1, 0, false);
        due(42, -1, () -> x.near(0, 0));
        due(41, -1, () -> x.shade(0, 50, 50, 50, 10));
        due(42, -1, () -> x.near(0, 1));
        due(42, 0, () -> x.near(0, 2));
        due(40, 1, () -> x.standard(2, 40, 50, 60));
        due(40, 1, () -> x.standard(2, 0, 99, 50));
        // FADED by 10: 9, 99, 54.
        due(42, 2, () -> x.near(0, 0));
        due(42, 41 + 49 + 4, () -> x.near(0, 1));
        due(40, 2, () -> x.standard(1, 0, 99, 50));
        due(42, 1, () -> x.near(0, 0));
        due(40, 3, () -> x.standard(7, 49, 50, 51));
        due(41, 7, () -> x.shade(0, 50, 50, 50, 0));
        due(42, 2, () -> x.near(0, 1));
        due(42, 0, () -> x.near(0, 2));
        x.seen(0, 0, 1, false);
        due(42, 1, () -> x.near(0, 2));
        x.seen(0, 0, 2, false);
        // No PLATING at all: nothing to contradict.
        due(42, 0, () -> x.near(0, 2));
        x.seen(0, 0, 1, false);
        x.standard(7, 99, 0, 0);
        x.standard(1, 99, 0, 0);
        due(42, 2, () -> x.near(0, 0));
        due(42, 0, () -> x.near(0, 2));
        due(40, ARGUMENT, () -> x.standard(8, 0, 0, 0));
        due(40, ARGUMENT, () -> x.standard(-1, 0, 0, 0));
        due(40, ARGUMENT, () -> x.standard(0, 100, 0, 0));
        due(40, ARGUMENT, () -> x.standard(0, 0, -1, 0));
        due(40, ARGUMENT, () -> x.standard(0, 0, 0, 100));
        due(41, INDEX, () -> x.shade(1, 100, 0, 0, 0));
        due(41, INDEX, () -> x.shade(-1, 0, 0, 0, 0));
        due(41, ARGUMENT, () -> x.shade(0, 100, 0, 0, 0));
        due(41, ARGUMENT, () -> x.shade(0, 0, -1, 0, 0));
        due(41, ARGUMENT, () -> x.shade(0, 0, 0, 100, 0));
        due(41, ARGUMENT, () -> x.shade(0, 0, 0, 0, 51));
        due(41, ARGUMENT, () -> x.shade(0, 0, 0, 0, -1));
        due(41, 2, () -> x.shade(0, 0, 99, 50, 50));
        due(42, 49 + 24, () -> x.near(0, 1));
        due(42, INDEX, () -> x.near(1, 3));
        due(42, INDEX, () -> x.near(-1, 0));
        due(42, ARGUMENT, () -> x.near(0, 3));
        due(42, ARGUMENT, () -> x.near(0, -1));
        x.piece(1, 1, 0, false);
        due(42, -1, () -> x.near(1, 0));
    }

    private static void values() {
        PerfgaugeHouse x = house(3, 2);
        x.flaw(1, 0, 3, 4);
        x.flaw(1, 5, 3, 4);
        x.piece(2, 1, 0, false);
        due(43, 40, () -> x.value(0));
        x.seen(0, 0, 32, false);
        due(43, 110, () -> x.value(0));
        x.seen(0, 0, 33, false);
        due(43, 140, () -> x.value(0));
        x.seen(0, 1, 1, false);
        // It FITS nowhere, so it is not CERTAIN.
        due(43, 85, () -> x.value(0));
        for (int i = 0; i < 4; i++) x.edge(0, i, 9, 200);
        due(43, 85, () -> x.value(0));
        x.edge(0, 3, 12, 200);
        due(43, 28, () -> x.value(0));
        x.opine(0, 2, false);
        due(43, 0, () -> x.value(0));
        x.opine(0, 1, true);
        due(43, 28, () -> x.value(0));
        x.seen(0, 1, 0, false);
        due(43, 46, () -> x.value(0));
        x.standard(5, 9, 9, 9);
        x.shade(0, 9, 9, 9, 0);
        due(43, 0, () -> x.value(0));
        x.standard(4, 9, 9, 9);
        due(43, 46, () -> x.value(0));
        due(43, INDEX, () -> x.value(1));
        due(43, INDEX, () -> x.value(-1));
    }

    private static void frames() {
        PerfgaugeHouse x = house(4, 2);
        for (int i = 0; i < 4; i++) x.flaw(i, i, 0, 7);
        due(44, 0, () -> x.frame(40, true));
        x.tear(1, 1, 0, 0, 0);
        x.tear(1, 1, 0, 0, 1);
        x.tear(2, 1, 1, 0, 0);
        x.tear(1, 1, 3, 0, 2);
        // 70, 70 (ALIKE the first), 140, 70
        due(44, 0, () -> x.frame(0, false));
        due(44, 70, () -> x.frame(1, false));
        due(44, 1, () -> x.frame(1, true));
        due(44, 140, () -> x.frame(2, false));
        due(44, 4, () -> x.frame(2, true));
        due(44, 5, () -> x.frame(3, true));
        due(44, 13, () -> x.frame(40, true));
        due(44, 280, () -> x.frame(40, false));
        x.opine(0, 0, false);
        due(44, 14, () -> x.frame(40, true));
        x.opine(1, 0, false);
        due(44, 12, () -> x.frame(40, true));
        due(44, ARGUMENT, () -> x.frame(41, true));
        due(44, ARGUMENT, () -> x.frame(-1, true));
    }

    private static void soundness() {
        PerfgaugeHouse x = post();
        due(45, true, () -> x.isSound());
        x.plate(4, 4);
        x.engrave(3);
        x.tear(2, 2, 5, 3, 0);
        x.cover(0, 1, 1, 0, 16);
        x.cover(0, 1, 1, 1, 16);
        x.item(true, 0, 3);
        x.item(true, 1, 3);
        x.item(false, 0, 3);
        x.bid(0, 5, 50);
        x.bid(1, 4, 60);
        x.bid(2, 1, 10);
        due(45, true, () -> x.isSound());
    }

    private static void digests() {
        PerfgaugeHouse x = new PerfgaugeHouse();
        long[] sheet = {8, 255, 0, 0, 0};
        long[] all = new long[2 + 30 + 5 + 7 + 3];
        int n = 2;
        for (int i = 0; i < 30; i++) all[n++] = sheet[i % 5];
        for (int i = 0; i < 5; i++) all[n++] = 5;
        for (long v : new long[] {0, 0, 0, -1, 0, 0, 0, 0, 0, 1}) all[n++] = v;
        due(46, mixed(all), () -> x.digest());
        x.pass(7);
        all[0] = 7;
        due(46, mixed(all), () -> x.digest());
        PerfgaugeHouse y = post();
        y.plate(2, 2);
        y.flaw(0, 3, 0, 0);
        y.tear(1, 1, 0, 0, 2);
        y.cover(0, 1, 1, 0, 16);
        y.item(true, 0, 2);
        y.bid(4, 1, 9);
        due(46, mixed(
                0, 1, 8, 0, 0, 0, 0, 0, 0, 0,
                8, 255, 0, 0, 0, 8, 255, 0, 0, 0, 1, 1, 1, 1, 1,
                8, 255, 0, 0, 0, 8, 255, 0, 0, 0, 8, 255, 0, 0, 0,
                2, 1, 1, 1, 0, 0, -1, -1, 0, -1, -1, 0, 70,
                16, 0, 7, 16, 20, 0, 0, 1, 2,
                0, 0, 0, 0,
                5, 5, 5, 5, 5,
                9, 1, 1, 0, 7, 1, 1,
                2, 4,
                70, 1, 1), () -> y.digest());
    }
}
