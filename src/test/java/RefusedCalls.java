import java.util.HashMap;
import java.util.Map;
import java.util.function.Supplier;

/**
 * Each "Throws" row of the document: what is one step outside is refused, and what is far outside; where several
 * exceptions apply, the one that is named first is thrown; and a call that throws changes nothing.
 */
public final class RefusedCalls extends Answers {
    private interface Use {
        Object on(PerfgaugeHouse x);
    }

    private static final int LEAST = Integer.MIN_VALUE;
    private static final int MOST = Integer.MAX_VALUE;

    /** What can be given for a number and is never in any range of the document. */
    private static final int[] FAR = {LEAST, LEAST + 1, -1000, 10000, 1 << 16, MOST - 1, MOST};

    private static final Supplier<PerfgaugeHouse> BARE = PerfgaugeHouse::new;
    private static final Supplier<PerfgaugeHouse> SOME = Houses::some;
    private static final Supplier<PerfgaugeHouse> FULL = Houses::full;
    private static final Map<Supplier<PerfgaugeHouse>, String> UNTOUCHED = new HashMap<>();

    public static void main(String[] args) {
        plates();
        flaws();
        engraving();
        pieces();
        seen();
        tears();
        facesAndFits();
        platings();
        edges();
        roads();
        rates();
        issues();
        dies();
        covers();
        sticks();
        arrivals();
        coversAsked();
        hands();
        marks();
        opinions();
        days();
        truths();
        items();
        bids();
        sales();
        standards();
        shades();
        frames();
        end();
    }

    private static void refused(String exception, Supplier<PerfgaugeHouse> build, Use call) {
        PerfgaugeHouse x = build.get();
        due(exception, () -> call.on(x));
        String untouched = UNTOUCHED.computeIfAbsent(build, b -> Witness.of(b.get()));
        String touched = Witness.of(x);
        due("nothing is changed", () -> touched.equals(untouched) ? "nothing is changed" : firstChange(untouched, touched));
    }

    private static String firstChange(String before, String after) {
        String[] lines = before.split("\n");
        String[] others = after.split("\n");
        for (int i = 0; i < lines.length && i < others.length; i++) {
            if (!lines[i].equals(others[i])) return lines[i] + " became " + others[i];
        }
        return "other lines";
    }

    private static void plates() {
        about("plate: IllegalArgumentException if wide is not 2 to 6, or high not 2 to 4");
        for (int wide : new int[] {-1, 0, 1, 7}) refused(ARGUMENT, SOME, x -> x.plate(wide, 2));
        for (int high : new int[] {-1, 0, 1, 5, 6}) refused(ARGUMENT, SOME, x -> x.plate(2, high));
        refused(ARGUMENT, BARE, x -> x.plate(1, 2));
        refused(ARGUMENT, FULL, x -> x.plate(7, 5));
        for (int far : FAR) {
            refused(ARGUMENT, SOME, x -> x.plate(far, 2));
            refused(ARGUMENT, SOME, x -> x.plate(6, far));
        }
    }

    private static void flaws() {
        about("flaw: IndexOutOfBoundsException if there is no such POSITION");
        refused(INDEX, SOME, x -> x.flaw(-1, 0, 0, 0));
        refused(INDEX, SOME, x -> x.flaw(6, 0, 0, 0));
        refused(INDEX, BARE, x -> x.flaw(0, 0, 0, 0));
        for (int far : FAR) refused(INDEX, SOME, x -> x.flaw(far, 0, 0, 0));
        about("flaw: IllegalArgumentException if kind is not 0 to 9, or from or to not 0 to 7, or to is below from");
        refused(ARGUMENT, SOME, x -> x.flaw(5, -1, 0, 0));
        refused(ARGUMENT, SOME, x -> x.flaw(5, 10, 0, 0));
        refused(ARGUMENT, SOME, x -> x.flaw(5, 0, -1, 0));
        refused(ARGUMENT, SOME, x -> x.flaw(5, 0, 7, 8));
        refused(ARGUMENT, SOME, x -> x.flaw(5, 0, 8, 8));
        refused(ARGUMENT, SOME, x -> x.flaw(5, 0, -1, -1));
        refused(ARGUMENT, SOME, x -> x.flaw(5, 0, 1, 0));
        refused(ARGUMENT, SOME, x -> x.flaw(5, 0, 7, 6));
        for (int far : FAR) {
            refused(ARGUMENT, SOME, x -> x.flaw(0, far, 0, 7));
            refused(ARGUMENT, SOME, x -> x.flaw(0, 0, far, 7));
            refused(ARGUMENT, SOME, x -> x.flaw(0, 0, 0, far));
        }
        about("flaw: IllegalStateException if there are 60");
        refused(STATE, FULL, x -> x.flaw(0, 0, 0, 0));
        refused(STATE, FULL, x -> x.flaw(5, 9, 7, 7));
        about("flaw: the exception that is named first");
        refused(INDEX, SOME, x -> x.flaw(6, 10, 0, 0));
        refused(INDEX, SOME, x -> x.flaw(-1, 0, 5, 4));
        refused(INDEX, BARE, x -> x.flaw(0, 10, 8, 0));
        refused(INDEX, FULL, x -> x.flaw(6, 0, 0, 0));
        refused(INDEX, FULL, x -> x.flaw(6, 10, 0, 0));
        refused(ARGUMENT, FULL, x -> x.flaw(0, 10, 0, 0));
        refused(ARGUMENT, FULL, x -> x.flaw(0, 0, 5, 4));
    }

    private static void engraving() {
        about("engrave: IllegalArgumentException if seed is not 0 to 99");
        Supplier<PerfgaugeHouse> plain = () -> house(3, 2);
        refused(ARGUMENT, plain, x -> x.engrave(-1));
        refused(ARGUMENT, plain, x -> x.engrave(100));
        for (int far : FAR) refused(ARGUMENT, plain, x -> x.engrave(far));
        about("engrave: IllegalStateException if there is no PLATE, or a PIECE");
        refused(STATE, BARE, x -> x.engrave(0));
        refused(STATE, BARE, x -> x.engrave(99));
        refused(STATE, SOME, x -> x.engrave(0));
        refused(STATE, FULL, x -> x.engrave(99));
        Supplier<PerfgaugeHouse> onePiece = () -> {
            PerfgaugeHouse x = house(3, 2);
            x.piece(1, 1, 5, true);
            return x;
        };
        refused(STATE, onePiece, x -> x.engrave(1));
        about("engrave: the exception that is named first");
        refused(ARGUMENT, BARE, x -> x.engrave(100));
        refused(ARGUMENT, SOME, x -> x.engrave(-1));
    }

    private static void pieces() {
        about("piece: IllegalArgumentException if wide or high is not 1 to 3, or sheet not 0 to 5");
        for (int outside : new int[] {-1, 0, 4, 5}) {
            refused(ARGUMENT, SOME, x -> x.piece(outside, 1, 0, false));
            refused(ARGUMENT, SOME, x -> x.piece(1, outside, 0, false));
        }
        refused(ARGUMENT, SOME, x -> x.piece(1, 1, -1, false));
        refused(ARGUMENT, SOME, x -> x.piece(1, 1, 6, true));
        for (int far : FAR) {
            refused(ARGUMENT, SOME, x -> x.piece(far, 1, 0, false));
            refused(ARGUMENT, SOME, x -> x.piece(1, far, 0, false));
            refused(ARGUMENT, SOME, x -> x.piece(1, 1, far, false));
        }
        about("piece: IllegalStateException if there is no PLATE, there are 12, or the SHEET has 3");
        refused(STATE, BARE, x -> x.piece(1, 1, 0, false));
        refused(STATE, FULL, x -> x.piece(1, 1, 5, false));
        refused(STATE, FULL, x -> x.piece(1, 1, 0, false));
        refused(STATE, RefusedCalls::threeOfSheetTwo, x -> x.piece(1, 1, 2, false));
        refused(STATE, RefusedCalls::threeOfSheetTwo, x -> x.piece(3, 3, 2, true));
        about("piece: the exception that is named first");
        refused(ARGUMENT, BARE, x -> x.piece(4, 1, 0, false));
        refused(ARGUMENT, BARE, x -> x.piece(1, 1, 6, false));
        refused(ARGUMENT, FULL, x -> x.piece(1, 1, 6, false));
        refused(ARGUMENT, FULL, x -> x.piece(1, 0, 5, false));
        refused(ARGUMENT, RefusedCalls::threeOfSheetTwo, x -> x.piece(0, 1, 2, false));
    }

    private static PerfgaugeHouse threeOfSheetTwo() {
        PerfgaugeHouse x = house(3, 2);
        x.piece(1, 1, 2, false);
        x.tear(1, 1, 3, 0, 2);
        x.piece(2, 1, 2, true);
        return x;
    }

    private static void seen() {
        about("seen: IndexOutOfBoundsException if there is no such PIECE, or stamp");
        refused(INDEX, SOME, x -> x.seen(-1, 0, 0, true));
        refused(INDEX, SOME, x -> x.seen(3, 0, 0, true));
        refused(INDEX, BARE, x -> x.seen(0, 0, 0, true));
        refused(INDEX, SOME, x -> x.seen(0, 1, 1, true));
        refused(INDEX, SOME, x -> x.seen(0, -1, 1, true));
        refused(INDEX, SOME, x -> x.seen(1, 2, 1, true));
        refused(INDEX, SOME, x -> x.seen(2, 2, 1, true));
        refused(INDEX, RefusedCalls::oneOfNine, x -> x.seen(0, 9, 1, false));
        for (int far : FAR) {
            refused(INDEX, SOME, x -> x.seen(far, 0, 0, true));
            refused(INDEX, SOME, x -> x.seen(0, far, 0, true));
        }
        about("seen: IllegalArgumentException if seen is not a set of KINDS (0 is let)");
        refused(ARGUMENT, SOME, x -> x.seen(0, 0, -1, false));
        refused(ARGUMENT, SOME, x -> x.seen(0, 0, 1024, false));
        refused(ARGUMENT, SOME, x -> x.seen(0, 0, 1025, true));
        refused(ARGUMENT, SOME, x -> x.seen(0, 0, 2048, true));
        for (int far : FAR) refused(ARGUMENT, SOME, x -> x.seen(1, 1, far, false));
        about("seen: the exception that is named first");
        refused(INDEX, SOME, x -> x.seen(3, 0, 1024, true));
        refused(INDEX, SOME, x -> x.seen(0, 1, -1, true));
    }

    private static PerfgaugeHouse oneOfNine() {
        PerfgaugeHouse x = house(3, 3);
        x.piece(3, 3, 0, false);
        return x;
    }

    private static void tears() {
        about("tear: IndexOutOfBoundsException if there is no such POSITION, or (with wide and high of 1 to 3) "
                + "not all of it would be on the PLATE");
        refused(INDEX, SOME, x -> x.tear(1, 1, -1, 0, 0));
        refused(INDEX, SOME, x -> x.tear(1, 1, 6, 0, 0));
        refused(INDEX, BARE, x -> x.tear(1, 1, 0, 0, 0));
        for (int far : FAR) refused(INDEX, SOME, x -> x.tear(1, 1, far, 0, 0));
        refused(INDEX, SOME, x -> x.tear(2, 1, 2, 0, 0));
        refused(INDEX, SOME, x -> x.tear(2, 1, 5, 0, 0));
        refused(INDEX, SOME, x -> x.tear(3, 1, 1, 0, 0));
        refused(INDEX, SOME, x -> x.tear(1, 2, 3, 0, 0));
        refused(INDEX, SOME, x -> x.tear(1, 3, 0, 0, 0));
        refused(INDEX, SOME, x -> x.tear(3, 3, 0, 0, 0));
        about("tear: IllegalArgumentException if wide or high is not 1 to 3, printing not 0 to 7, or sheet not 0 to 5");
        for (int outside : new int[] {-1, 0, 4}) {
            refused(ARGUMENT, SOME, x -> x.tear(outside, 1, 0, 0, 0));
            refused(ARGUMENT, SOME, x -> x.tear(1, outside, 0, 0, 0));
        }
        refused(ARGUMENT, SOME, x -> x.tear(1, 1, 0, -1, 0));
        refused(ARGUMENT, SOME, x -> x.tear(1, 1, 0, 8, 0));
        refused(ARGUMENT, SOME, x -> x.tear(1, 1, 0, 0, -1));
        refused(ARGUMENT, SOME, x -> x.tear(1, 1, 0, 0, 6));
        for (int far : FAR) {
            refused(ARGUMENT, SOME, x -> x.tear(far, 1, 0, 0, 0));
            refused(ARGUMENT, SOME, x -> x.tear(1, far, 0, 0, 0));
            refused(ARGUMENT, SOME, x -> x.tear(1, 1, 0, far, 0));
            refused(ARGUMENT, SOME, x -> x.tear(1, 1, 0, 0, far));
        }
        about("tear: with wide or high not 1 to 3 it is not asked whether all is on the PLATE");
        refused(ARGUMENT, SOME, x -> x.tear(4, 1, 5, 0, 0));
        refused(ARGUMENT, SOME, x -> x.tear(1, 4, 5, 0, 0));
        refused(ARGUMENT, SOME, x -> x.tear(2, 4, 5, 0, 0));
        refused(ARGUMENT, SOME, x -> x.tear(0, 3, 5, 0, 0));
        about("tear: IllegalStateException if there are 12, or the SHEET has 3");
        refused(STATE, FULL, x -> x.tear(1, 1, 0, 0, 5));
        refused(STATE, FULL, x -> x.tear(1, 1, 0, 0, 3));
        refused(STATE, RefusedCalls::threeOfSheetTwo, x -> x.tear(3, 2, 0, 7, 2));
        about("tear: the exception that is named first");
        refused(INDEX, SOME, x -> x.tear(4, 1, 6, 0, 0));
        refused(INDEX, SOME, x -> x.tear(1, 1, 6, 8, 0));
        refused(INDEX, SOME, x -> x.tear(2, 1, 5, 8, 6));
        refused(INDEX, BARE, x -> x.tear(0, 0, 0, 8, 6));
        refused(INDEX, FULL, x -> x.tear(1, 1, 6, 0, 5));
        refused(INDEX, FULL, x -> x.tear(2, 2, 4, 0, 5));
        refused(ARGUMENT, FULL, x -> x.tear(4, 4, 5, 0, 5));
        refused(ARGUMENT, FULL, x -> x.tear(1, 1, 0, 8, 5));
        refused(ARGUMENT, FULL, x -> x.tear(1, 1, 0, 0, 6));
        refused(INDEX, RefusedCalls::threeOfSheetTwo, x -> x.tear(1, 1, 6, 0, 2));
        refused(ARGUMENT, RefusedCalls::threeOfSheetTwo, x -> x.tear(1, 1, 5, -1, 2));
    }

    private static void facesAndFits() {
        about("face: IndexOutOfBoundsException if there is no such POSITION");
        refused(INDEX, SOME, x -> x.face(-1, 0));
        refused(INDEX, SOME, x -> x.face(6, 0));
        refused(INDEX, BARE, x -> x.face(0, 0));
        about("face: IllegalArgumentException if printing is not 0 to 7");
        refused(ARGUMENT, SOME, x -> x.face(0, -1));
        refused(ARGUMENT, SOME, x -> x.face(5, 8));
        about("face: the exception that is named first");
        refused(INDEX, SOME, x -> x.face(6, 8));
        refused(INDEX, BARE, x -> x.face(0, -1));
        about("fits: IndexOutOfBoundsException if there is no such PIECE, or POSITION");
        refused(INDEX, SOME, x -> x.fits(-1, 0, 0));
        refused(INDEX, SOME, x -> x.fits(3, 0, 0));
        refused(INDEX, SOME, x -> x.fits(0, -1, 0));
        refused(INDEX, SOME, x -> x.fits(0, 6, 0));
        refused(INDEX, BARE, x -> x.fits(0, 0, 0));
        about("fits: IllegalArgumentException if printing is not 0 to 7");
        refused(ARGUMENT, SOME, x -> x.fits(0, 0, -1));
        refused(ARGUMENT, SOME, x -> x.fits(2, 5, 8));
        about("fits: the exception that is named first");
        refused(INDEX, SOME, x -> x.fits(3, 0, 8));
        refused(INDEX, SOME, x -> x.fits(0, 6, -1));
        for (int far : FAR) {
            about("face and fits: far outside");
            refused(INDEX, SOME, x -> x.face(far, 0));
            refused(ARGUMENT, SOME, x -> x.face(0, far));
            refused(INDEX, SOME, x -> x.fits(far, 0, 0));
            refused(INDEX, SOME, x -> x.fits(0, far, 0));
            refused(ARGUMENT, SOME, x -> x.fits(0, 0, far));
        }
    }

    private static void platings() {
        about("plating: IllegalArgumentException if sheet is not 0 to 5, or what not 0 to 4");
        refused(ARGUMENT, SOME, x -> x.plating(-1, 0));
        refused(ARGUMENT, SOME, x -> x.plating(6, 0));
        refused(ARGUMENT, SOME, x -> x.plating(0, -1));
        refused(ARGUMENT, SOME, x -> x.plating(5, 5));
        refused(ARGUMENT, BARE, x -> x.plating(6, 5));
        about("sheet: IllegalArgumentException if sheet is not 0 to 5");
        refused(ARGUMENT, SOME, x -> x.sheet(-1));
        refused(ARGUMENT, SOME, x -> x.sheet(6));
        refused(ARGUMENT, BARE, x -> x.sheet(6));
        about("ofPiece: IndexOutOfBoundsException if there is no such PIECE");
        refused(INDEX, SOME, x -> x.ofPiece(-1, 0));
        refused(INDEX, SOME, x -> x.ofPiece(3, 0));
        refused(INDEX, BARE, x -> x.ofPiece(0, 0));
        refused(INDEX, FULL, x -> x.ofPiece(12, 5));
        about("ofPiece: IllegalArgumentException if what is not 0 to 5");
        refused(ARGUMENT, SOME, x -> x.ofPiece(0, -1));
        refused(ARGUMENT, SOME, x -> x.ofPiece(2, 6));
        about("ofPiece: the exception that is named first");
        refused(INDEX, SOME, x -> x.ofPiece(3, 6));
        refused(INDEX, BARE, x -> x.ofPiece(0, -1));
        about("plating, sheet and ofPiece: far outside");
        for (int far : FAR) {
            refused(ARGUMENT, SOME, x -> x.plating(far, 0));
            refused(ARGUMENT, SOME, x -> x.plating(0, far));
            refused(ARGUMENT, SOME, x -> x.sheet(far));
            refused(INDEX, SOME, x -> x.ofPiece(far, 0));
            refused(ARGUMENT, SOME, x -> x.ofPiece(0, far));
        }
    }

    private static void edges() {
        about("edge: IndexOutOfBoundsException if there is no such PIECE, or edge is not 0 to 3");
        refused(INDEX, SOME, x -> x.edge(-1, 0, 10, 100));
        refused(INDEX, SOME, x -> x.edge(3, 0, 10, 100));
        refused(INDEX, SOME, x -> x.edge(0, -1, 10, 100));
        refused(INDEX, SOME, x -> x.edge(0, 4, 10, 100));
        refused(INDEX, BARE, x -> x.edge(0, 0, 10, 100));
        about("edge: IllegalArgumentException if holes is not 5 to 20, or length not 50 to 400");
        refused(ARGUMENT, SOME, x -> x.edge(0, 0, 4, 100));
        refused(ARGUMENT, SOME, x -> x.edge(0, 0, 21, 100));
        refused(ARGUMENT, SOME, x -> x.edge(0, 3, 10, 49));
        refused(ARGUMENT, SOME, x -> x.edge(0, 3, 10, 401));
        refused(ARGUMENT, SOME, x -> x.edge(0, 1, 10, 0));
        about("edge: the exception that is named first");
        refused(INDEX, SOME, x -> x.edge(3, 0, 4, 100));
        refused(INDEX, SOME, x -> x.edge(0, 4, 10, 0));
        about("holes: IndexOutOfBoundsException if there is no such PIECE");
        refused(INDEX, SOME, x -> x.holes(-1));
        refused(INDEX, SOME, x -> x.holes(3));
        refused(INDEX, BARE, x -> x.holes(0));
        about("edge and holes: far outside");
        for (int far : FAR) {
            refused(INDEX, SOME, x -> x.edge(far, 0, 10, 100));
            refused(INDEX, SOME, x -> x.edge(0, far, 10, 100));
            refused(ARGUMENT, SOME, x -> x.edge(0, 0, far, 100));
            refused(ARGUMENT, SOME, x -> x.edge(0, 0, 10, far));
            refused(INDEX, SOME, x -> x.holes(far));
        }
    }

    private static void roads() {
        about("road: IndexOutOfBoundsException if one of both is not 0 to 5");
        refused(INDEX, SOME, x -> x.road(-1, 0, 1));
        refused(INDEX, SOME, x -> x.road(6, 0, 1));
        refused(INDEX, SOME, x -> x.road(0, -1, 1));
        refused(INDEX, SOME, x -> x.road(0, 6, 1));
        about("road: IllegalArgumentException if both are the same, or days is not 0 to 9");
        refused(ARGUMENT, SOME, x -> x.road(0, 0, 1));
        refused(ARGUMENT, SOME, x -> x.road(5, 5, 0));
        refused(ARGUMENT, SOME, x -> x.road(0, 1, -1));
        refused(ARGUMENT, SOME, x -> x.road(0, 1, 10));
        about("road: the exception that is named first");
        refused(INDEX, SOME, x -> x.road(6, 6, 1));
        refused(INDEX, SOME, x -> x.road(-1, -1, 10));
        refused(INDEX, SOME, x -> x.road(0, 6, 10));
        about("way: IndexOutOfBoundsException if one of both is not 0 to 5");
        refused(INDEX, SOME, x -> x.way(-1, 0));
        refused(INDEX, SOME, x -> x.way(6, 0));
        refused(INDEX, SOME, x -> x.way(0, -1));
        refused(INDEX, SOME, x -> x.way(0, 6));
        refused(INDEX, SOME, x -> x.way(6, 6));
        about("road and way: far outside");
        for (int far : FAR) {
            refused(INDEX, SOME, x -> x.road(far, 0, 1));
            refused(INDEX, SOME, x -> x.road(0, far, 1));
            refused(ARGUMENT, SOME, x -> x.road(0, 1, far));
            refused(INDEX, SOME, x -> x.way(far, 0));
            refused(INDEX, SOME, x -> x.way(0, far));
        }
    }

    private static void rates() {
        about("rate: IllegalArgumentException if from is not a DAY, distance not 0 to 2, weight not 1 to 4, "
                + "or price not 1 to 99");
        refused(ARGUMENT, SOME, x -> x.rate(-1, 0, 1, 1));
        refused(ARGUMENT, SOME, x -> x.rate(1000, 0, 1, 1));
        refused(ARGUMENT, SOME, x -> x.rate(0, -1, 1, 1));
        refused(ARGUMENT, SOME, x -> x.rate(0, 3, 1, 1));
        refused(ARGUMENT, SOME, x -> x.rate(0, 0, 0, 1));
        refused(ARGUMENT, SOME, x -> x.rate(0, 0, 5, 1));
        refused(ARGUMENT, SOME, x -> x.rate(0, 0, 1, 0));
        refused(ARGUMENT, SOME, x -> x.rate(0, 0, 1, 100));
        about("rate: IllegalStateException if there are 16");
        refused(STATE, FULL, x -> x.rate(0, 0, 1, 1));
        refused(STATE, FULL, x -> x.rate(999, 2, 4, 99));
        about("rate: the exception that is named first");
        refused(ARGUMENT, FULL, x -> x.rate(1000, 0, 1, 1));
        refused(ARGUMENT, FULL, x -> x.rate(0, 3, 1, 1));
        refused(ARGUMENT, FULL, x -> x.rate(0, 0, 5, 1));
        refused(ARGUMENT, FULL, x -> x.rate(0, 0, 1, 100));
        about("due: IllegalArgumentException if day is not a DAY, distance not 0 to 2, or weight not 1 to 4");
        refused(ARGUMENT, SOME, x -> x.due(-1, 1, 1));
        refused(ARGUMENT, SOME, x -> x.due(1000, 1, 1));
        refused(ARGUMENT, SOME, x -> x.due(0, -1, 1));
        refused(ARGUMENT, SOME, x -> x.due(0, 3, 1));
        refused(ARGUMENT, SOME, x -> x.due(0, 1, 0));
        refused(ARGUMENT, SOME, x -> x.due(0, 1, 5));
        about("rate and due: far outside");
        for (int far : FAR) {
            refused(ARGUMENT, SOME, x -> x.rate(far, 0, 1, 1));
            refused(ARGUMENT, SOME, x -> x.rate(0, far, 1, 1));
            refused(ARGUMENT, SOME, x -> x.rate(0, 0, far, 1));
            refused(ARGUMENT, SOME, x -> x.rate(0, 0, 1, far));
            refused(ARGUMENT, SOME, x -> x.due(far, 1, 1));
            refused(ARGUMENT, SOME, x -> x.due(0, far, 1));
            refused(ARGUMENT, SOME, x -> x.due(0, 1, far));
        }
    }

    private static void issues() {
        about("issue: IllegalArgumentException if value is not 1 to 99, from or to is not a DAY, or to is below from");
        refused(ARGUMENT, SOME, x -> x.issue(0, 0, 0));
        refused(ARGUMENT, SOME, x -> x.issue(100, 0, 0));
        refused(ARGUMENT, SOME, x -> x.issue(1, -1, 0));
        refused(ARGUMENT, SOME, x -> x.issue(1, -1, -1));
        refused(ARGUMENT, SOME, x -> x.issue(1, 999, 1000));
        refused(ARGUMENT, SOME, x -> x.issue(1, 1000, 1000));
        refused(ARGUMENT, SOME, x -> x.issue(1, 1, 0));
        refused(ARGUMENT, SOME, x -> x.issue(1, 999, 998));
        about("issue: IllegalStateException if there are 10");
        refused(STATE, FULL, x -> x.issue(1, 0, 0));
        refused(STATE, FULL, x -> x.issue(99, 999, 999));
        about("issue: the exception that is named first");
        refused(ARGUMENT, FULL, x -> x.issue(0, 0, 0));
        refused(ARGUMENT, FULL, x -> x.issue(1, 1, 0));
        about("issue: far outside");
        for (int far : FAR) {
            refused(ARGUMENT, SOME, x -> x.issue(far, 0, 0));
            refused(ARGUMENT, SOME, x -> x.issue(1, far, 999));
            refused(ARGUMENT, SOME, x -> x.issue(1, 0, far));
        }
        about("ofIssue: IndexOutOfBoundsException if there is no such ISSUE");
        for (boolean isScarcity : new boolean[] {false, true}) {
            refused(INDEX, BARE, x -> x.ofIssue(0, isScarcity));
            refused(INDEX, SOME, x -> x.ofIssue(-1, isScarcity));
            refused(INDEX, SOME, x -> x.ofIssue(2, isScarcity));
            refused(INDEX, FULL, x -> x.ofIssue(10, isScarcity));
            for (int far : FAR) refused(INDEX, SOME, x -> x.ofIssue(far, isScarcity));
        }
    }

    private static void dies() {
        about("die: IndexOutOfBoundsException if town is not 0 to 5");
        refused(INDEX, SOME, x -> x.die(-1, 0, 0));
        refused(INDEX, SOME, x -> x.die(6, 0, 0));
        about("die: IllegalArgumentException if from or to is not a DAY, or to is below from");
        refused(ARGUMENT, SOME, x -> x.die(0, -1, 0));
        refused(ARGUMENT, SOME, x -> x.die(0, -1, -1));
        refused(ARGUMENT, SOME, x -> x.die(0, 0, 1000));
        refused(ARGUMENT, SOME, x -> x.die(0, 1000, 1000));
        refused(ARGUMENT, SOME, x -> x.die(5, 1, 0));
        about("die: IllegalStateException if there are 10");
        refused(STATE, FULL, x -> x.die(0, 0, 0));
        about("die: the exception that is named first");
        refused(INDEX, SOME, x -> x.die(6, 1, 0));
        refused(INDEX, FULL, x -> x.die(6, 0, 0));
        refused(INDEX, FULL, x -> x.die(-1, 1, 0));
        refused(ARGUMENT, FULL, x -> x.die(0, 1, 0));
        about("die: far outside");
        for (int far : FAR) {
            refused(INDEX, SOME, x -> x.die(far, 0, 0));
            refused(ARGUMENT, SOME, x -> x.die(0, far, 999));
            refused(ARGUMENT, SOME, x -> x.die(0, 0, far));
        }
    }

    private static void covers() {
        about("cover: IndexOutOfBoundsException if there is no such TOWN, of both, or DIE");
        refused(INDEX, SOME, x -> x.cover(-1, 0, 1, 0, 0));
        refused(INDEX, SOME, x -> x.cover(6, 0, 1, 0, 0));
        refused(INDEX, SOME, x -> x.cover(0, -1, 1, 0, 0));
        refused(INDEX, SOME, x -> x.cover(0, 6, 1, 0, 0));
        refused(INDEX, SOME, x -> x.cover(0, 0, 1, -1, 0));
        refused(INDEX, SOME, x -> x.cover(0, 0, 1, 2, 0));
        refused(INDEX, BARE, x -> x.cover(0, 0, 1, 0, 0));
        about("cover: IllegalArgumentException if weight is not 1 to 4, or day is not a DAY");
        refused(ARGUMENT, SOME, x -> x.cover(0, 0, 0, 0, 0));
        refused(ARGUMENT, SOME, x -> x.cover(0, 0, 5, 0, 0));
        refused(ARGUMENT, SOME, x -> x.cover(0, 0, 1, 0, -1));
        refused(ARGUMENT, SOME, x -> x.cover(0, 0, 1, 0, 1000));
        about("cover: IllegalStateException if there are 12");
        refused(STATE, FULL, x -> x.cover(0, 0, 1, 0, 0));
        about("cover: the exception that is named first");
        refused(INDEX, SOME, x -> x.cover(6, 0, 5, 0, 0));
        refused(INDEX, SOME, x -> x.cover(0, 0, 1, 2, 1000));
        refused(INDEX, FULL, x -> x.cover(0, 0, 1, 10, 0));
        refused(INDEX, FULL, x -> x.cover(0, 6, 0, 0, -1));
        refused(ARGUMENT, FULL, x -> x.cover(0, 0, 5, 0, 0));
        refused(ARGUMENT, FULL, x -> x.cover(0, 0, 1, 0, 1000));
        about("cover: far outside");
        for (int far : FAR) {
            refused(INDEX, SOME, x -> x.cover(far, 0, 1, 0, 0));
            refused(INDEX, SOME, x -> x.cover(0, far, 1, 0, 0));
            refused(ARGUMENT, SOME, x -> x.cover(0, 0, far, 0, 0));
            refused(INDEX, SOME, x -> x.cover(0, 0, 1, far, 0));
            refused(ARGUMENT, SOME, x -> x.cover(0, 0, 1, 0, far));
        }
    }

    private static void sticks() {
        about("stick: IndexOutOfBoundsException if there is no such COVER, or ISSUE");
        refused(INDEX, SOME, x -> x.stick(-1, 0, 1));
        refused(INDEX, SOME, x -> x.stick(2, 0, 1));
        refused(INDEX, SOME, x -> x.stick(0, -1, 1));
        refused(INDEX, SOME, x -> x.stick(0, 2, 1));
        refused(INDEX, FULL, x -> x.stick(12, 0, 1));
        refused(INDEX, FULL, x -> x.stick(0, 10, 1));
        about("stick: IllegalArgumentException if many is not 0 to 4");
        refused(ARGUMENT, SOME, x -> x.stick(0, 0, -1));
        refused(ARGUMENT, SOME, x -> x.stick(0, 0, 5));
        about("stick: the exception that is named first");
        refused(INDEX, SOME, x -> x.stick(2, 0, 5));
        refused(INDEX, SOME, x -> x.stick(0, 2, -1));
        about("stick: far outside");
        for (int far : FAR) {
            refused(INDEX, SOME, x -> x.stick(far, 0, 1));
            refused(INDEX, SOME, x -> x.stick(0, far, 1));
            refused(ARGUMENT, SOME, x -> x.stick(0, 0, far));
        }
    }

    private static void arrivals() {
        about("arrive: IndexOutOfBoundsException if there is no such COVER");
        refused(INDEX, SOME, x -> x.arrive(-1, 0, true));
        refused(INDEX, SOME, x -> x.arrive(2, 0, true));
        refused(INDEX, BARE, x -> x.arrive(0, 0, true));
        about("arrive: IllegalArgumentException if day is not a DAY");
        refused(ARGUMENT, SOME, x -> x.arrive(0, -1, true));
        refused(ARGUMENT, SOME, x -> x.arrive(0, 1000, true));
        about("arrive: the exception that is named first");
        refused(INDEX, SOME, x -> x.arrive(2, 1000, true));
        about("arrive: far outside");
        for (int far : FAR) {
            refused(INDEX, SOME, x -> x.arrive(far, 0, true));
            refused(ARGUMENT, SOME, x -> x.arrive(0, far, true));
        }
    }

    private static void coversAsked() {
        about("ofCover: IndexOutOfBoundsException if there is no such COVER");
        refused(INDEX, SOME, x -> x.ofCover(-1, 0));
        refused(INDEX, SOME, x -> x.ofCover(2, 0));
        refused(INDEX, FULL, x -> x.ofCover(12, 7));
        about("ofCover: IllegalArgumentException if what is not 0 to 7");
        refused(ARGUMENT, SOME, x -> x.ofCover(0, -1));
        refused(ARGUMENT, SOME, x -> x.ofCover(1, 8));
        about("ofCover: the exception that is named first");
        refused(INDEX, SOME, x -> x.ofCover(2, 8));
        about("franking: IndexOutOfBoundsException if there is no such COVER");
        refused(INDEX, SOME, x -> x.franking(-1));
        refused(INDEX, SOME, x -> x.franking(2));
        refused(INDEX, BARE, x -> x.franking(0));
        about("ofCover and franking: far outside");
        for (int far : FAR) {
            refused(INDEX, SOME, x -> x.ofCover(far, 0));
            refused(ARGUMENT, SOME, x -> x.ofCover(0, far));
            refused(INDEX, SOME, x -> x.franking(far));
        }
    }

    private static void hands() {
        about("hand: IndexOutOfBoundsException if hand is below 0, or above how many there are");
        refused(INDEX, SOME, x -> x.hand(-1, 0, 0));
        refused(INDEX, SOME, x -> x.hand(3, 0, 0));
        refused(INDEX, BARE, x -> x.hand(1, 0, 0));
        refused(INDEX, FULL, x -> x.hand(6, 0, 0));
        about("hand: IllegalArgumentException if habit is not 0 to 7, or often not 0 to 16");
        refused(ARGUMENT, SOME, x -> x.hand(0, -1, 0));
        refused(ARGUMENT, SOME, x -> x.hand(0, 8, 0));
        refused(ARGUMENT, SOME, x -> x.hand(1, 0, -1));
        refused(ARGUMENT, SOME, x -> x.hand(1, 0, 17));
        refused(ARGUMENT, SOME, x -> x.hand(2, 8, 0));
        refused(ARGUMENT, SOME, x -> x.hand(2, 0, 17));
        about("hand: IllegalStateException if it would be a sixth one");
        refused(STATE, FULL, x -> x.hand(5, 0, 0));
        about("hand: the exception that is named first");
        refused(INDEX, SOME, x -> x.hand(3, 8, 17));
        refused(INDEX, FULL, x -> x.hand(6, 0, 17));
        refused(ARGUMENT, FULL, x -> x.hand(5, 8, 0));
        refused(ARGUMENT, FULL, x -> x.hand(5, 0, 17));
        about("hand: far outside");
        for (int far : FAR) {
            refused(INDEX, SOME, x -> x.hand(far, 0, 0));
            refused(ARGUMENT, SOME, x -> x.hand(0, far, 0));
            refused(ARGUMENT, SOME, x -> x.hand(0, 0, far));
        }
    }

    private static void marks() {
        about("mark: IndexOutOfBoundsException if there is no such PIECE");
        refused(INDEX, SOME, x -> x.mark(-1, 0, 0));
        refused(INDEX, SOME, x -> x.mark(3, 0, 0));
        about("mark: IllegalArgumentException if habit is not 0 to 7, or mark not 0 to 2");
        refused(ARGUMENT, SOME, x -> x.mark(0, -1, 0));
        refused(ARGUMENT, SOME, x -> x.mark(0, 8, 0));
        refused(ARGUMENT, SOME, x -> x.mark(0, 0, -1));
        refused(ARGUMENT, SOME, x -> x.mark(0, 0, 3));
        about("mark: the exception that is named first");
        refused(INDEX, SOME, x -> x.mark(3, 8, 0));
        refused(INDEX, SOME, x -> x.mark(3, 0, 3));
        about("weight: IndexOutOfBoundsException if there is no such PIECE, or HAND (NONE is let)");
        refused(INDEX, SOME, x -> x.weight(-1, 0));
        refused(INDEX, SOME, x -> x.weight(3, -1));
        refused(INDEX, SOME, x -> x.weight(0, -2));
        refused(INDEX, SOME, x -> x.weight(0, 2));
        refused(INDEX, FULL, x -> x.weight(0, 5));
        about("likely: IndexOutOfBoundsException if there is no such PIECE");
        refused(INDEX, SOME, x -> x.likely(-1));
        refused(INDEX, SOME, x -> x.likely(3));
        about("mark, weight and likely: far outside");
        for (int far : FAR) {
            refused(INDEX, SOME, x -> x.mark(far, 0, 0));
            refused(ARGUMENT, SOME, x -> x.mark(0, far, 0));
            refused(ARGUMENT, SOME, x -> x.mark(0, 0, far));
            refused(INDEX, SOME, x -> x.weight(far, 0));
            refused(INDEX, SOME, x -> x.weight(0, far));
            refused(INDEX, SOME, x -> x.likely(far));
        }
    }

    private static void opinions() {
        about("opine: IndexOutOfBoundsException if there is no such PIECE");
        refused(INDEX, SOME, x -> x.opine(-1, 0, true));
        refused(INDEX, SOME, x -> x.opine(3, 0, true));
        about("opine: IllegalArgumentException if expert is not 0 to 4");
        refused(ARGUMENT, SOME, x -> x.opine(0, -1, true));
        refused(ARGUMENT, SOME, x -> x.opine(0, 5, true));
        about("opine: IllegalStateException if there are 20");
        refused(STATE, FULL, x -> x.opine(0, 0, true));
        refused(STATE, FULL, x -> x.opine(11, 4, false));
        about("opine: the exception that is named first");
        refused(INDEX, SOME, x -> x.opine(3, 5, true));
        refused(INDEX, FULL, x -> x.opine(12, 0, true));
        refused(INDEX, FULL, x -> x.opine(12, 5, true));
        refused(ARGUMENT, FULL, x -> x.opine(0, 5, true));
        about("standing: IndexOutOfBoundsException if there is no such PIECE");
        refused(INDEX, SOME, x -> x.standing(-1, 0));
        refused(INDEX, SOME, x -> x.standing(3, 0));
        about("standing: IllegalArgumentException if day is not a DAY");
        refused(ARGUMENT, SOME, x -> x.standing(0, -1));
        refused(ARGUMENT, SOME, x -> x.standing(0, 1000));
        about("standing: the exception that is named first");
        refused(INDEX, SOME, x -> x.standing(3, 1000));
        about("trust: IllegalArgumentException if expert is not 0 to 4");
        refused(ARGUMENT, SOME, x -> x.trust(-1));
        refused(ARGUMENT, SOME, x -> x.trust(5));
        about("opine, standing and trust: far outside");
        for (int far : FAR) {
            refused(INDEX, SOME, x -> x.opine(far, 0, true));
            refused(ARGUMENT, SOME, x -> x.opine(0, far, true));
            refused(INDEX, SOME, x -> x.standing(far, 0));
            refused(ARGUMENT, SOME, x -> x.standing(0, far));
            refused(ARGUMENT, SOME, x -> x.trust(far));
        }
    }

    private static void days() {
        about("pass: IllegalArgumentException if days is not 1 to 400");
        refused(ARGUMENT, SOME, x -> x.pass(0));
        refused(ARGUMENT, SOME, x -> x.pass(-1));
        refused(ARGUMENT, SOME, x -> x.pass(401));
        for (int far : FAR) refused(ARGUMENT, SOME, x -> x.pass(far));
        about("pass: IllegalStateException if it would be above 999");
        refused(STATE, FULL, x -> x.pass(1));
        refused(STATE, FULL, x -> x.pass(400));
        refused(STATE, RefusedCalls::onDay998, x -> x.pass(2));
        about("pass: the exception that is named first");
        refused(ARGUMENT, FULL, x -> x.pass(0));
        refused(ARGUMENT, FULL, x -> x.pass(401));
        refused(ARGUMENT, FULL, x -> x.pass(MOST));
    }

    private static PerfgaugeHouse onDay998() {
        PerfgaugeHouse x = Houses.some();
        x.pass(400);
        x.pass(400);
        x.pass(194);
        return x;
    }

    private static void truths() {
        about("truth: IndexOutOfBoundsException if there is no such PIECE");
        refused(INDEX, SOME, x -> x.truth(-1, true));
        refused(INDEX, SOME, x -> x.truth(3, true));
        refused(INDEX, BARE, x -> x.truth(0, false));
        for (int far : FAR) refused(INDEX, SOME, x -> x.truth(far, true));
        about("truth: IllegalStateException if it was told");
        refused(STATE, SOME, x -> x.truth(2, true));
        refused(STATE, SOME, x -> x.truth(2, false));
        Supplier<PerfgaugeHouse> told = () -> {
            PerfgaugeHouse x = Houses.some();
            x.truth(0, true);
            return x;
        };
        refused(STATE, told, x -> x.truth(0, true));
        refused(STATE, told, x -> x.truth(0, false));
    }

    private static void items() {
        about("item: IndexOutOfBoundsException if there is no such PIECE, or COVER");
        refused(INDEX, SOME, x -> x.item(false, -1, 0));
        refused(INDEX, SOME, x -> x.item(false, 3, 0));
        refused(INDEX, SOME, x -> x.item(true, -1, 0));
        refused(INDEX, SOME, x -> x.item(true, 2, 0));
        refused(INDEX, BARE, x -> x.item(false, 0, 0));
        refused(INDEX, BARE, x -> x.item(true, 0, 0));
        about("item: IllegalArgumentException if reserve is not 0 to 9999");
        refused(ARGUMENT, SOME, x -> x.item(false, 1, -1));
        refused(ARGUMENT, SOME, x -> x.item(true, 1, 10000));
        about("item: IllegalStateException if there are 8, or it is in one");
        refused(STATE, FULL, x -> x.item(false, 0, 0));
        refused(STATE, FULL, x -> x.item(true, 0, 0));
        refused(STATE, FULL, x -> x.item(true, 2, 0));
        refused(STATE, SOME, x -> x.item(false, 0, 0));
        refused(STATE, SOME, x -> x.item(true, 0, 9999));
        about("item: the exception that is named first");
        refused(INDEX, SOME, x -> x.item(false, 3, -1));
        refused(INDEX, FULL, x -> x.item(false, 12, 0));
        refused(INDEX, FULL, x -> x.item(true, 12, 10000));
        refused(ARGUMENT, FULL, x -> x.item(false, 0, 10000));
        refused(ARGUMENT, SOME, x -> x.item(false, 0, 10000));
        about("item: far outside");
        for (int far : FAR) {
            refused(INDEX, SOME, x -> x.item(false, far, 0));
            refused(INDEX, SOME, x -> x.item(true, far, 0));
            refused(ARGUMENT, SOME, x -> x.item(false, 1, far));
        }
    }

    private static void bids() {
        about("bid: IllegalArgumentException if bidder is not 0 to 9, items is not a set of ITEMS that there are, "
                + "or is empty, or amount not 1 to 9999");
        refused(ARGUMENT, SOME, x -> x.bid(-1, 1, 1));
        refused(ARGUMENT, SOME, x -> x.bid(10, 1, 1));
        refused(ARGUMENT, SOME, x -> x.bid(0, 0, 1));
        refused(ARGUMENT, SOME, x -> x.bid(0, -1, 1));
        refused(ARGUMENT, SOME, x -> x.bid(0, 4, 1));
        refused(ARGUMENT, SOME, x -> x.bid(0, 5, 1));
        refused(ARGUMENT, SOME, x -> x.bid(0, 7, 1));
        refused(ARGUMENT, SOME, x -> x.bid(0, LEAST + 3, 1));
        refused(ARGUMENT, SOME, x -> x.bid(0, 1, 0));
        refused(ARGUMENT, SOME, x -> x.bid(0, 1, -1));
        refused(ARGUMENT, SOME, x -> x.bid(0, 1, 10000));
        refused(ARGUMENT, BARE, x -> x.bid(0, 0, 1));
        refused(ARGUMENT, BARE, x -> x.bid(0, 1, 1));
        about("bid: IllegalStateException if there are 40");
        refused(STATE, FULL, x -> x.bid(0, 1, 9999));
        refused(STATE, FULL, x -> x.bid(9, 255, 1));
        about("bid: the exception that is named first");
        refused(ARGUMENT, FULL, x -> x.bid(10, 1, 1));
        refused(ARGUMENT, FULL, x -> x.bid(0, 0, 1));
        refused(ARGUMENT, FULL, x -> x.bid(0, 256, 1));
        refused(ARGUMENT, FULL, x -> x.bid(0, 1, 0));
        about("bid: far outside");
        for (int far : FAR) {
            refused(ARGUMENT, SOME, x -> x.bid(far, 1, 1));
            refused(ARGUMENT, SOME, x -> x.bid(0, far, 1));
            refused(ARGUMENT, SOME, x -> x.bid(0, 1, far));
        }
    }

    private static void sales() {
        about("ofSale: IllegalArgumentException if what is not 0 to 6");
        refused(ARGUMENT, SOME, x -> x.ofSale(-1));
        refused(ARGUMENT, SOME, x -> x.ofSale(7));
        refused(ARGUMENT, BARE, x -> x.ofSale(7));
        about("alone: IndexOutOfBoundsException if there is no such ITEM");
        for (boolean isBidder : new boolean[] {false, true}) {
            refused(INDEX, SOME, x -> x.alone(-1, isBidder));
            refused(INDEX, SOME, x -> x.alone(2, isBidder));
            refused(INDEX, BARE, x -> x.alone(0, isBidder));
            refused(INDEX, FULL, x -> x.alone(8, isBidder));
            for (int far : FAR) refused(INDEX, SOME, x -> x.alone(far, isBidder));
        }
        for (int far : FAR) refused(ARGUMENT, SOME, x -> x.ofSale(far));
    }

    private static void standards() {
        about("standard: IllegalArgumentException if printing is not 0 to 7, or a number not 0 to 99");
        refused(ARGUMENT, SOME, x -> x.standard(-1, 0, 0, 0));
        refused(ARGUMENT, SOME, x -> x.standard(8, 0, 0, 0));
        refused(ARGUMENT, SOME, x -> x.standard(2, -1, 0, 0));
        refused(ARGUMENT, SOME, x -> x.standard(2, 100, 0, 0));
        refused(ARGUMENT, SOME, x -> x.standard(2, 0, -1, 0));
        refused(ARGUMENT, SOME, x -> x.standard(2, 0, 100, 0));
        refused(ARGUMENT, SOME, x -> x.standard(2, 0, 0, -1));
        refused(ARGUMENT, SOME, x -> x.standard(2, 0, 0, 100));
        for (int far : FAR) {
            refused(ARGUMENT, SOME, x -> x.standard(far, 0, 0, 0));
            refused(ARGUMENT, SOME, x -> x.standard(0, far, 0, 0));
            refused(ARGUMENT, SOME, x -> x.standard(0, 0, far, 0));
            refused(ARGUMENT, SOME, x -> x.standard(0, 0, 0, far));
        }
    }

    private static void shades() {
        about("shade: IndexOutOfBoundsException if there is no such PIECE");
        refused(INDEX, SOME, x -> x.shade(-1, 0, 0, 0, 0));
        refused(INDEX, SOME, x -> x.shade(3, 0, 0, 0, 0));
        about("shade: IllegalArgumentException if a number is not 0 to 99, or light not 0 to 50");
        refused(ARGUMENT, SOME, x -> x.shade(0, -1, 0, 0, 0));
        refused(ARGUMENT, SOME, x -> x.shade(0, 100, 0, 0, 0));
        refused(ARGUMENT, SOME, x -> x.shade(0, 0, -1, 0, 0));
        refused(ARGUMENT, SOME, x -> x.shade(0, 0, 100, 0, 0));
        refused(ARGUMENT, SOME, x -> x.shade(0, 0, 0, -1, 0));
        refused(ARGUMENT, SOME, x -> x.shade(0, 0, 0, 100, 0));
        refused(ARGUMENT, SOME, x -> x.shade(0, 0, 0, 0, -1));
        refused(ARGUMENT, SOME, x -> x.shade(0, 0, 0, 0, 51));
        about("shade: the exception that is named first");
        refused(INDEX, SOME, x -> x.shade(3, 100, 0, 0, 0));
        refused(INDEX, SOME, x -> x.shade(3, 0, 0, 0, 51));
        about("near: IndexOutOfBoundsException if there is no such PIECE");
        refused(INDEX, SOME, x -> x.near(-1, 0));
        refused(INDEX, SOME, x -> x.near(3, 0));
        about("near: IllegalArgumentException if what is not 0 to 2");
        refused(ARGUMENT, SOME, x -> x.near(0, -1));
        refused(ARGUMENT, SOME, x -> x.near(0, 3));
        about("near: the exception that is named first");
        refused(INDEX, SOME, x -> x.near(3, 3));
        about("value: IndexOutOfBoundsException if there is no such PIECE");
        refused(INDEX, SOME, x -> x.value(-1));
        refused(INDEX, SOME, x -> x.value(3));
        refused(INDEX, BARE, x -> x.value(0));
        about("shade, near and value: far outside");
        for (int far : FAR) {
            refused(INDEX, SOME, x -> x.shade(far, 0, 0, 0, 0));
            refused(ARGUMENT, SOME, x -> x.shade(0, far, 0, 0, 0));
            refused(ARGUMENT, SOME, x -> x.shade(0, 0, far, 0, 0));
            refused(ARGUMENT, SOME, x -> x.shade(0, 0, 0, far, 0));
            refused(ARGUMENT, SOME, x -> x.shade(0, 0, 0, 0, far));
            refused(INDEX, SOME, x -> x.near(far, 0));
            refused(ARGUMENT, SOME, x -> x.near(0, far));
            refused(INDEX, SOME, x -> x.value(far));
        }
    }

    private static void frames() {
        about("frame: IllegalArgumentException if stamps is not 0 to 40");
        for (boolean isSet : new boolean[] {false, true}) {
            refused(ARGUMENT, SOME, x -> x.frame(-1, isSet));
            refused(ARGUMENT, SOME, x -> x.frame(41, isSet));
            refused(ARGUMENT, BARE, x -> x.frame(41, isSet));
            for (int far : FAR) refused(ARGUMENT, SOME, x -> x.frame(far, isSet));
        }
    }
}
