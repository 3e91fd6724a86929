/**
 * All that a house tells of itself, as one text, so that two houses can be held against each other.
 * It ends with calls that change the house (for some things show in no other way), so that house is used up.
 */
public final class Witness extends Answers {
    /** How many calls it makes at the most: with them a house stays below its 512. */
    public static final int MOST_CALLS = 300;

    private final StringBuilder text = new StringBuilder();
    private int calls = 0;

    private Witness() {
    }

    public static String of(PerfgaugeHouse x) {
        Witness witness = new Witness();
        witness.ask(x);
        witness.use(x);
        if (witness.calls > MOST_CALLS) throw new IllegalStateException(witness.calls + " calls");
        return witness.text.toString();
    }

    private void note(String what, Call call) {
        calls++;
        text.append(what).append(' ').append(answerOf(call)).append('\n');
    }

    private void ask(PerfgaugeHouse x) {
        note("digest", x::digest);
        for (int position = 0; position < 6; position++) {
            for (int printing = 1; printing < 7; printing++) {
                int p = position;
                int q = printing;
                note("face " + p + " " + q, () -> x.face(p, q));
            }
        }
        for (int piece = 0; piece < 4; piece++) askOfPiece(x, piece);
        for (int one = 0; one < 6; one++) {
            for (int other = one + 1; other < 6; other++) {
                int a = one;
                int b = other;
                note("way " + a + " " + b, () -> x.way(a, b));
            }
        }
        for (int day : new int[] {0, 7, 999}) {
            for (int distance = 0; distance < 3; distance++) {
                for (int weight = 1; weight <= 4; weight++) {
                    int d = distance;
                    int w = weight;
                    note("due " + day + " " + d + " " + w, () -> x.due(day, d, w));
                }
            }
        }
        for (int sheet = 0; sheet < 6; sheet++) {
            int s = sheet;
            note("sheet " + s, () -> x.sheet(s));
        }
        note("frame", () -> x.frame(40, true));
    }

    private void askOfPiece(PerfgaugeHouse x, int piece) {
        for (int position = 0; position < 6; position++) {
            for (int printing : new int[] {1, 2, 6}) {
                int p = position;
                note("fits " + piece + " " + p + " " + printing, () -> x.fits(piece, p, printing));
            }
        }
        for (int hand = 0; hand < 6; hand++) {
            int h = hand;
            note("weight " + piece + " " + h, () -> x.weight(piece, h));
        }
        for (int day : new int[] {0, 303, 999}) {
            note("standing " + piece + " " + day, () -> x.standing(piece, day));
        }
    }

    /** The marks, what was seen, whose truth was told, and how many there are of each thing. */
    private void use(PerfgaugeHouse x) {
        for (int habit = 0; habit < 8; habit++) {
            int h = habit;
            note("mark " + h, () -> x.mark(0, h, 2));
            note("mark of the last " + h, () -> x.mark(11, h, 2));
        }
        for (int stamp = 0; stamp < 2; stamp++) {
            int s = stamp;
            note("seen " + s, () -> x.seen(0, s, 0, false));
            note("seen of the next " + s, () -> x.seen(1, s, 0, false));
        }
        for (int piece = 0; piece < 3; piece++) {
            int p = piece;
            note("truth " + p, () -> x.truth(p, true));
        }
        note("trust", () -> x.trust(0));
        note("hands", () -> x.hand(0, 0, 8));
        note("standards", () -> x.standard(7, 0, 0, 0));
        note("flaws", () -> x.flaw(0, 0, 0, 0));
        note("rates", () -> x.rate(0, 0, 1, 1));
        note("issues", () -> x.issue(1, 0, 0));
        note("dies", () -> x.die(0, 0, 0));
        note("covers", () -> x.cover(0, 1, 1, 0, 0));
        note("opinions", () -> x.opine(0, 0, true));
        note("items", () -> x.item(false, 1, 0));
        note("bids", () -> x.bid(0, 1, 1));
        note("pieces", () -> x.piece(1, 1, 5, false));
        note("today", () -> x.pass(1));
    }
}
