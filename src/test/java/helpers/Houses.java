/** Houses of which a test needs all that can be told. */
public final class Houses {
    private Houses() {
    }

    /** A house with a little of everything: 6 POSITIONS, 3 PIECES, 2 of each other thing; TODAY is 4. */
    static PerfgaugeHouse some() {
        PerfgaugeHouse x = new PerfgaugeHouse();
        x.plate(3, 2);
        x.flaw(0, 1, 0, 7);
        x.flaw(4, 2, 2, 5);
        x.piece(1, 1, 0, false);
        x.seen(0, 0, 2, true);
        x.tear(2, 1, 3, 3, 1);
        x.piece(1, 2, 2, true);
        for (int edge = 0; edge < 4; edge++) x.edge(0, edge, 9, 200);
        x.road(0, 1, 3);
        x.road(1, 2, 4);
        x.rate(0, 1, 4, 9);
        x.rate(5, 2, 2, 12);
        x.issue(2, 0, 500);
        x.issue(7, 3, 999);
        x.die(0, 0, 900);
        x.die(1, 10, 20);
        x.cover(0, 1, 1, 0, 6);
        x.stick(0, 0, 1);
        x.stick(0, 1, 1);
        x.cover(1, 2, 2, 1, 15);
        x.hand(0, 3, 12);
        x.hand(1, 0, 2);
        x.mark(0, 3, 1);
        x.opine(0, 0, true);
        x.opine(1, 1, false);
        x.pass(4);
        x.opine(0, 2, false);
        x.truth(2, true);
        x.item(false, 0, 5);
        x.item(true, 0, 0);
        x.bid(1, 1, 30);
        x.bid(2, 3, 60);
        x.bid(3, 1, 20);
        x.standard(2, 10, 20, 30);
        x.standard(3, 10, 20, 40);
        x.shade(0, 12, 22, 33, 5);
        return x;
    }

    /** A house with all that the document lets be there; TODAY is 999. */
    static PerfgaugeHouse full() {
        PerfgaugeHouse x = new PerfgaugeHouse();
        x.plate(3, 2);
        for (int seed = 0; x.engrave(seed) < 60; seed++) { }
        for (int i = 0; i < 6; i++) x.piece(1, 1, i / 3, false);
        for (int i = 0; i < 6; i++) x.tear(1, 1, i, i, 2 + i / 3);
        for (int i = 0; i < 5; i++) x.road(i, i + 1, 2);
        for (int i = 0; i < 16; i++) x.rate(i, i % 3, 1 + i % 4, 5 + i);
        for (int i = 0; i < 10; i++) x.issue(1 + i, 0, 500 + i);
        for (int i = 0; i < 10; i++) x.die(i % 6, 0, 990 + i);
        for (int i = 0; i < 12; i++) x.cover(i % 6, i % 4, 1 + i % 4, i % 10, 400);
        for (int i = 0; i < 5; i++) x.hand(i, i, i);
        x.mark(0, 1, 1);
        x.mark(11, 7, 0);
        x.pass(400);
        x.pass(350);
        for (int i = 0; i < 20; i++) x.opine(i % 4, i % 5, i % 3 != 0);
        x.truth(0, true);
        x.pass(249);
        for (int i = 0; i < 8; i++) x.item(i % 2 == 0, 2 + i, i);
        for (int i = 0; i < 40; i++) x.bid(i % 10, 1 + i * 5 % 255, 10 + i);
        return x;
    }
}
