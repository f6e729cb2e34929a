/** Objects in the states that refusals are tried in: nothing told, some of all told, all full. */
final class States {
    private States() { }

    static Counted empty() {
        return new Counted();
    }

    /** The east coast is shore but for land at (9, 3) and all of row 5. All the year there is a drift to the east. */
    private static Counted sea() {
        Counted x = new Counted();
        for (int y = 0; y < 6; y++) {
            x.paint(9, 9, y, 0, y == 3 ? 2 : 1);
            x.paint(9, 9, y, 3, 5 + y);
            x.paint(9, 9, y, 2, 7 - y);
            x.paint(4, 5, y, 1, 1);
            x.paint(6, 9, y, 1, 2);
        }
        x.paint(0, 9, 5, 0, 2);
        x.paint(2, 3, 1, 4, 0x0A5);
        for (int month = 0; month < 12; month++) {
            x.current(0, month, month % 2 == 0 ? 35 : 34, 24);
            x.current(1, month, 45, month % 3 == 0 ? 23 : 34);
            x.current(2, month, 35, 33);
            x.wind(month, month % 3 - 1, month % 2);
        }
        x.move(0, 1);
        x.move(2, -1);
        return x;
    }

    static Counted some() {
        Counted x = sea();
        x.storm(3, 1, 0);
        x.storm(13, -1, 1);
        x.storm(47, 2, -1);
        x.cast(0, 100, 40, 2, 6 * 4 + 2, 0);
        x.cast(1, 200, 50, 13, 6 * 5 + 1, 0);
        x.cast(2, 100, 10, 46, 6 * 3 + 2, 109);
        x.name(909, 5, 1);
        x.name(909, 102, 4);
        x.name(9, 5, 1);
        x.find(0x0105, 0, 0, 0, 60);
        x.find(0x0105, 0, 0, 0, 60);
        x.find(0x020A, 0, 1, 0, 60);
        x.clock(7);
        x.find(0x0106, 0, 1, 0, 1);
        x.find(0x9999, 0, 2, 0, 60);
        x.find(0x0107, 0, 0, 0, 60);
        x.drop(5, 1);
        Bounds.prizeOf(x, "prize 7");
        Bounds.prizeOf(x, "prize 30 if far>3&!kind=1");
        x.feed(0x707269, 3);
        return x;
    }

    static Counted full() {
        Counted x = sea();
        for (int month = 0; month < 48; month++) x.storm(month, month % 3 - 1, month % 2);
        x.cast(0, 0, 1000, 2, 6 * 4 + 2, 0);
        x.cast(1, 1000, 1000, 13, 6 * 5 + 1, 0);
        x.cast(2, 0, 1000, 46, 6 * 3 + 2, 112);
        x.cast(3, 9000, 1000, 47, 6 * 2 + 3, 300);
        x.cast(0, 8000, 1000, 0, 6 * 6 + 4, 200);
        for (int n = 0; n < 6; n++) x.name(n < 4 ? 909 : 9, n < 4 ? 101 * n : 5, n);
        for (int f = 0; f < 16; f++) {
            x.clock(f * 20);
            x.find(f < 8 ? 0x0010 + f / 2 : 0x1000 + f - 8, 0, f % 6, 0, 60);
        }
        x.drop(2, 1);
        x.clock(999);
        for (int p = 0; p < 8; p++) Bounds.prizeOf(x, p % 2 == 0 ? "prize 3" : "prize 50 if far>2");
        for (int i = 0; i < 15; i++) x.feed(0x7072697A65203120L, 8);
        return x;
    }
}
