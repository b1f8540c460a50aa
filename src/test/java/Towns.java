/** Two whole cities for the refusals: in the one there is room in every table, in the other one all are full. */
final class Towns {
    private static final int ROOM_TODAY = 3;

    final boolean full;
    final int junctions, ways, legs, doors, runs, pupils, exams, today;

    private Towns(boolean full) {
        this.full = full;
        junctions = full ? 24 : 4;
        ways = full ? 40 : 4;
        legs = 2 * ways;
        doors = full ? 8 : 3;
        runs = full ? 10 : 2;
        pupils = full ? 4 : 2;
        exams = full ? 24 : 1;
        today = full ? 299 : ROOM_TODAY;
    }

    static Towns withRoom() {
        return new Towns(false);
    }

    static Towns allFull() {
        return new Towns(true);
    }

    /**
     * The square with door 2 on way 0 ahead of door 0; run 0 of one leg, run 1 of three; sheet 0 missing,
     * 1 of three shorts, 2 of nine ints, 3 of no bytes. The full one takes 330 calls.
     */
    RunSayer make() {
        RunSayer x = Cities.square();
        x.door(0, 30, 1);
        Cities.say(x, 0, 2, 6, "leave up set right");
        Cities.say(x, 0, 1, 6, "leave up left oak left ash set right");
        x.pass(ROOM_TODAY);
        x.pupil(2);
        x.pupil(3);
        x.ride(0, 1);
        x.plan(0, 3, 2, ROOM_TODAY + 2);
        x.shut(3, 200, 210);
        Cities.rule(x, "take 1");
        x.ask(0, 0, 1, 6);
        x.taken(0, 8);
        x.sheet(1, 1, 3);
        x.cell(1, 2, -7);
        x.sheet(2, 2, 9);
        x.cell(2, 0, 60);
        x.cell(2, 8, 5);
        x.sheet(3, 0, 0);
        x.best(0, 1, 6, 0);
        if (full) {
            fill(x);
        }
        Cities.feed(x, "take 2" + (full ? " ".repeat(154) : ""));
        return x;
    }

    private static void fill(RunSayer x) {
        for (int j = 4; j < 24; j++) {
            x.junction(50 + j, 0, 0);
        }
        for (int w = 4; w < 40; w++) {
            x.way(0, 4, 5, 10, 0);
        }
        for (int d = 3; d < 8; d++) {
            x.door(4, d, 0);
        }
        for (int n = 4; n < 60; n++) {
            x.name(4, 'a');
        }
        for (int r = 2; r < 10; r++) {
            Cities.say(x, 0, 2, 6, "leave up set right");
        }
        for (int i = 0; i < 40; i++) {
            x.shut(39, 0, 1);
            x.ban(8, 11, 1, 1);
        }
        x.pupil(1);
        x.pupil(1);
        for (int i = 1; i < 6; i++) {
            Cities.rule(x, "take 1");
        }
        for (int k = 1; k < 24; k++) {
            x.ask(k % 4, 0, 1, 6);
        }
        x.pass(100);
        x.pass(100);
        x.pass(299 - 200 - ROOM_TODAY);
    }
}
