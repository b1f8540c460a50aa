/** Small cities and texts that several tests use. */
final class Cities {
    private Cities() { }

    /** A word, or up to eight bytes of a text, as a number: the highest first. */
    static long word(String text) {
        long w = 0;
        for (int i = 0; i < text.length(); i++) {
            w = w << 8 | text.charAt(i);
        }
        return w;
    }

    /** Feeds a text of any length that THE TAPE has room for. */
    static void feed(RunSayer x, String text) {
        for (int at = 0; at < text.length(); at += 8) {
            String part = text.substring(at, Math.min(at + 8, text.length()));
            x.feed(word(part), part.length());
        }
    }

    static int say(RunSayer x, int a, int b, int hour, String text) {
        feed(x, text);
        return x.say(a, b, hour);
    }

    static int rule(RunSayer x, String text) {
        feed(x, text);
        return x.rule();
    }

    /** Streets of these feet from junction to junction in a row, with a door in the first and in the last one. */
    static RunSayer street(int... feet) {
        RunSayer x = new RunSayer();
        for (int i = 0; i <= feet.length; i++) {
            x.junction(10 * i, 0, 0);
        }
        for (int i = 0; i < feet.length; i++) {
            x.way(0, i, i + 1, feet[i], 0);
            x.name(i, word("a"));
        }
        x.door(0, 1, 0);
        x.door(feet.length - 1, feet[feet.length - 1] - 1, 0);
        return x;
    }

    /**
     * A square of streets, each of 40 feet, from junction 0 at 10, 10 against the clock: ways 0 elm, 1 oak,
     * 2 ash, 3 fir. Door 0 on elm 10 from its a, side 0; door 1 on ash 30 from its a, side 1.
     */
    static RunSayer square() {
        RunSayer x = new RunSayer();
        x.junction(10, 10, 0);
        x.junction(50, 10, 0);
        x.junction(50, 50, 0);
        x.junction(10, 50, 0);
        String[] names = {"elm", "oak", "ash", "fir"};
        for (int w = 0; w < 4; w++) {
            x.way(0, w, (w + 1) % 4, 40, 0);
            x.name(w, word(names[w]));
        }
        x.door(0, 10, 0);
        x.door(2, 30, 1);
        return x;
    }

    /** A small square around which one turns left, each way called a; both doors are on way 0, door 1 ahead. */
    static RunSayer around() {
        RunSayer x = new RunSayer();
        x.junction(0, 0, 0);
        x.junction(9, 0, 0);
        x.junction(9, 9, 0);
        x.junction(0, 9, 0);
        for (int w = 0; w < 4; w++) {
            x.way(0, w, (w + 1) % 4, 10, 0);
            x.name(w, word("a"));
        }
        x.door(0, 3, 0);
        x.door(0, 5, 0);
        return x;
    }

    /**
     * The square on day 3: pupil 0 of two, who keep for 10 days, has ridden run 0, of 100 feet and 2 turns, from
     * door 0 to 1, where 60 feet are the least.
     */
    static RunSayer ridden() {
        RunSayer x = square();
        say(x, 0, 1, 6, "leave up left oak left ash set right");
        x.pupil(10);
        x.pupil(10);
        x.pass(3);
        x.ride(0, 0);
        return x;
    }
}
