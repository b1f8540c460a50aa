/** Each sentence of the document's terms 4 PUPILS, 5 RULES and 6 SHEETS that names a boundary: both sides of it. */
final class TermsSchoolTest {
    private static final Check check = new Check("TermsSchoolTest");
    private static final int NONE = -1, BAD = -2, STATE = -3, FULL = -4;

    public static void main(String[] args) {
        pupils();
        links();
        allLinks();
        held();
        wouldSay();
        asksAgain();
        ridesDays();
        ridesSet();
        ridesHeld();
        parts();
        partsFirst();
        rules();
        tests();
        marks();
        fields();
        wrong();
        over();
        overNone();
        turnsAndFeet();
        exams();
        appeals();
        sheets();
        things();
        taken();
        check.end();
    }

    private static void due(String call, long got, long want) {
        check.due(call, got, want);
    }

    // ---- 4 PUPILS

    private static void pupils() {
        check.sentence("PUPILS are numbered from 0 on, 4 at most, each KEEPS for 1 .. 30 days");
        RunSayer x = new RunSayer();
        due("keeps 0", x.pupil(0), BAD);
        due("keeps 31", x.pupil(31), BAD);
        due("no pupil", x.knows(0, 0), NONE);
        int[] keeps = {1, 30, 2, 29};
        for (int p = 0; p < 4; p++) {
            due("keeps " + keeps[p], x.pupil(keeps[p]), p);
            due("pupil " + p, x.knows(p, 0), 0);
            due("pupil " + (p + 1), x.knows(p + 1, 0), NONE);
        }
        due("a fifth", x.pupil(1), FULL);
        due("a fifth, keeps 31", x.pupil(31), BAD);
    }

    private static void links() {
        check.sentence("To RIDE a SAID RUN is to ride all its LINKS TODAY, each once");
        RunSayer x = Cities.around();
        x.pupil(1);
        due("one leg", Cities.say(x, 0, 1, 0, "leave up set left"), 0);
        due("four turns", Cities.say(x, 0, 1, 0, "leave up" + " left a".repeat(4) + " set left"), 1);
        due("eight turns", Cities.say(x, 0, 1, 0, "leave up" + " left a".repeat(8) + " set left"), 2);
        due("one leg has no links", x.ride(0, 0), 0);
        due("four links", x.ride(0, 1), 4);
        due("each once: held for a day", x.knows(0, 1), 4);
        due("each once: not for two", x.knows(0, 2), 0);
        x.pass(2);
        due("the same four, each once more", x.ride(0, 2), 4);
        due("held for two days", x.knows(0, 4), 4);
        due("not for three", x.knows(0, 5), 0);
        due("the link of the last turn", x.holds(0, 6, 0, 4), 1);
        due("no link that was not ridden", x.holds(0, 1, 7, 2), 0);
    }

    /** Ten runs of twenty turns to and fro over 26 ways, where run r goes on by r + 1 ways each time. */
    private static void allLinks() {
        check.sentence("SAID RUNS 10 at most, up to 20 times a turn: 200 LINKS");
        RunSayer x = new RunSayer();
        x.junction(0, 0, 0);
        x.junction(9, 0, 0);
        for (int w = 0; w < 26; w++) {
            x.way(0, 0, 1, 10, 0);
            x.name(w, 'a' + w);
        }
        x.door(0, 5, 0);
        x.door(25, 5, 0);
        x.pupil(1);
        for (int r = 0; r < 10; r++) {
            StringBuilder text = new StringBuilder("leave up");
            for (int i = 1; i < 20; i++) {
                text.append(" left ").append((char) ('a' + i * (r + 1) % 26));
            }
            due("run " + r, Cities.say(x, 0, 1, 0, text + " left z set left"), r);
            due("its links are others", x.ride(0, r), 20 * (r + 1));
        }
        due("all are held tomorrow", x.knows(0, 1), 200);
        due("none on the day behind it", x.knows(0, 2), 0);
        due("the last one", x.holds(0, 2 * (190 % 26) + 1, 50, 0), 1);
        due("for day 3: run 0 twice, runs 1 and 2 on days 2 and 3", x.plan(0, 15, 4, 3), 60);
        int[] row = {0, 0, 1, 2};
        for (int d = 0; d < 4; d++) {
            due("day " + d, x.planned(d), row[d]);
        }
        due("for day 5: run 0, and run 1 on day 3", x.plan(0, 15, 4, 5), 40);
        due("day 3", x.planned(3), 1);
        for (int i = 0; i < 3; i++) {
            due("he would say the straightest of all that he holds", x.wouldSay(0, 0, 1, 0), 3);
            due("its feet", x.cost(1), 5 + 10 + 5);
        }
        due("a door ahead of the last link", x.door(190 % 26, 1, 0), 2);
        for (int i = 0; i < 2; i++) {
            due("it is the 200th, and counts as all others do", x.wouldSay(0, 2, 1, 0), 2);
            due("its feet", x.cost(1), 1 + 5);
        }
    }

    private static void held() {
        check.sentence("times (6 at most); HELD on a day not ahead of that, so many days behind it as KEEPS, doubled for each time more than the first");
        int[] keeps = {1, 2, 7, 30};
        for (int k : keeps) {
            RunSayer x = Cities.street(10, 10);
            Cities.say(x, 0, 1, 0, "leave up ahead a set left");
            x.pupil(k);
            due("not yet", x.holds(0, 0, 2, 0), 0);
            int days = k, today = 0;
            for (int times = 1; times <= 8; times++) {
                due("ridden", x.ride(0, 0), 1);
                due("that day, too", x.holds(0, 0, 2, today), 1);
                due(times + " times, keeps " + k + ": the last day", x.holds(0, 0, 2, today + days), 1);
                due(times + " times, keeps " + k + ": a day more", x.holds(0, 0, 2, today + days + 1), 0);
                due("how many on the last day", x.knows(0, today + days), 1);
                due("how many a day later", x.knows(0, today + days + 1), 0);
                days = times < 6 ? 2 * days : days;
                today = x.pass(times);
            }
            due("yesterday", x.holds(0, 0, 2, today - 1), BAD);
            due("day 2000", x.holds(0, 0, 2, 2000), 0);
            due("day 2001", x.holds(0, 0, 2, 2001), BAD);
            due("yesterday", x.knows(0, today - 1), BAD);
            due("day 2001", x.knows(0, 2001), BAD);
        }
    }

    private static void wouldSay() {
        check.sentence("A PUPIL WOULD SAY the BEST by TWISTS of runs whose turns are all HELD TODAY; what is SHUT or BANNED counts for nothing then (ONE and OPEN do)");
        RunSayer x = Cities.street(10, 10, 10);
        x.name(0, 'b');
        x.door(1, 5, 0);
        Cities.say(x, 0, 2, 0, "leave up ahead a set left");
        Cities.say(x, 2, 1, 0, "leave up ahead a set left");
        x.pupil(1);
        due("the first link", x.ride(0, 0), 1);
        due("the second one lacks", x.wouldSay(0, 0, 1, 0), 0);
        x.pass(1);
        due("both", x.ride(0, 1), 2);
        due("both are held", x.wouldSay(0, 0, 1, 0), 3);
        x.shut(1, 0, 300);
        x.ban(0, 2, 24, 127);
        due("shut and banned", x.best(0, 1, 0, 0), 0);
        due("he would say it", x.wouldSay(0, 0, 1, 0), 3);
        x.pass(1);
        due("the first one is forgotten", x.wouldSay(0, 0, 1, 0), 0);
        due("the second one is not", x.wouldSay(0, 2, 1, 0), 2);
        x.pass(1);
        due("it is, too", x.wouldSay(0, 2, 1, 0), 0);
        int[] hours = {4, 5, 21, 22}, says = {0, 1, 1, 0};
        RunSayer y = new RunSayer();
        y.junction(0, 0, 0);
        y.junction(9, 0, 0);
        y.way(3, 0, 1, 10, 1);
        y.door(0, 3, 0);
        y.door(0, 6, 0);
        y.pupil(1);
        for (int h = 0; h < hours.length; h++) {
            due("OPEN counts in hour " + hours[h], y.wouldSay(0, 0, 1, hours[h]), says[h]);
            due("ONE counts", y.wouldSay(0, 1, 0, hours[h]), 0);
        }
    }

    /** What one call held or banned does not stand in the next one's way, as many as there are. */
    private static void asksAgain() {
        RunSayer x = Cities.ridden();
        x.ban(1, 7, 24, 127);
        for (int i = 0; i < 80; i++) {
            due("pupil 0", x.wouldSay(0, 0, 1, 6), 3);
            due("its feet: fir is banned", x.best(0, 1, 6, 1) + x.cost(1), 103);
        }
        due("pupil 1", x.wouldSay(1, 0, 1, 6), 0);
    }

    /** The square with two runs of two links each, and one of four; pupil 0 keeps for a day. */
    private static RunSayer planned() {
        RunSayer x = Cities.square();
        Cities.say(x, 0, 1, 6, "leave up left oak left ash set right");
        Cities.say(x, 0, 1, 6, "leave down right fir right ash set left");
        Cities.say(x, 0, 1, 6, "leave up left oak left ash left fir left elm left oak left ash set right");
        x.pupil(1);
        return x;
    }

    private static void ridesDays() {
        check.sentence("RIDES for n days (1 .. 4), TODAY and the next ones");
        RunSayer x = planned();
        x.pass(5);
        due("no days", x.plan(0, 1, 0, 9), BAD);
        due("five days", x.plan(0, 1, 5, 9), BAD);
        due("none was planned", x.planned(0), NONE);
        for (int n = 1; n <= 4; n++) {
            due(n + " days, for a day ahead of the last one", x.plan(0, 1, n, 5 + n - 2), BAD);
            due(n + " days, for the last one", x.plan(0, 1, n, 5 + n - 1), 2);
            due("ridden " + n + " times: so long", x.plan(0, 1, n, 5 + n - 1 + (1 << (n - 1))), 2);
            due("not a day more", x.plan(0, 1, n, 5 + n - 1 + (1 << (n - 1)) + 1), 0);
            due("day " + (n - 1), x.planned(n - 1), 0);
            due("day " + n, x.planned(n), NONE);
            due("day -1", x.planned(-1), NONE);
            due("for day 2000", x.plan(0, 1, n, 2000), 0);
            due("for day 2001", x.plan(0, 1, n, 2001), BAD);
        }
    }

    private static void ridesSet() {
        check.sentence("each of a set of 1 to 4 SAID RUNS");
        RunSayer x = planned();
        for (int r = 3; r < 10; r++) {
            due("run " + r, Cities.say(x, 0, 1, 6, "leave up left oak left ash set right"), r);
        }
        due("none", x.plan(0, 0, 1, 0), BAD);
        due("one", x.plan(0, 1, 1, 0), 2);
        due("the last one", x.plan(0, 512, 1, 0), 2);
        due("its number", x.planned(0), 9);
        due("four", x.plan(0, 512 + 256 + 4 + 1, 1, 0), 4);
        due("the one with the most links", x.planned(0), 2);
        due("five", x.plan(0, 512 + 256 + 128 + 4 + 1, 1, 0), BAD);
        due("ten", x.plan(0, 1023, 1, 0), BAD);
        due("an eleventh", x.plan(0, 1024, 1, 0), NONE);
        due("an eleventh among ten", x.plan(0, 2047, 1, 0), NONE);
        due("its row is kept", x.planned(0), 2);
    }

    private static void ridesHeld() {
        check.sentence("the row with which the most LINKS are HELD on a day, of like ones the first by numbers");
        RunSayer x = planned();
        // run 2 has the links of run 0 and two more, run 1 has two of its own
        // set, for which day, how many are held, the row
        int[][] plans = {{3, 1, 2, 0}, {4, 1, 4, 2}, {7, 1, 4, 2}, {3, 1, 4, 0, 1}, {3, 3, 2, 0, 0}, {7, 1, 6, 1, 2},
            {7, 3, 4, 2, 2}, {5, 2, 4, 0, 2}, {6, 1, 6, 1, 2}, {6, 4, 0, 1, 1}, {3, 2, 4, 0, 0, 1}, {3, 3, 4, 0, 0, 1},
            {3, 4, 2, 0, 0, 0}};
        for (int[] p : plans) {
            int n = p.length - 3;
            due("set " + p[0] + " for " + n + " days, for day " + p[1], x.plan(0, p[0], n, p[1]), p[2]);
            for (int d = 0; d < n; d++) {
                due("day " + d, x.planned(d), p[3 + d]);
            }
        }
    }

    private static void parts() {
        check.sentence("PARTS: the greatest number of PUPILS of a set who WOULD SAY alike (nothing is alike, too) is least; if none is less than all of them: none");
        RunSayer x = Cities.square();
        Cities.say(x, 0, 1, 6, "leave up left oak left ash set right");
        Cities.say(x, 1, 0, 6, "leave up left fir left elm set left");
        Cities.say(x, 1, 0, 6, "leave down right oak right elm set right");
        for (int p = 0; p < 4; p++) {
            x.pupil(30);
        }
        due("all four say nothing", x.parting(15, 6), STATE);
        x.ride(0, 0);
        due("3 of 4", x.parting(15, 6), 1);
        due("2 of 3", x.parting(7, 6), 1);
        due("1 of 2", x.parting(3, 6), 1);
        due("1 of 1", x.parting(1, 6), STATE);
        due("2 of 2 without him", x.parting(6, 6), STATE);
        x.ride(1, 1);
        due("3 of 4 both ways: the least first door", x.parting(15, 6), 1);
        due("without pupil 0: back", x.parting(14, 6), 10);
        x.ride(2, 1);
        due("3 of 4, and 2 of 4 back", x.parting(15, 6), 10);
        x.ride(3, 2);
        due("2 of 4 back: 1, 2, 1", x.parting(15, 6), 10);
        due("one each back", x.parting(11, 6), 10);
        x.ride(3, 1);
        x.ride(0, 1);
        due("back 3 say one, 1 another one, alike; 3 of 4 on", x.parting(15, 6), 1);
        x.ride(1, 0);
        x.ride(2, 0);
        x.ride(3, 0);
        due("all say alike on", x.parting(7, 6), STATE);
        due("pupil 4", x.parting(16, 6), NONE);
        due("nobody", x.parting(0, 6), NONE);
    }

    private static void partsFirst() {
        check.sentence("of like ones the least first DOOR, then the other one");
        RunSayer x = Cities.street(10, 10);
        for (int d = 2; d < 8; d++) {
            x.door(1, d, 0);
        }
        x.pupil(1);
        x.pupil(1);
        due("nothing parts them", x.parting(3, 0), STATE);
        Cities.say(x, 7, 0, 0, "leave down ahead a set right");
        x.ride(0, 0);
        // way 1 has doors 1 to 7, each with a run down to door 0 now
        due("the least first door", x.parting(3, 0), 10);
        Cities.say(x, 0, 7, 0, "leave up ahead a set left");
        x.ride(1, 1);
        due("from door 0: the least other one", x.parting(3, 0), 1);
        RunSayer y = new RunSayer();
        for (int j = 0; j < 3; j++) {
            y.junction(10 * j, 0, 0);
        }
        y.way(0, 0, 1, 10, 1);
        y.way(0, 1, 2, 10, 1);
        y.name(1, 'a');
        for (int d = 1; d < 8; d++) {
            y.door(1, 9 - d, 0);
        }
        y.door(0, 5, 0);
        y.pupil(1);
        y.pupil(1);
        Cities.say(y, 7, 6, 0, "leave up ahead a set left");
        y.ride(0, 0);
        due("from the last door: to the first one", y.parting(3, 0), 70);
    }

    // ---- 5 RULES

    private static void ruled(String text, int fault) {
        RunSayer x = new RunSayer();
        due("'" + text + "'", Cities.rule(x, text), fault < 0 ? 0 : -100 - fault);
        due("the tape is empty then", x.count(11), 0);
        due("rules", x.count(10), fault < 0 ? 1 : 0);
    }

    private static void rules() {
        check.sentence("RULES: take, a blank, N (1 to 4 digits), perhaps: a blank, if, a blank, TEST; numbered from 0 on, 6 at most");
        ruled("take", 4);
        ruled("take ", 5);
        ruled("take x", 5);
        ruled("take 0", -1);
        ruled("take 9", -1);
        ruled("take 9999", -1);
        ruled("take 0000", -1);
        ruled("take 00000", 9);
        ruled("take 10000", 9);
        ruled("take /", 5);
        ruled("take :", 5);
        ruled("take  1", 5);
        ruled(" take 1", 0);
        ruled("take 1 ", 7);
        ruled("take 1 if", 9);
        ruled("take 1 if ", 10);
        ruled("take 1  if day=1", 7);
        ruled("take 1 if  day=1", 10);
        ruled("take 1 If day=1", 7);
        String whole = "take 1234 if said=1&wrong<22&over>333";
        for (int cut = 0; cut <= whole.length(); cut++) {
            // it may end behind N, or behind a digit of a test
            boolean ends = cut >= 6 && cut <= 9 || cut == 19 || cut == 27 || cut == 28 || cut >= 35;
            ruled(whole.substring(0, cut), ends ? -1 : cut);
            ruled(whole.substring(0, cut) + "?", cut);
        }
        RunSayer x = new RunSayer();
        for (int r = 0; r < 6; r++) {
            due("a fault", Cities.rule(x, "take"), -104);
            due("rule " + r, Cities.rule(x, "take 1"), r);
        }
        due("a seventh", Cities.rule(x, "take 1"), FULL);
        due("the tape stays", x.wipe(), 6);
        due("a seventh with a fault", Cities.rule(x, "take"), FULL);
        due("the tape stays", x.wipe(), 4);
    }

    private static void tests() {
        check.sentence("TEST, or TEST&TEST, or three. TEST: FIELD (said wrong over turns feet day), one of = < >, N");
        String[] fields = {"said", "wrong", "over", "turns", "feet", "day"}, signs = {"=", "<", ">"};
        for (String field : fields) {
            for (String sign : signs) {
                ruled("take 1 if " + field + sign + "0", -1);
                ruled("take 1 if " + field + sign + "9999", -1);
                ruled("take 1 if " + field + sign + "99999", 10 + field.length() + 5);
                ruled("take 1 if " + field + sign, 10 + field.length() + 1);
                ruled("take 1 if " + field + sign + sign + "1", 10 + field.length() + 1);
            }
            ruled("take 1 if " + field, 10 + field.length());
            ruled("take 1 if " + field + "!1", 10 + field.length());
            ruled("take 1 if " + field + " =1", 10 + field.length());
            ruled("take 1 if " + field.substring(0, field.length() - 1), 10 + field.length() - 1);
            ruled("take 1 if " + field.substring(0, field.length() - 1) + "=1", 10 + field.length() - 1);
            ruled("take 1 if " + field.substring(1) + "=1", 10);
        }
        String test = "day=0";
        ruled("take 1 if " + test + "&" + test, -1);
        ruled("take 1 if " + test + "&" + test + "&" + test, -1);
        ruled("take 1 if " + test + "&" + test + "&" + test + "&", 27);
        ruled("take 1 if " + test + "&" + test + "&" + test + "&" + test, 27);
        ruled("take 1 if " + test + "&", 16);
        ruled("take 1 if " + test + "&&" + test, 16);
        ruled("take 1 if " + test + " & " + test, 15);
        ruled("take 1 if &" + test, 10);
        ruled("take 1 if " + test + test, 15);
        ruled("take 1 if " + test + "&" + test + "&" + test + test, 27);
    }

    private static int marked(RunSayer x, int p, int hour, String... rules) {
        for (String rule : rules) {
            check.isTrue(rule, Cities.rule(x, rule) >= 0);
        }
        int k = x.ask(p, 0, 1, hour);
        return x.examTold(k, 5);
    }

    private static void marks() {
        check.sentence("100 less N of all RULES whose TESTS hold, 0 at least");
        int[] takes = {0, 1, 99, 100, 101, 9999}, marks = {100, 99, 1, 0, 0, 0};
        for (int i = 0; i < takes.length; i++) {
            due("take " + takes[i], marked(Cities.ridden(), 0, 6, "take " + takes[i]), marks[i]);
        }
        due("no rules", marked(Cities.ridden(), 0, 6), 100);
        due("50 and 49", marked(Cities.ridden(), 0, 6, "take 50", "take 49"), 1);
        due("50 and 50", marked(Cities.ridden(), 0, 6, "take 50", "take 50"), 0);
        due("50 and 51", marked(Cities.ridden(), 0, 6, "take 50", "take 51"), 0);
        due("six of 9999", marked(Cities.ridden(), 0, 6, "take 9999", "take 9999", "take 9999", "take 9999", "take 9999",
                "take 9999"), 0);
        due("six of 16", marked(Cities.ridden(), 0, 6, "take 16", "take 16", "take 16", "take 16", "take 16", "take 16"), 4);
        String[] hold = {"said=1", "turns=2", "feet=100"}, not = {"said=0", "turns=1", "feet=99"};
        for (int fails = 0; fails < 8; fails++) {
            StringBuilder tests = new StringBuilder("take 7 if ");
            for (int i = 0; i < 3; i++) {
                tests.append(i == 0 ? "" : "&").append((fails >> i & 1) == 0 ? hold[i] : not[i]);
            }
            due(tests.toString(), marked(Cities.ridden(), 0, 6, tests.toString()), fails == 0 ? 93 : 100);
        }
    }

    /** Each field is held against one less, itself and one more. */
    private static void fields() {
        check.sentence("said: 1, or 0 (nothing); wrong; feet: its FEET; over; turns: its legs less 1 (0, its FEET too, if nothing was said); day");
        String[] names = {"said", "wrong", "over", "turns", "feet", "day"};
        int[][] values = {{1, 0, 66, 2, 100, 3}, {0, 0, 0, 0, 0, 3}};
        for (int p = 0; p < 2; p++) {
            for (int f = 0; f < names.length; f++) {
                for (int n = Math.max(0, values[p][f] - 1); n <= values[p][f] + 1; n++) {
                    int by = Integer.compare(values[p][f], n), took = by == 0 ? 1 : by < 0 ? 2 : 4;
                    due("pupil " + p + ", " + names[f] + " against " + n, marked(Cities.ridden(), p, 6,
                            "take 1 if " + names[f] + "=" + n, "take 2 if " + names[f] + "<" + n, "take 4 if " + names[f] + ">" + n), 100 - took);
                }
            }
        }
    }

    private static void wrong() {
        check.sentence("wrong: 1, if some leg isn't DRIVABLE on that day, in that hour, as is KNOWN, or some turn is BANNED");
        String rule = "take 1 if wrong=1";
        for (int w = 0; w < 4; w++) {
            RunSayer x = Cities.ridden();
            x.shut(w, 3, 4);
            due("way " + w + " is shut on that day", marked(x, 0, 6, rule), w == 3 ? 100 : 99);
            RunSayer y = Cities.ridden();
            y.shut(w, 0, 3);
            y.shut(w, 4, 300);
            due("way " + w + " is shut on all others", marked(y, 0, 6, rule), 100);
        }
        int[][] turns = {{0, 2, 99}, {2, 4, 99}, {4, 6, 100}, {1, 7, 100}};
        for (int[] t : turns) {
            RunSayer x = Cities.ridden();
            x.ban(t[0], t[1], 607, 8);
            due("a turn is banned in that hour", marked(x, 0, 6, rule), t[2]);
            due("not in the hour ahead", marked(x, 0, 5), 100);
            due("not in the hour behind", marked(x, 0, 7), 100);
            RunSayer y = Cities.ridden();
            y.ban(t[0], t[1], 607, 127 - 8);
            due("not on that weekday", marked(y, 0, 6, rule), 100);
        }
        RunSayer z = Cities.ridden();
        z.shut(0, 0, 300);
        due("nothing is never wrong", marked(z, 1, 6, rule), 100);
    }

    /** A way of so many feet that was said, beside one of other feet: 18 more in all. */
    private static RunSayer beside(int said, int other) {
        RunSayer x = Cities.street(10, said, 10);
        x.way(0, 1, 2, other, 0);
        Cities.say(x, 0, 1, 0, "leave up ahead a ahead a set left");
        x.pupil(30);
        x.ride(0, 0);
        return x;
    }

    private static void over() {
        check.sentence("over: hundredths of the least FEET that its FEET are above those (cut; 0, if they are not above)");
        int[][] tried = {{81, 82, 0}, {82, 82, 0}, {83, 82, 1}, {84, 82, 2}, {84, 83, 0}, {85, 83, 1}, {183, 182, 0}, {184, 182, 1},
            {182, 82, 100}, {181, 82, 99}, {183, 82, 101}, {999, 2, 4985}};
        for (int[] t : tried) {
            due("18 and " + t[0] + " said, 18 and " + t[1] + " are the least", marked(beside(t[0], t[1]), 0, 0,
                    "take 1 if over=" + t[2]), 99);
        }
    }

    private static void overNone() {
        check.sentence("over: 0, if there is no RUN, or nothing was said");
        RunSayer x = beside(182, 82);
        due("100 hundredths", marked(x, 0, 0, "take 1 if over=0", "take 2 if over=100"), 98);
        x.shut(3, 0, 300);
        due("what was said is the least", marked(x, 0, 0), 99);
        x.shut(1, 0, 300);
        due("there is no run", marked(x, 0, 0), 99);
        RunSayer y = beside(82, 182);
        y.shut(1, 0, 300);
        due("said 100, 200 are the least", marked(y, 0, 0, "take 1 if over=0"), 99);
        y.pupil(1);
        due("nothing was said", marked(y, 1, 0), 99);
    }

    private static void turnsAndFeet() {
        check.sentence("turns: its legs less 1 (0, its FEET too, if nothing was said)");
        RunSayer x = Cities.street(10);
        x.pupil(1);
        due("one leg: no turns, 8 feet", marked(x, 0, 0, "take 1 if turns=0&feet=8&said=1", "take 2 if feet=0"), 99);
        RunSayer y = Cities.street(10, 10);
        y.pupil(1);
        due("nothing: no turns, no feet", marked(y, 0, 0, "take 1 if turns=0&feet=0&said=0", "take 2 if feet>0"), 99);
    }

    private static void exams() {
        check.sentence("Exams are numbered from 0 on, 24 at most");
        RunSayer x = Cities.ridden();
        due("no exam", x.examTold(0, 5), NONE);
        for (int k = 0; k < 24; k++) {
            due("exam " + k, x.ask(k % 2, k % 2, 1 - k % 2, k), k);
            due("its hour", x.examTold(k, 4), k);
            due("exam " + (k + 1), x.examTold(k + 1, 4), NONE);
        }
        due("a 25th", x.ask(0, 0, 1, 0), FULL);
        due("the last one stands", x.appeal(23), 0);
        due("there is no 25th", x.appeal(24), NONE);
    }

    private static void appeals() {
        check.sentence("An APPEAL marks it again by what is KNOWN TODAY (of that day, by all RULES that there are)");
        RunSayer x = Cities.ridden();
        due("a mark", marked(x, 0, 6, "take 10 if wrong=1"), 100);
        x.pass(2);
        due("nothing came late", x.appeal(0), 0);
        due("marked by today", x.examTold(0, 7), 5);
        due("of that day", x.examTold(0, 3), 3);
        x.shut(0, 4, 300);
        due("shut the day behind it", x.appeal(0), 0);
        x.shut(0, 0, 3);
        due("shut up to the day ahead of it", x.appeal(0), 0);
        x.ban(0, 2, 24, 127);
        due("a ban from today on", x.appeal(0), 0);
        x.shut(0, 3, 4);
        due("shut on that day", x.appeal(0), -10);
        due("its mark", x.examTold(0, 5), 90);
        due("once more", x.appeal(0), 0);
        due("a rule", Cities.rule(x, "take 85"), 1);
        due("it counts, too", x.appeal(0), -85);
        due("its mark", x.examTold(0, 5), 5);
        due("a rule", Cities.rule(x, "take 6"), 2);
        due("0 at least", x.appeal(0), -5);
        RunSayer y = Cities.ridden();
        due("over", marked(y, 0, 6, "take 10 if over>0"), 90);
        y.pass(1);
        y.shut(3, 3, 4);
        due("its mark is more now", y.appeal(0), 10);
        y.pass(30);
        due("what he holds now does not count", y.wouldSay(0, 0, 1, 6), 0);
        due("what he said then does", y.appeal(0), 0);
        due("three legs", y.examTold(0, 6), 3);
    }

    // ---- 6 SHEETS

    private static void sheets() {
        check.sentence("SHEETS 0 .. 3 are rows of numbers, or missing (as all are at first): of sort 0 bytes, 1 shorts, 2 ints, 100 at most");
        RunSayer x = new RunSayer();
        due("sheet -1", x.sheet(-1, 0, 1), BAD);
        due("sheet 4", x.sheet(4, 0, 1), BAD);
        for (int s = 0; s < 4; s++) {
            due("missing at first", x.cell(s, 0, 1), -11);
            due("nothing stands there", x.read(s, 0), 0);
            for (int sort = 0; sort < 3; sort++) {
                due("101", x.sheet(s, sort, 101), BAD);
                due("-1", x.sheet(s, sort, -1), -14);
                due("none", x.sheet(s, sort, 0), 1);
                due("cell 0 of none", x.cell(s, 0, 1), -12);
                due("100", x.sheet(s, sort, 100), 1);
                due("all 0", x.read(s, 99), 0);
                due("cell 99", x.cell(s, 99, 0x01020381), 1);
                due("cell 99", x.read(s, 99), sort == 0 ? -127 : sort == 1 ? 0x0381 : 0x01020381);
                due("cell 100", x.cell(s, 100, 1), -12);
                due("cell -1", x.cell(s, -1, 1), -12);
                due("there is none", x.read(s, 100), 0);
                due("there is none", x.read(s, -1), 0);
            }
            due("sort -2", x.sheet(s, -2, 1), BAD);
            due("sort 3", x.sheet(s, 3, 1), BAD);
            due("sort -1", x.sheet(s, -1, 101), 1);
            due("missing", x.cell(s, 0, 1), -11);
        }
    }

    private static void things() {
        check.sentence("THINGS are JUNCTIONS, WAYS and DOORS, numbered from 0 on as they came, all together");
        RunSayer x = new RunSayer();
        x.sheet(0, 2, 6);
        x.cell(0, 0, 31);
        x.cell(0, 3, 32);
        due("no thing", x.taken(0, 8), -11);
        x.junction(7, 7, 0);
        x.junction(8, 8, 0);
        x.way(0, 0, 1, 21, 0);
        due("one came, the place was not as told", x.junction(8, 8, 0), STATE);
        x.door(0, 11, 0);
        due("two by a sheet", x.junctions(0, 2, 0, 2), 2);
        x.way(3, 1, 2, 22, 0);
        x.door(1, 12, 0);
        int[] sorts = {0, 0, 1, 2, 0, 0, 1, 2}, values = {7, 8, 21, 11, 31, 32, 22, 12}, as = {6, 0, 7};
        for (int t = 0; t < sorts.length; t++) {
            due("thing " + t, x.taken(t, 8), sorts[t]);
            for (int i = 0; i < 3; i++) {
                due("thing " + t + " for " + as[i], x.taken(t, as[i]), sorts[t] == i ? values[t] : -13);
            }
        }
        due("thing 8", x.taken(8, 8), -11);
        due("thing -1", x.taken(-1, 8), -11);
        due("things", x.count(13), 8);
    }

    private static void taken() {
        check.sentence("how often a THING was taken (taken(), but BAD)");
        RunSayer x = new RunSayer();
        due("nothing there", x.taken(0, 0), -11);
        due("it counts", x.count(12), 1);
        due("BAD", x.taken(0, 9), BAD);
        due("BAD", x.taken(0, -1), BAD);
        due("it does not count", x.count(12), 1);
        x.junction(5, 5, 0);
        due("of another kind", x.taken(0, 0), -13);
        due("it counts", x.count(12), 2);
        due("its x", x.taken(0, 6), 5);
        due("it counts", x.count(12), 3);
        due("anything", x.taken(0, 8), 0);
        due("it counts", x.count(12), 4);
        due("what 14", x.count(14), BAD);
        due("what -1", x.count(-1), BAD);
    }
}
