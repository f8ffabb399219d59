/** Each boundary that the document names for promises 6 to 10 (why, meets, lines, cover, better), a case each. */
public final class BoundaryLookingTest {
    private static final int NONE = Cases.NONE, BAD = Cases.BAD;
    private static final int LOW = Cases.LOW, HIGH = Cases.HIGH;
    private static final int REST_NIGHT = 0, REST_LONG = 1, ROW = 2, WEEK = 3;
    private static final int LEGAL = 0, SKILL = 1, DAYS = 2, REST = 3, IN_ROW = 4, IN_WEEK = 5, MOST = 6;

    public static void main(String[] args) {
        whyRefused();
        whySkill();
        whyDays();
        whyRestBehindNight();
        whyRestBehindLong();
        whyRestOfBoth();
        whyRow();
        whyWeek();
        whyMost();
        whyOrder();
        meetsRefused();
        meetsDuties();
        meetsDaysAndNights();
        meetsHours();
        lines();
        coverRefused();
        cover();
        betterRefused();
        betterByWishes();
        betterByDuties();
        Cases.end();
    }

    private static int[] row(int day, int days, int hours, int skill, int night) {
        return Cases.row(day, days, hours, skill, night);
    }

    private static int[] byDay(int day) {
        return row(day, 1, 1, 0, 0);
    }

    private static int[] night(int day) {
        return row(day, 1, 1, 0, 1);
    }

    private static int[] over(int day, int days) {
        return row(day, days, 1, 0, 0);
    }

    private static int[] hours(int day, int hours) {
        return row(day, 1, hours, 0, 0);
    }

    /** A case: why the line of all these duties is not legal for one with all skills and 200 hours. */
    private static void why(String told, int want, int[]... duties) {
        whyUnder(told, want, new int[0], duties);
    }

    /** The same, under rules told as which, v, which, v .. */
    private static void whyUnder(String told, int want, int[] rules, int[]... duties) {
        Cases.test(told, () -> {
            RankRoster x = Cases.ofDuties(duties);
            x.person(15, 200);
            for (int i = 0; i + 1 < rules.length; i += 2) {
                x.rule(rules[i], rules[i + 1]);
            }
            Cases.due(x.why(0, (1 << duties.length) - 1), want);
            // With 9 duties the lines are more than the calls that an object is made for.
            if (duties.length < 9) {
                Cases.due(x.lines(0), legalByWhy(x, duties.length));
            }
        });
    }

    /** lines() may be reckoned in another way than why(), so the two are held against one another. */
    private static int legalByWhy(RankRoster x, int duties) {
        int found = 0;
        for (int line = 0; line < 1 << duties; line++) {
            found += x.why(0, line) == LEGAL ? 1 : 0;
        }
        return found;
    }

    private static int[] rules(int... whichAndV) {
        return whichAndV;
    }

    private static void whyRefused() {
        Cases.promise(6, "why");
        Cases.refusal("person -1 is NONE", NONE, Cases::givenMonth, x -> x.why(-1, 0));
        Cases.refusal("a person more than there are is NONE", NONE, Cases::givenMonth, x -> x.why(2, 0));
        Cases.refusal("person 4 is NONE where there are 4", NONE, Cases::fullMonth, x -> x.why(4, 0));
        Cases.refusal("the least int as person is NONE", NONE, Cases::givenMonth, x -> x.why(LOW, 0));
        Cases.refusal("the greatest int as person is NONE", NONE, Cases::givenMonth, x -> x.why(HIGH, 0));
        Cases.refusal("NONE person ahead of BAD line", NONE, Cases::givenMonth, x -> x.why(2, 8));
        Cases.refusal("the bit behind the last duty is BAD", BAD, Cases::givenMonth, x -> x.why(0, 8));
        Cases.refusal("that bit beside those of duties is BAD", BAD, Cases::givenMonth, x -> x.why(0, 9));
        Cases.refusal("512 is BAD where there are 9 duties", BAD, Cases::fullMonth, x -> x.why(0, 512));
        Cases.refusal("line -1 is BAD", BAD, Cases::givenMonth, x -> x.why(0, -1));
        Cases.refusal("the least int as line is BAD", BAD, Cases::givenMonth, x -> x.why(0, LOW));
        Cases.refusal("the greatest int as line is BAD", BAD, Cases::givenMonth, x -> x.why(0, HIGH));
        Cases.test("line 1 is BAD where there is no duty", () -> {
            RankRoster x = new RankRoster();
            x.person(15, 200);
            Cases.due(x.why(0, 1), BAD);
            Cases.due(x.why(0, 0), LEGAL);
        });
        Cases.look("511 is a line where there are 9 duties", IN_ROW, Cases::fullMonth, x -> x.why(3, 511));
    }

    private static void whySkill() {
        Cases.promise(6, "why");
        Cases.test("the empty line is legal for one with no skill and no hour", () -> {
            RankRoster x = Cases.onDays(0);
            x.person(0, 0);
            x.rule(WEEK, 0);
            Cases.due(x.why(0, 0), LEGAL);
        });
        for (int skill = 0; skill < 4; skill++) {
            int s = skill;
            Cases.test("SKILL " + s + " is enough, and all others are not", () -> {
                RankRoster x = Cases.ofDuties(row(0, 1, 1, s, 0));
                x.person(1 << s, 200);
                x.person(15 ^ 1 << s, 200);
                Cases.due(x.why(0, 1), LEGAL);
                Cases.due(x.why(1, 1), SKILL);
            });
        }
        Cases.test("SKILL of the last duty of all is missing", () -> {
            RankRoster x = Cases.ofDuties(row(0, 1, 1, 0, 0), row(2, 1, 1, 0, 0), row(4, 1, 1, 1, 0));
            x.person(1, 200);
            Cases.due(x.why(0, 3), LEGAL);
            Cases.due(x.why(0, 7), SKILL);
        });
    }

    private static void whyDays() {
        Cases.promise(6, "why");
        int[] noRest = rules(REST_NIGHT, 0, REST_LONG, 0);
        whyUnder("DAYS: two duties of one day", DAYS, noRest, byDay(3), byDay(3));
        whyUnder("DAYS: two duties on day 0", DAYS, noRest, byDay(0), byDay(0));
        whyUnder("DAYS: two duties on day 13", DAYS, noRest, byDay(13), byDay(13));
        whyUnder("DAYS: the last day of one is the first of the next", DAYS, noRest, over(0, 3), over(2, 3));
        whyUnder("DAYS: the same, the later one's number first", DAYS, noRest, over(2, 3), over(0, 3));
        whyUnder("DAYS: one within another", DAYS, noRest, over(4, 3), byDay(5));
        whyUnder("DAYS: a third stands between by number", DAYS, noRest, over(4, 3), byDay(8), byDay(6));
        whyUnder("DAYS: days side by side are legal", LEGAL, noRest, over(0, 3), over(3, 2));
        why("DAYS: single days side by side are legal", LEGAL, byDay(3), byDay(4));
    }

    private static void whyRestBehindNight() {
        Cases.promise(6, "why");
        why("REST behind a NIGHT at first: 0 days between are too few", REST, night(3), byDay(4));
        why("REST behind a NIGHT at first: 1 day between is enough", LEGAL, night(3), byDay(5));
        for (int rest = 1; rest <= 3; rest++) {
            int[] rule = rules(REST_NIGHT, rest, REST_LONG, 0);
            whyUnder("REST " + rest + " behind a NIGHT: " + (rest - 1) + " days between are too few", REST, rule,
                night(3), byDay(3 + rest));
            whyUnder("REST " + rest + " behind a NIGHT: " + rest + " days between are enough", LEGAL, rule,
                night(3), byDay(4 + rest));
        }
        whyUnder("REST 0 behind a NIGHT: the day behind it will do", LEGAL, rules(REST_NIGHT, 0), night(3), byDay(4));
        whyUnder("REST 3 behind a NIGHT: none ahead of it", LEGAL, rules(REST_NIGHT, 3), byDay(3), night(4));
        whyUnder("REST 3 behind a NIGHT: none behind one by day", LEGAL, rules(REST_NIGHT, 3), byDay(3), byDay(4));
        whyUnder("REST 3 behind a NIGHT: the later one's number first", REST, rules(REST_NIGHT, 3), byDay(6), night(3));
        whyUnder("REST 3 behind a NIGHT: also behind the second of three", REST, rules(REST_NIGHT, 3), byDay(0),
            night(1), byDay(4));
        whyUnder("REST 3 behind a NIGHT on day 13: nothing is behind it", LEGAL, rules(REST_NIGHT, 3), night(13),
            byDay(0));
        whyUnder("REST 3 behind a NIGHT on day 9: day 13 will do", LEGAL, rules(REST_NIGHT, 3), night(9), byDay(13));
        whyUnder("REST 3 behind a NIGHT on day 10: day 13 is too early", REST, rules(REST_NIGHT, 3), night(10),
            byDay(13));
        whyUnder("REST 3 behind a NIGHT: the next one is over 3 days", REST, rules(REST_NIGHT, 3), night(3), over(6, 3));
    }

    private static void whyRestBehindLong() {
        Cases.promise(6, "why");
        why("REST behind long ones at first: 0 days between are too few", REST, over(3, 2), byDay(5));
        why("REST behind long ones at first: 1 day between is enough", LEGAL, over(3, 2), byDay(6));
        for (int days = 2; days <= 3; days++) {
            for (int rest = 1; rest <= 3; rest++) {
                int[] rule = rules(REST_LONG, rest, REST_NIGHT, 0);
                String name = "REST " + rest + " behind one of " + days + " days, from its last day on: ";
                whyUnder(name + (rest - 1) + " days between are too few", REST, rule, over(3, days),
                    byDay(2 + days + rest));
                whyUnder(name + rest + " days between are enough", LEGAL, rule, over(3, days),
                    byDay(3 + days + rest));
            }
        }
        whyUnder("REST 0 behind long ones: the day behind it will do", LEGAL, rules(REST_LONG, 0), over(3, 2), byDay(5));
        whyUnder("REST 3 behind long ones: one of 1 day is none", LEGAL, rules(REST_LONG, 3), byDay(3), byDay(4));
        whyUnder("REST 3 behind long ones: none ahead of it", LEGAL, rules(REST_LONG, 3), byDay(3), over(4, 2));
        whyUnder("REST 3 behind long ones that end on day 13", LEGAL, rules(REST_LONG, 3), over(12, 2), byDay(0));
    }

    private static void whyRestOfBoth() {
        Cases.promise(6, "why");
        int[] longNight = row(3, 2, 1, 0, 1);
        int[] nightGreater = rules(REST_NIGHT, 3, REST_LONG, 1);
        int[] longGreater = rules(REST_NIGHT, 1, REST_LONG, 3);
        whyUnder("REST of both, the NIGHT's is greater: 2 days are too few", REST, nightGreater, longNight, byDay(7));
        whyUnder("REST of both, the NIGHT's is greater: 3 are enough", LEGAL, nightGreater, longNight, byDay(8));
        whyUnder("REST of both, the long one's is greater: 2 days are too few", REST, longGreater, longNight, byDay(7));
        whyUnder("REST of both, the long one's is greater: 3 are enough", LEGAL, longGreater, longNight, byDay(8));
        whyUnder("REST of both is not their sum", LEGAL, rules(REST_NIGHT, 1, REST_LONG, 1), longNight, byDay(6));
        whyUnder("REST of both 0: the day behind it will do", LEGAL, rules(REST_NIGHT, 0, REST_LONG, 0), longNight,
            byDay(5));
    }

    private static void whyRow() {
        Cases.promise(6, "why");
        int[] noRest = rules(REST_LONG, 0);
        why("ROW at first: 5 days one behind the other are legal", LEGAL, byDay(0), byDay(1), byDay(2), byDay(3),
            byDay(4));
        why("ROW at first: 6 are too many", IN_ROW, byDay(0), byDay(1), byDay(2), byDay(3), byDay(4), byDay(5));
        why("ROW at first: 6 that end with day 13 are too many", IN_ROW, byDay(8), byDay(9), byDay(10), byDay(11),
            byDay(12), byDay(13));
        why("ROW at first: 6 with a free day within are legal", LEGAL, byDay(0), byDay(1), byDay(2), byDay(3),
            byDay(4), byDay(6));
        whyUnder("ROW: two rows of 5 with a free day between are legal", LEGAL, noRest, over(0, 3), over(3, 2),
            over(6, 3), over(9, 2));
        whyUnder("ROW: the second of two rows is too long", IN_ROW, noRest, over(0, 3), over(3, 2), over(6, 3),
            over(9, 3));
        whyUnder("ROW: all days of long ones count", IN_ROW, noRest, over(0, 3), over(3, 3));
        whyUnder("ROW 1: a day at a time is legal", LEGAL, rules(ROW, 1), byDay(0), byDay(2), byDay(4));
        whyUnder("ROW 1: two days are too many", IN_ROW, rules(ROW, 1), byDay(0), byDay(1));
        whyUnder("ROW 1: one duty of 2 days is too long", IN_ROW, rules(ROW, 1), over(5, 2));
        whyUnder("ROW 2: one duty of 3 days is too long", IN_ROW, rules(ROW, 2), over(11, 3));
        whyUnder("ROW 3: one duty of 3 days is legal", LEGAL, rules(ROW, 3), over(11, 3));
        int[][] allDays = {over(0, 2), over(2, 2), over(4, 2), over(6, 2), over(8, 2), byDay(10), byDay(11), byDay(12),
            byDay(13)};
        whyUnder("ROW 14: all 14 days are legal", LEGAL, rules(ROW, 14, REST_LONG, 0), allDays);
        whyUnder("ROW 13: all 14 days are too many", IN_ROW, rules(ROW, 13, REST_LONG, 0), allDays);
    }

    private static void whyWeek() {
        Cases.promise(6, "why");
        why("WEEK at first: 60 hours in 7 days are legal", LEGAL, hours(0, 30), hours(6, 30));
        why("WEEK at first: 61 hours in 7 days are too many", IN_WEEK, hours(0, 30), hours(6, 31));
        why("WEEK: the 7 days from 0 on end with 6", LEGAL, hours(0, 40), hours(7, 40));
        why("WEEK: any 7 days, also from 4 to 10", IN_WEEK, hours(4, 31), hours(10, 30));
        why("WEEK: days 4 and 11 are in no 7 days together", LEGAL, hours(4, 40), hours(11, 40));
        why("WEEK: the last 7 days, 7 to 13", IN_WEEK, hours(7, 31), hours(13, 30));
        why("WEEK: days 6 and 13 are in no 7 days together", LEGAL, hours(6, 40), hours(13, 40));
        why("WEEK: the later one's number first", IN_WEEK, hours(6, 31), hours(0, 30));
        why("WEEK: hours count on the first day, which is ahead of the 7 days", LEGAL, row(4, 3, 40, 0, 0),
            hours(11, 40));
        why("WEEK: hours count on the first day, which is the last of the 7", IN_WEEK, hours(0, 30),
            row(6, 3, 31, 0, 0));
        whyUnder("WEEK 0: one hour is too many", IN_WEEK, rules(WEEK, 0), hours(0, 1));
        whyUnder("WEEK 1: one hour is legal", LEGAL, rules(WEEK, 1), hours(0, 1));
        whyUnder("WEEK 0: the empty line is legal", LEGAL, rules(WEEK, 0));
        int[][] twoHundred = {hours(0, 40), hours(1, 40), hours(2, 40), hours(5, 40), hours(6, 40)};
        whyUnder("WEEK 200: 200 hours in 7 days are legal", LEGAL, rules(WEEK, 200), twoHundred);
        whyUnder("WEEK 199: 200 hours in 7 days are too many", IN_WEEK, rules(WEEK, 199), twoHundred);
    }

    private static void whyMost() {
        Cases.promise(6, "why");
        for (int most = 15; most <= 17; most++) {
            int m = most;
            Cases.test("MOST " + m + " against 16 hours in all", () -> {
                RankRoster x = Cases.onDays(0, 13);
                x.person(1, m);
                Cases.due(x.why(0, 3), m < 16 ? MOST : LEGAL);
            });
        }
        Cases.test("MOST 0: one hour is too many", () -> {
            RankRoster x = Cases.ofDuties(hours(0, 1));
            x.person(1, 0);
            Cases.due(x.why(0, 1), MOST);
        });
        Cases.test("MOST counts both weeks together", () -> {
            RankRoster x = Cases.ofDuties(hours(0, 40), hours(7, 40));
            x.person(1, 79);
            x.person(1, 80);
            Cases.due(x.why(0, 3), MOST);
            Cases.due(x.why(1, 3), LEGAL);
        });
        Cases.test("MOST of one is not that of another one", () -> {
            RankRoster x = Cases.onDays(0);
            x.person(1, 7);
            x.person(1, 8);
            Cases.due(x.why(0, 1), MOST);
            Cases.due(x.why(1, 1), LEGAL);
        });
    }

    private static void whyOrder() {
        Cases.promise(6, "why");
        Cases.test("SKILL is told ahead of all others", () -> {
            RankRoster x = Cases.ofDuties(row(0, 2, 40, 1, 1), row(1, 1, 40, 1, 0));
            x.person(1, 0);
            x.rule(ROW, 1);
            x.rule(WEEK, 0);
            Cases.due(x.why(0, 3), SKILL);
        });
        whyUnder("DAYS are told ahead of REST, ROW, WEEK", DAYS, rules(ROW, 1, WEEK, 0), row(0, 2, 40, 0, 1),
            row(1, 2, 40, 0, 1));
        whyUnder("DAYS are told ahead of REST between others", DAYS, rules(), night(0), byDay(1), byDay(5), byDay(5));
        whyUnder("REST is told ahead of ROW and WEEK", REST, rules(ROW, 1, WEEK, 0), night(0), byDay(1));
        whyUnder("REST is told ahead of a ROW that comes first", REST, rules(ROW, 1), byDay(0), byDay(1), night(5),
            byDay(6));
        whyUnder("ROW is told ahead of WEEK", IN_ROW, rules(ROW, 1, WEEK, 0), byDay(0), byDay(1));
        Cases.test("ROW is told ahead of MOST", () -> {
            RankRoster x = Cases.onDays(0, 1);
            x.person(1, 0);
            x.rule(ROW, 1);
            Cases.due(x.why(0, 3), IN_ROW);
        });
        Cases.test("WEEK is told ahead of MOST", () -> {
            RankRoster x = Cases.onDays(0, 1);
            x.person(1, 0);
            x.rule(WEEK, 0);
            Cases.due(x.why(0, 3), IN_WEEK);
        });
        Cases.test("DAYS are told ahead of MOST", () -> {
            RankRoster x = Cases.onDays(0, 0);
            x.person(1, 0);
            Cases.due(x.why(0, 3), DAYS);
        });
        Cases.test("REST is told ahead of MOST", () -> {
            RankRoster x = Cases.ofDuties(night(0), byDay(1));
            x.person(1, 0);
            Cases.due(x.why(0, 3), REST);
        });
    }

    private static void meetsRefused() {
        Cases.promise(7, "meets");
        Cases.refusal("person -1 is NONE", NONE, Cases::givenMonth, x -> x.meets(-1, 0, 0));
        Cases.refusal("a person more than there are is NONE", NONE, Cases::givenMonth, x -> x.meets(2, 0, 0));
        Cases.refusal("person 4 is NONE where there are 4", NONE, Cases::fullMonth, x -> x.meets(4, 0, 0));
        Cases.refusal("the least int as person is NONE", NONE, Cases::givenMonth, x -> x.meets(LOW, 0, 0));
        Cases.refusal("the greatest int as person is NONE", NONE, Cases::givenMonth, x -> x.meets(HIGH, 0, 0));
        Cases.refusal("wish -1 is NONE", NONE, Cases::givenMonth, x -> x.meets(0, -1, 0));
        Cases.refusal("a wish more than it has is NONE", NONE, Cases::givenMonth, x -> x.meets(0, 2, 0));
        Cases.refusal("a wish that only another one has is NONE", NONE, Cases::givenMonth, x -> x.meets(1, 1, 0));
        Cases.refusal("wish 5 is NONE where it has 5", NONE, Cases::fullMonth, x -> x.meets(0, 5, 0));
        Cases.refusal("the least int as wish is NONE", NONE, Cases::givenMonth, x -> x.meets(0, LOW, 0));
        Cases.refusal("the greatest int as wish is NONE", NONE, Cases::givenMonth, x -> x.meets(0, HIGH, 0));
        Cases.refusal("NONE wish ahead of BAD line", NONE, Cases::givenMonth, x -> x.meets(0, 2, 8));
        Cases.refusal("NONE person ahead of BAD line", NONE, Cases::givenMonth, x -> x.meets(2, 0, 8));
        Cases.refusal("the bit behind the last duty is BAD", BAD, Cases::givenMonth, x -> x.meets(0, 0, 8));
        Cases.refusal("512 is BAD where there are 9 duties", BAD, Cases::fullMonth, x -> x.meets(0, 0, 512));
        Cases.refusal("line -1 is BAD", BAD, Cases::givenMonth, x -> x.meets(0, 0, -1));
        Cases.refusal("the least int as line is BAD", BAD, Cases::givenMonth, x -> x.meets(0, 0, LOW));
        Cases.refusal("the greatest int as line is BAD", BAD, Cases::givenMonth, x -> x.meets(0, 0, HIGH));
        Cases.look("511 is a line where there are 9 duties", 1, Cases::fullMonth, x -> x.meets(3, 4, 511));
    }

    /** A case: whether the line meets the one wish, these being the duties. */
    private static void meets(String told, int want, int kind, int v, int line, int[]... duties) {
        Cases.test(told, () -> {
            RankRoster x = Cases.ofDuties(duties);
            x.person(0, 0);
            Cases.due(x.wish(0, kind, v), 0);
            Cases.due(x.meets(0, 0, line), want);
        });
    }

    private static void meetsDuties() {
        Cases.promise(7, "meets");
        int[][] two = {byDay(0), byDay(2)};
        meets("WANT: the line has it", 1, 0, 1, 2, two);
        meets("WANT: the line has it and more", 1, 0, 1, 3, two);
        meets("WANT: the line has only another one", 0, 0, 1, 1, two);
        meets("WANT: the empty line does not", 0, 0, 1, 0, two);
        meets("WANT duty 0: the line has it", 1, 0, 0, 1, two);
        meets("NOT: the line has it", 0, 1, 1, 2, two);
        meets("NOT: the line has it and more", 0, 1, 1, 3, two);
        meets("NOT: the line has only another one", 1, 1, 1, 1, two);
        meets("NOT: the empty line does", 1, 1, 1, 0, two);
        Cases.test("a line that is not legal may be asked about", () -> {
            RankRoster x = Cases.onDays(0, 0);
            x.person(0, 0);
            x.wish(0, 0, 1);
            Cases.due(x.why(0, 3), SKILL);
            Cases.due(x.meets(0, 0, 3), 1);
        });
    }

    private static void meetsDaysAndNights() {
        Cases.promise(7, "meets");
        int[][] long3 = {over(5, 3)};
        meets("FREE: the day ahead of its first day", 1, 2, 4, 1, long3);
        meets("FREE: its first day", 0, 2, 5, 1, long3);
        meets("FREE: the day in its midst", 0, 2, 6, 1, long3);
        meets("FREE: its last day", 0, 2, 7, 1, long3);
        meets("FREE: the day behind its last day, though it is rest", 1, 2, 8, 1, long3);
        meets("FREE: the empty line is", 1, 2, 6, 0, long3);
        meets("FREE on day 0", 0, 2, 0, 1, byDay(0));
        meets("FREE on day 13", 0, 2, 13, 1, over(11, 3));
        meets("no NIGHTS: the empty line does", 1, 3, 0, 0, night(0));
        meets("no NIGHTS: a line with one does not", 0, 3, 0, 3, byDay(4), night(0));
        meets("no NIGHTS: a line without does, though there is one", 1, 3, 0, 1, byDay(4), night(0));
        meets("no NIGHTS: a night over 3 days", 0, 3, 0, 1, row(0, 3, 1, 0, 1));
    }

    private static void meetsHours() {
        Cases.promise(7, "meets");
        int[][] two = {hours(0, 8), hours(2, 9)};
        meets("no more than 16 hours: 17", 0, 4, 16, 3, two);
        meets("no more than 17 hours: 17", 1, 4, 17, 3, two);
        meets("no more than 18 hours: 17", 1, 4, 18, 3, two);
        meets("no more than 0 hours: the empty line", 1, 4, 0, 0, two);
        meets("no more than 0 hours: one hour", 0, 4, 0, 1, hours(0, 1));
        meets("at least 16 hours: 17", 1, 5, 16, 3, two);
        meets("at least 17 hours: 17", 1, 5, 17, 3, two);
        meets("at least 18 hours: 17", 0, 5, 18, 3, two);
        meets("at least 0 hours: the empty line", 1, 5, 0, 0, two);
        meets("at least 1 hour: the empty line", 0, 5, 1, 0, two);
        int[][] much = {hours(0, 40), hours(2, 40), hours(4, 40), hours(6, 40), hours(8, 40), hours(10, 1)};
        meets("no more than 200 hours: 200", 1, 4, 200, 0b011111, much);
        meets("no more than 200 hours: 201", 0, 4, 200, 0b111111, much);
        meets("at least 200 hours: 200", 1, 5, 200, 0b011111, much);
        meets("at least 200 hours: 161", 0, 5, 200, 0b101111, much);
    }

    private static void lines() {
        Cases.promise(8, "lines");
        Cases.refusal("person -1 is NONE", NONE, Cases::givenMonth, x -> x.lines(-1));
        Cases.refusal("a person more than there are is NONE", NONE, Cases::givenMonth, x -> x.lines(2));
        Cases.refusal("person 4 is NONE where there are 4", NONE, Cases::fullMonth, x -> x.lines(4));
        Cases.refusal("the least int as person is NONE", NONE, Cases::givenMonth, x -> x.lines(LOW));
        Cases.refusal("the greatest int as person is NONE", NONE, Cases::givenMonth, x -> x.lines(HIGH));
        Cases.test("the empty one alone where there is no duty", () -> {
            RankRoster x = new RankRoster();
            x.person(15, 200);
            Cases.due(x.lines(0), 1);
        });
        Cases.test("the empty one alone for one without skills", () -> {
            RankRoster x = Cases.onDays(0, 1, 2, 3, 4, 5, 6, 7, 8);
            x.person(0, 200);
            Cases.due(x.lines(0), 1);
        });
        Cases.test("the empty one alone for one without hours", () -> {
            RankRoster x = Cases.onDays(0, 1, 2, 3, 4, 5, 6, 7, 8);
            x.person(1, 0);
            Cases.due(x.lines(0), 1);
        });
        Cases.test("all 512 of 9 duties", () -> {
            RankRoster x = Cases.onDays(0, 1, 2, 3, 4, 6, 7, 8, 9);
            x.person(1, 200);
            Cases.due(x.lines(0), 512);
        });
        Cases.test("all but the whole one, for an hour too few", () -> {
            RankRoster x = Cases.onDays(0, 1, 2, 3, 4, 6, 7, 8, 9);
            x.person(1, 71);
            Cases.due(x.lines(0), 511);
        });
        Cases.test("9 duties of one day: 10 lines", () -> {
            RankRoster x = Cases.onDays(0, 0, 0, 0, 0, 0, 0, 0, 0);
            x.person(1, 200);
            Cases.due(x.lines(0), 10);
        });
        Cases.test("a duty more, a person more, a rule, are counted at once", () -> {
            RankRoster x = Cases.onDays(0);
            x.person(1, 200);
            Cases.due(x.lines(0), 2);
            x.duty(1, 1, 8, 0, 0);
            Cases.due(x.lines(0), 4);
            x.rule(ROW, 1);
            Cases.due(x.lines(0), 3);
            x.person(0, 200);
            Cases.due(x.lines(1), 1);
        });
        Cases.look("what was given changes nothing of it", 4, Cases::givenMonth, x -> x.lines(1));
    }

    private static void coverRefused() {
        Cases.promise(9, "cover");
        Cases.refusal("k -1 is NONE", NONE, Cases::givenMonth, x -> x.cover(7, -1));
        Cases.refusal("k one more than there are people is NONE", NONE, Cases::givenMonth, x -> x.cover(7, 3));
        Cases.refusal("k 5 is NONE where there are 4", NONE, Cases::fullMonth, x -> x.cover(7, 5));
        Cases.refusal("the least int as k is NONE", NONE, Cases::givenMonth, x -> x.cover(7, LOW));
        Cases.refusal("the greatest int as k is NONE", NONE, Cases::givenMonth, x -> x.cover(7, HIGH));
        Cases.refusal("k 1 is NONE where there is nobody", NONE, RankRoster::new, x -> x.cover(0, 1));
        Cases.refusal("NONE k ahead of BAD set", NONE, Cases::givenMonth, x -> x.cover(8, 3));
        Cases.refusal("the bit behind the last duty is BAD", BAD, Cases::givenMonth, x -> x.cover(8, 0));
        Cases.refusal("that bit is BAD by none, too", BAD, Cases::givenMonth, x -> x.cover(8, 2));
        Cases.refusal("512 is BAD where there are 9 duties", BAD, Cases::fullMonth, x -> x.cover(512, 0));
        Cases.refusal("set -1 is BAD", BAD, Cases::givenMonth, x -> x.cover(-1, 0));
        Cases.refusal("the least int as set is BAD", BAD, Cases::givenMonth, x -> x.cover(LOW, 0));
        Cases.refusal("the greatest int as set is BAD", BAD, Cases::givenMonth, x -> x.cover(HIGH, 0));
        Cases.refusal("set 1 is BAD where there is no duty", BAD, RankRoster::new, x -> x.cover(1, 0));
    }

    private static void cover() {
        Cases.promise(9, "cover");
        Cases.look("k as many as there are: by none, 0", 0, Cases::givenMonth, x -> x.cover(7, 2));
        Cases.look("k 4 where there are 4: by none, 0", 0, Cases::fullMonth, x -> x.cover(511, 4));
        Cases.look("of no duties it is 0", 0, Cases::givenMonth, x -> x.cover(0, 0));
        Cases.look("of all 9 duties by all 4 people", 9, Cases::fullMonth, x -> x.cover(511, 0));
        Cases.look("of all 9 duties by the last one alone, 24 hours", 3, Cases::fullMonth, x -> x.cover(511, 3));
        Cases.look("of some duties only these count", 2, Cases::fullMonth, x -> x.cover(0b100000001, 3));
        Cases.test("nobody covers nothing of 9 duties", () -> {
            RankRoster x = Cases.onDays(0, 1, 2, 3, 4, 5, 6, 7, 8);
            Cases.due(x.cover(511, 0), 0);
        });
        Cases.test("9 duties of one day: one for each from k on", () -> {
            RankRoster x = Cases.onDays(0, 0, 0, 0, 0, 0, 0, 0, 0);
            for (int p = 0; p < 4; p++) {
                x.person(1, 200);
            }
            for (int k = 0; k <= 4; k++) {
                Cases.due(x.cover(511, k), 4 - k);
            }
        });
        Cases.test("each duty goes to one: 1 duty, 4 people", () -> {
            RankRoster x = Cases.onDays(0);
            for (int p = 0; p < 4; p++) {
                x.person(1, 200);
            }
            Cases.due(x.cover(1, 0), 1);
        });
        Cases.test("one alone can have all 9", () -> {
            RankRoster x = Cases.onDays(0, 1, 2, 3, 4, 6, 7, 8, 9);
            x.person(1, 72);
            Cases.due(x.cover(511, 0), 9);
        });
        Cases.test("those ahead of k count for nothing", () -> {
            RankRoster x = Cases.onDays(0, 2);
            x.person(1, 200);
            x.person(0, 200);
            Cases.due(x.cover(3, 0), 2);
            Cases.due(x.cover(3, 1), 0);
        });
        Cases.test("the greatest number, though the first one would rather have the only duty of the second", () -> {
            RankRoster x = Cases.ofDuties(row(0, 1, 8, 0, 0), row(0, 1, 8, 1, 0));
            x.person(3, 200);
            x.person(1, 200);
            Cases.due(x.cover(3, 0), 2);
        });
        Cases.test("the greatest number leaves a great duty for two small ones", () -> {
            RankRoster x = Cases.ofDuties(hours(0, 40), hours(2, 20), hours(4, 20));
            x.person(1, 40);
            Cases.due(x.cover(7, 0), 2);
        });
        Cases.test("wishes change nothing of it", () -> {
            RankRoster x = Cases.onDays(0, 2);
            x.person(1, 200);
            x.wish(0, 4, 0);
            Cases.due(x.cover(3, 0), 2);
        });
    }

    private static void betterRefused() {
        Cases.promise(10, "better");
        Cases.refusal("person -1 is NONE", NONE, Cases::givenMonth, x -> x.better(-1, 0, 0));
        Cases.refusal("a person more than there are is NONE", NONE, Cases::givenMonth, x -> x.better(2, 0, 0));
        Cases.refusal("person 4 is NONE where there are 4", NONE, Cases::fullMonth, x -> x.better(4, 0, 0));
        Cases.refusal("the least int as person is NONE", NONE, Cases::givenMonth, x -> x.better(LOW, 0, 0));
        Cases.refusal("the greatest int as person is NONE", NONE, Cases::givenMonth, x -> x.better(HIGH, 0, 0));
        Cases.refusal("NONE person ahead of BAD lines", NONE, Cases::givenMonth, x -> x.better(2, 8, 8));
        Cases.refusal("the first with the bit behind the last duty is BAD", BAD, Cases::givenMonth,
            x -> x.better(0, 8, 0));
        Cases.refusal("the second with the bit behind the last duty is BAD", BAD, Cases::givenMonth,
            x -> x.better(0, 0, 8));
        Cases.refusal("the first 512 is BAD where there are 9 duties", BAD, Cases::fullMonth,
            x -> x.better(0, 512, 0));
        Cases.refusal("the second 512 is BAD where there are 9 duties", BAD, Cases::fullMonth,
            x -> x.better(0, 0, 512));
        Cases.refusal("the first -1 is BAD", BAD, Cases::givenMonth, x -> x.better(0, -1, 0));
        Cases.refusal("the second -1 is BAD", BAD, Cases::givenMonth, x -> x.better(0, 0, -1));
        Cases.refusal("the least int twice is BAD", BAD, Cases::givenMonth, x -> x.better(0, LOW, LOW));
        Cases.refusal("the greatest int twice is BAD", BAD, Cases::givenMonth, x -> x.better(0, HIGH, HIGH));
    }

    private static RankRoster withTwoWishes() {
        RankRoster x = Cases.onDays(0, 2, 4);
        x.person(1, 200);
        x.wish(0, 1, 1);
        x.wish(0, 0, 2);
        return x;
    }

    private static void betterByWishes() {
        Cases.promise(10, "better");
        Cases.look("by the first wish: 2", 2, BoundaryLookingTest::withTwoWishes, x -> x.better(0, 0, 2));
        Cases.look("by the first wish, the other way round: 0", 0, BoundaryLookingTest::withTwoWishes,
            x -> x.better(0, 2, 0));
        Cases.look("by the second wish, as both meet the first: 2", 2, BoundaryLookingTest::withTwoWishes,
            x -> x.better(0, 4, 1));
        Cases.look("by the second wish, as neither meets the first: 2", 2, BoundaryLookingTest::withTwoWishes,
            x -> x.better(0, 6, 3));
        Cases.look("the first wish counts against the second: 2", 2, BoundaryLookingTest::withTwoWishes,
            x -> x.better(0, 1, 6));
        Cases.look("the first wish counts against the second, the other way round: 0", 0,
            BoundaryLookingTest::withTwoWishes, x -> x.better(0, 6, 1));
        Cases.look("a wish counts against the order of duties: 2", 2, BoundaryLookingTest::withTwoWishes,
            x -> x.better(0, 4, 3));
        Cases.look("a wish counts against the order of duties, the other way round: 0", 0,
            BoundaryLookingTest::withTwoWishes, x -> x.better(0, 3, 4));
        Cases.test("by the 5th wish alone: 2", () -> {
            RankRoster x = Cases.onDays(0, 2);
            x.person(1, 200);
            for (int w = 0; w < 4; w++) {
                x.wish(0, 3, 0);
            }
            x.wish(0, 1, 0);
            Cases.due(x.better(0, 2, 1), 2);
            Cases.due(x.better(0, 1, 2), 0);
        });
        Cases.test("the 1st wish counts against the four others", () -> {
            RankRoster x = Cases.onDays(0, 2);
            x.person(1, 200);
            x.wish(0, 0, 1);
            x.wish(0, 0, 0);
            x.wish(0, 2, 2);
            x.wish(0, 1, 1);
            x.wish(0, 0, 0);
            Cases.due(x.better(0, 2, 1), 2);
            Cases.due(x.better(0, 1, 2), 0);
        });
        Cases.test("wishes of another one count for nothing", () -> {
            RankRoster x = Cases.onDays(0, 2);
            x.person(1, 200);
            x.person(1, 200);
            x.wish(1, 0, 1);
            Cases.due(x.better(0, 1, 2), 1);
            Cases.due(x.better(1, 1, 2), 0);
        });
        Cases.test("a line that is not legal may be the better one", () -> {
            RankRoster x = Cases.onDays(0, 0);
            x.person(0, 0);
            x.wish(0, 5, 16);
            Cases.due(x.better(0, 3, 0), 2);
        });
    }

    private static RankRoster withoutWishes() {
        RankRoster x = Cases.onDays(0, 2, 4, 6, 8, 10, 11, 12, 13);
        x.person(1, 200);
        return x;
    }

    private static void betterByDuties() {
        Cases.promise(10, "better");
        Cases.look("a line against itself: 0", 0, BoundaryLookingTest::withoutWishes, x -> x.better(0, 5, 5));
        Cases.look("the empty line against itself: 0", 0, BoundaryLookingTest::withoutWishes, x -> x.better(0, 0, 0));
        Cases.look("a line with wishes against itself: 0", 0, BoundaryLookingTest::withTwoWishes,
            x -> x.better(0, 5, 5));
        Cases.look("any line against the empty one: 1", 1, BoundaryLookingTest::withoutWishes,
            x -> x.better(0, 256, 0));
        Cases.look("the empty line against any: 0", 0, BoundaryLookingTest::withoutWishes, x -> x.better(0, 0, 256));
        Cases.look("duty 0 counts against all others: 1", 1, BoundaryLookingTest::withoutWishes,
            x -> x.better(0, 1, 510));
        Cases.look("all others against duty 0: 0", 0, BoundaryLookingTest::withoutWishes, x -> x.better(0, 510, 1));
        Cases.look("what both have tells nothing: 1", 1, BoundaryLookingTest::withoutWishes, x -> x.better(0, 3, 5));
        Cases.look("a duty more is better: 1", 1, BoundaryLookingTest::withoutWishes, x -> x.better(0, 511, 255));
        Cases.look("a duty less is not: 0", 0, BoundaryLookingTest::withoutWishes, x -> x.better(0, 255, 511));
        Cases.look("by duties where both meet all wishes: 1", 1, BoundaryLookingTest::withTwoWishes,
            x -> x.better(0, 5, 4));
        Cases.look("by duties where neither meets a wish: 1", 1, BoundaryLookingTest::withTwoWishes,
            x -> x.better(0, 3, 2));
    }
}
