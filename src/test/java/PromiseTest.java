/** Each promise by hand: ordinary inputs, the edges that the document names, and wrong inputs. */
public final class PromiseTest {
    private static final int NONE = -1, BAD = -2, STATE = -3, FULL = -4;
    private static final int LOW = Integer.MIN_VALUE, HIGH = Integer.MAX_VALUE;

    private static int wrong = 0;
    private static int promise = 0;
    private static int row = 0;

    public static void main(String[] args) {
        newObject();
        duty();
        person();
        rule();
        wish();
        whySkillAndDays();
        whyRest();
        whyRow();
        whyWeekAndMost();
        meets();
        lines();
        cover();
        better();
        give();
        line();
        about();
        open();
        denied();
        ahead();
        swap();
        sick();
        who();
        count();
        System.out.println(wrong == 0 ? "all answers are as due" : wrong + " answers are not as due");
        if (wrong != 0) {
            System.exit(1);
        }
    }

    private static void start(int number) {
        promise = number;
        row = 0;
    }

    private static void due(int got, int want) {
        row++;
        if (got != want) {
            wrong++;
            StackTraceElement at = new Throwable().getStackTrace()[1];
            System.out.println("promise " + promise + ", row " + row + " (line " + at.getLineNumber() + "): answered "
                + got + ", due is " + want);
        }
    }

    /** Duties of 1 day, 8 hours, skill 0, no night, on these days. */
    private static RankRoster onDays(int... days) {
        RankRoster x = new RankRoster();
        for (int day : days) {
            x.duty(day, 1, 8, 0, 0);
        }
        return x;
    }

    /**
     * Two duties on one day, of skill 0 and of skill 1; the first one has both skills, the second one skill 0 alone.
     * All are covered only if the first one leaves duty 0.
     */
    private static RankRoster pair() {
        RankRoster x = new RankRoster();
        x.duty(0, 1, 8, 0, 0);
        x.duty(0, 1, 8, 1, 0);
        x.person(3, 100);
        x.person(1, 100);
        return x;
    }

    private static void newObject() {
        start(1);
        RankRoster x = new RankRoster();
        due(x.count(0), 0);
        due(x.count(1), 0);
        due(x.count(2), 0);
        due(x.count(3), STATE);
        due(x.count(4), 0);
        due(x.open(), STATE);
        due(x.cover(0, 0), 0);
        due(x.rule(0, 2), 1);
        due(x.rule(1, 2), 1);
        due(x.rule(2, 2), 5);
        due(x.rule(3, 2), 60);
        due(new RankRoster().rule(0, 0), 1);
        due(RankRoster.NONE, NONE);
        due(RankRoster.BAD, BAD);
        due(RankRoster.STATE, STATE);
        due(RankRoster.FULL, FULL);
    }

    private static void duty() {
        start(2);
        RankRoster x = new RankRoster();
        due(x.duty(0, 0, 8, 0, 0), BAD);
        due(x.duty(0, 4, 8, 0, 0), BAD);
        due(x.duty(0, LOW, 8, 0, 0), BAD);
        due(x.duty(0, HIGH, 8, 0, 0), BAD);
        due(x.duty(0, 1, 0, 0, 0), BAD);
        due(x.duty(0, 1, 41, 0, 0), BAD);
        due(x.duty(0, 1, 8, 0, 2), BAD);
        due(x.duty(0, 1, 8, 0, -1), BAD);
        due(x.duty(-1, 1, 8, 0, 0), NONE);
        due(x.duty(14, 1, 8, 0, 0), NONE);
        due(x.duty(HIGH, 3, 8, 0, 0), NONE);
        due(x.duty(LOW, 3, 8, 0, 0), NONE);
        due(x.duty(13, 2, 8, 0, 0), NONE);
        due(x.duty(12, 3, 8, 0, 0), NONE);
        due(x.duty(0, 1, 8, 4, 0), NONE);
        due(x.duty(0, 1, 8, -1, 0), NONE);
        // BAD is told ahead of NONE.
        due(x.duty(-1, 0, 8, 0, 0), BAD);
        due(x.duty(14, 1, 41, 0, 0), BAD);
        due(x.duty(0, 1, 8, 4, 2), BAD);
        due(x.count(0), 0);
        due(x.duty(13, 1, 1, 0, 0), 0);
        due(x.duty(12, 2, 40, 1, 1), 1);
        due(x.duty(11, 3, 8, 2, 0), 2);
        due(x.duty(0, 1, 8, 3, 0), 3);
        for (int d = 4; d < 9; d++) {
            due(x.duty(0, 1, 8, 0, 0), d);
        }
        x.give();
        due(x.duty(0, 1, 8, 0, 0), FULL);
        due(x.duty(14, 1, 8, 0, 0), NONE);
        due(x.duty(0, 1, 8, 4, 0), NONE);
        due(x.duty(0, 9, 8, 0, 0), BAD);
        due(x.count(0), 9);
        // What is refused ends nothing; what is not, does.
        due(x.count(4), 1);
        x = pair();
        x.give();
        x.duty(0, 1, 8, 0, 0);
        due(x.count(4), 0);
        due(x.line(0), STATE);
    }

    private static void person() {
        start(3);
        RankRoster x = new RankRoster();
        due(x.person(-1, 10), BAD);
        due(x.person(16, 10), BAD);
        due(x.person(LOW, 10), BAD);
        due(x.person(HIGH, 10), BAD);
        due(x.person(1, -1), BAD);
        due(x.person(1, 201), BAD);
        due(x.count(1), 0);
        due(x.person(0, 0), 0);
        due(x.person(15, 200), 1);
        due(x.person(1, 1), 2);
        x.give();
        due(x.person(1, 1), 3);
        due(x.count(4), 0);
        x.give();
        due(x.person(1, 1), FULL);
        due(x.person(16, 1), BAD);
        due(x.person(1, 201), BAD);
        due(x.count(1), 4);
        due(x.count(4), 1);
    }

    private static void rule() {
        start(4);
        RankRoster x = onDays(0, 1);
        x.person(1, 100);
        due(x.rule(-1, 1), NONE);
        due(x.rule(4, 1), NONE);
        due(x.rule(LOW, 1), NONE);
        due(x.rule(HIGH, -1), NONE);
        int[] least = {0, 0, 1, 0};
        int[] most = {3, 3, 14, 200};
        int[] first = {1, 1, 5, 60};
        x.give();
        for (int which = 0; which < 4; which++) {
            due(x.rule(which, least[which] - 1), BAD);
            due(x.rule(which, most[which] + 1), BAD);
            due(x.rule(which, LOW), BAD);
            due(x.rule(which, HIGH), BAD);
        }
        due(x.count(4), 1);
        for (int which = 0; which < 4; which++) {
            due(x.rule(which, least[which]), first[which]);
            due(x.rule(which, most[which]), least[which]);
            due(x.rule(which, first[which]), most[which]);
            due(x.rule(which, first[which]), first[which]);
        }
        due(x.count(4), 0);
        // The same number over again ends what was given, too: it was not refused.
        x.give();
        due(x.rule(2, 5), 5);
        due(x.count(4), 0);
        // A rule that changes is looked at anew.
        due(x.lines(0), 4);
        due(x.cover(3, 0), 2);
        x.rule(2, 1);
        due(x.lines(0), 3);
        due(x.cover(3, 0), 1);
        due(x.give(), 1);
    }

    private static void wish() {
        start(5);
        RankRoster x = onDays(0, 1);
        due(x.wish(0, 3, 0), NONE);
        x.person(1, 100);
        x.person(1, 100);
        due(x.wish(-1, 3, 0), NONE);
        due(x.wish(2, 3, 0), NONE);
        due(x.wish(0, -1, 0), NONE);
        due(x.wish(0, 6, 0), NONE);
        due(x.wish(0, 0, -1), NONE);
        due(x.wish(0, 0, 2), NONE);
        due(x.wish(0, 1, 2), NONE);
        due(x.wish(0, 1, LOW), NONE);
        due(x.wish(0, 2, -1), NONE);
        due(x.wish(0, 2, 14), NONE);
        due(x.wish(0, 3, 1), BAD);
        due(x.wish(0, 3, -1), BAD);
        due(x.wish(0, 4, -1), BAD);
        due(x.wish(0, 4, 201), BAD);
        due(x.wish(0, 5, -1), BAD);
        due(x.wish(0, 5, 201), BAD);
        due(x.count(2), 0);
        x.give();
        due(x.wish(0, 0, 2), NONE);
        due(x.count(4), 1);
        due(x.wish(0, 0, 1), 0);
        due(x.count(4), 0);
        due(x.wish(0, 1, 0), 1);
        due(x.wish(0, 2, 13), 2);
        due(x.wish(0, 4, 200), 3);
        due(x.wish(0, 5, 0), 4);
        x.give();
        due(x.wish(0, 3, 0), FULL);
        due(x.wish(0, 3, 1), BAD);
        due(x.wish(0, 0, 2), NONE);
        due(x.count(4), 1);
        due(x.wish(1, 3, 0), 0);
        due(x.wish(1, 2, 0), 1);
        due(x.wish(1, 4, 0), 2);
        due(x.wish(1, 5, 200), 3);
        due(x.count(2), 9);
    }

    private static void whySkillAndDays() {
        start(6);
        RankRoster x = new RankRoster();
        due(x.why(0, 0), NONE);
        x.duty(0, 2, 8, 0, 0);
        x.duty(1, 1, 8, 1, 0);
        x.duty(4, 1, 8, 0, 0);
        x.person(1, 100);
        x.person(3, 100);
        x.person(0, 100);
        due(x.why(-1, 0), NONE);
        due(x.why(3, 0), NONE);
        due(x.why(3, -1), NONE);
        due(x.why(0, 8), BAD);
        due(x.why(0, -1), BAD);
        due(x.why(0, LOW), BAD);
        due(x.why(0, HIGH), BAD);
        due(x.why(0, 0), 0);
        due(x.why(2, 0), 0);
        due(x.why(2, 1), 1);
        due(x.why(0, 2), 1);
        due(x.why(1, 2), 0);
        // The skill is told ahead of the day, on which both are.
        due(x.why(0, 3), 1);
        due(x.why(1, 3), 2);
        due(x.why(0, 5), 0);
        // Also where another one stands between the two.
        x.duty(0, 1, 8, 0, 0);
        due(x.why(0, 0b1101), 2);
        due(x.why(0, 0b1100), 0);
    }

    private static void whyRest() {
        RankRoster x = new RankRoster();
        x.duty(4, 1, 8, 0, 0);
        x.duty(3, 1, 8, 0, 1);
        x.duty(5, 1, 8, 0, 0);
        x.duty(6, 1, 8, 0, 0);
        x.duty(7, 1, 8, 0, 0);
        x.duty(1, 3, 8, 0, 1);
        x.duty(9, 2, 8, 0, 0);
        x.duty(11, 1, 8, 0, 0);
        x.duty(12, 2, 8, 0, 1);
        x.person(1, 200);
        // The rest is behind the earlier day, not behind the lower number.
        due(x.why(0, 0b11), 3);
        due(x.why(0, 0b110), 0);
        due(x.rule(0, 0), 1);
        due(x.why(0, 0b11), 0);
        due(x.rule(0, 3), 0);
        due(x.why(0, 0b1010), 3);
        due(x.why(0, 0b10010), 0);
        // Behind a long one, and of both the greater one.
        due(x.why(0, 0b011000000), 3);
        due(x.why(0, 0b101000000), 0);
        due(x.rule(0, 2), 3);
        due(x.why(0, 0b100100), 3);
        due(x.why(0, 0b101000), 0);
        due(x.rule(0, 0), 2);
        due(x.rule(1, 2), 1);
        due(x.why(0, 0b100100), 3);
        due(x.why(0, 0b101000), 0);
        due(x.why(0, 0b101000000), 3);
        due(x.rule(1, 0), 2);
        due(x.why(0, 0b100001), 0);
        due(x.why(0, 0b011000000), 0);
        // Two on one day are told ahead of the rest between them.
        due(x.rule(1, 3), 0);
        due(x.why(0, 0b100010), 2);
        // The rest behind the last day may reach beyond the month.
        due(x.why(0, 0b100000000), 0);
    }

    private static void whyRow() {
        RankRoster x = onDays(2, 3, 4, 5, 6, 7, 9);
        x.duty(11, 3, 8, 0, 0);
        x.person(1, 200);
        due(x.why(0, 0b0011111), 0);
        due(x.why(0, 0b0111111), 4);
        due(x.why(0, 0b1101111), 0);
        due(x.rule(2, 6), 5);
        due(x.why(0, 0b1111111), 0);
        due(x.rule(2, 2), 6);
        due(x.why(0, 0b10000000), 4);
        due(x.rule(2, 3), 2);
        due(x.why(0, 0b10000000), 0);
        due(x.rule(2, 1), 3);
        due(x.why(0, 0b0010101), 0);
        due(x.why(0, 0b0000011), 4);
        // The row is told ahead of the week.
        due(x.rule(3, 0), 60);
        due(x.why(0, 0b0000011), 4);
        due(x.why(0, 0b0000001), 5);
    }

    private static void whyWeekAndMost() {
        RankRoster x = new RankRoster();
        x.duty(0, 1, 30, 0, 0);
        x.duty(6, 1, 30, 0, 0);
        x.duty(5, 1, 1, 0, 0);
        x.duty(7, 3, 40, 0, 0);
        x.duty(13, 1, 40, 0, 0);
        x.duty(11, 1, 40, 0, 0);
        x.duty(3, 3, 25, 0, 0);
        x.duty(10, 1, 40, 0, 0);
        x.person(1, 65);
        x.person(1, 60);
        x.person(1, 59);
        x.person(1, 70);
        due(x.why(0, 0b11), 0);
        due(x.why(0, 0b111), 5);
        // 7 days from 0 on end with 6; 0 and 7 are in none together.
        due(x.why(3, 0b1001), 0);
        due(x.why(0, 0b1001), 6);
        due(x.why(0, 0b11000), 5);
        due(x.why(0, 0b110000), 5);
        // A duty over days 3 to 5 counts on day 3: it is in no week with day 10.
        due(x.why(0, 0b11000000), 0);
        due(x.why(1, 0b11), 0);
        due(x.why(2, 0b11), 6);
        // The week is told ahead of all hours.
        due(x.why(2, 0b111), 5);
        due(x.rule(3, 59), 60);
        due(x.why(0, 0b11), 5);
        due(x.rule(3, 61), 59);
        due(x.why(0, 0b111), 0);
        due(x.rule(3, 0), 61);
        due(x.why(0, 0), 0);
        due(x.why(0, 4), 5);
    }

    private static void meets() {
        start(7);
        RankRoster x = new RankRoster();
        x.duty(3, 3, 10, 0, 1);
        x.duty(6, 1, 5, 0, 0);
        x.person(0, 0);
        due(x.meets(0, 0, 0), NONE);
        x.wish(0, 0, 1);
        x.wish(0, 1, 1);
        x.wish(0, 2, 5);
        x.wish(0, 3, 0);
        x.wish(0, 4, 10);
        x.person(0, 0);
        x.wish(1, 5, 15);
        x.wish(1, 2, 6);
        x.wish(1, 5, 0);
        due(x.meets(-1, 0, 0), NONE);
        due(x.meets(2, 0, 0), NONE);
        due(x.meets(0, -1, 0), NONE);
        due(x.meets(0, 5, 0), NONE);
        due(x.meets(1, 3, 4), NONE);
        due(x.meets(0, 0, 4), BAD);
        due(x.meets(0, 0, -1), BAD);
        int[][] want = {{0, 0, 1, 1}, {1, 1, 0, 0}, {1, 0, 1, 0}, {1, 0, 1, 0}, {1, 1, 1, 0}};
        for (int w = 0; w < 5; w++) {
            for (int line = 0; line < 4; line++) {
                due(x.meets(0, w, line), want[w][line]);
            }
        }
        int[][] wantOfSecond = {{0, 0, 0, 1}, {1, 1, 0, 0}, {1, 1, 1, 1}};
        for (int w = 0; w < 3; w++) {
            for (int line = 0; line < 4; line++) {
                due(x.meets(1, w, line), wantOfSecond[w][line]);
            }
        }
    }

    private static void lines() {
        start(8);
        RankRoster x = new RankRoster();
        due(x.lines(0), NONE);
        x.person(1, 20);
        due(x.lines(0), 1);
        due(x.lines(1), NONE);
        due(x.lines(-1), NONE);
        x.duty(0, 1, 8, 0, 0);
        due(x.lines(0), 2);
        x.duty(2, 1, 8, 0, 0);
        x.duty(4, 1, 8, 0, 0);
        // All but the one of 24 hours.
        due(x.lines(0), 7);
        x.person(0, 20);
        x.person(3, 100);
        due(x.lines(1), 1);
        due(x.lines(2), 8);
        for (int d = 3; d < 9; d++) {
            x.duty(2 * d - 5, 1, 1, 1, 0);
        }
        due(x.lines(0), 7);
        x.rule(2, 14);
        due(x.lines(2), 512);
    }

    private static void cover() {
        start(9);
        RankRoster x = pair();
        due(x.cover(3, -1), NONE);
        due(x.cover(3, 3), NONE);
        due(x.cover(4, 3), NONE);
        due(x.cover(4, 0), BAD);
        due(x.cover(-1, 2), BAD);
        due(x.cover(3, 0), 2);
        due(x.cover(3, 1), 1);
        due(x.cover(2, 1), 0);
        due(x.cover(2, 0), 1);
        due(x.cover(3, 2), 0);
        due(x.cover(0, 0), 0);
        // Two duties of skill 1 on that day, but one who has it: the lower number is not enough.
        x.duty(0, 1, 8, 1, 0);
        due(x.cover(7, 0), 2);
        due(x.cover(6, 0), 1);
        x.person(2, 8);
        due(x.cover(7, 0), 3);
        due(x.cover(7, 1), 2);
        due(x.cover(7, 2), 1);
        due(x.cover(7, 3), 0);
    }

    private static void better() {
        start(10);
        RankRoster x = onDays(0, 1, 2, 3);
        due(x.better(0, 0, 0), NONE);
        x.person(0, 0);
        x.person(0, 0);
        x.wish(1, 1, 1);
        x.wish(1, 0, 2);
        due(x.better(2, 0, 0), NONE);
        due(x.better(-1, 16, 0), NONE);
        due(x.better(0, 16, 0), BAD);
        due(x.better(0, 0, 16), BAD);
        due(x.better(0, -1, 0), BAD);
        due(x.better(0, 0, -1), BAD);
        due(x.better(0, 5, 5), 0);
        due(x.better(0, 1, 14), 1);
        due(x.better(0, 14, 1), 0);
        due(x.better(0, 9, 10), 1);
        due(x.better(0, 10, 9), 0);
        due(x.better(0, 3, 1), 1);
        due(x.better(0, 1, 3), 0);
        // The first wish that tells them apart, whatever the later one says.
        due(x.better(1, 0, 6), 2);
        due(x.better(1, 6, 0), 0);
        due(x.better(1, 4, 1), 2);
        due(x.better(1, 1, 4), 0);
        due(x.better(1, 5, 4), 1);
        due(x.better(1, 4, 5), 0);
        due(x.better(1, 3, 2), 1);
    }

    private static void give() {
        start(11);
        RankRoster x = new RankRoster();
        due(x.give(), 0);
        due(x.count(4), 1);
        x = onDays(0, 1, 2);
        due(x.give(), 3);
        // Without a wish each takes the first duties.
        x.person(1, 16);
        x.person(1, 8);
        due(x.give(), 0);
        due(x.line(0), 3);
        due(x.line(1), 4);
        // A wish counts ahead of the numbers.
        x.wish(0, 1, 0);
        due(x.give(), 0);
        due(x.line(0), 6);
        due(x.line(1), 1);
        // One may wish for less, where those behind still cover as much.
        x.wish(1, 4, 0);
        x.wish(0, 4, 8);
        due(x.give(), 0);
        due(x.line(0), 6);
        x.person(1, 100);
        due(x.give(), 0);
        due(x.line(0), 2);
        due(x.line(1), 0);
        due(x.line(2), 5);
        // The one ahead must leave what only those behind can do.
        x = pair();
        x.wish(0, 0, 0);
        due(x.give(), 0);
        due(x.line(0), 2);
        due(x.line(1), 1);
        // But it gives up nothing where there is nothing to win by it.
        x = pair();
        x.wish(0, 0, 0);
        x.wish(0, 1, 1);
        x.duty(0, 1, 8, 3, 0);
        x.rule(3, 0);
        due(x.give(), 3);
        x.rule(3, 60);
        due(x.give(), 1);
        due(x.open(), 4);
    }

    private static void line() {
        start(12);
        RankRoster x = pair();
        due(x.line(0), STATE);
        due(x.line(2), NONE);
        due(x.line(-1), NONE);
        x.give();
        due(x.line(0), 2);
        due(x.line(1), 1);
        due(x.line(2), NONE);
        x.sick(1, 0);
        due(x.line(1), 0);
        x.wish(0, 0, 0);
        due(x.line(0), STATE);
        x.give();
        due(x.line(1), 1);
    }

    private static void about() {
        start(13);
        RankRoster x = new RankRoster();
        due(x.about(0, 0), NONE);
        x.duty(0, 3, 20, 0, 0);
        x.duty(5, 1, 7, 0, 0);
        x.person(1, 100);
        x.person(1, 100);
        x.wish(0, 0, 0);
        x.wish(0, 2, 2);
        x.wish(0, 5, 27);
        due(x.about(0, 0), STATE);
        due(x.about(0, 5), NONE);
        due(x.about(0, -1), NONE);
        due(x.about(2, 0), NONE);
        due(x.about(-1, 0), NONE);
        x.give();
        due(x.about(0, 0), 27);
        due(x.about(0, 1), 2);
        due(x.about(0, 2), 4);
        due(x.about(0, 3), 2);
        due(x.about(0, 4), 0);
        due(x.about(1, 0), 0);
        due(x.about(1, 1), 0);
        due(x.about(1, 2), 0);
        due(x.about(1, 3), 0);
        due(x.about(0, 5), NONE);
        due(x.about(2, 0), NONE);
        x.sick(0, 3);
        due(x.about(0, 0), 20);
        due(x.about(0, 1), 1);
        due(x.about(0, 2), 3);
        due(x.about(0, 3), 1);
        due(x.about(0, 4), 1);
        due(x.about(1, 0), 7);
        due(x.about(1, 4), 0);
        x.give();
        due(x.about(0, 4), 0);
    }

    private static void open() {
        start(14);
        RankRoster x = onDays(0, 0, 0, 5);
        x.person(1, 100);
        due(x.open(), STATE);
        due(x.give(), 2);
        due(x.open(), 6);
        x.sick(0, 1);
        due(x.open(), 14);
        due(x.give(), 2);
        due(x.open(), 6);
        x.person(1, 100);
        due(x.open(), STATE);
        due(x.give(), 1);
        due(x.open(), 4);
    }

    private static void denied() {
        start(15);
        RankRoster x = pair();
        x.wish(0, 0, 0);
        x.wish(0, 3, 0);
        x.wish(0, 5, 9);
        x.wish(1, 0, 1);
        x.wish(1, 2, 0);
        due(x.denied(0, 0), STATE);
        due(x.denied(0, 3), NONE);
        x.give();
        due(x.denied(0, -1), NONE);
        due(x.denied(0, 3), NONE);
        due(x.denied(2, 0), NONE);
        due(x.denied(-1, 0), NONE);
        due(x.denied(0, 0), 3);
        due(x.denied(0, 1), 0);
        due(x.denied(0, 2), 1);
        due(x.denied(1, 0), 1);
        due(x.denied(1, 1), 3);
        // What the one ahead has taken.
        x = onDays(0, 0);
        x.person(1, 100);
        x.person(1, 100);
        x.wish(1, 0, 0);
        x.give();
        due(x.denied(1, 0), 2);
        // Wishes ahead that are met count, those that are not do not.
        x = onDays(0, 3);
        x.person(1, 100);
        x.wish(0, 4, 8);
        x.wish(0, 0, 0);
        x.wish(0, 0, 1);
        x.wish(0, 5, 16);
        x.person(1, 100);
        x.give();
        due(x.denied(0, 0), 0);
        due(x.denied(0, 1), 0);
        due(x.denied(0, 2), 1);
        due(x.denied(0, 3), 1);
        x = onDays(0, 3);
        x.person(1, 8);
        x.wish(0, 5, 16);
        x.wish(0, 0, 1);
        x.wish(0, 0, 0);
        x.person(1, 8);
        x.give();
        due(x.denied(0, 0), 1);
        due(x.denied(0, 1), 0);
        due(x.denied(0, 2), 1);
        // A swap or a sick one ends it; a refused one does not; give() begins it again.
        x = pair();
        x.wish(0, 0, 0);
        x.give();
        due(x.swap(0, 1, 1, -1), STATE);
        due(x.swap(0, 1, 0, 0), BAD);
        due(x.sick(0, 14), NONE);
        due(x.denied(0, 0), 3);
        due(x.sick(0, 13), 0);
        due(x.denied(0, 0), STATE);
        due(x.denied(0, 1), NONE);
        x.give();
        due(x.denied(0, 0), 3);
        x = onDays(0, 3);
        x.person(1, 100);
        x.person(1, 100);
        x.wish(0, 3, 0);
        x.give();
        due(x.denied(0, 0), 0);
        due(x.swap(0, 0, 1, -1), 1);
        due(x.denied(0, 0), STATE);
    }

    private static void ahead() {
        start(16);
        RankRoster x = onDays(0, 0, 0, 0);
        due(x.ahead(0, 0), NONE);
        for (int p = 0; p < 4; p++) {
            x.person(1, 100);
        }
        due(x.ahead(-1, 0), NONE);
        due(x.ahead(4, 0), NONE);
        due(x.ahead(0, -1), NONE);
        due(x.ahead(0, 4), NONE);
        // It needs nothing that is given, and gives nothing.
        for (int p = 0; p < 4; p++) {
            for (int r = 0; r < 4; r++) {
                due(x.ahead(p, r), 1 << r);
            }
        }
        due(x.count(4), 0);
        // The others choose by their own wishes, in their order.
        x.wish(2, 0, 0);
        x.wish(0, 0, 2);
        due(x.ahead(3, 0), 1);
        due(x.ahead(3, 1), 1);
        due(x.ahead(3, 2), 2);
        due(x.ahead(0, 3), 8);
        due(x.ahead(0, 2), 4);
        due(x.ahead(2, 1), 1);
        due(x.ahead(2, 2), 2);
        x.give();
        x.sick(0, 0);
        due(x.ahead(0, 0), 4);
        due(x.line(0), 0);
        due(x.about(0, 4), 1);
        // Those behind are to cover as much in the other order, too.
        x = pair();
        x.wish(0, 0, 0);
        due(x.ahead(1, 0), 1);
        due(x.ahead(0, 1), 2);
        x.person(2, 100);
        due(x.ahead(0, 0), 1);
        due(x.ahead(0, 1), 2);
        due(x.ahead(0, 2), 0);
        due(x.ahead(2, 0), 2);
        // Who has chosen already covers no more.
        x = onDays(0, 0);
        x.person(1, 100);
        x.person(2, 100);
        x.person(1, 100);
        x.wish(2, 4, 0);
        due(x.ahead(2, 1), 2);
        due(x.ahead(2, 0), 1);
    }

    private static void swap() {
        start(17);
        RankRoster x = onDays(0, 2, 4, 6);
        x.person(1, 16);
        x.person(1, 100);
        x.person(0, 100);
        due(x.swap(0, 0, 1, 2), STATE);
        due(x.swap(0, 0, 3, 2), NONE);
        due(x.swap(0, 0, 0, 2), BAD);
        due(x.give(), 0);
        due(x.line(0), 3);
        due(x.line(1), 12);
        due(x.swap(3, 0, 1, 2), NONE);
        due(x.swap(-1, 0, 1, 2), NONE);
        due(x.swap(0, 0, 3, 2), NONE);
        due(x.swap(0, 0, -1, 2), NONE);
        due(x.swap(0, 4, 1, 2), NONE);
        due(x.swap(0, -2, 1, 2), NONE);
        due(x.swap(0, 0, 1, 4), NONE);
        due(x.swap(0, 0, 1, -2), NONE);
        due(x.swap(0, HIGH, 1, LOW), NONE);
        due(x.swap(0, 4, 0, 4), NONE);
        due(x.swap(0, 0, 0, 1), BAD);
        due(x.swap(0, -1, 1, -1), BAD);
        due(x.swap(1, -1, 1, -1), BAD);
        due(x.swap(0, 2, 1, 3), STATE);
        due(x.swap(0, 0, 1, 1), STATE);
        due(x.swap(0, -1, 1, 2), STATE);
        due(x.swap(0, 0, 2, -1), STATE);
        due(x.line(0), 3);
        due(x.line(1), 12);
        due(x.swap(0, 0, 1, 3), 1);
        due(x.line(0), 10);
        due(x.line(1), 5);
        due(x.swap(0, 1, 1, -1), 1);
        due(x.line(0), 8);
        due(x.line(1), 7);
        due(x.swap(0, -1, 1, 0), 1);
        due(x.line(0), 9);
        due(x.line(1), 6);
        due(x.open(), 0);
        // Fair: by the wishes of both.
        x = onDays(0, 2, 4, 6);
        x.person(1, 16);
        x.person(1, 16);
        x.wish(0, 0, 0);
        x.wish(0, 2, 4);
        x.wish(1, 0, 3);
        x.give();
        due(x.line(0), 3);
        due(x.swap(0, 1, 1, 2), 0);
        due(x.swap(0, 2, 1, 1), 1);
        due(x.swap(1, 3, 0, 1), 0);
        due(x.swap(1, 1, 0, 3), 1);
        due(x.swap(0, 0, 1, 2), 0);
        due(x.line(0), 6);
        due(x.swap(0, 2, 1, 0), 1);
        due(x.count(3), 3);
    }

    private static void sick() {
        start(18);
        RankRoster x = onDays(0, 2, 4, 6);
        x.person(1, 100);
        x.person(1, 16);
        x.person(1, 100);
        x.person(1, 100);
        due(x.sick(0, 0), STATE);
        due(x.sick(4, 0), NONE);
        due(x.give(), 0);
        due(x.line(0), 15);
        due(x.sick(4, 0), NONE);
        due(x.sick(-1, 0), NONE);
        due(x.sick(0, -1), NONE);
        due(x.sick(0, 14), NONE);
        // From day 2 on; each goes to the one with the fewest hours, of several the least.
        due(x.sick(0, 2), 3);
        due(x.line(0), 1);
        due(x.line(1), 2);
        due(x.line(2), 4);
        due(x.line(3), 8);
        due(x.sick(0, 0), STATE);
        due(x.sick(0, 14), NONE);
        due(x.about(0, 4), 1);
        // A sick one is called for nothing.
        due(x.sick(3, 0), 1);
        due(x.line(1), 10);
        due(x.sick(2, 5), 0);
        due(x.line(2), 4);
        due(x.sick(1, 0), 2);
        due(x.open(), 10);
        due(x.line(0), 1);
        // The fewest hours count ahead of the number, and the line must be legal.
        x = new RankRoster();
        x.duty(0, 1, 10, 0, 0);
        x.duty(5, 1, 9, 1, 0);
        x.duty(9, 1, 8, 2, 0);
        x.duty(0, 1, 8, 3, 0);
        x.person(8, 100);
        x.person(1, 100);
        x.person(10, 100);
        x.person(4, 100);
        due(x.give(), 0);
        due(x.line(0), 8);
        due(x.line(2), 2);
        due(x.sick(0, 0), 1);
        due(x.line(2), 10);
        due(x.open(), 0);
        due(x.sick(1, 0), 1);
        due(x.open(), 1);
        due(x.sick(3, 9), 1);
        due(x.open(), 5);
        // give() begins anew: none is sick.
        due(x.give(), 0);
        due(x.about(0, 4), 0);
        due(x.sick(0, 0), 1);
    }

    private static void who() {
        start(19);
        RankRoster x = onDays(0, 0, 0);
        due(x.who(0), STATE);
        due(x.who(3), NONE);
        due(x.who(-1), NONE);
        x.person(1, 100);
        x.person(1, 100);
        x.give();
        due(x.who(0), 0);
        due(x.who(1), 1);
        due(x.who(2), NONE);
        due(x.who(3), NONE);
        due(x.who(-1), NONE);
        due(x.who(HIGH), NONE);
        x.sick(0, 0);
        due(x.who(0), NONE);
        x.rule(0, 0);
        due(x.who(1), STATE);
    }

    private static void count() {
        start(20);
        RankRoster x = pair();
        x.duty(3, 1, 8, 0, 0);
        x.wish(0, 0, 0);
        x.wish(0, 0, 1);
        x.wish(1, 0, 0);
        due(x.count(0), 3);
        due(x.count(1), 2);
        due(x.count(2), 3);
        due(x.count(3), STATE);
        due(x.count(4), 0);
        due(x.count(5), NONE);
        due(x.count(-1), NONE);
        due(x.count(LOW), NONE);
        x.give();
        due(x.count(3), 2);
        due(x.count(4), 1);
        due(x.count(5), NONE);
        x.sick(1, 0);
        due(x.count(3), 1);
        due(x.count(4), 1);
        x.wish(1, 3, 0);
        due(x.count(2), 4);
        due(x.count(3), STATE);
        due(x.count(4), 0);
    }
}
