import java.util.ArrayList;
import java.util.LinkedHashMap;
import java.util.List;
import java.util.Map;
import java.util.function.Supplier;
import java.util.function.ToIntFunction;

/** Named cases, each of one promise and on objects of its own; a test that uses this ends its main with end(). */
final class Cases {
    static final int NONE = -1, BAD = -2, STATE = -3, FULL = -4;
    static final int LOW = Integer.MIN_VALUE, HIGH = Integer.MAX_VALUE;

    private static final Map<String, Integer> answersOfCase = new LinkedHashMap<>();
    private static String promise = "";
    private static String name = "";
    private static int wrong = 0;

    private Cases() {
    }

    static void promise(int number, String call) {
        promise = "promise " + number + ", " + call + ": ";
    }

    /** A case by its name, which tells the boundary and what is due there. */
    static void test(String told, Runnable body) {
        name = promise + told;
        if (answersOfCase.putIfAbsent(name, 0) != null) {
            fail("there are two cases of this name");
        }
        try {
            body.run();
        } catch (RuntimeException | Error thrown) {
            fail("threw " + thrown);
        }
        if (answersOfCase.get(name) == 0) {
            fail("looks at no answer");
        }
    }

    /** A case of one call that is refused: its answer, and that all which can be asked is as it was. */
    static void refusal(String told, int want, Supplier<RankRoster> maker, ToIntFunction<RankRoster> call) {
        test(told, () -> {
            RankRoster x = maker.get();
            List<Integer> before = allTold(x);
            due(call.applyAsInt(x), want);
            if (!allTold(x).equals(before)) {
                fail("the call was refused, but changed something");
            }
        });
    }

    /** A case of one call that only looks: its answer, and that all which can be asked is as it was. */
    static void look(String told, int want, Supplier<RankRoster> maker, ToIntFunction<RankRoster> call) {
        refusal(told, want, maker, call);
    }

    static void due(int got, int want) {
        answersOfCase.merge(name, 1, Integer::sum);
        if (got != want) {
            int line = 0;
            for (StackTraceElement at : new Throwable().getStackTrace()) {
                if (line == 0 && !at.getClassName().equals("Cases")) {
                    line = at.getLineNumber();
                }
            }
            fail("answered " + got + ", due is " + want + " (line " + line + ")");
        }
    }

    static void end() {
        int cases = answersOfCase.size();
        System.out.println(wrong == 0 ? cases + " cases, all as due" : wrong + " answers are not as due");
        if (wrong != 0) {
            System.exit(1);
        }
    }

    private static void fail(String what) {
        wrong++;
        System.out.println(name + ": " + what);
    }

    /** Some 120 answers, so that two of these and a case of its own stay far below the document's 512 calls. */
    private static List<Integer> allTold(RankRoster x) {
        List<Integer> all = new ArrayList<>();
        for (int what = 0; what < 5; what++) {
            all.add(x.count(what));
        }
        all.add(x.open());
        int duties = x.count(0);
        for (int p = 0; p < x.count(1); p++) {
            all.add(x.line(p));
            all.add(x.lines(p));
            all.add(x.cover((1 << duties) - 1, p));
            all.add(x.ahead(p, 0));
            for (int what = 0; what < 5; what++) {
                all.add(x.about(p, what));
                all.add(x.denied(p, what));
                all.add(x.meets(p, what, 0));
            }
        }
        for (int d = 0; d < duties; d++) {
            all.add(x.who(d));
        }
        return all;
    }

    /** Duties of 1 day, 8 hours, skill 0, no night, on these days. */
    static RankRoster onDays(int... days) {
        RankRoster x = new RankRoster();
        for (int day : days) {
            x.duty(day, 1, 8, 0, 0);
        }
        return x;
    }

    /** Duties as rows of day, days, hours, skill, night. */
    static RankRoster ofDuties(int[]... rows) {
        RankRoster x = new RankRoster();
        for (int[] row : rows) {
            x.duty(row[0], row[1], row[2], row[3], row[4]);
        }
        return x;
    }

    static int[] row(int day, int days, int hours, int skill, int night) {
        return new int[] {day, days, hours, skill, night};
    }

    /** Three duties, two people, three wishes: 0 gets duties 0 and 1 and has both wishes met, 1 gets 2, its wish not. */
    static RankRoster month() {
        RankRoster x = ofDuties(row(0, 1, 8, 0, 0), row(1, 2, 16, 1, 0), row(5, 1, 10, 0, 1));
        x.person(3, 40);
        x.person(1, 30);
        x.wish(0, 0, 1);
        x.wish(0, 3, 0);
        x.wish(1, 5, 20);
        return x;
    }

    static RankRoster givenMonth() {
        RankRoster x = month();
        x.give();
        return x;
    }

    /** As many duties (each on a day of its own), people and wishes as there can be, and given. */
    static RankRoster fullMonth() {
        RankRoster x = onDays(0, 1, 2, 3, 4, 5, 6, 7, 8);
        for (int p = 0; p < 4; p++) {
            x.person(15, 24);
            for (int w = 0; w < 5; w++) {
                x.wish(p, 0, p + w);
            }
        }
        x.give();
        return x;
    }
}
