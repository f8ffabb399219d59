import java.util.function.Consumer;

/** Each boundary that the document names for promises 1 to 5 (a new object, duty, person, rule, wish), a case each. */
public final class BoundarySettingTest {
    private static final int NONE = Cases.NONE, BAD = Cases.BAD, STATE = Cases.STATE, FULL = Cases.FULL;
    private static final int LOW = Cases.LOW, HIGH = Cases.HIGH;

    private static final String[] RULES = {"REST behind a NIGHT", "REST behind long ones", "ROW", "WEEK"};
    private static final int[] FIRST = {1, 1, 5, 60};
    private static final int[] LEAST = {0, 0, 1, 0};
    private static final int[] GREATEST = {3, 3, 14, 200};

    public static void main(String[] args) {
        newObject();
        newObjectHasNobody();
        dutyBad();
        dutyNone();
        dutyOrder();
        dutyFull();
        dutyTaken();
        personRefused();
        personTaken();
        ruleRefused();
        ruleTaken();
        wishNone();
        wishBad();
        wishFull();
        wishTaken();
        endsWhatWasGiven();
        Cases.end();
    }

    private static void newObject() {
        Cases.promise(1, "a new object");
        Cases.test("it has no duty", () -> Cases.due(new RankRoster().count(0), 0));
        Cases.test("it has nobody", () -> Cases.due(new RankRoster().count(1), 0));
        Cases.test("it has no wish", () -> Cases.due(new RankRoster().count(2), 0));
        Cases.test("the wishes met are STATE", () -> Cases.due(new RankRoster().count(3), STATE));
        Cases.test("nothing is given", () -> Cases.due(new RankRoster().count(4), 0));
        Cases.test("what is open is STATE", () -> Cases.due(new RankRoster().open(), STATE));
        Cases.test("to give nothing to nobody leaves 0 open", () -> Cases.due(new RankRoster().give(), 0));
        for (int which = 0; which < 4; which++) {
            int w = which;
            Cases.test(RULES[w] + " is " + FIRST[w] + " at first",
                () -> Cases.due(new RankRoster().rule(w, GREATEST[w]), FIRST[w]));
        }
        Cases.test("NONE is -1", () -> Cases.due(RankRoster.NONE, -1));
        Cases.test("BAD is -2", () -> Cases.due(RankRoster.BAD, -2));
        Cases.test("STATE is -3", () -> Cases.due(RankRoster.STATE, -3));
        Cases.test("FULL is -4", () -> Cases.due(RankRoster.FULL, -4));
        Cases.test("what one object has, the next one has not", () -> {
            RankRoster one = Cases.givenMonth();
            one.rule(0, 3);
            RankRoster next = new RankRoster();
            Cases.due(next.count(0), 0);
            Cases.due(next.count(1), 0);
            Cases.due(next.rule(0, 2), 1);
            Cases.due(one.rule(0, 0), 3);
        });
    }

    private static void newObjectHasNobody() {
        Cases.promise(1, "a new object");
        Cases.refusal("wish of nobody is NONE", NONE, RankRoster::new, x -> x.wish(0, 3, 0));
        Cases.refusal("why of nobody is NONE", NONE, RankRoster::new, x -> x.why(0, 0));
        Cases.refusal("meets of nobody is NONE", NONE, RankRoster::new, x -> x.meets(0, 0, 0));
        Cases.refusal("lines of nobody is NONE", NONE, RankRoster::new, x -> x.lines(0));
        Cases.refusal("better of nobody is NONE", NONE, RankRoster::new, x -> x.better(0, 0, 0));
        Cases.refusal("line of nobody is NONE", NONE, RankRoster::new, x -> x.line(0));
        Cases.refusal("about nobody is NONE", NONE, RankRoster::new, x -> x.about(0, 0));
        Cases.refusal("denied of nobody is NONE", NONE, RankRoster::new, x -> x.denied(0, 0));
        Cases.refusal("ahead of nobody is NONE", NONE, RankRoster::new, x -> x.ahead(0, 0));
        Cases.refusal("swap of nobody is NONE", NONE, RankRoster::new, x -> x.swap(0, -1, 1, -1));
        Cases.refusal("sick of nobody is NONE", NONE, RankRoster::new, x -> x.sick(0, 0));
        Cases.refusal("who has duty 0 is NONE", NONE, RankRoster::new, x -> x.who(0));
        Cases.look("cover of nothing by nobody is 0", 0, RankRoster::new, x -> x.cover(0, 0));
    }

    private static void dutyBad() {
        Cases.promise(2, "duty");
        Cases.refusal("0 days are BAD", BAD, Cases::givenMonth, x -> x.duty(0, 0, 8, 0, 0));
        Cases.refusal("-1 days are BAD", BAD, Cases::givenMonth, x -> x.duty(5, -1, 8, 0, 0));
        Cases.refusal("4 days are BAD", BAD, Cases::givenMonth, x -> x.duty(0, 4, 8, 0, 0));
        Cases.refusal("the least int as days is BAD", BAD, Cases::givenMonth, x -> x.duty(0, LOW, 8, 0, 0));
        Cases.refusal("the greatest int as days is BAD", BAD, Cases::givenMonth, x -> x.duty(0, HIGH, 8, 0, 0));
        Cases.refusal("0 hours are BAD", BAD, Cases::givenMonth, x -> x.duty(0, 1, 0, 0, 0));
        Cases.refusal("-1 hours are BAD", BAD, Cases::givenMonth, x -> x.duty(0, 1, -1, 0, 0));
        Cases.refusal("41 hours are BAD", BAD, Cases::givenMonth, x -> x.duty(0, 1, 41, 0, 0));
        Cases.refusal("the least int as hours is BAD", BAD, Cases::givenMonth, x -> x.duty(0, 1, LOW, 0, 0));
        Cases.refusal("the greatest int as hours is BAD", BAD, Cases::givenMonth, x -> x.duty(0, 1, HIGH, 0, 0));
        Cases.refusal("night -1 is BAD", BAD, Cases::givenMonth, x -> x.duty(0, 1, 8, 0, -1));
        Cases.refusal("night 2 is BAD", BAD, Cases::givenMonth, x -> x.duty(0, 1, 8, 0, 2));
        Cases.refusal("the least int as night is BAD", BAD, Cases::givenMonth, x -> x.duty(0, 1, 8, 0, LOW));
        Cases.refusal("the greatest int as night is BAD", BAD, Cases::givenMonth, x -> x.duty(0, 1, 8, 0, HIGH));
    }

    private static void dutyNone() {
        Cases.promise(2, "duty");
        Cases.refusal("day -1 is NONE", NONE, Cases::givenMonth, x -> x.duty(-1, 1, 8, 0, 0));
        Cases.refusal("day -1 is NONE, though its 2nd day is there", NONE, Cases::givenMonth,
            x -> x.duty(-1, 2, 8, 0, 0));
        Cases.refusal("day 14 is NONE", NONE, Cases::givenMonth, x -> x.duty(14, 1, 8, 0, 0));
        Cases.refusal("the least int as day is NONE", NONE, Cases::givenMonth, x -> x.duty(LOW, 1, 8, 0, 0));
        Cases.refusal("the greatest int as day is NONE, though day and days wrap around", NONE, Cases::givenMonth,
            x -> x.duty(HIGH, 3, 8, 0, 0));
        Cases.refusal("2 days from 13 on reach beyond 13: NONE", NONE, Cases::givenMonth,
            x -> x.duty(13, 2, 8, 0, 0));
        Cases.refusal("3 days from 13 on reach beyond 13: NONE", NONE, Cases::givenMonth,
            x -> x.duty(13, 3, 8, 0, 0));
        Cases.refusal("3 days from 12 on reach beyond 13: NONE", NONE, Cases::givenMonth,
            x -> x.duty(12, 3, 8, 0, 0));
        Cases.refusal("skill -1 is NONE", NONE, Cases::givenMonth, x -> x.duty(0, 1, 8, -1, 0));
        Cases.refusal("skill 4 is NONE", NONE, Cases::givenMonth, x -> x.duty(0, 1, 8, 4, 0));
        Cases.refusal("the least int as skill is NONE", NONE, Cases::givenMonth, x -> x.duty(0, 1, 8, LOW, 0));
        Cases.refusal("the greatest int as skill is NONE", NONE, Cases::givenMonth, x -> x.duty(0, 1, 8, HIGH, 0));
    }

    private static void dutyOrder() {
        Cases.promise(2, "duty");
        Cases.refusal("BAD days ahead of NONE day", BAD, Cases::givenMonth, x -> x.duty(14, 0, 8, 0, 0));
        Cases.refusal("BAD days ahead of NONE skill", BAD, Cases::givenMonth, x -> x.duty(0, 4, 8, 4, 0));
        Cases.refusal("BAD hours ahead of NONE day", BAD, Cases::givenMonth, x -> x.duty(-1, 1, 41, 0, 0));
        Cases.refusal("BAD hours ahead of NONE skill", BAD, Cases::givenMonth, x -> x.duty(0, 1, 0, -1, 0));
        Cases.refusal("BAD night ahead of NONE day beyond 13", BAD, Cases::givenMonth, x -> x.duty(13, 3, 8, 0, 2));
        Cases.refusal("BAD night ahead of NONE skill", BAD, Cases::givenMonth, x -> x.duty(0, 1, 8, 4, 2));
        Cases.refusal("BAD days ahead of FULL", BAD, Cases::fullMonth, x -> x.duty(0, 4, 8, 0, 0));
        Cases.refusal("BAD hours ahead of FULL", BAD, Cases::fullMonth, x -> x.duty(0, 1, 41, 0, 0));
        Cases.refusal("BAD night ahead of FULL", BAD, Cases::fullMonth, x -> x.duty(0, 1, 8, 0, 2));
        Cases.refusal("NONE day ahead of FULL", NONE, Cases::fullMonth, x -> x.duty(14, 1, 8, 0, 0));
        Cases.refusal("NONE beyond 13 ahead of FULL", NONE, Cases::fullMonth, x -> x.duty(12, 3, 8, 0, 0));
        Cases.refusal("NONE skill ahead of FULL", NONE, Cases::fullMonth, x -> x.duty(0, 1, 8, 4, 0));
    }

    private static void dutyFull() {
        Cases.promise(2, "duty");
        Cases.refusal("the 10th is FULL", FULL, Cases::fullMonth, x -> x.duty(0, 1, 8, 0, 0));
        Cases.test("numbers go from 0 on, the 9th is 8", () -> {
            RankRoster x = new RankRoster();
            for (int d = 0; d < 9; d++) {
                Cases.due(x.duty(0, 1, 8, 0, 0), d);
            }
            Cases.due(x.count(0), 9);
        });
        Cases.test("a refused one takes no number", () -> {
            RankRoster x = new RankRoster();
            Cases.due(x.duty(0, 0, 8, 0, 0), BAD);
            Cases.due(x.duty(0, 1, 8, 4, 0), NONE);
            Cases.due(x.duty(0, 1, 8, 0, 0), 0);
        });
        Cases.test("two that are alike are two", () -> {
            RankRoster x = Cases.onDays(3, 3);
            Cases.due(x.count(0), 2);
        });
    }

    /** Each edge is taken, and what was told of the duty is what it has. */
    private static void dutyTaken() {
        Cases.promise(2, "duty");
        for (int[] edge : new int[][] {{0, 1}, {13, 1}, {0, 2}, {12, 2}, {0, 3}, {11, 3}}) {
            Cases.test("day " + edge[0] + " with " + edge[1] + " days is taken, on these days alone", () -> {
                RankRoster x = new RankRoster();
                Cases.due(x.duty(edge[0], edge[1], 8, 0, 0), 0);
                for (int day = 0; day < 14; day++) {
                    RankRoster y = Cases.ofDuties(Cases.row(edge[0], edge[1], 8, 0, 0));
                    y.person(1, 100);
                    y.wish(0, 2, day);
                    boolean busy = day >= edge[0] && day < edge[0] + edge[1];
                    Cases.due(y.meets(0, 0, 1), busy ? 0 : 1);
                }
            });
        }
        for (int hours : new int[] {1, 40}) {
            Cases.test(hours + " hours are taken, and count", () -> {
                RankRoster x = new RankRoster();
                Cases.due(x.duty(0, 1, hours, 0, 0), 0);
                x.person(1, hours);
                x.person(1, hours - 1);
                Cases.due(x.why(0, 1), 0);
                Cases.due(x.why(1, 1), 6);
            });
        }
        for (int skill : new int[] {0, 3}) {
            Cases.test("skill " + skill + " is taken, and asked for", () -> {
                RankRoster x = new RankRoster();
                Cases.due(x.duty(0, 1, 8, skill, 0), 0);
                x.person(1 << skill, 100);
                x.person(15 - (1 << skill), 100);
                Cases.due(x.why(0, 1), 0);
                Cases.due(x.why(1, 1), 1);
            });
        }
        for (int night = 0; night <= 1; night++) {
            int n = night;
            Cases.test("night " + n + " is taken as told", () -> {
                RankRoster x = new RankRoster();
                Cases.due(x.duty(0, 1, 8, 0, n), 0);
                x.person(1, 100);
                x.wish(0, 3, 0);
                Cases.due(x.meets(0, 0, 1), 1 - n);
            });
        }
    }

    private static void personRefused() {
        Cases.promise(3, "person");
        Cases.refusal("skills -1 are BAD", BAD, Cases::givenMonth, x -> x.person(-1, 10));
        Cases.refusal("skills 16 are BAD", BAD, Cases::givenMonth, x -> x.person(16, 10));
        Cases.refusal("the least int as skills is BAD", BAD, Cases::givenMonth, x -> x.person(LOW, 10));
        Cases.refusal("the greatest int as skills is BAD", BAD, Cases::givenMonth, x -> x.person(HIGH, 10));
        Cases.refusal("most -1 is BAD", BAD, Cases::givenMonth, x -> x.person(1, -1));
        Cases.refusal("most 201 is BAD", BAD, Cases::givenMonth, x -> x.person(1, 201));
        Cases.refusal("the least int as most is BAD", BAD, Cases::givenMonth, x -> x.person(1, LOW));
        Cases.refusal("the greatest int as most is BAD", BAD, Cases::givenMonth, x -> x.person(1, HIGH));
        Cases.refusal("the 5th is FULL", FULL, Cases::fullMonth, x -> x.person(1, 10));
        Cases.refusal("BAD skills ahead of FULL", BAD, Cases::fullMonth, x -> x.person(16, 10));
        Cases.refusal("BAD most ahead of FULL", BAD, Cases::fullMonth, x -> x.person(1, 201));
    }

    private static void personTaken() {
        Cases.promise(3, "person");
        Cases.test("numbers go from 0 on, the 4th is 3", () -> {
            RankRoster x = new RankRoster();
            for (int p = 0; p < 4; p++) {
                Cases.due(x.person(1, 10), p);
            }
            Cases.due(x.count(1), 4);
        });
        Cases.test("a refused one takes no number", () -> {
            RankRoster x = new RankRoster();
            Cases.due(x.person(16, 10), BAD);
            Cases.due(x.person(1, 10), 0);
        });
        Cases.test("skills 0 are taken: none of the four", () -> {
            RankRoster x = ofAllSkills();
            Cases.due(x.person(0, 200), 0);
            for (int d = 0; d < 4; d++) {
                Cases.due(x.why(0, 1 << d), 1);
            }
        });
        Cases.test("skills 15 are taken: all of the four", () -> {
            RankRoster x = ofAllSkills();
            Cases.due(x.person(15, 200), 0);
            Cases.due(x.why(0, 15), 0);
        });
        Cases.test("skills are a set by bits: 5 has 0 and 2 alone", () -> {
            RankRoster x = ofAllSkills();
            Cases.due(x.person(5, 200), 0);
            Cases.due(x.why(0, 0b0101), 0);
            Cases.due(x.why(0, 0b0010), 1);
            Cases.due(x.why(0, 0b1000), 1);
        });
        Cases.test("most 0 is taken: no hour at all", () -> {
            RankRoster x = Cases.ofDuties(Cases.row(0, 1, 1, 0, 0));
            Cases.due(x.person(1, 0), 0);
            Cases.due(x.why(0, 1), 6);
            Cases.due(x.why(0, 0), 0);
        });
        Cases.test("most 200 is taken: 200 hours, not 201", () -> {
            RankRoster x = Cases.ofDuties(Cases.row(0, 1, 40, 0, 0), Cases.row(2, 1, 40, 0, 0),
                Cases.row(4, 1, 40, 0, 0), Cases.row(8, 1, 40, 0, 0), Cases.row(10, 1, 40, 0, 0),
                Cases.row(12, 1, 1, 0, 0));
            x.rule(3, 200);
            Cases.due(x.person(1, 200), 0);
            Cases.due(x.why(0, 0b011111), 0);
            Cases.due(x.why(0, 0b111111), 6);
        });
        Cases.test("a new one has no wish", () -> {
            RankRoster x = Cases.month();
            Cases.due(x.person(1, 10), 2);
            Cases.due(x.meets(2, 0, 0), NONE);
            Cases.due(x.count(2), 3);
        });
    }

    private static RankRoster ofAllSkills() {
        return Cases.ofDuties(Cases.row(0, 1, 8, 0, 0), Cases.row(2, 1, 8, 1, 0), Cases.row(4, 1, 8, 2, 0),
            Cases.row(6, 1, 8, 3, 0));
    }

    private static void ruleRefused() {
        Cases.promise(4, "rule");
        Cases.refusal("which -1 is NONE", NONE, Cases::givenMonth, x -> x.rule(-1, 1));
        Cases.refusal("which 4 is NONE", NONE, Cases::givenMonth, x -> x.rule(4, 1));
        Cases.refusal("the least int as which is NONE", NONE, Cases::givenMonth, x -> x.rule(LOW, 1));
        Cases.refusal("the greatest int as which is NONE", NONE, Cases::givenMonth, x -> x.rule(HIGH, 1));
        Cases.refusal("NONE which ahead of BAD v", NONE, Cases::givenMonth, x -> x.rule(4, -1));
        for (int which = 0; which < 4; which++) {
            int w = which;
            Cases.refusal(RULES[w] + " " + (LEAST[w] - 1) + " is BAD", BAD, Cases::givenMonth,
                x -> x.rule(w, LEAST[w] - 1));
            Cases.refusal(RULES[w] + " " + (GREATEST[w] + 1) + " is BAD", BAD, Cases::givenMonth,
                x -> x.rule(w, GREATEST[w] + 1));
            Cases.refusal(RULES[w] + " of the least int is BAD", BAD, Cases::givenMonth, x -> x.rule(w, LOW));
            Cases.refusal(RULES[w] + " of the greatest int is BAD", BAD, Cases::givenMonth, x -> x.rule(w, HIGH));
            Cases.test(RULES[w] + " stays what it was if refused", () -> {
                RankRoster x = new RankRoster();
                Cases.due(x.rule(w, GREATEST[w] + 1), BAD);
                Cases.due(x.rule(w, LEAST[w] - 1), BAD);
                Cases.due(x.rule(w, GREATEST[w]), FIRST[w]);
            });
        }
    }

    private static void ruleTaken() {
        Cases.promise(4, "rule");
        for (int which = 0; which < 4; which++) {
            int w = which;
            Cases.test(RULES[w] + " " + LEAST[w] + " is taken, and told by the next", () -> {
                RankRoster x = new RankRoster();
                Cases.due(x.rule(w, LEAST[w]), FIRST[w]);
                Cases.due(x.rule(w, FIRST[w]), LEAST[w]);
            });
            Cases.test(RULES[w] + " " + GREATEST[w] + " is taken, and told by the next", () -> {
                RankRoster x = new RankRoster();
                Cases.due(x.rule(w, GREATEST[w]), FIRST[w]);
                Cases.due(x.rule(w, FIRST[w]), GREATEST[w]);
            });
            Cases.test(RULES[w] + " changes none of the others", () -> {
                RankRoster x = new RankRoster();
                x.rule(w, GREATEST[w]);
                for (int other = 0; other < 4; other++) {
                    Cases.due(x.rule(other, LEAST[other]), other == w ? GREATEST[w] : FIRST[other]);
                }
            });
        }
        Cases.test("the number that it had already is taken", () -> {
            RankRoster x = Cases.givenMonth();
            Cases.due(x.rule(2, 5), 5);
            Cases.due(x.rule(2, 5), 5);
        });
    }

    private static void wishNone() {
        Cases.promise(5, "wish");
        Cases.refusal("person -1 is NONE", NONE, Cases::givenMonth, x -> x.wish(-1, 3, 0));
        Cases.refusal("a person more than there are is NONE", NONE, Cases::givenMonth, x -> x.wish(2, 3, 0));
        Cases.refusal("person 4 is NONE where there are 4", NONE, Cases::fullMonth, x -> x.wish(4, 3, 0));
        Cases.refusal("the least int as person is NONE", NONE, Cases::givenMonth, x -> x.wish(LOW, 3, 0));
        Cases.refusal("the greatest int as person is NONE", NONE, Cases::givenMonth, x -> x.wish(HIGH, 3, 0));
        Cases.refusal("kind -1 is NONE", NONE, Cases::givenMonth, x -> x.wish(0, -1, 0));
        Cases.refusal("kind 6 is NONE", NONE, Cases::givenMonth, x -> x.wish(0, 6, 0));
        Cases.refusal("the least int as kind is NONE", NONE, Cases::givenMonth, x -> x.wish(0, LOW, 0));
        Cases.refusal("the greatest int as kind is NONE", NONE, Cases::givenMonth, x -> x.wish(0, HIGH, 0));
        for (int kind = 0; kind <= 1; kind++) {
            int k = kind;
            String name = k == 0 ? "WANT" : "NOT";
            Cases.refusal(name + " duty -1 is NONE", NONE, Cases::givenMonth, x -> x.wish(0, k, -1));
            Cases.refusal(name + " a duty more than there are is NONE", NONE, Cases::givenMonth,
                x -> x.wish(0, k, 3));
            Cases.refusal(name + " the least int is NONE", NONE, Cases::givenMonth, x -> x.wish(0, k, LOW));
            Cases.refusal(name + " the greatest int is NONE", NONE, Cases::givenMonth, x -> x.wish(0, k, HIGH));
            Cases.refusal(name + " duty 0 is NONE where there is none", NONE, BoundarySettingTest::oneWithoutDuties,
                x -> x.wish(0, k, 0));
            Cases.refusal(name + " NONE duty ahead of FULL", NONE, Cases::fullMonth, x -> x.wish(0, k, 9));
        }
        Cases.refusal("FREE on day -1 is NONE", NONE, Cases::givenMonth, x -> x.wish(0, 2, -1));
        Cases.refusal("FREE on day 14 is NONE", NONE, Cases::givenMonth, x -> x.wish(0, 2, 14));
        Cases.refusal("FREE on the least int is NONE", NONE, Cases::givenMonth, x -> x.wish(0, 2, LOW));
        Cases.refusal("FREE on the greatest int is NONE", NONE, Cases::givenMonth, x -> x.wish(0, 2, HIGH));
        Cases.refusal("NONE person ahead of BAD v", NONE, Cases::givenMonth, x -> x.wish(2, 4, 201));
        Cases.refusal("NONE day ahead of FULL", NONE, Cases::fullMonth, x -> x.wish(0, 2, 14));
        Cases.refusal("NONE kind ahead of FULL", NONE, Cases::fullMonth, x -> x.wish(0, 6, 0));
    }

    private static RankRoster oneWithoutDuties() {
        RankRoster x = new RankRoster();
        x.person(15, 200);
        return x;
    }

    private static void wishBad() {
        Cases.promise(5, "wish");
        Cases.refusal("no NIGHTS with v 1 is BAD", BAD, Cases::givenMonth, x -> x.wish(0, 3, 1));
        Cases.refusal("no NIGHTS with v -1 is BAD", BAD, Cases::givenMonth, x -> x.wish(0, 3, -1));
        for (int kind = 4; kind <= 5; kind++) {
            int k = kind;
            String name = k == 4 ? "no more than " : "at least ";
            Cases.refusal(name + "-1 hours is BAD", BAD, Cases::givenMonth, x -> x.wish(0, k, -1));
            Cases.refusal(name + "201 hours is BAD", BAD, Cases::givenMonth, x -> x.wish(0, k, 201));
            Cases.refusal(name + "the least int is BAD", BAD, Cases::givenMonth, x -> x.wish(0, k, LOW));
            Cases.refusal(name + "the greatest int is BAD", BAD, Cases::givenMonth, x -> x.wish(0, k, HIGH));
            Cases.refusal(name + "201 hours is BAD ahead of FULL", BAD, Cases::fullMonth, x -> x.wish(0, k, 201));
        }
        Cases.refusal("no NIGHTS with v 1 is BAD ahead of FULL", BAD, Cases::fullMonth, x -> x.wish(0, 3, 1));
    }

    private static void wishFull() {
        Cases.promise(5, "wish");
        Cases.refusal("the 6th of one is FULL", FULL, Cases::fullMonth, x -> x.wish(0, 3, 0));
        Cases.refusal("the 6th of the last one is FULL", FULL, Cases::fullMonth, x -> x.wish(3, 5, 200));
        Cases.test("numbers go from 0 on, the 5th is 4", () -> {
            RankRoster x = oneWithoutDuties();
            for (int w = 0; w < 5; w++) {
                Cases.due(x.wish(0, 3, 0), w);
            }
            Cases.due(x.count(2), 5);
        });
        Cases.test("another one has numbers of its own", () -> {
            RankRoster x = oneWithoutDuties();
            x.person(15, 200);
            for (int w = 0; w < 5; w++) {
                x.wish(0, 3, 0);
            }
            Cases.due(x.wish(1, 3, 0), 0);
            Cases.due(x.wish(0, 3, 0), FULL);
            Cases.due(x.count(2), 6);
        });
        Cases.test("a refused one takes no number", () -> {
            RankRoster x = oneWithoutDuties();
            Cases.due(x.wish(0, 3, 1), BAD);
            Cases.due(x.wish(0, 6, 0), NONE);
            Cases.due(x.wish(0, 3, 0), 0);
        });
    }

    private static void wishTaken() {
        Cases.promise(5, "wish");
        int[][] edges = {{0, 0}, {0, 8}, {1, 0}, {1, 8}, {2, 0}, {2, 13}, {3, 0}, {4, 0}, {4, 200}, {5, 0}, {5, 200}};
        for (int[] edge : edges) {
            Cases.test("kind " + edge[0] + " with v " + edge[1] + " is taken", () -> {
                RankRoster x = Cases.onDays(0, 1, 2, 3, 4, 5, 6, 7, 8);
                x.person(15, 200);
                Cases.due(x.wish(0, edge[0], edge[1]), 0);
                Cases.due(x.count(2), 1);
            });
        }
        Cases.test("one that is like another one is taken", () -> {
            RankRoster x = Cases.onDays(0);
            x.person(1, 100);
            Cases.due(x.wish(0, 0, 0), 0);
            Cases.due(x.wish(0, 0, 0), 1);
        });
        Cases.test("one against another one is taken", () -> {
            RankRoster x = Cases.onDays(0);
            x.person(1, 100);
            Cases.due(x.wish(0, 0, 0), 0);
            Cases.due(x.wish(0, 1, 0), 1);
        });
    }

    /** What was GIVEN is told no more behind a call of these four that was not refused. */
    private static void endsWhatWasGiven() {
        endsIt(2, "duty", x -> x.duty(13, 1, 1, 3, 0));
        endsIt(3, "person", x -> x.person(0, 0));
        endsIt(4, "rule", x -> x.rule(0, 2));
        endsIt(5, "wish", x -> x.wish(1, 2, 13));
        Cases.promise(4, "rule");
        Cases.test("the number that it had ends what was given, too", () -> {
            RankRoster x = Cases.givenMonth();
            x.rule(3, 60);
            Cases.due(x.count(4), 0);
        });
    }

    private static void endsIt(int number, String call, Consumer<RankRoster> change) {
        Cases.promise(number, call);
        Cases.test("behind it line is STATE", () -> Cases.due(changed(change).line(0), STATE));
        Cases.test("behind it about is STATE", () -> Cases.due(changed(change).about(0, 0), STATE));
        Cases.test("behind it open is STATE", () -> Cases.due(changed(change).open(), STATE));
        Cases.test("behind it denied is STATE", () -> Cases.due(changed(change).denied(1, 0), STATE));
        Cases.test("behind it swap is STATE", () -> Cases.due(changed(change).swap(0, 0, 1, -1), STATE));
        Cases.test("behind it sick is STATE", () -> Cases.due(changed(change).sick(0, 0), STATE));
        Cases.test("behind it who is STATE", () -> Cases.due(changed(change).who(0), STATE));
        Cases.test("behind it the wishes met are STATE", () -> Cases.due(changed(change).count(3), STATE));
        Cases.test("behind it nothing is given", () -> Cases.due(changed(change).count(4), 0));
        Cases.test("behind it ahead is told as ever", () -> Cases.due(changed(change).ahead(0, 0), 3));
        Cases.test("behind it give gives again", () -> {
            RankRoster x = changed(change);
            x.give();
            Cases.due(x.count(4), 1);
            Cases.due(x.line(0), 3);
        });
    }

    private static RankRoster changed(Consumer<RankRoster> change) {
        RankRoster x = Cases.givenMonth();
        change.accept(x);
        return x;
    }
}
