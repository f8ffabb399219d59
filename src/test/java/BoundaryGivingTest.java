import java.util.function.Supplier;

/** Each boundary that the document names for promises 11 to 20 (give and all behind it), a case each. */
public final class BoundaryGivingTest {
    private static final int NONE = Cases.NONE, BAD = Cases.BAD, STATE = Cases.STATE;
    private static final int LOW = Cases.LOW, HIGH = Cases.HIGH;
    private static final int MET = 0, NO_LEGAL_LINE = 1, NOT_LEFT = 2, COVER_LOST = 3;

    public static void main(String[] args) {
        giveFewAndMany();
        giveByCover();
        giveByWishes();
        giveAgain();
        line();
        aboutRefused();
        about();
        open();
        deniedRefused();
        deniedOne();
        deniedTwoAndThree();
        deniedUntil();
        aheadRefused();
        ahead();
        swapNone();
        swapBad();
        swapState();
        swapDone();
        swapFair();
        sickRefused();
        sickTaken();
        sickCalled();
        who();
        count();
        Cases.end();
    }

    private static int[] row(int day, int days, int hours, int skill, int night) {
        return Cases.row(day, days, hours, skill, night);
    }

    private static RankRoster given(RankRoster x) {
        x.give();
        return x;
    }

    /** Duties of 8 hours on these days, and people with skill 0 and 200 hours. */
    private static RankRoster alike(int people, int... days) {
        RankRoster x = Cases.onDays(days);
        for (int p = 0; p < people; p++) {
            x.person(1, 200);
        }
        return x;
    }

    /** Two duties of one day, of skill 0 and 1: one who has both, behind it one with skill 0 alone. */
    private static RankRoster pair() {
        RankRoster x = Cases.ofDuties(row(0, 1, 8, 0, 0), row(0, 1, 8, 1, 0));
        x.person(3, 200);
        x.person(1, 200);
        return x;
    }

    // ---- promise 11

    private static void giveFewAndMany() {
        Cases.promise(11, "give");
        Cases.test("no duties, nobody: 0 are open, and it is given", () -> {
            RankRoster x = new RankRoster();
            Cases.due(x.give(), 0);
            Cases.due(x.count(4), 1);
        });
        Cases.test("9 duties, nobody: 9 are open", () -> {
            RankRoster x = alike(0, 0, 1, 2, 3, 4, 5, 6, 7, 8);
            Cases.due(x.give(), 9);
            Cases.due(x.open(), 511);
        });
        Cases.test("no duties, 4 people: 0 are open, all lines empty", () -> {
            RankRoster x = alike(4);
            Cases.due(x.give(), 0);
            for (int p = 0; p < 4; p++) {
                Cases.due(x.line(p), 0);
            }
        });
        Cases.test("9 duties of one day, 4 people: 5 are open, the first 4 go by number", () -> {
            RankRoster x = alike(4, 0, 0, 0, 0, 0, 0, 0, 0, 0);
            Cases.due(x.give(), 5);
            for (int p = 0; p < 4; p++) {
                Cases.due(x.line(p), 1 << p);
            }
        });
        Cases.test("9 duties, one who can have all, 3 behind: the first has all", () -> {
            RankRoster x = alike(4, 0, 1, 2, 3, 4, 6, 7, 8, 9);
            Cases.due(x.give(), 0);
            Cases.due(x.line(0), 511);
            Cases.due(x.line(1), 0);
        });
        Cases.test("9 duties, 4 people, 5 wishes each", () -> {
            RankRoster x = Cases.fullMonth();
            Cases.due(x.give(), 0);
            Cases.due(x.line(0), 0b000000111);
            Cases.due(x.line(1), 0b000111000);
            Cases.due(x.line(2), 0b111000000);
            Cases.due(x.line(3), 0);
        });
        Cases.test("the 512th call is answered as the first one", () -> {
            RankRoster x = Cases.fullMonth();
            // fullMonth makes 9 + 4 + 20 + 1 calls.
            for (int call = 34; call < 510; call += 2) {
                x.rule(2, 1 + call % 14);
                x.give();
            }
            Cases.due(x.rule(2, 5), 5);
            Cases.due(x.give(), 0);
        });
    }

    private static void giveByCover() {
        Cases.promise(11, "give");
        Cases.test("as much COVER as before is enough: one may leave a duty that one behind can have", () -> {
            RankRoster x = alike(2, 0);
            x.wish(0, 1, 0);
            Cases.due(x.give(), 0);
            Cases.due(x.line(0), 0);
            Cases.due(x.line(1), 1);
        });
        Cases.test("one COVER less is too little: none behind can have it", () -> {
            RankRoster x = Cases.onDays(0);
            x.person(1, 200);
            x.person(0, 200);
            x.wish(0, 1, 0);
            Cases.due(x.give(), 0);
            Cases.due(x.line(0), 1);
        });
        Cases.test("the last one has none behind it, and takes what it can", () -> {
            RankRoster x = alike(1, 0, 2);
            x.wish(0, 4, 0);
            Cases.due(x.give(), 0);
            Cases.due(x.line(0), 3);
        });
        Cases.test("the first one leaves what alone those behind can do, against its wish", () -> {
            RankRoster x = pair();
            x.wish(0, 0, 0);
            Cases.due(x.give(), 0);
            Cases.due(x.line(0), 2);
            Cases.due(x.line(1), 1);
        });
        Cases.test("where nothing is won by it, it has its wish", () -> {
            RankRoster x = Cases.ofDuties(row(0, 1, 8, 0, 0), row(0, 1, 8, 1, 0));
            x.person(3, 200);
            x.person(0, 200);
            x.wish(0, 0, 1);
            Cases.due(x.give(), 1);
            Cases.due(x.line(0), 2);
            Cases.due(x.open(), 1);
        });
        Cases.test("COVER is a number: two small ones count against one great one that is wished for", () -> {
            RankRoster x = Cases.ofDuties(row(0, 1, 40, 0, 0), row(2, 1, 20, 0, 0), row(4, 1, 20, 0, 0));
            x.person(1, 40);
            x.wish(0, 0, 0);
            Cases.due(x.give(), 1);
            Cases.due(x.line(0), 6);
        });
        Cases.test("those ahead leave nothing for COVER's sake of their own line", () -> {
            RankRoster x = alike(2, 0, 2);
            x.wish(1, 0, 0);
            Cases.due(x.give(), 0);
            Cases.due(x.line(0), 3);
            Cases.due(x.line(1), 0);
        });
    }

    private static void giveByWishes() {
        Cases.promise(11, "give");
        Cases.test("without wishes each takes the first duties", () -> {
            RankRoster x = Cases.onDays(0, 2, 4);
            x.person(1, 16);
            x.person(1, 8);
            Cases.due(x.give(), 0);
            Cases.due(x.line(0), 3);
            Cases.due(x.line(1), 4);
        });
        Cases.test("the first wish counts against the second", () -> {
            RankRoster x = alike(2, 0, 0);
            x.wish(0, 0, 1);
            x.wish(0, 0, 0);
            x.give();
            Cases.due(x.line(0), 2);
        });
        Cases.test("a second wish is met where the first cannot be", () -> {
            RankRoster x = alike(2, 0, 2);
            x.wish(0, 5, 200);
            x.wish(0, 1, 0);
            x.give();
            Cases.due(x.line(0), 2);
        });
        Cases.test("the eldest goes first: both want the same", () -> {
            RankRoster x = alike(2, 0, 0);
            x.wish(0, 0, 1);
            x.wish(1, 0, 1);
            x.give();
            Cases.due(x.line(0), 2);
            Cases.due(x.line(1), 1);
        });
        Cases.test("no wish gives a line that is not legal", () -> {
            RankRoster x = Cases.onDays(0, 2);
            x.person(1, 8);
            x.wish(0, 5, 16);
            x.give();
            Cases.due(x.line(0), 1);
        });
    }

    private static void giveAgain() {
        Cases.promise(11, "give");
        Cases.test("twice in turn gives the same", () -> {
            RankRoster x = Cases.givenMonth();
            Cases.due(x.give(), 0);
            Cases.due(x.line(0), 3);
            Cases.due(x.line(1), 4);
        });
        Cases.test("behind a swap it begins anew", () -> {
            RankRoster x = Cases.givenMonth();
            Cases.due(x.swap(0, 0, 1, -1), 1);
            Cases.due(x.give(), 0);
            Cases.due(x.line(0), 3);
        });
        Cases.test("behind a sick one it begins anew, none is sick", () -> {
            RankRoster x = Cases.givenMonth();
            Cases.due(x.sick(0, 0), 2);
            Cases.due(x.give(), 0);
            Cases.due(x.line(0), 3);
            Cases.due(x.about(0, 4), 0);
        });
    }

    // ---- promises 12 to 14

    private static void line() {
        Cases.promise(12, "line");
        Cases.refusal("person -1 is NONE", NONE, Cases::givenMonth, x -> x.line(-1));
        Cases.refusal("a person more than there are is NONE", NONE, Cases::givenMonth, x -> x.line(2));
        Cases.refusal("person 4 is NONE where there are 4", NONE, Cases::fullMonth, x -> x.line(4));
        Cases.refusal("the least int as person is NONE", NONE, Cases::givenMonth, x -> x.line(LOW));
        Cases.refusal("the greatest int as person is NONE", NONE, Cases::givenMonth, x -> x.line(HIGH));
        Cases.refusal("nothing is given: STATE", STATE, Cases::month, x -> x.line(0));
        Cases.refusal("NONE ahead of STATE", NONE, Cases::month, x -> x.line(2));
        Cases.look("the first one's", 3, Cases::givenMonth, x -> x.line(0));
        Cases.look("the last one's", 4, Cases::givenMonth, x -> x.line(1));
        Cases.look("0: it has no duty", 0, Cases::fullMonth, x -> x.line(3));
        Cases.test("as it is now, behind a swap", () -> {
            RankRoster x = Cases.givenMonth();
            x.swap(0, 0, 1, -1);
            Cases.due(x.line(0), 2);
            Cases.due(x.line(1), 5);
        });
        Cases.test("as it is now, behind a sick one", () -> {
            RankRoster x = Cases.givenMonth();
            x.sick(0, 0);
            Cases.due(x.line(0), 0);
            Cases.due(x.line(1), 5);
        });
    }

    private static void aboutRefused() {
        Cases.promise(13, "about");
        Cases.refusal("person -1 is NONE", NONE, Cases::givenMonth, x -> x.about(-1, 0));
        Cases.refusal("a person more than there are is NONE", NONE, Cases::givenMonth, x -> x.about(2, 0));
        Cases.refusal("person 4 is NONE where there are 4", NONE, Cases::fullMonth, x -> x.about(4, 0));
        Cases.refusal("the least int as person is NONE", NONE, Cases::givenMonth, x -> x.about(LOW, 0));
        Cases.refusal("the greatest int as person is NONE", NONE, Cases::givenMonth, x -> x.about(HIGH, 0));
        Cases.refusal("what -1 is NONE", NONE, Cases::givenMonth, x -> x.about(0, -1));
        Cases.refusal("what 5 is NONE", NONE, Cases::givenMonth, x -> x.about(0, 5));
        Cases.refusal("the least int as what is NONE", NONE, Cases::givenMonth, x -> x.about(0, LOW));
        Cases.refusal("the greatest int as what is NONE", NONE, Cases::givenMonth, x -> x.about(0, HIGH));
        for (int what = 0; what <= 4; what++) {
            int w = what;
            Cases.refusal("what " + w + " is STATE where nothing is given", STATE, Cases::month, x -> x.about(0, w));
        }
        Cases.refusal("NONE person ahead of STATE", NONE, Cases::month, x -> x.about(2, 0));
        Cases.refusal("NONE what ahead of STATE", NONE, Cases::month, x -> x.about(0, 5));
    }

    private static void about() {
        Cases.promise(13, "about");
        int[] first = {24, 2, 3, 2, 0};
        int[] last = {10, 1, 1, 0, 0};
        int[] none = {0, 0, 0, 0, 0};
        int[] firstSick = {8, 1, 1, 1, 1};
        String[] names = {"HOURS", "DUTIES", "DAYS with duties", "WISHES met", "whether SICK"};
        for (int what = 0; what < 5; what++) {
            int w = what;
            Cases.look(names[w] + " of the first one", first[w], Cases::givenMonth, x -> x.about(0, w));
            Cases.look(names[w] + " of the last one", last[w], Cases::givenMonth, x -> x.about(1, w));
            Cases.look(names[w] + " of one without a duty", none[w], Cases::fullMonth, x -> x.about(3, w));
            Cases.test(names[w] + " as it is now, behind sick", () -> {
                RankRoster x = Cases.givenMonth();
                Cases.due(x.sick(0, 1), 1);
                Cases.due(x.about(0, w), firstSick[w]);
            });
        }
        Cases.test("DAYS: each day of long ones counts", () -> {
            RankRoster x = given(alikeOver3());
            Cases.due(x.about(0, 1), 2);
            Cases.due(x.about(0, 2), 6);
        });
        Cases.test("HOURS: 200 in all", () -> {
            RankRoster x = Cases.ofDuties(row(0, 1, 40, 0, 0), row(1, 1, 40, 0, 0), row(2, 1, 40, 0, 0),
                row(3, 1, 40, 0, 0), row(4, 1, 40, 0, 0));
            x.rule(3, 200);
            x.person(1, 200);
            x.give();
            Cases.due(x.about(0, 0), 200);
        });
        Cases.test("WISHES met: all 5", () -> {
            RankRoster x = alike(1, 0);
            x.wish(0, 0, 0);
            x.wish(0, 2, 1);
            x.wish(0, 3, 0);
            x.wish(0, 4, 8);
            x.wish(0, 5, 8);
            x.give();
            Cases.due(x.about(0, 3), 5);
        });
        Cases.test("WISHES met: none of none", () -> Cases.due(given(alike(1, 0)).about(0, 3), 0));
        Cases.test("whether SICK: also who lost no duty by it", () -> {
            RankRoster x = Cases.givenMonth();
            Cases.due(x.sick(0, 13), 0);
            Cases.due(x.about(0, 4), 1);
            Cases.due(x.about(1, 4), 0);
        });
    }

    private static RankRoster alikeOver3() {
        RankRoster x = Cases.ofDuties(row(0, 3, 8, 0, 0), row(11, 3, 8, 0, 0));
        x.person(1, 200);
        return x;
    }

    private static void open() {
        Cases.promise(14, "open");
        Cases.refusal("nothing is given: STATE", STATE, Cases::month, x -> x.open());
        Cases.look("none is: 0", 0, Cases::givenMonth, x -> x.open());
        Cases.look("all 9 are: 511", 511, () -> given(alike(0, 0, 1, 2, 3, 4, 5, 6, 7, 8)), x -> x.open());
        Cases.look("the last of three of one day", 4, () -> given(alike(2, 0, 0, 0)), x -> x.open());
        Cases.look("none of none: 0", 0, () -> given(new RankRoster()), x -> x.open());
        Cases.test("behind sick, what none can have is open", () -> {
            RankRoster x = Cases.givenMonth();
            x.sick(0, 0);
            Cases.due(x.open(), 2);
        });
        Cases.test("a swap opens nothing", () -> {
            RankRoster x = given(alike(2, 0, 0, 0));
            Cases.due(x.swap(0, 0, 1, 1), 1);
            Cases.due(x.open(), 4);
        });
    }

    // ---- promise 15

    private static void deniedRefused() {
        Cases.promise(15, "denied");
        Cases.refusal("person -1 is NONE", NONE, Cases::givenMonth, x -> x.denied(-1, 0));
        Cases.refusal("a person more than there are is NONE", NONE, Cases::givenMonth, x -> x.denied(2, 0));
        Cases.refusal("person 4 is NONE where there are 4", NONE, Cases::fullMonth, x -> x.denied(4, 0));
        Cases.refusal("the least int as person is NONE", NONE, Cases::givenMonth, x -> x.denied(LOW, 0));
        Cases.refusal("the greatest int as person is NONE", NONE, Cases::givenMonth, x -> x.denied(HIGH, 0));
        Cases.refusal("wish -1 is NONE", NONE, Cases::givenMonth, x -> x.denied(0, -1));
        Cases.refusal("a wish more than it has is NONE", NONE, Cases::givenMonth, x -> x.denied(0, 2));
        Cases.refusal("a wish that only another one has is NONE", NONE, Cases::givenMonth, x -> x.denied(1, 1));
        Cases.refusal("wish 5 is NONE where it has 5", NONE, Cases::fullMonth, x -> x.denied(0, 5));
        Cases.refusal("wish 0 of one without wishes is NONE", NONE, () -> given(alike(1, 0)), x -> x.denied(0, 0));
        Cases.refusal("the least int as wish is NONE", NONE, Cases::givenMonth, x -> x.denied(0, LOW));
        Cases.refusal("the greatest int as wish is NONE", NONE, Cases::givenMonth, x -> x.denied(0, HIGH));
        Cases.refusal("nothing is given: STATE", STATE, Cases::month, x -> x.denied(0, 0));
        Cases.refusal("NONE person ahead of STATE", NONE, Cases::month, x -> x.denied(2, 0));
        Cases.refusal("NONE wish ahead of STATE", NONE, Cases::month, x -> x.denied(0, 2));
    }

    private static void deniedOne() {
        Cases.promise(15, "denied");
        Cases.look("0: it is met", MET, Cases::givenMonth, x -> x.denied(0, 0));
        Cases.look("0: the last one is met", MET, Cases::givenMonth, x -> x.denied(0, 1));
        Cases.look("1: no legal line has so many hours", NO_LEGAL_LINE, Cases::givenMonth, x -> x.denied(1, 0));
        Cases.test("1: none has the skill", () -> {
            RankRoster x = pair();
            x.wish(1, 0, 1);
            x.give();
            Cases.due(x.denied(1, 0), NO_LEGAL_LINE);
        });
        Cases.test("1: a legal line meets it, but none with the wish ahead that is met", () -> {
            RankRoster x = alike(2, 0, 2);
            x.wish(0, 4, 8);
            x.wish(0, 5, 16);
            x.give();
            Cases.due(x.denied(0, 0), MET);
            Cases.due(x.denied(0, 1), NO_LEGAL_LINE);
        });
        Cases.test("1 also where a duty that it takes is not left", () -> {
            RankRoster x = alike(2, 0, 0, 2);
            x.wish(0, 0, 0);
            x.wish(0, 0, 2);
            x.wish(1, 0, 1);
            x.wish(1, 0, 0);
            x.give();
            Cases.due(x.line(0), 5);
            Cases.due(x.denied(1, 0), MET);
            Cases.due(x.denied(1, 1), NO_LEGAL_LINE);
        });
        Cases.test("a wish ahead that is not met counts for nothing", () -> {
            RankRoster x = alike(3, 0, 0, 0);
            x.wish(2, 0, 0);
            x.wish(2, 0, 1);
            x.give();
            Cases.due(x.denied(2, 0), NOT_LEFT);
            Cases.due(x.denied(2, 1), NOT_LEFT);
        });
        Cases.test("a wish behind it that is met counts for nothing", () -> {
            RankRoster x = alike(2, 0, 0);
            x.wish(1, 0, 0);
            x.wish(1, 0, 1);
            x.give();
            Cases.due(x.denied(1, 1), MET);
            Cases.due(x.denied(1, 0), NOT_LEFT);
        });
        Cases.test("of 5 wishes the last one", () -> {
            RankRoster x = Cases.fullMonth();
            Cases.due(x.denied(0, 2), MET);
            Cases.due(x.denied(0, 3), NO_LEGAL_LINE);
            Cases.due(x.denied(0, 4), NO_LEGAL_LINE);
            Cases.due(x.denied(3, 4), NOT_LEFT);
        });
    }

    private static void deniedTwoAndThree() {
        Cases.promise(15, "denied");
        Cases.test("2: one ahead has the duty", () -> {
            RankRoster x = alike(2, 0, 0);
            x.wish(1, 0, 0);
            x.give();
            Cases.due(x.denied(1, 0), NOT_LEFT);
        });
        Cases.test("2: it could have so many hours, but not out of what is left", () -> {
            RankRoster x = alike(2, 0, 2);
            x.wish(1, 5, 1);
            x.give();
            Cases.due(x.line(0), 3);
            Cases.due(x.denied(1, 0), NOT_LEFT);
        });
        Cases.test("2: the line of all duties alone would meet it", () -> {
            RankRoster x = alike(2, 0, 2);
            x.wish(1, 5, 16);
            x.give();
            Cases.due(x.denied(1, 0), NOT_LEFT);
        });
        Cases.test("2: out of what is left only against a wish ahead that is met", () -> {
            RankRoster x = Cases.ofDuties(row(0, 1, 8, 0, 0), row(0, 1, 8, 0, 1));
            x.person(1, 200);
            x.person(1, 200);
            x.person(1, 200);
            x.wish(1, 3, 0);
            x.wish(1, 5, 8);
            x.give();
            Cases.due(x.line(0), 1);
            Cases.due(x.line(1), 0);
            Cases.due(x.denied(1, 0), MET);
            Cases.due(x.denied(1, 1), NOT_LEFT);
        });
        Cases.test("2, not 3, where what is left has no such line and COVER would be lost, too", () -> {
            RankRoster x = alike(2, 0, 0);
            x.wish(1, 0, 0);
            x.wish(1, 4, 0);
            x.give();
            Cases.due(x.denied(1, 0), NOT_LEFT);
            Cases.due(x.denied(1, 1), COVER_LOST);
        });
        Cases.test("3: alone, it cannot be free", () -> {
            RankRoster x = alike(1, 0);
            x.wish(0, 2, 0);
            x.give();
            Cases.due(x.denied(0, 0), COVER_LOST);
        });
        Cases.test("3: what it wants, alone those behind can have", () -> {
            RankRoster x = pair();
            x.wish(0, 0, 0);
            x.give();
            Cases.due(x.denied(0, 0), COVER_LOST);
        });
        Cases.test("3, not 2, for the first one: all was left for it", () -> {
            RankRoster x = Cases.ofDuties(row(0, 1, 40, 0, 0), row(2, 1, 20, 0, 0), row(4, 1, 20, 0, 0));
            x.person(1, 40);
            x.wish(0, 0, 0);
            x.give();
            Cases.due(x.denied(0, 0), COVER_LOST);
        });
    }

    private static void deniedUntil() {
        Cases.promise(15, "denied");
        Cases.test("a swap came since: STATE", () -> {
            RankRoster x = Cases.givenMonth();
            Cases.due(x.swap(0, 0, 1, -1), 1);
            Cases.due(x.denied(0, 0), STATE);
        });
        Cases.test("a swap that is not fair came since: STATE", () -> {
            RankRoster x = Cases.givenMonth();
            Cases.due(x.swap(0, 0, 1, 2), 0);
            Cases.due(x.denied(0, 0), STATE);
        });
        Cases.test("a swap and the same one back came since: STATE", () -> {
            RankRoster x = Cases.givenMonth();
            x.swap(0, 0, 1, -1);
            x.swap(1, 0, 0, -1);
            Cases.due(x.line(0), 3);
            Cases.due(x.denied(0, 0), STATE);
        });
        Cases.test("a sick one came since: STATE", () -> {
            RankRoster x = Cases.givenMonth();
            Cases.due(x.sick(1, 0), 1);
            Cases.due(x.denied(0, 0), STATE);
        });
        Cases.test("a sick one who lost no duty came since: STATE", () -> {
            RankRoster x = Cases.givenMonth();
            Cases.due(x.sick(1, 13), 0);
            Cases.due(x.denied(0, 0), STATE);
        });
        Cases.test("NONE ahead of STATE behind a swap", () -> {
            RankRoster x = Cases.givenMonth();
            x.swap(0, 0, 1, -1);
            Cases.due(x.denied(0, 2), NONE);
        });
        Cases.test("a refused swap changes nothing of it", () -> {
            RankRoster x = Cases.givenMonth();
            Cases.due(x.swap(0, 1, 1, -1), STATE);
            Cases.due(x.denied(1, 0), NO_LEGAL_LINE);
        });
        Cases.test("a refused sick changes nothing of it", () -> {
            RankRoster x = Cases.givenMonth();
            Cases.due(x.sick(0, 14), NONE);
            Cases.due(x.denied(1, 0), NO_LEGAL_LINE);
        });
        Cases.test("give tells it again behind a swap", () -> {
            RankRoster x = Cases.givenMonth();
            x.swap(0, 0, 1, -1);
            x.give();
            Cases.due(x.denied(1, 0), NO_LEGAL_LINE);
        });
        Cases.test("give tells it again behind a sick one", () -> {
            RankRoster x = Cases.givenMonth();
            x.sick(1, 0);
            x.give();
            Cases.due(x.denied(1, 0), NO_LEGAL_LINE);
        });
    }

    // ---- promise 16

    private static void aheadRefused() {
        Cases.promise(16, "ahead");
        Cases.refusal("person -1 is NONE", NONE, Cases::givenMonth, x -> x.ahead(-1, 0));
        Cases.refusal("a person more than there are is NONE", NONE, Cases::givenMonth, x -> x.ahead(2, 0));
        Cases.refusal("person 4 is NONE where there are 4", NONE, Cases::fullMonth, x -> x.ahead(4, 0));
        Cases.refusal("the least int as person is NONE", NONE, Cases::givenMonth, x -> x.ahead(LOW, 0));
        Cases.refusal("the greatest int as person is NONE", NONE, Cases::givenMonth, x -> x.ahead(HIGH, 0));
        Cases.refusal("r -1 is NONE", NONE, Cases::givenMonth, x -> x.ahead(0, -1));
        Cases.refusal("r as many as there are is NONE", NONE, Cases::givenMonth, x -> x.ahead(0, 2));
        Cases.refusal("r 4 is NONE where there are 4", NONE, Cases::fullMonth, x -> x.ahead(0, 4));
        Cases.refusal("the least int as r is NONE", NONE, Cases::givenMonth, x -> x.ahead(0, LOW));
        Cases.refusal("the greatest int as r is NONE", NONE, Cases::givenMonth, x -> x.ahead(0, HIGH));
    }

    private static void ahead() {
        Cases.promise(16, "ahead");
        Cases.look("its own rank: what give gave", 3, Cases::givenMonth, x -> x.ahead(0, 0));
        Cases.look("its own rank, the last: what give gave", 4, Cases::givenMonth, x -> x.ahead(1, 1));
        Cases.look("the last as the first", 5, Cases::givenMonth, x -> x.ahead(1, 0));
        Cases.look("the first as the last", 2, Cases::givenMonth, x -> x.ahead(0, 1));
        Cases.look("nothing is given: it is told all the same", 5, Cases::month, x -> x.ahead(1, 0));
        Cases.look("one alone is the first", 1, () -> alike(1, 0), x -> x.ahead(0, 0));
        Cases.look("no duties: the empty line", 0, () -> alike(4), x -> x.ahead(3, 0));
        Cases.look("a swap changes nothing of it", 3, () -> {
            RankRoster x = Cases.givenMonth();
            x.swap(0, 0, 1, -1);
            return x;
        }, x -> x.ahead(0, 0));
        Cases.look("a sick one counts as if it were well", 3, () -> {
            RankRoster x = Cases.givenMonth();
            x.sick(0, 0);
            return x;
        }, x -> x.ahead(0, 0));
        for (int p = 0; p < 4; p++) {
            for (int r = 0; r < 4; r++) {
                int person = p;
                int rank = r;
                Cases.look("4 alike, 4 duties of one day: " + p + " at " + r, 1 << r, () -> alike(4, 0, 0, 0, 0),
                    x -> x.ahead(person, rank));
            }
        }
        Cases.look("the others keep their order: 1 goes ahead of 2 when 0 is the last", 4,
            BoundaryGivingTest::twoWantTheFirst, x -> x.ahead(0, 2));
        Cases.look("the others keep their order: 0 ahead of 1 when 2 is the first", 1,
            BoundaryGivingTest::twoWantTheFirst, x -> x.ahead(2, 0));
        Cases.look("those behind by the new order count for COVER", 2, () -> {
            RankRoster x = pair();
            x.wish(0, 0, 0);
            return x;
        }, x -> x.ahead(0, 0));
        Cases.look("who was ahead and is behind by the new order counts for COVER", 0, () -> {
            RankRoster x = alike(2, 0);
            x.wish(1, 4, 0);
            return x;
        }, x -> x.ahead(1, 0));
        Cases.test("it may be the first call of all that looks", () -> {
            Cases.due(alike(2, 0, 0).ahead(1, 0), 1);
            RankRoster x = Cases.givenMonth();
            x.rule(2, 1);
            Cases.due(x.ahead(0, 0), 1);
        });
        Cases.look("those ahead by the new order count for COVER no more", 2, () -> {
            RankRoster x = alike(2, 0, 0);
            x.wish(1, 4, 0);
            return x;
        }, x -> x.ahead(1, 1));
    }

    /** Three duties of one day; 1 and 2 want duty 0, 0 wants nothing. */
    private static RankRoster twoWantTheFirst() {
        RankRoster x = alike(3, 0, 0, 0);
        x.wish(1, 0, 0);
        x.wish(2, 0, 0);
        return x;
    }

    // ---- promise 17

    private static void swapNone() {
        Cases.promise(17, "swap");
        Cases.refusal("a -1 is NONE", NONE, Cases::givenMonth, x -> x.swap(-1, 0, 1, 2));
        Cases.refusal("a one more than there are is NONE", NONE, Cases::givenMonth, x -> x.swap(2, 0, 1, 2));
        Cases.refusal("b -1 is NONE", NONE, Cases::givenMonth, x -> x.swap(0, 0, -1, 2));
        Cases.refusal("b one more than there are is NONE", NONE, Cases::givenMonth, x -> x.swap(0, 0, 2, 2));
        Cases.refusal("d -2 is NONE", NONE, Cases::givenMonth, x -> x.swap(0, -2, 1, 2));
        Cases.refusal("d a duty more than there are is NONE", NONE, Cases::givenMonth, x -> x.swap(0, 3, 1, 2));
        Cases.refusal("e -2 is NONE", NONE, Cases::givenMonth, x -> x.swap(0, 0, 1, -2));
        Cases.refusal("e a duty more than there are is NONE", NONE, Cases::givenMonth, x -> x.swap(0, 0, 1, 3));
        Cases.refusal("d 9 is NONE where there are 9", NONE, Cases::fullMonth, x -> x.swap(0, 9, 1, -1));
        Cases.refusal("e 9 is NONE where there are 9", NONE, Cases::fullMonth, x -> x.swap(0, -1, 1, 9));
        Cases.refusal("a 4 is NONE where there are 4", NONE, Cases::fullMonth, x -> x.swap(4, 0, 1, -1));
        Cases.refusal("b 4 is NONE where there are 4", NONE, Cases::fullMonth, x -> x.swap(0, 0, 4, -1));
        Cases.refusal("the least int as a is NONE", NONE, Cases::givenMonth, x -> x.swap(LOW, 0, 1, 2));
        Cases.refusal("the greatest int as a is NONE", NONE, Cases::givenMonth, x -> x.swap(HIGH, 0, 1, 2));
        Cases.refusal("the least int as b is NONE", NONE, Cases::givenMonth, x -> x.swap(0, 0, LOW, 2));
        Cases.refusal("the greatest int as b is NONE", NONE, Cases::givenMonth, x -> x.swap(0, 0, HIGH, 2));
        Cases.refusal("the least int as d is NONE", NONE, Cases::givenMonth, x -> x.swap(0, LOW, 1, 2));
        Cases.refusal("the greatest int as d is NONE", NONE, Cases::givenMonth, x -> x.swap(0, HIGH, 1, 2));
        Cases.refusal("the least int as e is NONE", NONE, Cases::givenMonth, x -> x.swap(0, 0, 1, LOW));
        Cases.refusal("the greatest int as e is NONE", NONE, Cases::givenMonth, x -> x.swap(0, 0, 1, HIGH));
        Cases.refusal("NONE people ahead of BAD: a is b, but there is no such one", NONE, Cases::givenMonth,
            x -> x.swap(2, 0, 2, 1));
        Cases.refusal("NONE people ahead of BAD: both -1", NONE, Cases::givenMonth, x -> x.swap(0, -1, 2, -1));
        Cases.refusal("NONE duty ahead of BAD: a is b", NONE, Cases::givenMonth, x -> x.swap(0, 3, 0, 1));
        Cases.refusal("NONE second duty ahead of BAD: a is b", NONE, Cases::givenMonth, x -> x.swap(0, 1, 0, 3));
        Cases.refusal("NONE ahead of STATE: nothing is given", NONE, Cases::month, x -> x.swap(0, 3, 1, -1));
    }

    private static void swapBad() {
        Cases.promise(17, "swap");
        Cases.refusal("a is b: BAD", BAD, Cases::givenMonth, x -> x.swap(0, 0, 0, 1));
        Cases.refusal("a is b, one gives nothing: BAD", BAD, Cases::givenMonth, x -> x.swap(0, 0, 0, -1));
        Cases.refusal("both -1: BAD", BAD, Cases::givenMonth, x -> x.swap(0, -1, 1, -1));
        Cases.refusal("a is b and both -1: BAD", BAD, Cases::givenMonth, x -> x.swap(1, -1, 1, -1));
        Cases.refusal("a is b: BAD ahead of STATE, as nothing is given", BAD, Cases::month, x -> x.swap(0, 0, 0, 1));
        Cases.refusal("both -1: BAD ahead of STATE, as nothing is given", BAD, Cases::month,
            x -> x.swap(0, -1, 1, -1));
        Cases.refusal("a is b: BAD ahead of STATE, as it is not its duty", BAD, Cases::givenMonth,
            x -> x.swap(0, 2, 0, 2));
    }

    private static void swapState() {
        Cases.promise(17, "swap");
        Cases.refusal("nothing is given: STATE", STATE, Cases::month, x -> x.swap(0, 0, 1, -1));
        Cases.refusal("d is b's: STATE", STATE, Cases::givenMonth, x -> x.swap(0, 2, 1, -1));
        Cases.refusal("e is a's: STATE", STATE, Cases::givenMonth, x -> x.swap(0, -1, 1, 0));
        Cases.refusal("d and e the wrong way round: STATE", STATE, Cases::givenMonth, x -> x.swap(0, 2, 1, 0));
        Cases.refusal("d and e one duty: STATE", STATE, Cases::givenMonth, x -> x.swap(0, 0, 1, 0));
        Cases.refusal("d is open: STATE", STATE, () -> given(alike(2, 0, 0, 0)), x -> x.swap(0, 2, 1, 1));
        Cases.refusal("e is open: STATE", STATE, () -> given(alike(2, 0, 0, 0)), x -> x.swap(0, 0, 1, 2));
        Cases.refusal("d is open and e is -1: STATE", STATE, () -> given(alike(2, 0, 0, 0)),
            x -> x.swap(0, 2, 1, -1));
        Cases.refusal("d is a third one's: STATE", STATE, () -> given(alike(3, 0, 0, 0)), x -> x.swap(0, 2, 1, 1));
        Cases.refusal("b would lack the SKILL: STATE", STATE, Cases::givenMonth, x -> x.swap(0, 1, 1, -1));
        Cases.refusal("a would lack the SKILL: STATE", STATE, Cases::givenMonth, x -> x.swap(1, -1, 0, 1));
        Cases.refusal("b would have two duties of one DAY: STATE", STATE, () -> given(alike(2, 0, 0)),
            x -> x.swap(0, 0, 1, -1));
        Cases.refusal("a would have two duties of one DAY: STATE", STATE, () -> given(alike(2, 0, 0)),
            x -> x.swap(0, -1, 1, 1));
        Cases.refusal("a would have no REST: STATE", STATE, BoundaryGivingTest::restless, x -> x.swap(0, -1, 1, 1));
        Cases.refusal("b would have too long a ROW: STATE", STATE, BoundaryGivingTest::inRow,
            x -> x.swap(0, 0, 1, -1));
        Cases.refusal("b would have more than MOST: STATE", STATE, BoundaryGivingTest::ofFewHours,
            x -> x.swap(0, 0, 1, -1));
        Cases.refusal("b would have too long a WEEK: STATE", STATE, BoundaryGivingTest::ofFullWeek,
            x -> x.swap(0, 0, 1, -1));
    }

    /** 0 has a night on day 0, 1 a duty on day 1. */
    private static RankRoster restless() {
        RankRoster x = Cases.ofDuties(row(0, 1, 8, 0, 1), row(1, 1, 8, 0, 0));
        x.person(1, 200);
        x.person(1, 200);
        return given(x);
    }

    /** 0 has day 0, 1 has day 1, and no row is longer than a day. */
    private static RankRoster inRow() {
        RankRoster x = alike(2, 0, 1);
        x.rule(2, 1);
        return given(x);
    }

    /** 0 has days 0 and 2, 1 has day 4 and hours for no more. */
    private static RankRoster ofFewHours() {
        RankRoster x = Cases.onDays(0, 2, 4);
        x.person(1, 16);
        x.person(1, 15);
        return given(x);
    }

    /** 0 has days 0, 1 has day 6, and the week has hours for one of them. */
    private static RankRoster ofFullWeek() {
        RankRoster x = alike(2, 0, 6);
        x.rule(3, 15);
        return given(x);
    }

    private static void done(String told, int want, Supplier<RankRoster> maker, int[] swap, int lineA, int lineB) {
        Cases.test(told, () -> {
            RankRoster x = maker.get();
            Cases.due(x.swap(swap[0], swap[1], swap[2], swap[3]), want);
            Cases.due(x.line(swap[0]), lineA);
            Cases.due(x.line(swap[2]), lineB);
        });
    }

    private static int[] of(int a, int d, int b, int e) {
        return new int[] {a, d, b, e};
    }

    private static void swapDone() {
        Cases.promise(17, "swap");
        done("a gives, b gives nothing", 1, Cases::givenMonth, of(0, 0, 1, -1), 2, 5);
        done("b gives, a gives nothing", 1, Cases::givenMonth, of(1, -1, 0, 0), 5, 2);
        done("one gives the only one it has", 0, Cases::givenMonth, of(1, 2, 0, -1), 0, 7);
        done("both give", 0, Cases::givenMonth, of(0, 0, 1, 2), 6, 1);
        done("two of one day, though neither could have both", 1, () -> given(alike(2, 0, 0)), of(0, 0, 1, 1), 2, 1);
        done("MOST to the hour", 1, () -> {
            RankRoster x = Cases.onDays(0, 2, 4);
            x.person(1, 16);
            x.person(1, 16);
            return given(x);
        }, of(0, 0, 1, -1), 2, 5);
        done("the 9th duty to the 4th of people", 1, () -> given(alike(4, 0, 1, 2, 3, 4, 6, 7, 8, 9)),
            of(0, 8, 3, -1), 255, 256);
        Cases.test("a third one's line stays", () -> {
            RankRoster x = given(alike(3, 0, 0, 0));
            Cases.due(x.swap(0, 0, 2, 2), 1);
            Cases.due(x.line(1), 2);
            Cases.due(x.who(0), 2);
            Cases.due(x.who(2), 0);
        });
        Cases.test("a SICK one may, as the document rules it out nowhere", () -> {
            RankRoster x = Cases.givenMonth();
            x.sick(1, 13);
            Cases.due(x.swap(0, 0, 1, -1), 1);
            Cases.due(x.line(1), 5);
        });
        Cases.test("swaps one behind the other, and all back", () -> {
            RankRoster x = given(alike(3, 0, 0, 0));
            Cases.due(x.swap(0, 0, 1, 1), 1);
            Cases.due(x.swap(1, 0, 2, 2), 1);
            Cases.due(x.swap(2, 0, 1, 2), 1);
            Cases.due(x.swap(1, 0, 0, 1), 1);
            Cases.due(x.line(0), 1);
            Cases.due(x.line(1), 2);
            Cases.due(x.line(2), 4);
        });
    }

    /** Two duties of one day, 0 has duty 0 and 1 has duty 1; then the wishes of both, as kind, v, kind, v .. */
    private static void fair(String told, int want, int[] wishesOf0, int[] wishesOf1) {
        Cases.test(told, () -> {
            // Of two duties of one day each gets one: that of 0 is settled by the order of duties or by its wish.
            RankRoster x = Cases.ofDuties(row(0, 1, 8, 0, 0), row(0, 1, 9, 0, 1));
            x.person(1, 200);
            x.person(1, 200);
            for (int i = 0; i + 1 < wishesOf0.length; i += 2) {
                x.wish(0, wishesOf0[i], wishesOf0[i + 1]);
            }
            for (int i = 0; i + 1 < wishesOf1.length; i += 2) {
                x.wish(1, wishesOf1[i], wishesOf1[i + 1]);
            }
            x.give();
            int of0 = x.line(0) == 1 ? 0 : 1;
            Cases.due(x.swap(0, of0, 1, 1 - of0), want);
            Cases.due(x.line(0), 2 - of0);
        });
    }

    private static int[] wishes(int... kindAndV) {
        return kindAndV;
    }

    private static void swapFair() {
        Cases.promise(17, "swap");
        fair("FAIR: no wishes, though a has the later duty then", 1, wishes(), wishes());
        fair("FAIR: wishes that both lines meet", 1, wishes(2, 5), wishes(2, 5));
        fair("FAIR: wishes that neither line meets", 1, wishes(5, 200), wishes(2, 0));
        fair("FAIR: b gains", 1, wishes(), wishes(0, 0));
        fair("not FAIR: a loses", 0, wishes(0, 0), wishes());
        fair("not FAIR: b loses", 0, wishes(), wishes(0, 1));
        fair("not FAIR: both lose", 0, wishes(0, 0), wishes(0, 1));
        fair("not FAIR: b gains, a loses", 0, wishes(0, 1), wishes(0, 1));
        fair("FAIR: b gains by its first wish, loses by its second", 1, wishes(), wishes(0, 0, 0, 1));
        fair("not FAIR: b loses by its first wish, gains by its second", 0, wishes(), wishes(5, 9, 4, 8));
        Cases.test("FAIR: a gains", () -> {
            RankRoster x = alike(2, 0, 0);
            x.wish(1, 0, 0);
            x.give();
            Cases.due(x.swap(1, 1, 0, 0), 1);
            Cases.due(x.line(1), 1);
        });
        Cases.test("not FAIR it is done all the same", () -> {
            RankRoster x = alike(2, 0, 0);
            x.wish(0, 0, 0);
            x.give();
            Cases.due(x.swap(0, 0, 1, 1), 0);
            Cases.due(x.line(0), 2);
            Cases.due(x.swap(0, 1, 1, 0), 1);
            Cases.due(x.line(0), 1);
        });
    }

    // ---- promise 18

    private static void sickRefused() {
        Cases.promise(18, "sick");
        Cases.refusal("person -1 is NONE", NONE, Cases::givenMonth, x -> x.sick(-1, 0));
        Cases.refusal("a person more than there are is NONE", NONE, Cases::givenMonth, x -> x.sick(2, 0));
        Cases.refusal("person 4 is NONE where there are 4", NONE, Cases::fullMonth, x -> x.sick(4, 0));
        Cases.refusal("the least int as person is NONE", NONE, Cases::givenMonth, x -> x.sick(LOW, 0));
        Cases.refusal("the greatest int as person is NONE", NONE, Cases::givenMonth, x -> x.sick(HIGH, 0));
        Cases.refusal("day -1 is NONE", NONE, Cases::givenMonth, x -> x.sick(0, -1));
        Cases.refusal("day 14 is NONE", NONE, Cases::givenMonth, x -> x.sick(0, 14));
        Cases.refusal("the least int as day is NONE", NONE, Cases::givenMonth, x -> x.sick(0, LOW));
        Cases.refusal("the greatest int as day is NONE", NONE, Cases::givenMonth, x -> x.sick(0, HIGH));
        Cases.refusal("nothing is given: STATE", STATE, Cases::month, x -> x.sick(0, 0));
        Cases.refusal("NONE person ahead of STATE", NONE, Cases::month, x -> x.sick(2, 0));
        Cases.refusal("NONE day ahead of STATE", NONE, Cases::month, x -> x.sick(0, 14));
        Cases.refusal("it is SICK: STATE", STATE, BoundaryGivingTest::withSick, x -> x.sick(0, 5));
        Cases.refusal("it is SICK, from an earlier day on: STATE", STATE, BoundaryGivingTest::withSick,
            x -> x.sick(0, 0));
        Cases.refusal("NONE day ahead of STATE for one who is SICK", NONE, BoundaryGivingTest::withSick,
            x -> x.sick(0, 14));
    }

    private static RankRoster withSick() {
        RankRoster x = Cases.givenMonth();
        x.sick(0, 1);
        return x;
    }

    private static void sickTaken() {
        Cases.promise(18, "sick");
        int[][] cases = {{0, 2, 0}, {1, 1, 1}, {2, 0, 3}, {13, 0, 3}};
        String[] names = {"from day 0 on: all are taken", "from the first day of one on: that one is taken",
            "from the second day of one on: that one stays", "from day 13 on: none is taken"};
        for (int i = 0; i < cases.length; i++) {
            int[] c = cases[i];
            Cases.test(names[i], () -> {
                RankRoster x = Cases.givenMonth();
                Cases.due(x.sick(0, c[0]), c[1]);
                Cases.due(x.line(0), c[2]);
                Cases.due(x.about(0, 4), 1);
            });
        }
        Cases.test("from day 13 on: one that begins on 13 is taken", () -> {
            RankRoster x = given(alike(1, 12, 13));
            Cases.due(x.sick(0, 13), 1);
            Cases.due(x.line(0), 1);
        });
        Cases.test("one without a duty: 0", () -> {
            RankRoster x = Cases.fullMonth();
            Cases.due(x.sick(3, 0), 0);
            Cases.due(x.about(3, 4), 1);
        });
        Cases.test("all 9 are taken, and none is left to be called", () -> {
            RankRoster x = given(alike(1, 0, 1, 2, 3, 4, 6, 7, 8, 9));
            Cases.due(x.sick(0, 0), 9);
            Cases.due(x.open(), 511);
        });
        Cases.test("all 9 are taken, and all are given to another one", () -> {
            RankRoster x = given(alike(2, 0, 1, 2, 3, 4, 6, 7, 8, 9));
            Cases.due(x.sick(0, 0), 9);
            Cases.due(x.line(1), 511);
            Cases.due(x.open(), 0);
        });
        Cases.test("all four, one behind the other", () -> {
            RankRoster x = given(alike(4, 0));
            for (int p = 0; p < 4; p++) {
                Cases.due(x.line(p), 1);
                Cases.due(x.sick(p, 0), 1);
            }
            Cases.due(x.open(), 1);
        });
        Cases.test("what it got by a swap is taken, too", () -> {
            RankRoster x = Cases.givenMonth();
            x.swap(0, 0, 1, -1);
            Cases.due(x.sick(1, 0), 2);
            Cases.due(x.line(0), 7);
        });
    }

    private static void sickCalled() {
        Cases.promise(18, "sick");
        Cases.test("of several with as few hours the least is called", () -> {
            RankRoster x = given(alike(4, 0));
            x.sick(0, 0);
            Cases.due(x.who(0), 1);
        });
        Cases.test("one ahead of the sick one may be called", () -> {
            RankRoster x = alike(2, 0, 2);
            x.wish(0, 1, 1);
            x.give();
            Cases.due(x.line(1), 2);
            Cases.due(x.sick(1, 0), 1);
            Cases.due(x.who(1), 0);
        });
        Cases.test("the fewest hours count, not the fewest duties", () -> {
            RankRoster x = Cases.ofDuties(row(0, 1, 8, 3, 0), row(2, 1, 9, 1, 0), row(4, 1, 4, 2, 0),
                row(6, 1, 4, 2, 0));
            x.person(8, 200);
            x.person(10, 200);
            x.person(12, 200);
            x.give();
            Cases.due(x.line(1), 2);
            Cases.due(x.line(2), 12);
            x.sick(0, 0);
            Cases.due(x.who(0), 2);
        });
        Cases.test("an hour less is fewer", () -> {
            RankRoster x = Cases.ofDuties(row(0, 1, 8, 3, 0), row(2, 1, 9, 1, 0), row(4, 1, 8, 2, 0));
            x.person(8, 200);
            x.person(10, 200);
            x.person(12, 200);
            x.give();
            x.sick(0, 0);
            Cases.due(x.who(0), 2);
        });
        Cases.test("each by its number: hours of the one before count for the next", () -> {
            RankRoster x = given(alike(3, 6, 4, 2));
            Cases.due(x.line(0), 7);
            Cases.due(x.sick(0, 0), 3);
            Cases.due(x.line(1), 5);
            Cases.due(x.line(2), 2);
        });
        Cases.test("each by its number, not by its day", () -> {
            RankRoster x = Cases.onDays(5, 0);
            x.person(1, 200);
            x.person(1, 8);
            x.give();
            Cases.due(x.sick(0, 0), 2);
            Cases.due(x.who(0), 1);
            Cases.due(x.open(), 2);
        });
        Cases.test("with fewer hours, but the line would not be legal: another one is called", () -> {
            RankRoster x = Cases.ofDuties(row(1, 1, 8, 0, 0), row(0, 1, 1, 1, 1), row(5, 1, 9, 2, 0));
            x.person(1, 200);
            x.person(3, 200);
            x.person(5, 200);
            x.give();
            Cases.due(x.line(1), 2);
            x.sick(0, 0);
            Cases.due(x.who(0), 2);
        });
        Cases.test("no line would be legal: it is open", () -> {
            RankRoster x = given(alike(2, 0, 0));
            Cases.due(x.sick(0, 0), 1);
            Cases.due(x.open(), 1);
            Cases.due(x.line(1), 2);
        });
        Cases.test("MOST to the hour is called, an hour more is not", () -> {
            for (int most = 15; most <= 16; most++) {
                RankRoster x = Cases.ofDuties(row(0, 1, 8, 0, 0), row(2, 1, 8, 1, 0));
                x.person(1, 200);
                x.person(3, most);
                x.give();
                Cases.due(x.line(1), 2);
                x.sick(0, 0);
                Cases.due(x.line(1), most == 16 ? 3 : 2);
            }
        });
        Cases.test("one who is SICK from a later day on is not called for an earlier one", () -> {
            RankRoster x = given(alike(2, 0));
            Cases.due(x.sick(1, 13), 0);
            Cases.due(x.sick(0, 0), 1);
            Cases.due(x.open(), 1);
        });
        Cases.test("what was open before stays open, though one could have it by now", () -> {
            RankRoster x = Cases.ofDuties(row(0, 1, 8, 0, 0), row(0, 1, 8, 0, 0), row(0, 1, 8, 1, 0));
            x.person(1, 200);
            x.person(1, 200);
            x.person(3, 200);
            x.person(2, 200);
            x.give();
            Cases.due(x.sick(0, 0), 1);
            Cases.due(x.open(), 1);
            Cases.due(x.swap(2, 2, 3, -1), 1);
            Cases.due(x.sick(1, 0), 1);
            Cases.due(x.line(2), 2);
            Cases.due(x.open(), 1);
        });
        Cases.test("wishes count for nothing", () -> {
            RankRoster x = alike(3, 0);
            x.wish(1, 1, 0);
            x.wish(2, 0, 0);
            x.give();
            x.sick(0, 0);
            Cases.due(x.who(0), 1);
        });
    }

    // ---- promises 19 and 20

    private static void who() {
        Cases.promise(19, "who");
        Cases.refusal("duty -1 is NONE", NONE, Cases::givenMonth, x -> x.who(-1));
        Cases.refusal("a duty more than there are is NONE", NONE, Cases::givenMonth, x -> x.who(3));
        Cases.refusal("duty 9 is NONE where there are 9", NONE, Cases::fullMonth, x -> x.who(9));
        Cases.refusal("the least int is NONE", NONE, Cases::givenMonth, x -> x.who(LOW));
        Cases.refusal("the greatest int is NONE", NONE, Cases::givenMonth, x -> x.who(HIGH));
        Cases.refusal("32 is NONE, though a shift by it wraps around to 0", NONE, Cases::givenMonth, x -> x.who(32));
        Cases.refusal("nothing is given: STATE", STATE, Cases::month, x -> x.who(0));
        Cases.refusal("NONE ahead of STATE", NONE, Cases::month, x -> x.who(3));
        Cases.look("an open one: NONE", NONE, () -> given(alike(2, 0, 0, 0)), x -> x.who(2));
        Cases.look("an open one where there are 4 people: NONE", NONE, () -> given(alike(4, 0, 0, 0, 0, 0)),
            x -> x.who(4));
        Cases.look("where there is nobody: NONE", NONE, () -> given(alike(0, 0)), x -> x.who(0));
        Cases.look("duty 0: the first one", 0, Cases::givenMonth, x -> x.who(0));
        Cases.look("the last duty: the last one", 1, Cases::givenMonth, x -> x.who(2));
        Cases.look("duty 3 of 4 of one day: the 4th", 3, () -> given(alike(4, 0, 0, 0, 0)), x -> x.who(3));
        Cases.look("duty 8 of 9", 2, Cases::fullMonth, x -> x.who(8));
        Cases.test("behind a swap", () -> {
            RankRoster x = Cases.givenMonth();
            x.swap(0, 0, 1, -1);
            Cases.due(x.who(0), 1);
        });
        Cases.test("behind sick: who was called, and NONE for the open one", () -> {
            RankRoster x = Cases.givenMonth();
            x.sick(0, 0);
            Cases.due(x.who(0), 1);
            Cases.due(x.who(1), NONE);
        });
    }

    private static void count() {
        Cases.promise(20, "count");
        Cases.refusal("what -1 is NONE", NONE, Cases::givenMonth, x -> x.count(-1));
        Cases.refusal("what 5 is NONE", NONE, Cases::givenMonth, x -> x.count(5));
        Cases.refusal("the least int is NONE", NONE, Cases::givenMonth, x -> x.count(LOW));
        Cases.refusal("the greatest int is NONE", NONE, Cases::givenMonth, x -> x.count(HIGH));
        Cases.refusal("what 5 is NONE where nothing is given", NONE, Cases::month, x -> x.count(5));
        Cases.refusal("WISHES met where nothing is given: STATE", STATE, Cases::month, x -> x.count(3));
        int[] month = {3, 2, 3, 2, 1};
        int[] full = {9, 4, 20, 7, 1};
        int[] notGiven = {3, 2, 3, STATE, 0};
        int[] nothing = {0, 0, 0, 0, 1};
        String[] names = {"DUTIES", "PEOPLE", "WISHES", "WISHES met", "whether it is GIVEN"};
        for (int what = 0; what < 5; what++) {
            int w = what;
            Cases.look(names[w] + " of a month", month[w], Cases::givenMonth, x -> x.count(w));
            Cases.look(names[w] + " of a full month", full[w], Cases::fullMonth, x -> x.count(w));
            Cases.look(names[w] + " of a month that is not given", notGiven[w], Cases::month, x -> x.count(w));
            Cases.look(names[w] + " of nothing, given", nothing[w], () -> given(new RankRoster()), x -> x.count(w));
        }
        Cases.test("WISHES met as it is now, behind a swap", () -> {
            RankRoster x = Cases.givenMonth();
            Cases.due(x.swap(0, 0, 1, 2), 0);
            Cases.due(x.count(3), 1);
            Cases.due(x.count(4), 1);
        });
        Cases.test("WISHES met as it is now, behind sick", () -> {
            RankRoster x = Cases.givenMonth();
            x.sick(0, 0);
            Cases.due(x.count(3), 1);
            Cases.due(x.count(4), 1);
        });
    }
}
