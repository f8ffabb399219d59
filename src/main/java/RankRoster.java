/**
 * A month of duties for people by rank. The document (DOC.md) tells what each call answers;
 * its words in capitals (DUTY, LINE, LEGAL, COVER ..) are used here as it uses them.
 */
public final class RankRoster {
    public static final int NONE = -1, BAD = -2, STATE = -3, FULL = -4;

    private static final int MOST_DUTIES = 9;
    private static final int MOST_LINES = 1 << MOST_DUTIES;
    private static final int MOST_PEOPLE = 4;
    private static final int MOST_GROUPS = 1 << MOST_PEOPLE;
    private static final int MOST_WISHES = 5;

    private static final int DAYS = 14;
    private static final int LONGEST_DUTY = 3;
    private static final int LONG_DAYS = 2;
    private static final int WEEK_DAYS = 7;
    private static final int SKILLS = 4;
    private static final int DUTY_HOURS = 40;
    private static final int ALL_HOURS = 200;
    private static final int NO_DUTY = -1;

    private static final int RULE_NIGHT = 0, RULE_LONG = 1, RULE_ROW = 2, RULE_WEEK = 3;
    private static final int[] RULE_AT_FIRST = {1, 1, 5, 60};
    private static final int[] RULE_LEAST = {0, 0, 1, 0};
    private static final int[] RULE_GREATEST = {3, 3, 14, 200};

    private static final int WHY_SKILL = 1, WHY_DAYS = 2, WHY_REST = 3, WHY_ROW = 4, WHY_WEEK = 5, WHY_MOST = 6;

    private static final int WANT = 0, NOT = 1, FREE = 2, NO_NIGHTS = 3, HOURS_BELOW = 4, HOURS_ABOVE = 5;

    private static final int MET = 0, DENIED_BY_LAW = 1, DENIED_BY_LEFT = 2, DENIED_BY_COVER = 3;

    private final Duties duties;
    private final Rules rules;
    private final People people;
    private final Chart chart;
    private boolean given;
    private boolean changedSince;

    public RankRoster() {
        duties = new Duties();
        rules = new Rules();
        people = new People();
        chart = new Chart(duties, rules, people);
    }

    public int duty(int day, int days, int hours, int skill, int night) {
        if (!within(days, 1, LONGEST_DUTY) || !within(hours, 1, DUTY_HOURS) || !within(night, 0, 1)) {
            return BAD;
        }
        if (!isDay(day) || !isDay(day + days - 1) || !within(skill, 0, SKILLS - 1)) {
            return NONE;
        }
        if (duties.size >= MOST_DUTIES) {
            return FULL;
        }
        startAnew();
        return duties.enter(day, days, hours, skill, night == 1);
    }

    public int person(int skills, int most) {
        if (!within(skills, 0, (1 << SKILLS) - 1) || !within(most, 0, ALL_HOURS)) {
            return BAD;
        }
        if (people.size >= MOST_PEOPLE) {
            return FULL;
        }
        startAnew();
        return people.enter(skills, most);
    }

    public int rule(int which, int v) {
        if (!within(which, RULE_NIGHT, RULE_WEEK)) {
            return NONE;
        }
        if (!within(v, RULE_LEAST[which], RULE_GREATEST[which])) {
            return BAD;
        }
        startAnew();
        return rules.replace(which, v);
    }

    public int wish(int person, int kind, int v) {
        if (!people.has(person) || !within(kind, WANT, HOURS_ABOVE)) {
            return NONE;
        }
        if ((kind == WANT || kind == NOT) && !duties.has(v)) {
            return NONE;
        }
        if (kind == FREE && !isDay(v)) {
            return NONE;
        }
        if (kind == NO_NIGHTS && v != 0) {
            return BAD;
        }
        if ((kind == HOURS_BELOW || kind == HOURS_ABOVE) && !within(v, 0, ALL_HOURS)) {
            return BAD;
        }
        Person wisher = people.rank[person];
        if (wisher.wishes >= MOST_WISHES) {
            return FULL;
        }
        // LEGAL and COVER hang on no WISH, so the chart stays.
        given = false;
        return wisher.enterWish(kind, v);
    }

    // ---- looking

    public int why(int person, int line) {
        if (!people.has(person)) {
            return NONE;
        }
        if (!duties.isLine(line)) {
            return BAD;
        }
        Person asked = people.rank[person];
        if (!asked.hasSkills(duties, line)) {
            return WHY_SKILL;
        }
        int broken = rules.firstBroken(duties, line);
        if (broken != 0) {
            return broken;
        }
        return asked.hasHours(duties, line) ? 0 : WHY_MOST;
    }

    public int meets(int person, int wish, int line) {
        if (!people.has(person) || !people.rank[person].hasWish(wish)) {
            return NONE;
        }
        if (!duties.isLine(line)) {
            return BAD;
        }
        return people.rank[person].isMet(duties, wish, line) ? 1 : 0;
    }

    public int lines(int person) {
        if (!people.has(person)) {
            return NONE;
        }
        chart.refresh();
        int found = 0;
        for (int line = 0; line <= duties.all(); line++) {
            if (chart.isLegal(person, line)) {
                found++;
            }
        }
        return found;
    }

    public int cover(int set, int k) {
        if (!within(k, 0, people.size)) {
            return NONE;
        }
        if (!duties.isLine(set)) {
            return BAD;
        }
        chart.refresh();
        return chart.coverBy(people.from(k), set);
    }

    public int better(int person, int a, int b) {
        if (!people.has(person)) {
            return NONE;
        }
        if (!duties.isLine(a) || !duties.isLine(b)) {
            return BAD;
        }
        Person judge = people.rank[person];
        int scoreA = judge.score(duties, a);
        int scoreB = judge.score(duties, b);
        if (scoreA != scoreB) {
            return scoreA > scoreB ? 2 : 0;
        }
        return isAheadByDuties(a, b) ? 1 : 0;
    }

    // ---- giving

    public int give() {
        chart.refresh();
        int left = duties.all();
        for (int p = 0; p < people.size; p++) {
            Person next = people.rank[p];
            next.left = left;
            next.held = bestLine(p, left, people.from(p + 1));
            next.ill = false;
            left &= ~next.held;
        }
        given = true;
        changedSince = false;
        return Integer.bitCount(left);
    }

    public int line(int person) {
        if (!people.has(person)) {
            return NONE;
        }
        return given ? people.rank[person].held : STATE;
    }

    public int about(int person, int what) {
        if (!people.has(person) || !within(what, 0, 4)) {
            return NONE;
        }
        if (!given) {
            return STATE;
        }
        Person asked = people.rank[person];
        switch (what) {
            case 0:
                return duties.hoursOf(asked.held);
            case 1:
                return Integer.bitCount(asked.held);
            case 2:
                return Integer.bitCount(duties.daysOf(asked.held));
            case 3:
                return asked.wishesMet(duties);
            default:
                return asked.ill ? 1 : 0;
        }
    }

    public int open() {
        return given ? duties.all() & ~people.allHeld() : STATE;
    }

    public int denied(int person, int wish) {
        if (!people.has(person) || !people.rank[person].hasWish(wish)) {
            return NONE;
        }
        if (!given || changedSince) {
            return STATE;
        }
        Person asked = people.rank[person];
        if (asked.isMet(duties, wish, asked.held)) {
            return MET;
        }
        if (!couldMeet(person, wish, duties.all())) {
            return DENIED_BY_LAW;
        }
        // A LINE that left COVER as told and met the WISH would have been BETTER than the given one.
        return couldMeet(person, wish, asked.left) ? DENIED_BY_COVER : DENIED_BY_LEFT;
    }

    public int ahead(int person, int r) {
        if (!people.has(person) || !people.has(r)) {
            return NONE;
        }
        chart.refresh();
        int left = duties.all();
        int behind = people.from(0);
        for (int place = 0; place < r; place++) {
            int other = otherAt(place, person);
            behind &= ~(1 << other);
            left &= ~bestLine(other, left, behind);
        }
        return bestLine(person, left, behind & ~(1 << person));
    }

    public int swap(int a, int d, int b, int e) {
        if (!people.has(a) || !isDutyOrNo(d) || !people.has(b) || !isDutyOrNo(e)) {
            return NONE;
        }
        if (a == b || (d == NO_DUTY && e == NO_DUTY)) {
            return BAD;
        }
        if (!given) {
            return STATE;
        }
        Person one = people.rank[a];
        Person two = people.rank[b];
        int fromOne = lineOf(d);
        int fromTwo = lineOf(e);
        if ((one.held & fromOne) != fromOne || (two.held & fromTwo) != fromTwo) {
            return STATE;
        }
        int newOne = (one.held & ~fromOne) | fromTwo;
        int newTwo = (two.held & ~fromTwo) | fromOne;
        if (!chart.isLegal(a, newOne) || !chart.isLegal(b, newTwo)) {
            return STATE;
        }
        boolean fair = !one.loses(duties, newOne) && !two.loses(duties, newTwo);
        one.held = newOne;
        two.held = newTwo;
        changedSince = true;
        return fair ? 1 : 0;
    }

    public int sick(int person, int day) {
        if (!people.has(person) || !isDay(day)) {
            return NONE;
        }
        if (!given || people.rank[person].ill) {
            return STATE;
        }
        Person absent = people.rank[person];
        int taken = absent.held & duties.beginning(day, DAYS);
        absent.ill = true;
        absent.held &= ~taken;
        for (int d = 0; d < duties.size; d++) {
            if (isIn(d, taken)) {
                callIn(d);
            }
        }
        changedSince = true;
        return Integer.bitCount(taken);
    }

    public int who(int duty) {
        if (!duties.has(duty)) {
            return NONE;
        }
        if (!given) {
            return STATE;
        }
        for (int p = 0; p < people.size; p++) {
            if (isIn(duty, people.rank[p].held)) {
                return p;
            }
        }
        return NONE;
    }

    public int count(int what) {
        switch (what) {
            case 0:
                return duties.size;
            case 1:
                return people.size;
            case 2:
                return people.allWishes();
            case 3:
                return given ? people.allWishesMet(duties) : STATE;
            case 4:
                return given ? 1 : 0;
            default:
                return NONE;
        }
    }

    // ---- behind the calls

    /** What was GIVEN is told no more, and so the chart is never stale while something is GIVEN. */
    private void startAnew() {
        given = false;
        chart.forget();
    }

    /** The BEST LINE out of what is left that keeps COVER by the one and those behind. */
    private int bestLine(int person, int left, int behind) {
        Person chooser = people.rank[person];
        int due = chart.coverBy(behind | (1 << person), left);
        int best = 0;
        int bestScore = -1;
        for (int line = 0; line <= left; line++) {
            if ((line & ~left) != 0 || !chart.isLegal(person, line)) {
                continue;
            }
            if (Integer.bitCount(line) + chart.coverBy(behind, left & ~line) < due) {
                continue;
            }
            int score = chooser.score(duties, line);
            if (score > bestScore || (score == bestScore && isAheadByDuties(line, best))) {
                best = line;
                bestScore = score;
            }
        }
        return best;
    }

    /** Whether a LEGAL LINE out of a set meets a WISH and those ahead of it that the given LINE meets. */
    private boolean couldMeet(int person, int wish, int set) {
        Person asked = people.rank[person];
        int wishesBehind = asked.wishes - 1 - wish;
        int wanted = (asked.score(duties, asked.held) >> wishesBehind) | 1;
        for (int line = 0; line <= set; line++) {
            if ((line & ~set) == 0 && chart.isLegal(person, line)
                    && ((asked.score(duties, line) >> wishesBehind) & wanted) == wanted) {
                return true;
            }
        }
        return false;
    }

    /** Gives a DUTY that was taken away to the one who is called for it, if there is one. */
    private void callIn(int duty) {
        int called = NONE;
        int fewest = 0;
        for (int p = 0; p < people.size; p++) {
            Person asked = people.rank[p];
            if (asked.ill || !chart.isLegal(p, asked.held | (1 << duty))) {
                continue;
            }
            int hours = duties.hoursOf(asked.held);
            if (called == NONE || hours < fewest) {
                called = p;
                fewest = hours;
            }
        }
        if (called != NONE) {
            people.rank[called].held |= 1 << duty;
        }
    }

    /** Who of the others stands at a place, had one of PEOPLE stepped out of the order. */
    private static int otherAt(int place, int steppedOut) {
        return place < steppedOut ? place : place + 1;
    }

    private boolean isDutyOrNo(int duty) {
        return duty == NO_DUTY || duties.has(duty);
    }

    private static int lineOf(int duty) {
        return duty == NO_DUTY ? 0 : 1 << duty;
    }

    /** Whether a has the first DUTY that one of both has and the other has not. */
    private static boolean isAheadByDuties(int a, int b) {
        return (Integer.lowestOneBit(a ^ b) & a) != 0;
    }

    /** Whether a number is in a set by bits. */
    private static boolean isIn(int number, int set) {
        return ((set >> number) & 1) == 1;
    }

    private static boolean isDay(int day) {
        return within(day, 0, DAYS - 1);
    }

    private static boolean within(int v, int least, int greatest) {
        return v >= least && v <= greatest;
    }

    /** DUTIES, in rows side by side; the span of one is the set of its DAYS by bits. */
    private static final class Duties {
        private final int[] first = new int[MOST_DUTIES];
        private final int[] days = new int[MOST_DUTIES];
        private final int[] spans = new int[MOST_DUTIES];
        private final int[] hours = new int[MOST_DUTIES];
        private final int[] skill = new int[MOST_DUTIES];
        private int nights;
        private int size;

        int enter(int day, int howMany, int hoursOfIt, int skillOfIt, boolean night) {
            int number = size;
            first[number] = day;
            days[number] = howMany;
            spans[number] = ((1 << howMany) - 1) << day;
            hours[number] = hoursOfIt;
            skill[number] = skillOfIt;
            if (night) {
                nights |= 1 << number;
            }
            size++;
            return number;
        }

        boolean has(int duty) {
            return within(duty, 0, size - 1);
        }

        int all() {
            return (1 << size) - 1;
        }

        boolean isLine(int line) {
            return (line & ~all()) == 0;
        }

        int daysOf(int line) {
            int found = 0;
            for (int d = 0; d < size; d++) {
                if (isIn(d, line)) {
                    found |= spans[d];
                }
            }
            return found;
        }

        int skillsOf(int line) {
            int found = 0;
            for (int d = 0; d < size; d++) {
                if (isIn(d, line)) {
                    found |= 1 << skill[d];
                }
            }
            return found;
        }

        int hoursOf(int line) {
            int sum = 0;
            for (int d = 0; d < size; d++) {
                if (isIn(d, line)) {
                    sum += hours[d];
                }
            }
            return sum;
        }

        /** Those that begin on a DAY from one on and ahead of another. */
        int beginning(int from, int until) {
            int found = 0;
            for (int d = 0; d < size; d++) {
                if (first[d] >= from && first[d] < until) {
                    found |= 1 << d;
                }
            }
            return found;
        }
    }

    /** RULES, and which of them a LINE breaks whoever has it. */
    private static final class Rules {
        private final int[] values = RULE_AT_FIRST.clone();

        int replace(int which, int v) {
            int old = values[which];
            values[which] = v;
            return old;
        }

        int firstBroken(Duties duties, int line) {
            if (breaksDays(duties, line)) {
                return WHY_DAYS;
            }
            int busy = duties.daysOf(line);
            if (breaksRest(duties, line, busy)) {
                return WHY_REST;
            }
            if (breaksRow(busy)) {
                return WHY_ROW;
            }
            return breaksWeek(duties, line) ? WHY_WEEK : 0;
        }

        private boolean breaksDays(Duties duties, int line) {
            int busy = 0;
            for (int d = 0; d < duties.size; d++) {
                if (isIn(d, line)) {
                    if ((busy & duties.spans[d]) != 0) {
                        return true;
                    }
                    busy |= duties.spans[d];
                }
            }
            return false;
        }

        /** As no DAY has two DUTIES here, a busy DAY in a REST is one of a DUTY that begins too early. */
        private boolean breaksRest(Duties duties, int line, int busy) {
            for (int d = 0; d < duties.size; d++) {
                if (isIn(d, line)) {
                    int dayBehind = duties.first[d] + duties.days[d];
                    int free = ((1 << restBehind(duties, d)) - 1) << dayBehind;
                    if ((busy & free) != 0) {
                        return true;
                    }
                }
            }
            return false;
        }

        private int restBehind(Duties duties, int duty) {
            int behindNight = isIn(duty, duties.nights) ? values[RULE_NIGHT] : 0;
            int behindLong = duties.days[duty] >= LONG_DAYS ? values[RULE_LONG] : 0;
            return Math.max(behindNight, behindLong);
        }

        private boolean breaksRow(int busy) {
            int row = 0;
            for (int day = 0; day < DAYS; day++) {
                row = isIn(day, busy) ? row + 1 : 0;
                if (row > values[RULE_ROW]) {
                    return true;
                }
            }
            return false;
        }

        /** No 7 DAYS have more HOURS than some that begin with a DUTY, so only those are looked at. */
        private boolean breaksWeek(Duties duties, int line) {
            for (int d = 0; d < duties.size; d++) {
                if (isIn(d, line)) {
                    int day = duties.first[d];
                    int inWeek = line & duties.beginning(day, day + WEEK_DAYS);
                    if (duties.hoursOf(inWeek) > values[RULE_WEEK]) {
                        return true;
                    }
                }
            }
            return false;
        }
    }

    /** One of PEOPLE: what it can and wishes, and what it was given. */
    private static final class Person {
        private final int[] kinds = new int[MOST_WISHES];
        private final int[] values = new int[MOST_WISHES];
        private int wishes;
        private int skills;
        private int most;
        private int left;
        private int held;
        private boolean ill;

        int enterWish(int kind, int v) {
            int number = wishes;
            kinds[number] = kind;
            values[number] = v;
            wishes++;
            return number;
        }

        boolean hasWish(int wish) {
            return within(wish, 0, wishes - 1);
        }

        boolean hasSkills(Duties duties, int line) {
            return (duties.skillsOf(line) & ~skills) == 0;
        }

        boolean hasHours(Duties duties, int line) {
            return duties.hoursOf(line) <= most;
        }

        boolean isMet(Duties duties, int wish, int line) {
            int v = values[wish];
            switch (kinds[wish]) {
                case WANT:
                    return isIn(v, line);
                case NOT:
                    return !isIn(v, line);
                case FREE:
                    return !isIn(v, duties.daysOf(line));
                case NO_NIGHTS:
                    return (line & duties.nights) == 0;
                case HOURS_BELOW:
                    return duties.hoursOf(line) <= v;
                default:
                    return duties.hoursOf(line) >= v;
            }
        }

        /** WISHES met by bits, the first one's bit the highest: the greater score is BETTER by WISHES. */
        int score(Duties duties, int line) {
            int score = 0;
            for (int w = 0; w < wishes; w++) {
                score = (score << 1) | (isMet(duties, w, line) ? 1 : 0);
            }
            return score;
        }

        int wishesMet(Duties duties) {
            return Integer.bitCount(score(duties, held));
        }

        /** Whether the LINE it has is BETTER by WISHES alone than a new one. */
        boolean loses(Duties duties, int newLine) {
            return score(duties, held) > score(duties, newLine);
        }
    }

    /** PEOPLE by rank; a group of them is a set of their numbers by bits. */
    private static final class People {
        private final Person[] rank = new Person[MOST_PEOPLE];
        private int size;

        People() {
            // All are made here, so that no place is ever null.
            for (int p = 0; p < MOST_PEOPLE; p++) {
                rank[p] = new Person();
            }
        }

        int enter(int skills, int most) {
            int number = size;
            rank[number].skills = skills;
            rank[number].most = most;
            size++;
            return number;
        }

        boolean has(int person) {
            return within(person, 0, size - 1);
        }

        /** The group of those with number k and behind. */
        int from(int k) {
            return (1 << size) - (1 << k);
        }

        int allHeld() {
            int held = 0;
            for (int p = 0; p < size; p++) {
                held |= rank[p].held;
            }
            return held;
        }

        int allWishes() {
            int sum = 0;
            for (int p = 0; p < size; p++) {
                sum += rank[p].wishes;
            }
            return sum;
        }

        int allWishesMet(Duties duties) {
            int sum = 0;
            for (int p = 0; p < size; p++) {
                sum += rank[p].wishesMet(duties);
            }
            return sum;
        }
    }

    /** Which LINES are LEGAL for whom and what each group COVERS, reckoned once and kept until it may change. */
    private static final class Chart {
        private final Duties duties;
        private final Rules rules;
        private final People people;
        private final int[] legalFor = new int[MOST_LINES];
        private final int[] covers = new int[MOST_GROUPS * MOST_LINES];
        private int groupsKnown;
        private boolean stale = true;

        Chart(Duties duties, Rules rules, People people) {
            this.duties = duties;
            this.rules = rules;
            this.people = people;
        }

        void forget() {
            stale = true;
        }

        /** To be called ahead of the two looks below, whenever something may have been forgotten. */
        void refresh() {
            if (stale) {
                findLegal();
                // The row of the group of none holds 0 from the start and is never written.
                groupsKnown = 1;
                stale = false;
            }
        }

        boolean isLegal(int person, int line) {
            return ((legalFor[line] >> person) & 1) == 1;
        }

        int coverBy(int group, int set) {
            if (!isIn(group, groupsKnown)) {
                findCovers(group);
            }
            return covers[group * MOST_LINES + set];
        }

        private void findLegal() {
            legalFor[0] = people.from(0);
            for (int line = 1; line <= duties.all(); line++) {
                // What is LEGAL stays so with a DUTY less: who may not have the smaller LINE may not have this one.
                int candidates = legalFor[line & (line - 1)];
                boolean lost = candidates == 0 || rules.firstBroken(duties, line) != 0;
                legalFor[line] = lost ? 0 : able(candidates, line);
            }
        }

        private int able(int candidates, int line) {
            int found = 0;
            for (int p = 0; p < people.size; p++) {
                Person one = people.rank[p];
                if (isIn(p, candidates) && one.hasSkills(duties, line) && one.hasHours(duties, line)) {
                    found |= 1 << p;
                }
            }
            return found;
        }

        /** The group's last one alone first, then with each one ahead of it. */
        private void findCovers(int group) {
            for (int p = people.size - 1; p >= 0; p--) {
                int part = group & people.from(p);
                if (!isIn(part, groupsKnown)) {
                    fillCovers(part, p);
                    groupsKnown |= 1 << part;
                }
            }
        }

        private void fillCovers(int group, int firstOne) {
            int row = group * MOST_LINES;
            for (int set = 1; set <= duties.all(); set++) {
                int size = Integer.bitCount(set);
                int best = bestWithOneLess(row, set);
                // All can be given only if all but any one can.
                boolean whole = best == size - 1 && isCoveredWhole(group, firstOne, set);
                covers[row + set] = whole ? size : best;
            }
        }

        /** If not all DUTIES of a set can be given, its COVER is that of the set without one of them. */
        private int bestWithOneLess(int row, int set) {
            int best = 0;
            for (int d = 0; d < duties.size; d++) {
                if (isIn(d, set)) {
                    best = Math.max(best, covers[row + (set & ~(1 << d))]);
                }
            }
            return best;
        }

        private boolean isCoveredWhole(int group, int firstOne, int set) {
            int rowBehind = (group & ~(1 << firstOne)) * MOST_LINES;
            for (int rest = set; rest > 0; rest = (rest - 1) & set) {
                if (isLegal(firstOne, set & ~rest) && covers[rowBehind + rest] == Integer.bitCount(rest)) {
                    return true;
                }
            }
            return isLegal(firstOne, set);
        }
    }
}
