import java.util.ArrayList;
import java.util.Arrays;
import java.util.List;
import java.util.Map;
import java.util.Random;
import java.util.TreeMap;

/**
 * The sentences of the document's Terms, one after the other, each held against many small worlds. What a sentence
 * leans on (WHY, MEETS, COVER ..) is asked from the class itself, once its own sentence has been held against it.
 */
public final class SentenceTest {
    private static final int WORLDS = 400;
    private static final int NONE = -1, STATE = -3;

    private static final Map<String, Integer> looks = new TreeMap<>();
    private static int wrong = 0;

    public static void main(String[] args) {
        for (int seed = 0; seed < WORLDS; seed++) {
            World world = World.random(new Random(seed));
            Tables tables = new Tables(world);
            legal(world, tables);
            wishes(world, tables);
            better(world, tables);
            cover(world, tables);
            give(world, tables);
            denied(world, tables);
            ahead(world);
            swap(world, tables);
            sick(world, tables);
            toldNoMore(world);
        }
        demandLooks();
        System.out.println(wrong == 0 ? "all sentences hold" : wrong + " times a sentence does not hold");
        if (wrong != 0) {
            System.exit(1);
        }
    }

    private static void due(World world, String sentence, int got, int want) {
        looks.merge(sentence + (want == NONE || want == STATE ? " (refused)" : ""), 1, Integer::sum);
        if (got != want) {
            wrong++;
            if (wrong <= 5) {
                System.out.println(sentence + ": answered " + got + ", due is " + want + " in\n" + world);
            }
        }
    }

    /** A sentence that no world comes to would hold whatever the class answers. */
    private static void demandLooks() {
        String[] sentences = {"WHY 0", "WHY 1", "WHY 2", "WHY 3", "WHY 4", "WHY 5", "WHY 6", "kind 0", "kind 1",
            "kind 2", "kind 3", "kind 4", "kind 5", "BETTER 0", "BETTER 1", "BETTER 2", "DENIED 0", "DENIED 1",
            "DENIED 2", "DENIED 3", "SWAP 0", "SWAP 1", "SWAP not legal (refused)", "SICK called",
            "SICK called (refused)"};
        for (String sentence : sentences) {
            if (looks.getOrDefault(sentence, 0) < 50) {
                wrong++;
                System.out.println("too few worlds come to: " + sentence);
            }
        }
    }

    // ---- section 1

    private static void legal(World world, Tables tables) {
        for (int p = 0; p < world.people.length; p++) {
            int found = 0;
            for (int line = 0; line < world.size(); line++) {
                int want = world.firstBroken(p, line);
                due(world, "WHY " + want, tables.why[p][line], want);
                found += want == 0 ? 1 : 0;
            }
            due(world, "LINES", world.make().lines(p), found);
        }
    }

    // ---- section 2

    private static void wishes(World world, Tables tables) {
        for (int p = 0; p < world.people.length; p++) {
            for (int w = 0; w < world.wishes[p].length; w++) {
                for (int line = 0; line < world.size(); line++) {
                    due(world, "kind " + world.wishes[p][w][0], tables.meets[p][w][line], world.meets(p, w, line));
                }
            }
        }
    }

    private static void better(World world, Tables tables) {
        for (int p = 0; p < world.people.length; p++) {
            for (int a = 0; a < world.size(); a++) {
                RankRoster x = world.make();
                for (int b = 0; b < world.size(); b++) {
                    int want = tables.better(p, a, b);
                    due(world, "BETTER " + want, x.better(p, a, b), want);
                }
            }
        }
    }

    private static void cover(World world, Tables tables) {
        for (int k = 0; k <= world.people.length; k++) {
            for (int set = 0; set < world.size(); set++) {
                due(world, "COVER", tables.cover[k][set], tables.mostGiven(k, set, 0, new int[world.people.length]));
            }
        }
    }

    private static void give(World world, Tables tables) {
        RankRoster x = world.make();
        int open = x.give();
        int left = world.size() - 1;
        for (int p = 0; p < world.people.length; p++) {
            int got = x.line(p);
            due(world, "GIVE: out of what is left", got & ~left, 0);
            due(world, "GIVE: LEGAL, and COVER as told", tables.mayHave(p, left, got) ? 1 : 0, 1);
            for (int line = 0; line < world.size(); line++) {
                if (line != got && tables.mayHave(p, left, line)) {
                    due(world, "GIVE: the BEST", tables.better(p, got, line) > 0 ? 1 : 0, 1);
                }
            }
            left &= ~got;
        }
        due(world, "OPEN are those that none got", x.open(), left);
        due(world, "GIVE: how many are OPEN", open, Integer.bitCount(left));
        due(world, "GIVE: as many as COVER", world.duties.length - open, tables.cover[0][world.size() - 1]);
    }

    private static void denied(World world, Tables tables) {
        RankRoster x = world.make();
        x.give();
        int left = world.size() - 1;
        for (int p = 0; p < world.people.length; p++) {
            int got = x.line(p);
            for (int w = 0; w < world.wishes[p].length; w++) {
                int want = tables.denied(p, w, got, left);
                due(world, "DENIED " + want, x.denied(p, w), want);
            }
            left &= ~got;
        }
    }

    /** Had one been of another rank: the same world with people told in that order. */
    private static void ahead(World world) {
        RankRoster x = world.make();
        for (int p = 0; p < world.people.length; p++) {
            for (int r = 0; r < world.people.length; r++) {
                RankRoster other = world.withRank(p, r).make();
                other.give();
                due(world, "AHEAD", x.ahead(p, r), other.line(r));
            }
        }
        due(world, "AHEAD: nothing changes", x.count(4), 0);
    }

    // ---- section 3

    private static void swap(World world, Tables tables) {
        int people = world.people.length;
        for (int a = 0; a < people; a++) {
            for (int b = 0; b < people; b++) {
                for (int d = -1; d < world.duties.length; d++) {
                    for (int e = -1; e < world.duties.length; e++) {
                        if (a != b && (d != -1 || e != -1)) {
                            swapOne(world, tables, a, d, b, e);
                        }
                    }
                }
            }
        }
    }

    private static void swapOne(World world, Tables tables, int a, int d, int b, int e) {
        RankRoster x = world.make();
        x.give();
        int oldA = x.line(a);
        int oldB = x.line(b);
        int fromA = d == -1 ? 0 : 1 << d;
        int fromB = e == -1 ? 0 : 1 << e;
        int newA = oldA - fromA + fromB;
        int newB = oldB - fromB + fromA;
        if ((oldA & fromA) != fromA || (oldB & fromB) != fromB) {
            due(world, "SWAP not theirs", x.swap(a, d, b, e), STATE);
        } else if (tables.why[a][newA] != 0 || tables.why[b][newB] != 0) {
            due(world, "SWAP not legal", x.swap(a, d, b, e), STATE);
        } else {
            int fair = tables.better(a, oldA, newA) == 2 || tables.better(b, oldB, newB) == 2 ? 0 : 1;
            due(world, "SWAP " + fair, x.swap(a, d, b, e), fair);
            due(world, "SWAP: the one's line", x.line(a), newA);
            due(world, "SWAP: the other's line", x.line(b), newB);
            return;
        }
        due(world, "SWAP: not done", x.line(a), oldA);
        due(world, "SWAP: not done", x.line(b), oldB);
    }

    /** One falls sick behind the other, on all pairs and some days. */
    private static void sick(World world, Tables tables) {
        int people = world.people.length;
        for (int first = 0; first < people; first++) {
            for (int second = 0; second < people; second++) {
                for (int day = 0; day < 14; day += 3) {
                    RankRoster x = world.make();
                    x.give();
                    boolean[] ill = new boolean[people];
                    sickOne(world, tables, x, ill, first, day);
                    sickOne(world, tables, x, ill, second, 13 - day);
                }
            }
        }
    }

    private static void sickOne(World world, Tables tables, RankRoster x, boolean[] ill, int person, int day) {
        int people = world.people.length;
        int[] lines = new int[people];
        for (int p = 0; p < people; p++) {
            lines[p] = x.line(p);
        }
        if (ill[person]) {
            due(world, "SICK already", x.sick(person, day), STATE);
            return;
        }
        ill[person] = true;
        List<Integer> taken = new ArrayList<>();
        for (int d = 0; d < world.duties.length; d++) {
            if ((lines[person] >> d & 1) == 1 && world.duties[d][0] >= day) {
                taken.add(d);
            }
        }
        for (int d : taken) {
            lines[person] -= 1 << d;
        }
        due(world, "SICK: so many were taken", x.sick(person, day), taken.size());
        for (int d : taken) {
            int called = NONE;
            for (int p = 0; p < people; p++) {
                if (!ill[p] && tables.why[p][lines[p] | 1 << d] == 0
                        && (called == NONE || world.hours(lines[p]) < world.hours(lines[called]))) {
                    called = p;
                }
            }
            if (called != NONE) {
                lines[called] |= 1 << d;
            }
            due(world, "SICK called", x.who(d), called);
        }
        for (int p = 0; p < people; p++) {
            due(world, "SICK: lines", x.line(p), lines[p]);
            due(world, "SICK or not", x.about(p, 4), ill[p] ? 1 : 0);
        }
    }

    private static void toldNoMore(World world) {
        for (int call = 0; call < 4; call++) {
            RankRoster x = world.make();
            x.give();
            due(world, "GIVEN", x.count(4), 1);
            int answer = call == 0 ? x.duty(0, 1, 1, 0, 0) : call == 1 ? x.person(1, 1)
                : call == 2 ? x.rule(0, 0) : x.wish(0, 3, 0);
            due(world, "GIVEN is told no more", x.count(4), answer < 0 ? 1 : 0);
            due(world, "GIVEN is told no more", x.open() == STATE ? 1 : 0, answer < 0 ? 0 : 1);
        }
    }

    /** What a world is told by calls, and what the document says of it in so many words. */
    private static final class World {
        final int[][] duties;
        final int[][] people;
        final int[] rules;
        final int[][][] wishes;

        World(int[][] duties, int[][] people, int[] rules, int[][][] wishes) {
            this.duties = duties;
            this.people = people;
            this.rules = rules;
            this.wishes = wishes;
        }

        /** Few duties and people, close together, so that all sentences are come to. */
        static World random(Random r) {
            int[][] duties = new int[1 + r.nextInt(5)][];
            for (int d = 0; d < duties.length; d++) {
                duties[d] = new int[] {r.nextInt(11), 1 + r.nextInt(3), 1 + r.nextInt(30), r.nextInt(2), r.nextInt(2)};
            }
            int[][] people = new int[1 + r.nextInt(4)][];
            int[][][] wishes = new int[people.length][][];
            for (int p = 0; p < people.length; p++) {
                people[p] = new int[] {r.nextInt(4) == 0 ? r.nextInt(4) : 3, 20 + r.nextInt(60)};
                wishes[p] = new int[r.nextInt(6)][];
                for (int w = 0; w < wishes[p].length; w++) {
                    int kind = r.nextInt(6);
                    int[] v = {r.nextInt(duties.length), r.nextInt(duties.length), r.nextInt(14), 0, r.nextInt(50),
                        r.nextInt(50)};
                    wishes[p][w] = new int[] {kind, v[kind]};
                }
            }
            int[] rules = {r.nextInt(4), r.nextInt(4), 1 + r.nextInt(r.nextBoolean() ? 6 : 14), 20 + r.nextInt(60)};
            return new World(duties, people, rules, wishes);
        }

        RankRoster make() {
            RankRoster x = new RankRoster();
            for (int[] d : duties) {
                x.duty(d[0], d[1], d[2], d[3], d[4]);
            }
            for (int which = 0; which < 4; which++) {
                x.rule(which, rules[which]);
            }
            for (int p = 0; p < people.length; p++) {
                x.person(people[p][0], people[p][1]);
                for (int[] w : wishes[p]) {
                    x.wish(p, w[0], w[1]);
                }
            }
            return x;
        }

        World withRank(int person, int rank) {
            List<Integer> order = new ArrayList<>();
            for (int p = 0; p < people.length; p++) {
                if (p != person) {
                    order.add(p);
                }
            }
            order.add(rank, person);
            int[][] otherPeople = new int[people.length][];
            int[][][] otherWishes = new int[people.length][][];
            for (int p = 0; p < people.length; p++) {
                otherPeople[p] = people[order.get(p)];
                otherWishes[p] = wishes[order.get(p)];
            }
            return new World(duties, otherPeople, rules, otherWishes);
        }

        int size() {
            return 1 << duties.length;
        }

        int hours(int line) {
            int sum = 0;
            for (int d = 0; d < duties.length; d++) {
                sum += (line >> d & 1) * duties[d][2];
            }
            return sum;
        }

        /** Which duty of a line is on each day: -1 none, -2 several. */
        int[] dutyOnDays(int line) {
            int[] on = new int[14];
            Arrays.fill(on, -1);
            for (int d = 0; d < duties.length; d++) {
                for (int day = duties[d][0]; (line >> d & 1) == 1 && day < duties[d][0] + duties[d][1]; day++) {
                    on[day] = on[day] == -1 ? d : -2;
                }
            }
            return on;
        }

        int firstBroken(int p, int line) {
            int[] on = dutyOnDays(line);
            for (int d = 0; d < duties.length; d++) {
                if ((line >> d & 1) == 1 && (people[p][0] >> duties[d][3] & 1) == 0) {
                    return 1;
                }
            }
            for (int duty : on) {
                if (duty == -2) {
                    return 2;
                }
            }
            if (lacksRest(on)) {
                return 3;
            }
            int row = 0;
            for (int duty : on) {
                row = duty == -1 ? 0 : row + 1;
                if (row > rules[2]) {
                    return 4;
                }
            }
            for (int from = 0; from < 14; from++) {
                int week = 0;
                for (int d = 0; d < duties.length; d++) {
                    boolean inWeek = duties[d][0] >= from && duties[d][0] < from + 7;
                    week += (line >> d & 1) == 1 && inWeek ? duties[d][2] : 0;
                }
                if (week > rules[3]) {
                    return 5;
                }
            }
            return hours(line) > people[p][1] ? 6 : 0;
        }

        /** Day by day: who had a duty that wants rest must have been free for so many days when the next begins. */
        boolean lacksRest(int[] on) {
            int last = -1;
            int free = 0;
            for (int duty : on) {
                if (duty == -1) {
                    free++;
                    continue;
                }
                if (last != -1 && duty != last && free < restBehind(last)) {
                    return true;
                }
                last = duty;
                free = 0;
            }
            return false;
        }

        int restBehind(int d) {
            int rest = 0;
            if (duties[d][4] == 1) {
                rest = rules[0];
            }
            if (duties[d][1] >= 2) {
                rest = Math.max(rest, rules[1]);
            }
            return rest;
        }

        int meets(int p, int w, int line) {
            int v = wishes[p][w][1];
            boolean met;
            switch (wishes[p][w][0]) {
                case 0: met = (line >> v & 1) == 1; break;
                case 1: met = (line >> v & 1) == 0; break;
                case 2: met = dutyOnDays(line)[v] == -1; break;
                case 3: met = true;
                    for (int d = 0; d < duties.length; d++) {
                        met &= (line >> d & 1) == 0 || duties[d][4] == 0;
                    }
                    break;
                case 4: met = hours(line) <= v; break;
                default: met = hours(line) >= v;
            }
            return met ? 1 : 0;
        }

        @Override
        public String toString() {
            return "duties " + Arrays.deepToString(duties) + ", people " + Arrays.deepToString(people) + ", rules "
                + Arrays.toString(rules) + ", wishes " + Arrays.deepToString(wishes);
        }
    }

    /** What the class answers to all that can be looked at, and what the document's words make of it. */
    private static final class Tables {
        final World world;
        final int[][] why;
        final int[][][] meets;
        final int[][] cover;

        Tables(World world) {
            this.world = world;
            int people = world.people.length;
            why = new int[people][world.size()];
            meets = new int[people][][];
            cover = new int[people + 1][world.size()];
            for (int p = 0; p <= people; p++) {
                RankRoster x = world.make();
                for (int set = 0; set < world.size(); set++) {
                    cover[p][set] = x.cover(set, p);
                }
                if (p < people) {
                    meets[p] = new int[world.wishes[p].length][world.size()];
                    fill(p, world.make());
                }
            }
        }

        private void fill(int p, RankRoster x) {
            for (int line = 0; line < world.size(); line++) {
                why[p][line] = x.why(p, line);
                for (int w = 0; w < meets[p].length; w++) {
                    meets[p][w][line] = x.meets(p, w, line);
                }
            }
        }

        int better(int p, int a, int b) {
            for (int[] met : meets[p]) {
                if (met[a] != met[b]) {
                    return met[a] == 1 ? 2 : 0;
                }
            }
            for (int d = 0; d < world.duties.length; d++) {
                if ((a >> d & 1) != (b >> d & 1)) {
                    return a >> d & 1;
                }
            }
            return 0;
        }

        /** Each duty of the set, from d on, to each one from k on, or to none. */
        int mostGiven(int k, int set, int d, int[] lines) {
            if (d == world.duties.length) {
                int sum = 0;
                for (int p = 0; p < lines.length; p++) {
                    if (why[p][lines[p]] != 0) {
                        return -1;
                    }
                    sum += Integer.bitCount(lines[p]);
                }
                return sum;
            }
            int most = mostGiven(k, set, d + 1, lines);
            for (int p = k; p < lines.length && (set >> d & 1) == 1; p++) {
                lines[p] |= 1 << d;
                most = Math.max(most, mostGiven(k, set, d + 1, lines));
                lines[p] &= ~(1 << d);
            }
            return most;
        }

        boolean mayHave(int p, int left, int line) {
            return (line & ~left) == 0 && why[p][line] == 0
                && Integer.bitCount(line) + cover[p + 1][left & ~line] >= cover[p][left];
        }

        int denied(int p, int w, int got, int left) {
            if (meets[p][w][got] == 1) {
                return 0;
            }
            int reached = 1;
            for (int line = 0; line < world.size(); line++) {
                boolean meetsAll = why[p][line] == 0 && meets[p][w][line] == 1;
                for (int ahead = 0; ahead < w; ahead++) {
                    meetsAll &= meets[p][ahead][got] == 0 || meets[p][ahead][line] == 1;
                }
                if (meetsAll) {
                    reached = Math.max(reached, mayHave(p, left, line) ? 4 : (line & ~left) == 0 ? 3 : 2);
                }
            }
            return reached;
        }
    }
}
