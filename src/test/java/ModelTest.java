import java.util.ArrayList;
import java.util.HashMap;
import java.util.List;
import java.util.Map;
import java.util.Random;

/** Random runs on RankRoster and on a slow second writing of the document; every answer is compared. */
public final class ModelTest {
    private static final int RUNS = 3000;
    private static final int[] ODD = {-2147483648, -1000, -3, -2, -1, 0, 1, 2, 3, 4, 5, 6, 9, 13, 14, 15, 16, 40, 41,
        200, 201, 511, 512, 1 << 30, 2147483647};
    /** How often each call comes behind the first ones, by the numbers of Model.NAMES. */
    private static final int[] LATE_CALLS = {1, 1, 1, 1, 3, 2, 1, 3, 3, 4, 2, 4, 2, 6, 4, 8, 4, 2, 2};

    private static int wrong = 0;
    private static final Map<String, Integer> seen = new HashMap<>();

    public static void main(String[] args) {
        for (int seed = 0; seed < RUNS; seed++) {
            run(seed);
        }
        demandVariety();
        System.out.println(wrong == 0 ? "all answers are as due" : wrong + " answers are not as due");
        if (wrong != 0) {
            System.exit(1);
        }
    }

    /** A generator that no longer reaches an answer would make this test blind for it. */
    private static void demandVariety() {
        String[] wanted = {"duty -1", "duty -2", "duty -4", "person -2", "person -4", "rule -1", "rule -2", "wish -1",
            "wish -2", "wish -4", "why -1", "why -2", "why 0", "why 1", "why 2", "why 3", "why 4", "why 5", "why 6",
            "meets -1", "meets -2", "meets 0", "meets 1", "lines -1", "cover -1", "cover -2", "cover 9", "better -1",
            "better -2", "better 0", "better 1", "better 2", "give 0", "give 9", "line -1", "line -3", "about -1",
            "about -3", "open -3", "denied -1", "denied -3", "denied 0", "denied 1", "denied 2", "denied 3",
            "ahead -1", "swap -1", "swap -2", "swap -3", "swap 0", "swap 1", "sick -1", "sick -3", "sick 0", "sick 3",
            "who -1", "who -3", "who 3", "count -1", "count -3"};
        for (String w : wanted) {
            if (seen.getOrDefault(w, 0) < 10) {
                wrong++;
                System.out.println("too few runs reach: " + w);
            }
        }
    }

    private static void run(int seed) {
        Random random = new Random(seed);
        RankRoster real = new RankRoster();
        Model model = new Model();
        StringBuilder told = new StringBuilder();
        int calls = 20 + random.nextInt(150);
        int setup = random.nextInt(30);
        boolean loose = random.nextBoolean();
        for (int i = 0; i < calls; i++) {
            int call = i < setup ? setupCall(random) : lateCall(random);
            int[] a = arguments(random, call, model, loose);
            int due = model.call(call, a);
            int got = answer(real, call, a);
            told.append(Model.NAMES[call]).append(java.util.Arrays.toString(a)).append(" = ").append(got).append('\n');
            seen.merge(Model.NAMES[call] + " " + due, 1, Integer::sum);
            if (got != due) {
                wrong++;
                if (wrong <= 3) {
                    System.out.println("seed " + seed + ":\n" + told + "due is " + due);
                }
                return;
            }
        }
    }

    private static int setupCall(Random random) {
        int[] calls = {0, 0, 0, 1, 1, 2, 3, 3, 3};
        return calls[random.nextInt(calls.length)];
    }

    private static int lateCall(Random random) {
        int sum = 0;
        for (int weight : LATE_CALLS) {
            sum += weight;
        }
        int at = random.nextInt(sum);
        int call = 0;
        while (at >= LATE_CALLS[call]) {
            at -= LATE_CALLS[call];
            call++;
        }
        // Changes end what was given: they are rare here, so that much is asked about one giving.
        return call <= 3 && random.nextInt(4) != 0 ? 9 + random.nextInt(10) : call;
    }

    private static int[] arguments(Random r, int call, Model m, boolean loose) {
        int[] a = fitting(r, call, m, loose);
        if (a.length > 0 && r.nextInt(12) == 0) {
            a[r.nextInt(a.length)] = ODD[r.nextInt(ODD.length)];
        }
        return a;
    }

    private static int[] fitting(Random r, int call, Model m, boolean loose) {
        int person = r.nextInt(Math.max(1, m.people.size()));
        int other = r.nextInt(Math.max(1, m.people.size()));
        int duty = r.nextInt(Math.max(1, m.duties.size()));
        int size = 1 << m.duties.size();
        int wish = r.nextInt(m.people.isEmpty() ? 1 : Math.max(1, m.people.get(person).wishes.size()));
        switch (call) {
            case 0:
                return new int[] {r.nextInt(12), 1 + r.nextInt(loose ? 2 : 3), 1 + r.nextInt(loose ? 12 : 40),
                    r.nextInt(loose ? 2 : 4), r.nextInt(2)};
            case 1:
                return new int[] {r.nextInt(16) | (loose ? 3 : 0), r.nextInt(3) == 0 ? r.nextInt(201) : 30 + r.nextInt(60)};
            case 2: {
                int which = r.nextInt(4);
                int[] least = {0, 0, 1, 0};
                int[] most = {3, 3, 14, 200};
                return new int[] {which, least[which] + r.nextInt(most[which] - least[which] + 1)};
            }
            case 3: {
                int kind = r.nextInt(6);
                int[] v = {duty, duty, r.nextInt(14), 0, r.nextInt(60), r.nextInt(60)};
                return new int[] {person, kind, v[kind]};
            }
            case 4:
                return new int[] {person, r.nextInt(size)};
            case 5:
                return new int[] {person, wish, r.nextInt(size)};
            case 6:
                return new int[] {person};
            case 7:
                return new int[] {r.nextInt(3) == 0 ? size - 1 : r.nextInt(size), r.nextInt(m.people.size() + 1)};
            case 8: {
                int b = r.nextInt(size);
                return new int[] {person, r.nextInt(3) == 0 ? b ^ (1 << duty) & (size - 1) : r.nextInt(size), b};
            }
            case 9:
            case 12:
                return new int[0];
            case 10:
                return new int[] {person};
            case 11:
                return new int[] {person, r.nextInt(5)};
            case 13:
                return new int[] {person, wish};
            case 14:
                return new int[] {person, other};
            case 15:
                return new int[] {person, ownDuty(r, m, person), other, ownDuty(r, m, other)};
            case 16:
                return new int[] {person, r.nextInt(r.nextBoolean() ? 14 : 4)};
            case 17:
                return new int[] {duty};
            default:
                return new int[] {r.nextInt(5)};
        }
    }

    private static int ownDuty(Random r, Model m, int person) {
        if (person >= m.people.size() || r.nextInt(3) == 0) {
            return -1;
        }
        int line = m.people.get(person).line;
        if (line == 0 || r.nextInt(8) == 0) {
            return r.nextInt(Math.max(1, m.duties.size()));
        }
        while (true) {
            int d = r.nextInt(9);
            if ((line >> d & 1) == 1) {
                return d;
            }
        }
    }

    private static int answer(RankRoster x, int call, int[] a) {
        switch (call) {
            case 0: return x.duty(a[0], a[1], a[2], a[3], a[4]);
            case 1: return x.person(a[0], a[1]);
            case 2: return x.rule(a[0], a[1]);
            case 3: return x.wish(a[0], a[1], a[2]);
            case 4: return x.why(a[0], a[1]);
            case 5: return x.meets(a[0], a[1], a[2]);
            case 6: return x.lines(a[0]);
            case 7: return x.cover(a[0], a[1]);
            case 8: return x.better(a[0], a[1], a[2]);
            case 9: return x.give();
            case 10: return x.line(a[0]);
            case 11: return x.about(a[0], a[1]);
            case 12: return x.open();
            case 13: return x.denied(a[0], a[1]);
            case 14: return x.ahead(a[0], a[1]);
            case 15: return x.swap(a[0], a[1], a[2], a[3]);
            case 16: return x.sick(a[0], a[1]);
            case 17: return x.who(a[0]);
            default: return x.count(a[0]);
        }
    }

    static final class Duty {
        int day, days, hours, skill, night;
    }

    static final class Somebody {
        int skills, most, line, leftThen;
        boolean sick;
        List<int[]> wishes = new ArrayList<>();
    }

    /** The document's words, one after the other, without any thought of speed. */
    static final class Model {
        static final String[] NAMES = {"duty", "person", "rule", "wish", "why", "meets", "lines", "cover", "better",
            "give", "line", "about", "open", "denied", "ahead", "swap", "sick", "who", "count"};
        static final int NONE = -1, BAD = -2, STATE = -3, FULL = -4;

        final List<Duty> duties = new ArrayList<>();
        final List<Somebody> people = new ArrayList<>();
        int restNight = 1, restLong = 1, row = 5, week = 60;
        boolean given, fresh;
        final Map<Integer, Integer> whyMemo = new HashMap<>();
        final Map<String, Integer> coverMemo = new HashMap<>();

        int call(int call, int[] a) {
            switch (call) {
                case 0: return duty(a[0], a[1], a[2], a[3], a[4]);
                case 1: return person(a[0], a[1]);
                case 2: return rule(a[0], a[1]);
                case 3: return wish(a[0], a[1], a[2]);
                case 4: return !isPerson(a[0]) ? NONE : !isLine(a[1]) ? BAD : why(a[0], a[1]);
                case 5: return !isWish(a[0], a[1]) ? NONE : !isLine(a[2]) ? BAD : meets(a[0], a[1], a[2]) ? 1 : 0;
                case 6: return lines(a[0]);
                case 7: return a[1] < 0 || a[1] > people.size() ? NONE : !isLine(a[0]) ? BAD : cover(a[0], from(a[1]));
                case 8: return !isPerson(a[0]) ? NONE : !isLine(a[1]) || !isLine(a[2]) ? BAD : better(a[0], a[1], a[2]);
                case 9: return give();
                case 10: return !isPerson(a[0]) ? NONE : !given ? STATE : people.get(a[0]).line;
                case 11: return about(a[0], a[1]);
                case 12: return given ? open() : STATE;
                case 13: return denied(a[0], a[1]);
                case 14: return ahead(a[0], a[1]);
                case 15: return swap(a[0], a[1], a[2], a[3]);
                case 16: return sick(a[0], a[1]);
                case 17: return !isDuty(a[0]) ? NONE : !given ? STATE : holder(a[0]);
                default: return count(a[0]);
            }
        }

        boolean isDuty(int d) { return d >= 0 && d < duties.size(); }
        boolean isPerson(int p) { return p >= 0 && p < people.size(); }
        boolean isWish(int p, int w) { return isPerson(p) && w >= 0 && w < people.get(p).wishes.size(); }
        boolean isLine(int line) { return line >= 0 && line < 1 << duties.size(); }

        void changed() {
            given = false;
            whyMemo.clear();
            coverMemo.clear();
        }

        int duty(int day, int days, int hours, int skill, int night) {
            if (days < 1 || days > 3 || hours < 1 || hours > 40 || night < 0 || night > 1) { return BAD; }
            if (day < 0 || day > 13 || day + days - 1 > 13 || skill < 0 || skill > 3) { return NONE; }
            if (duties.size() == 9) { return FULL; }
            Duty d = new Duty();
            d.day = day; d.days = days; d.hours = hours; d.skill = skill; d.night = night;
            duties.add(d);
            changed();
            return duties.size() - 1;
        }

        int person(int skills, int most) {
            if (skills < 0 || skills > 15 || most < 0 || most > 200) { return BAD; }
            if (people.size() == 4) { return FULL; }
            Somebody s = new Somebody();
            s.skills = skills; s.most = most;
            people.add(s);
            changed();
            return people.size() - 1;
        }

        int rule(int which, int v) {
            int old;
            switch (which) {
                case 0: if (v < 0 || v > 3) { return BAD; } old = restNight; restNight = v; break;
                case 1: if (v < 0 || v > 3) { return BAD; } old = restLong; restLong = v; break;
                case 2: if (v < 1 || v > 14) { return BAD; } old = row; row = v; break;
                case 3: if (v < 0 || v > 200) { return BAD; } old = week; week = v; break;
                default: return NONE;
            }
            changed();
            return old;
        }

        int wish(int p, int kind, int v) {
            if (!isPerson(p) || kind < 0 || kind > 5) { return NONE; }
            if (kind <= 1 && !isDuty(v)) { return NONE; }
            if (kind == 2 && (v < 0 || v > 13)) { return NONE; }
            if (kind == 3 && v != 0) { return BAD; }
            if (kind >= 4 && (v < 0 || v > 200)) { return BAD; }
            if (people.get(p).wishes.size() == 5) { return FULL; }
            people.get(p).wishes.add(new int[] {kind, v});
            changed();
            return people.get(p).wishes.size() - 1;
        }

        List<Integer> members(int line) {
            List<Integer> found = new ArrayList<>();
            for (int d = 0; d < duties.size(); d++) {
                if ((line & 1 << d) != 0) { found.add(d); }
            }
            return found;
        }

        int hours(int line) {
            int sum = 0;
            for (int d : members(line)) { sum += duties.get(d).hours; }
            return sum;
        }

        int[] dutiesOnDays(int line) {
            int[] n = new int[14];
            for (int d : members(line)) {
                for (int i = 0; i < duties.get(d).days; i++) { n[duties.get(d).day + i]++; }
            }
            return n;
        }

        boolean legal(int p, int line) { return why(p, line) == 0; }

        int why(int p, int line) {
            Integer known = whyMemo.get(p * 512 + line);
            if (known == null) {
                known = reckonWhy(p, line);
                whyMemo.put(p * 512 + line, known);
            }
            return known;
        }

        int reckonWhy(int p, int line) {
            List<Integer> in = members(line);
            for (int d : in) {
                if ((people.get(p).skills & 1 << duties.get(d).skill) == 0) { return 1; }
            }
            int[] n = dutiesOnDays(line);
            for (int day = 0; day < 14; day++) {
                if (n[day] > 1) { return 2; }
            }
            in.sort((x, y) -> duties.get(x).day - duties.get(y).day);
            for (int i = 0; i + 1 < in.size(); i++) {
                Duty d = duties.get(in.get(i));
                int rest = 0;
                if (d.night == 1) { rest = restNight; }
                if (d.days >= 2 && restLong > rest) { rest = restLong; }
                int last = d.day + d.days - 1;
                if (duties.get(in.get(i + 1)).day - last - 1 < rest) { return 3; }
            }
            for (int day = 0; day < 14; day++) {
                int behind = 0;
                while (day + behind < 14 && n[day + behind] > 0) { behind++; }
                if (behind > row) { return 4; }
            }
            for (int start = 0; start <= 7; start++) {
                int sum = 0;
                for (int d : in) {
                    if (duties.get(d).day >= start && duties.get(d).day <= start + 6) { sum += duties.get(d).hours; }
                }
                if (sum > week) { return 5; }
            }
            return hours(line) > people.get(p).most ? 6 : 0;
        }

        boolean meets(int p, int w, int line) {
            int kind = people.get(p).wishes.get(w)[0];
            int v = people.get(p).wishes.get(w)[1];
            switch (kind) {
                case 0: return members(line).contains(v);
                case 1: return !members(line).contains(v);
                case 2: return dutiesOnDays(line)[v] == 0;
                case 3:
                    for (int d : members(line)) {
                        if (duties.get(d).night == 1) { return false; }
                    }
                    return true;
                case 4: return hours(line) <= v;
                default: return hours(line) >= v;
            }
        }

        int lines(int p) {
            if (!isPerson(p)) { return NONE; }
            int n = 0;
            for (int line = 0; line < 1 << duties.size(); line++) {
                if (legal(p, line)) { n++; }
            }
            return n;
        }

        List<Integer> from(int k) {
            List<Integer> found = new ArrayList<>();
            for (int p = k; p < people.size(); p++) { found.add(p); }
            return found;
        }

        int cover(int set, List<Integer> who) {
            if (who.isEmpty()) { return 0; }
            String key = who + ":" + set;
            Integer known = coverMemo.get(key);
            if (known != null) { return known; }
            List<Integer> behind = who.subList(1, who.size());
            int best = 0;
            for (int line = 0; line <= set; line++) {
                if ((line & set) == line && legal(who.get(0), line)) {
                    best = Math.max(best, Integer.bitCount(line) + cover(set - line, behind));
                }
            }
            coverMemo.put(key, best);
            return best;
        }

        /** 1: a by WISHES, -1: b by WISHES, 0: neither. */
        int byWishes(int p, int a, int b) {
            for (int w = 0; w < people.get(p).wishes.size(); w++) {
                boolean ma = meets(p, w, a);
                boolean mb = meets(p, w, b);
                if (ma != mb) { return ma ? 1 : -1; }
            }
            return 0;
        }

        int better(int p, int a, int b) {
            int by = byWishes(p, a, b);
            if (by != 0) { return by > 0 ? 2 : 0; }
            for (int d = 0; d < duties.size(); d++) {
                boolean ha = (a & 1 << d) != 0;
                boolean hb = (b & 1 << d) != 0;
                if (ha != hb) { return ha ? 1 : 0; }
            }
            return 0;
        }

        List<Integer> allowed(int p, int left, List<Integer> behind) {
            List<Integer> both = new ArrayList<>();
            both.add(p);
            both.addAll(behind);
            int due = cover(left, both);
            List<Integer> found = new ArrayList<>();
            for (int line = 0; line <= left; line++) {
                if ((line & left) == line && legal(p, line)
                        && Integer.bitCount(line) + cover(left - line, behind) >= due) {
                    found.add(line);
                }
            }
            return found;
        }

        int best(int p, int left, List<Integer> behind) {
            List<Integer> among = allowed(p, left, behind);
            for (int one : among) {
                boolean beaten = false;
                for (int other : among) { beaten |= better(p, other, one) > 0; }
                if (!beaten) { return one; }
            }
            return -999;
        }

        int give() {
            int left = (1 << duties.size()) - 1;
            for (int p = 0; p < people.size(); p++) {
                Somebody s = people.get(p);
                s.leftThen = left;
                s.line = best(p, left, from(p + 1));
                s.sick = false;
                left -= s.line;
            }
            given = true;
            fresh = true;
            return Integer.bitCount(left);
        }

        int open() {
            int left = 0;
            for (int d = 0; d < duties.size(); d++) {
                if (holder(d) == NONE) { left += 1 << d; }
            }
            return left;
        }

        int holder(int d) {
            for (int p = 0; p < people.size(); p++) {
                if ((people.get(p).line & 1 << d) != 0) { return p; }
            }
            return NONE;
        }

        int metOf(int p) {
            int n = 0;
            for (int w = 0; w < people.get(p).wishes.size(); w++) {
                if (meets(p, w, people.get(p).line)) { n++; }
            }
            return n;
        }

        int about(int p, int what) {
            if (!isPerson(p) || what < 0 || what > 4) { return NONE; }
            if (!given) { return STATE; }
            Somebody s = people.get(p);
            if (what == 0) { return hours(s.line); }
            if (what == 1) { return members(s.line).size(); }
            if (what == 3) { return metOf(p); }
            if (what == 4) { return s.sick ? 1 : 0; }
            int n = 0;
            for (int k : dutiesOnDays(s.line)) {
                if (k > 0) { n++; }
            }
            return n;
        }

        boolean meetsAsFar(int p, int w, int line) {
            for (int v = 0; v < w; v++) {
                if (meets(p, v, people.get(p).line) && !meets(p, v, line)) { return false; }
            }
            return meets(p, w, line);
        }

        int denied(int p, int w) {
            if (!isWish(p, w)) { return NONE; }
            if (!given || !fresh) { return STATE; }
            Somebody s = people.get(p);
            if (meets(p, w, s.line)) { return 0; }
            boolean any = false, ofLeft = false, ofAllowed = false;
            List<Integer> allowed = allowed(p, s.leftThen, from(p + 1));
            for (int line = 0; line < 1 << duties.size(); line++) {
                if (legal(p, line) && meetsAsFar(p, w, line)) {
                    any = true;
                    ofLeft |= (line & s.leftThen) == line;
                    ofAllowed |= allowed.contains(line);
                }
            }
            return !any ? 1 : !ofLeft ? 2 : !ofAllowed ? 3 : -999;
        }

        int ahead(int p, int r) {
            if (!isPerson(p) || !isPerson(r)) { return NONE; }
            List<Integer> order = from(0);
            order.remove(Integer.valueOf(p));
            order.add(r, p);
            int left = (1 << duties.size()) - 1;
            int found = -999;
            for (int i = 0; i < order.size(); i++) {
                int line = best(order.get(i), left, new ArrayList<>(order.subList(i + 1, order.size())));
                if (order.get(i) == p) { found = line; }
                left -= line;
            }
            return found;
        }

        int swap(int a, int d, int b, int e) {
            if (!isPerson(a) || !isPerson(b) || d != -1 && !isDuty(d) || e != -1 && !isDuty(e)) { return NONE; }
            if (a == b || d == -1 && e == -1) { return BAD; }
            if (!given) { return STATE; }
            Somebody s = people.get(a);
            Somebody t = people.get(b);
            int sLine = s.line;
            int tLine = t.line;
            if (d != -1) {
                if (holder(d) != a) { return STATE; }
                sLine -= 1 << d;
                tLine += 1 << d;
            }
            if (e != -1) {
                if (holder(e) != b) { return STATE; }
                tLine -= 1 << e;
                sLine += 1 << e;
            }
            if (!legal(a, sLine) || !legal(b, tLine)) { return STATE; }
            boolean fair = byWishes(a, s.line, sLine) <= 0 && byWishes(b, t.line, tLine) <= 0;
            s.line = sLine;
            t.line = tLine;
            fresh = false;
            return fair ? 1 : 0;
        }

        int sick(int p, int day) {
            if (!isPerson(p) || day < 0 || day > 13) { return NONE; }
            if (!given || people.get(p).sick) { return STATE; }
            people.get(p).sick = true;
            fresh = false;
            List<Integer> taken = new ArrayList<>();
            for (int d : members(people.get(p).line)) {
                if (duties.get(d).day >= day) {
                    taken.add(d);
                    people.get(p).line -= 1 << d;
                }
            }
            for (int d : taken) {
                int best = -1;
                for (int q = people.size() - 1; q >= 0; q--) {
                    Somebody s = people.get(q);
                    if (!s.sick && legal(q, s.line + (1 << d))
                            && (best == -1 || hours(s.line) <= hours(people.get(best).line))) {
                        best = q;
                    }
                }
                if (best != -1) { people.get(best).line += 1 << d; }
            }
            return taken.size();
        }

        int count(int what) {
            int wishes = 0, met = 0;
            for (int p = 0; p < people.size(); p++) {
                wishes += people.get(p).wishes.size();
                met += given ? metOf(p) : 0;
            }
            switch (what) {
                case 0: return duties.size();
                case 1: return people.size();
                case 2: return wishes;
                case 3: return given ? met : STATE;
                case 4: return given ? 1 : 0;
                default: return NONE;
            }
        }
    }
}
