import java.util.ArrayList;
import java.util.List;
import java.util.Random;

/** Drawn runs of calls, each answered by the class and by a slow model made straight from the document's words. */
public final class AgainstPlainTest {
    private static final int RUNS = 3000;
    private static final int CALLS = 160;
    private static final String[] NAMES = {"letter", "town", "sort", "rule", "remembered", "penny", "week", "next",
        "goes", "worth", "after", "mean", "swing", "good", "again", "gains", "rests", "rest", "best", "off", "pennies",
        "chairs", "sees", "which", "longer", "seeds", "row", "judge", "image", "on", "count"};
    private static final int[] EDGES = {Integer.MIN_VALUE, -61, -2, -1, 0, 1, 2, 3, 4, 5, 6, 7, 8, 9, 10, 11, 12, 13,
        16, 17, 20, 21, 40, 41, 60, 61, 99, 100, 255, 256, Integer.MAX_VALUE};

    private static final Random draw = new Random(20261118L);

    private static int ask(GoodHalfEmpty x, String name, int[] a) {
        switch (name) {
            case "letter": return x.letter(a[0]);
            case "town": return x.town();
            case "sort": return x.sort(a[0], a[1]);
            case "rule": return x.rule(a[0], a[1]);
            case "remembered": return x.remembered(a[0]);
            case "penny": return x.penny(a[0]);
            case "week": return x.week();
            case "next": return x.next();
            case "goes": return x.goes(a[0]);
            case "worth": return x.worth(a[0]);
            case "after": return x.after(a[0]);
            case "mean": return x.mean(a[0]);
            case "swing": return x.swing(a[0]);
            case "good": return x.good(a[0]);
            case "again": return x.again();
            case "gains": return x.gains(a[0], a[1]);
            case "rests": return x.rests();
            case "rest": return x.rest(a[0]);
            case "best": return x.best(a[0]);
            case "off": return x.off();
            case "pennies": return x.pennies();
            case "chairs": return x.chairs();
            case "sees": return x.sees(a[0], a[1], a[2], a[3]);
            case "which": return x.which(a[0]);
            case "longer": return x.longer(a[0]);
            case "seeds": return x.seeds(a[0], a[1]);
            case "row": return x.row(a[0]);
            case "judge": return x.judge();
            case "image": return x.image();
            case "on": return x.on();
            default: return x.count(a[0]);
        }
    }

    private static int argument() {
        int kind = draw.nextInt(8);
        if (kind == 0) {
            return EDGES[draw.nextInt(EDGES.length)];
        }
        return kind < 6 ? draw.nextInt(7) - 1 : draw.nextInt(62);
    }

    private static String number(int below) {
        int v = draw.nextInt(below);
        return v < 10 && draw.nextBoolean() ? "0" + v : "" + v;
    }

    private static String statement() {
        switch (draw.nextInt(8)) {
            case 0: return "c" + number(62) + ";";
            case 1: case 2: return "w" + number(62) + ";";
            case 3: case 4: return "r" + "lomtbf".charAt(draw.nextInt(6)) + (draw.nextInt(30) == 0
                ? draw.nextInt(10) : 1 + draw.nextInt(6)) + ";";
            default: return "s" + (draw.nextInt(30) == 0 ? 0 : 1 + draw.nextInt(9)) + "anrhueerhu".charAt(draw.nextInt(10))
                + (draw.nextInt(5) == 0 ? draw.nextInt(10) : draw.nextInt(2)) + "," + draw.nextInt(10)
                + draw.nextInt(10) + draw.nextInt(10) + ";";
        }
    }

    /** Most texts drawn at hazard have a fault; this one has none on a new object. */
    private static String whole() {
        StringBuilder t = new StringBuilder();
        int rules = draw.nextInt(7);
        for (int i = 0; i < rules; i++) {
            t.append('r').append("lomtbf".charAt(draw.nextInt(6))).append(1 + draw.nextInt(6)).append(';');
        }
        int sorts = 1 + draw.nextInt(4);
        for (int i = 0; i < sorts; i++) {
            int kind = rules == 0 ? "aunnee".charAt(draw.nextInt(6)) : "rrrhhhhuaen".charAt(draw.nextInt(11));
            t.append('s').append(1 + draw.nextInt(9)).append((char) kind);
            t.append(kind == 'u' ? draw.nextInt(10) : draw.nextInt(Math.max(1, rules))).append(',');
            t.append(draw.nextInt(10)).append(draw.nextInt(10)).append(draw.nextInt(10)).append(';');
        }
        for (int i = draw.nextInt(9); i > 0 && t.length() <= 72; i--) {
            t.append('w').append(number(37)).append(';');
        }
        return t.length() <= 76 && draw.nextInt(4) != 0 ? t + "c" + number(25) + ";" : t.toString();
    }

    private static String text() {
        if (draw.nextInt(3) != 0) {
            return whole();
        }
        StringBuilder t = new StringBuilder();
        int statements = draw.nextInt(12);
        for (int i = 0; i < statements; i++) {
            t.append(statement());
        }
        if (t.length() > 0 && draw.nextInt(8) == 0) {
            t.setCharAt(draw.nextInt(t.length()), (char) draw.nextInt(256));
        }
        if (t.length() > 0 && draw.nextInt(12) == 0) {
            t.deleteCharAt(draw.nextInt(t.length()));
        }
        return t.toString();
    }

    private static boolean same(int run, GoodHalfEmpty x, Plain plain, String name, int... a) {
        int got = ask(x, name, a);
        int want = plain.ask(name, a);
        if (got != want) {
            System.out.println("run " + run + ": " + name + java.util.Arrays.toString(a) + " answered " + got
                + ", the plain model " + want);
        }
        return got == want;
    }

    private static boolean letters(int run, GoodHalfEmpty x, Plain plain) {
        String t = text();
        boolean ok = true;
        for (int i = 0; i < t.length(); i++) {
            ok &= same(run, x, plain, "letter", t.charAt(i));
        }
        return ok & same(run, x, plain, "town");
    }

    /** A row that is mostly true, for one drawn at hazard is wrong at once. */
    private static boolean row(int run, GoodHalfEmpty x, Plain plain) {
        int n = 1 + draw.nextInt(13);
        int lie = draw.nextInt(26);
        boolean ok = true;
        for (int i = 0; i < n; i++) {
            int present = plain.ask("after", new int[] {i + 1});
            ok &= same(run, x, plain, "row", i == lie ? present + 1 : present);
        }
        return ok & same(run, x, plain, "judge");
    }

    private static boolean everythingSeen(int run, GoodHalfEmpty x, Plain plain) {
        boolean ok = true;
        for (int i = 0; i < 17; i++) {
            ok &= same(run, x, plain, "count", i);
        }
        for (int i = 0; i < 4; i++) {
            for (int what = 0; what < 6; what++) {
                ok &= same(run, x, plain, "sort", i, what);
            }
        }
        for (int i = 0; i < 6; i++) {
            for (int what = 0; what < 4; what++) {
                ok &= same(run, x, plain, "rule", i, what);
            }
        }
        for (int ago = 1; ago <= 8; ago++) {
            ok &= same(run, x, plain, "remembered", ago);
        }
        return ok;
    }

    private static boolean run(int run) {
        GoodHalfEmpty x = new GoodHalfEmpty();
        Plain plain = new Plain();
        boolean ok = true;
        for (int call = 0; call < CALLS && ok; call++) {
            int kind = draw.nextInt(10);
            if (call == 0 || kind == 0 && draw.nextInt(3) == 0) {
                ok = letters(run, x, plain);
            } else if (kind < 3) {
                ok = same(run, x, plain, "week");
            } else if (kind == 3 && draw.nextInt(6) == 0) {
                ok = row(run, x, plain);
            } else {
                String name = NAMES[draw.nextInt(NAMES.length)];
                // The plain model takes its time with these.
                if (name.equals("chairs") && draw.nextInt(10) != 0 || name.equals("pennies") && draw.nextInt(4) != 0) {
                    continue;
                }
                ok = same(run, x, plain, name, argument(), argument(), argument(), argument());
            }
        }
        return ok && everythingSeen(run, x, plain);
    }

    public static void main(String[] args) {
        int wrong = 0;
        for (int i = 0; i < RUNS && wrong < 5; i++) {
            if (!run(i)) {
                wrong++;
            }
        }
        System.out.println(wrong == 0 ? RUNS + " runs are as the plain model's" : wrong + " runs are not");
        if (wrong != 0) {
            System.exit(1);
        }
    }
}

/** The model: kinds as classes, memory as a list, every plan gone through. */
final class Plain {
    abstract static class Rule {
        int span;
        int right;
        abstract int foretells(Town t);
        abstract Rule fresh();
    }

    static class Last extends Rule {
        int foretells(Town t) { return t.ago(span); }
        Rule fresh() { return new Last(); }
    }

    static class Other extends Last {
        @Override int foretells(Town t) { return Math.max(0, t.people() - super.foretells(t)); }
        @Override Rule fresh() { return new Other(); }
    }

    static class Mean extends Rule {
        int foretells(Town t) {
            int sum = 0;
            for (int i = 1; i <= span; i++) {
                sum += t.ago(i);
            }
            return sum / span;
        }
        Rule fresh() { return new Mean(); }
    }

    static class Trend extends Last {
        @Override int foretells(Town t) { return Math.max(0, 2 * t.ago(1) - super.foretells(t)); }
        @Override Rule fresh() { return new Trend(); }
    }

    static class Below extends Mean {
        @Override int foretells(Town t) { return Math.max(0, super.foretells(t) - span); }
        @Override Rule fresh() { return new Below(); }
    }

    static class Flat extends Rule {
        int foretells(Town t) { return 10 * span; }
        Rule fresh() { return new Flat(); }
    }

    static Rule ruleOf(char kind) {
        switch (kind) {
            case 'l': return new Last();
            case 'o': return new Other();
            case 'm': return new Mean();
            case 't': return new Trend();
            case 'b': return new Below();
            default: return new Flat();
        }
    }

    static Rule rule(char kind, int span) {
        Rule r = ruleOf(kind);
        r.span = span;
        return r;
    }

    static final class Sort {
        int many;
        char kind;
        int figure;
        int few;
        int full;
        int home;
        boolean goes;
    }

    static final class Town {
        int chairs = 10;
        int penny;
        int number;
        List<Sort> sorts = new ArrayList<>();
        List<Rule> rules = new ArrayList<>();
        List<Integer> weeks = new ArrayList<>();

        Town twin() {
            Town t = new Town();
            t.chairs = chairs;
            t.penny = penny;
            t.number = number;
            t.weeks.addAll(weeks);
            for (Rule r : rules) {
                Rule c = r.fresh();
                c.span = r.span;
                c.right = r.right;
                t.rules.add(c);
            }
            for (Sort s : sorts) {
                t.sorts.add(sort(s.many, s.kind, s.figure, s.few, s.full, s.home));
            }
            return t;
        }

        int people() {
            int all = 0;
            for (Sort s : sorts) {
                all += s.many;
            }
            return all;
        }

        int ago(int k) {
            return k <= weeks.size() ? weeks.get(weeks.size() - k) : chairs;
        }

        void remember(int v) {
            weeks.add(v);
            if (weeks.size() > 8) {
                weeks.remove(0);
            }
        }

        boolean wants(Sort s) {
            switch (s.kind) {
                case 'a': return true;
                case 'r': return rules.get(s.figure).foretells(this) <= chairs;
                case 'h':
                    Rule best = null;
                    for (Rule r : rules.subList(s.figure, rules.size())) {
                        if (best == null || r.right > best.right) {
                            best = r;
                        }
                    }
                    return best.foretells(this) <= chairs;
                case 'u': return number % (s.figure + 1) == 0;
                default: return false;
            }
        }

        int decide() {
            int going = 0;
            for (Sort s : sorts) {
                s.goes = s.kind != 'e' && wants(s);
                going += s.goes ? s.many : 0;
            }
            for (Sort s : sorts) {
                if (s.kind == 'e') {
                    s.goes = going + s.many <= chairs;
                    going += s.goes ? s.many : 0;
                }
            }
            return going;
        }

        int worth(Sort s, int present) {
            return !s.goes ? s.home : (present <= chairs ? s.few : s.full) - penny;
        }

        int goBy() {
            int present = decide();
            for (Rule r : rules) {
                if (r.foretells(this) <= chairs && present <= chairs || r.foretells(this) > chairs && present > chairs) {
                    r.right++;
                }
            }
            // RIGHT of one rule is of no use to another's foretelling, so counting before remembering is enough.
            remember(present);
            number++;
            return present;
        }
    }

    static Sort sort(int many, char kind, int figure, int few, int full, int home) {
        Sort s = new Sort();
        s.many = many;
        s.kind = kind;
        s.figure = figure;
        s.few = few;
        s.full = full;
        s.home = home;
        return s;
    }

    private Town town = new Town();
    private Town image;
    private String letters = "";
    private final List<Integer> row = new ArrayList<>();
    private final int[] refusals = new int[7];

    private int refuse(int number) {
        refusals[-number]++;
        return number;
    }

    private int refuseWorth(int number) {
        return 1000000000 - refuse(number);
    }

    private int bound(int v, int least, int most) {
        return v < least ? -4 : v > most ? -6 : 0;
    }

    int ask(String name, int[] a) {
        int wrong = refusalOf(name, a);
        if (wrong != 0) {
            boolean worth = List.of("worth", "gains", "best", "sees").contains(name);
            return worth ? refuseWorth(wrong) : refuse(wrong);
        }
        int[] p = List.of("after", "mean", "swing", "good").contains(name) ? presents(town.twin(), a[0]) : null;
        switch (name) {
            case "letter": letters += (char) a[0]; return letters.length();
            case "town": return town();
            case "sort": return sortField(town.sorts.get(a[0]), a[1]);
            case "rule": return ruleField(town.rules.get(a[0]), a[1]);
            case "remembered": return town.ago(a[0]);
            case "penny": int was = town.penny; town.penny = a[0]; return was;
            case "week": return town.goBy();
            case "next": return town.decide();
            case "goes": town.decide(); return town.sorts.get(a[0]).goes ? 1 : 0;
            case "worth": return worth(a[0]);
            case "after": return p[a[0] - 1];
            case "mean": return 100 * java.util.Arrays.stream(p).sum() / a[0];
            case "swing": return swing(p);
            case "good": return (int) java.util.Arrays.stream(p).filter(v -> v <= town.chairs).count();
            case "again": return again();
            case "gains": Town t = town.twin(); return gains(t, t.sorts.get(a[0]), a[1]);
            case "sees": Town u = town.twin(); u.sorts.add(sort(1, 'e', 0, a[1], a[2], a[3]));
                return gains(u, u.sorts.get(u.sorts.size() - 1), a[0]);
            case "which": return which(a[0]);
            case "longer": Town l = town.twin();
                for (Rule r : l.rules) {
                    r.span = Math.min(6, r.span + 1);
                }
                return swing(presents(l, a[0]));
            case "seeds": return seeds(a[0], a[1]);
            case "row": row.add(a[0]); return row.size();
            case "judge": return judge();
            case "image": image = town.twin(); return town.number;
            case "on": town = image.twin(); return town.number;
            case "count": return count(a[0]);
            default: return plans(name, a);
        }
    }

    private int refusalOf(String name, int[] a) {
        boolean noSort = a.length > 0 && (a[0] < 0 || a[0] >= town.sorts.size());
        switch (name) {
            case "letter": return bound(a[0], 0, letters.length() == 80 ? -1 : 255);
            case "sort": return noSort ? -1 : a[1] < 0 || a[1] > 5 ? -2 : 0;
            case "rule": return a[0] < 0 || a[0] >= town.rules.size() ? -1 : a[1] < 0 || a[1] > 3 ? -2 : 0;
            case "remembered": return bound(a[0], 1, 8);
            case "penny": return bound(a[0], 0, 9);
            case "goes": return noSort ? -1 : 0;
            case "worth": case "rest": return noSort && a[0] != -1 ? -1 : 0;
            case "gains": return noSort ? -1 : bound(a[1], 1, 60);
            case "best": return a[0] != 0 && a[0] != 1 ? -2 : 0;
            case "after": case "mean": case "swing": case "good": case "which": case "longer":
                return bound(a[0], 1, 60);
            case "sees":
                if (a[0] < 1 || a[1] < 0 || a[2] < 0 || a[3] < 0) {
                    return -4;
                }
                return a[0] > 60 || a[1] > 9 || a[2] > 9 || a[3] > 9 || town.sorts.size() == 4 ? -6 : 0;
            case "seeds": return bound(a[0], 1, 20);
            case "row": return bound(a[0], 0, row.size() == 12 ? -1 : 99);
            case "on": return image == null ? -3 : 0;
            default: return 0;
        }
    }

    private static int sortField(Sort s, int what) {
        return new int[] {s.many, "anrhue".indexOf(s.kind), s.figure, s.few, s.full, s.home}[what];
    }

    private int ruleField(Rule r, int what) {
        List<Class<?>> kinds = List.of(Last.class, Other.class, Mean.class, Trend.class, Below.class, Flat.class);
        return new int[] {kinds.indexOf(r.getClass()), r.span, r.right, r.foretells(town)}[what];
    }

    /** Kind 1 by trying: is what stands up to here the beginning of a town? */
    private static boolean canGoOn(String t) {
        String s = "c\\d\\d?;|w\\d\\d?;|r[lomtbf]\\d;|s\\d[anrhue]\\d,\\d\\d\\d;";
        String begun = "[cw]\\d?|[cw]\\d\\d|r([lomtbf]\\d?)?|s(\\d([anrhue](\\d(,(\\d(\\d(\\d)?)?)?)?)?)?)?";
        return t.matches("(" + s + ")*(" + begun + ")?");
    }

    private int town() {
        String t = letters;
        letters = "";
        for (int i = 0; i < t.length(); i++) {
            if (!canGoOn(t.substring(0, i + 1))) {
                return -1000 - i;
            }
        }
        if (t.isEmpty() || !t.endsWith(";")) {
            return -1000 - t.length();
        }
        Town draft = town.twin();
        int start = 0;
        int statements = 0;
        for (String s : t.split(";")) {
            if (!tell(draft, s)) {
                return -2000 - start;
            }
            start += s.length() + 1;
            statements++;
        }
        town = draft;
        return statements;
    }

    private static boolean tell(Town t, String s) {
        char first = s.charAt(0);
        if (first == 'c' || first == 'w') {
            int v = Integer.parseInt(s.substring(1));
            if (first == 'c') {
                t.chairs = v;
            } else {
                t.remember(v);
            }
            return v <= 60;
        }
        if (first == 'r') {
            int span = s.charAt(2) - '0';
            t.rules.add(rule(s.charAt(1), span));
            return span >= 1 && span <= 6 && t.rules.size() <= 6;
        }
        char kind = s.charAt(2);
        int figure = s.charAt(3) - '0';
        t.sorts.add(sort(s.charAt(1) - '0', kind, figure, s.charAt(5) - '0', s.charAt(6) - '0', s.charAt(7) - '0'));
        return s.charAt(1) != '0' && (kind != 'r' && kind != 'h' || figure < t.rules.size()) && t.sorts.size() <= 4;
    }

    private int worth(int sort) {
        int present = town.decide();
        if (sort >= 0) {
            return town.worth(town.sorts.get(sort), present);
        }
        int all = 0;
        for (Sort s : town.sorts) {
            all += s.many * town.worth(s, present);
        }
        return all;
    }

    private static int[] presents(Town t, int n) {
        int[] p = new int[n];
        for (int i = 0; i < n; i++) {
            p[i] = t.goBy();
        }
        return p;
    }

    private static int swing(int[] p) {
        return java.util.Arrays.stream(p).max().getAsInt() - java.util.Arrays.stream(p).min().getAsInt();
    }

    private int again() {
        int[] p = presents(town.twin(), 80);
        for (int n = 1; n <= 40; n++) {
            boolean alike = true;
            for (int k = 1; k <= 40; k++) {
                alike &= p[k - 1] == p[k + n - 1];
            }
            if (alike) {
                return n;
            }
        }
        return -9;
    }

    private static int gains(Town t, Sort s, int n) {
        int all = 0;
        for (int i = 0; i < n; i++) {
            int present = t.goBy();
            all += t.worth(s, present);
        }
        return all;
    }

    private int which(int n) {
        int best = -1;
        int answer = 0;
        for (int kind = 0; kind < 6; kind++) {
            for (int span = 1; span <= 6; span++) {
                Town t = town.twin();
                Rule r = rule("lomtbf".charAt(kind), span);
                int right = 0;
                for (int i = 0; i < n; i++) {
                    boolean few = r.foretells(t) <= t.chairs;
                    right += few == t.goBy() <= t.chairs ? 1 : 0;
                }
                if (right > best) {
                    best = right;
                    answer = 10 * kind + span;
                }
            }
        }
        return answer;
    }

    private int seeds(int n, int z) {
        int all = 0;
        for (int i = 0; i < n; i++) {
            Town t = town.twin();
            for (int k = t.weeks.size() - 1; k >= 0; k--) {
                z = z * 1664525 + 1013904223;
                t.weeks.set(k, (z & 0x7fffffff) / 256 % (t.people() + 1));
            }
            all += t.decide();
        }
        return all;
    }

    private int judge() {
        int[] p = presents(town.twin(), row.size());
        int found = -9;
        for (int i = 0; i < p.length && found < 0; i++) {
            if (p[i] != row.get(i)) {
                found = i;
            }
        }
        row.clear();
        return found;
    }

    private int count(int what) {
        if (what >= 11 && what <= 16) {
            return refusals[what - 10];
        }
        int[] all = {town.sorts.size(), town.rules.size(), town.people(), town.chairs, town.number, town.weeks.size(),
            town.penny, row.size(), letters.length()};
        return what >= 0 && what < all.length ? all[what] : -9;
    }

    /** All plans in their order. */
    private List<int[]> allPlans() {
        List<int[]> all = new ArrayList<>();
        all.add(new int[0]);
        for (Sort s : town.sorts) {
            List<int[]> more = new ArrayList<>();
            for (int[] plan : all) {
                for (int g = 0; g <= s.many; g++) {
                    int[] longer = java.util.Arrays.copyOf(plan, plan.length + 1);
                    longer[plan.length] = g;
                    more.add(longer);
                }
            }
            all = more;
        }
        return all;
    }

    private static int outWorth(Sort s, int present, int chairs, int penny) {
        return (present <= chairs ? s.few : s.full) - penny;
    }

    private boolean isAtRest(int[] plan, int chairs, int penny) {
        int present = java.util.Arrays.stream(plan).sum();
        for (int i = 0; i < plan.length; i++) {
            Sort s = town.sorts.get(i);
            if (plan[i] > 0 && s.home > outWorth(s, present, chairs, penny)) {
                return false;
            }
            if (plan[i] < s.many && outWorth(s, present + 1, chairs, penny) > s.home) {
                return false;
            }
        }
        return true;
    }

    private int planWorth(int[] plan, int chairs, int penny) {
        int present = java.util.Arrays.stream(plan).sum();
        int all = 0;
        for (int i = 0; i < plan.length; i++) {
            Sort s = town.sorts.get(i);
            all += plan[i] * outWorth(s, present, chairs, penny) + (s.many - plan[i]) * s.home;
        }
        return all;
    }

    private Integer greatestAtRest(List<int[]> all, int penny) {
        Integer best = null;
        for (int[] plan : all) {
            if (isAtRest(plan, town.chairs, penny)) {
                int worth = planWorth(plan, town.chairs, penny);
                best = best == null ? worth : Math.max(best, worth);
            }
        }
        return best;
    }

    private int plans(String name, int[] a) {
        List<int[]> all = allPlans();
        int[] first = firstAtRest(all, town.chairs);
        int[] best = bestPlan(all);
        switch (name) {
            case "rests": return (int) all.stream().filter(p -> isAtRest(p, town.chairs, town.penny)).count();
            case "rest": return first == null ? -9 : a[0] < 0 ? java.util.Arrays.stream(first).sum() : first[a[0]];
            case "best": return a[0] == 0 ? planWorth(best, town.chairs, town.penny) : java.util.Arrays.stream(best).sum();
            case "off": Integer rest = greatestAtRest(all, town.penny);
                return rest == null ? -9 : planWorth(best, town.chairs, town.penny) - rest;
            case "pennies": return pennies(all);
            default: return chairs(all);
        }
    }

    private int[] firstAtRest(List<int[]> all, int chairs) {
        for (int[] plan : all) {
            if (isAtRest(plan, chairs, town.penny)) {
                return plan;
            }
        }
        return null;
    }

    private int[] bestPlan(List<int[]> all) {
        int[] best = all.get(0);
        for (int[] plan : all) {
            if (planWorth(plan, town.chairs, town.penny) > planWorth(best, town.chairs, town.penny)) {
                best = plan;
            }
        }
        return best;
    }

    private int pennies(List<int[]> all) {
        int answer = -9;
        Integer best = null;
        for (int v = 0; v <= 9; v++) {
            Integer worth = greatestAtRest(all, v);
            if (worth != null && (best == null || worth > best)) {
                best = worth;
                answer = v;
            }
        }
        return answer;
    }

    private int chairs(List<int[]> all) {
        int answer = -9;
        int most = -1;
        for (int c = 0; c <= 60; c++) {
            int[] first = firstAtRest(all, c);
            if (first != null && java.util.Arrays.stream(first).sum() > most) {
                most = java.util.Arrays.stream(first).sum();
                answer = c;
            }
        }
        return answer;
    }
}
