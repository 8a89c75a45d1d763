/** A town told in letters, whose people go to the inn or stay at home, week by week. */
public final class GoodHalfEmpty {
    private static final int NOBODY = -1;
    private static final int OTHER = -2;
    private static final int STATE = -3;
    private static final int BELOW = -4;
    private static final int ROOM = -6;
    private static final int NONE = -9;
    private static final int WORTH_REFUSED = 1000000000;

    private static final int MOST_LETTERS = 80;
    private static final int MOST_SORTS = 4;
    private static final int MOST_OF_A_SORT = 9;
    private static final int MOST_PEOPLE = MOST_SORTS * MOST_OF_A_SORT;
    private static final int MOST_RULES = 6;
    private static final int MOST_SPAN = 6;
    private static final int MOST_CHAIRS = 60;
    private static final int MOST_REMEMBERED = 8;
    private static final int MOST_PENNY = 9;
    private static final int MOST_WORTH = 9;
    private static final int MOST_WEEKS = 60;
    private static final int MOST_AGAIN = 40;
    private static final int MOST_SEEDS = 20;
    private static final int MOST_IN_ROW = 12;
    private static final int MOST_TOLD = 99;
    private static final int MOST_SIGN = 255;
    private static final int FIRST_CHAIRS = 10;

    private static final int WITHOUT_SIGN = 0x7fffffff;

    private static final int FAULT_OF_FORM = -1000;
    private static final int FAULT_OF_SENSE = -2000;

    // A kind's number is its letter's place here.
    private static final String SORT_LETTERS = "anrhue";
    private static final int ALWAYS = 0;
    private static final int RULER = 2;
    private static final int HAT = 3;
    private static final int TURN = 4;
    private static final int SEER = 5;

    private static final String RULE_LETTERS = "lomtbf";
    private static final int RULE_KINDS = 6;
    private static final int LAST = 0;
    private static final int LESS_LAST = 1;
    private static final int MEAN = 2;
    private static final int TREND = 3;
    private static final int BELOW_MEAN = 4;

    // Below all worth that any plan can have, for "no plan at all".
    private static final int NO_WORTH = -WORTH_REFUSED;

    private final Town town = new Town();
    private final Town mind = new Town();
    private final Town kept = new Town();
    private boolean isKept = false;
    private final Text text = new Text();
    private final Plans plans = new Plans();
    private final int[] ahead = new int[2 * MOST_AGAIN];
    private final int[] tally = new int[RULE_KINDS * MOST_SPAN];
    private final int[] told = new int[MOST_IN_ROW];
    private int toldSize = 0;
    private final int[] refusals = new int[-ROOM + 1];

    public GoodHalfEmpty() {
    }

    public int letter(int c) {
        int wrong = outside(c, 0, MOST_SIGN);
        if (wrong == 0 && text.size >= MOST_LETTERS) {
            wrong = ROOM;
        }
        return wrong != 0 ? refuse(wrong) : text.add(c);
    }

    public int town() {
        // Told to a copy first: with a fault in a later statement nothing of the earlier ones may stay.
        mind.copyFrom(town);
        int answer = text.tellTo(mind);
        text.clear();
        if (answer > 0) {
            town.copyFrom(mind);
        }
        return answer;
    }

    public int sort(int sort, int what) {
        Sorts sorts = town.sorts;
        if (!sorts.has(sort)) {
            return refuse(NOBODY);
        }
        switch (what) {
            case 0: return at(sorts.many, sort);
            case 1: return at(sorts.kind, sort);
            case 2: return at(sorts.figure, sort);
            case 3: return at(sorts.few, sort);
            case 4: return at(sorts.full, sort);
            case 5: return at(sorts.home, sort);
            default: return refuse(OTHER);
        }
    }

    public int rule(int rule, int what) {
        Rules rules = town.rules;
        if (!rules.has(rule)) {
            return refuse(NOBODY);
        }
        switch (what) {
            case 0: return at(rules.kind, rule);
            case 1: return at(rules.span, rule);
            case 2: return at(rules.right, rule);
            case 3: return town.foretells(at(rules.kind, rule), at(rules.span, rule));
            default: return refuse(OTHER);
        }
    }

    public int remembered(int ago) {
        int wrong = outside(ago, 1, MOST_REMEMBERED);
        return wrong != 0 ? refuse(wrong) : town.presentAgo(ago);
    }

    public int penny(int v) {
        int wrong = outside(v, 0, MOST_PENNY);
        if (wrong != 0) {
            return refuse(wrong);
        }
        int before = town.penny;
        town.penny = v;
        return before;
    }

    public int week() {
        return town.goBy();
    }

    public int next() {
        town.decide();
        return town.present;
    }

    public int goes(int sort) {
        if (!town.sorts.has(sort)) {
            return refuse(NOBODY);
        }
        town.decide();
        return at(town.going, sort);
    }

    public int worth(int sort) {
        if (sort != -1 && !town.sorts.has(sort)) {
            return refuseWorth(NOBODY);
        }
        town.decide();
        return sort == -1 ? town.worthToAll() : town.worthToOne(sort);
    }

    public int after(int n) {
        int wrong = outside(n, 1, MOST_WEEKS);
        if (wrong != 0) {
            return refuse(wrong);
        }
        lookAhead(n, 0);
        return at(ahead, n - 1);
    }

    public int mean(int n) {
        int wrong = outside(n, 1, MOST_WEEKS);
        if (wrong != 0) {
            return refuse(wrong);
        }
        lookAhead(n, 0);
        int sum = 0;
        for (int i = 0; i < n; i++) {
            sum += at(ahead, i);
        }
        return quotient(100 * sum, n);
    }

    public int swing(int n) {
        int wrong = outside(n, 1, MOST_WEEKS);
        if (wrong != 0) {
            return refuse(wrong);
        }
        lookAhead(n, 0);
        return swingOf(n);
    }

    public int good(int n) {
        int wrong = outside(n, 1, MOST_WEEKS);
        if (wrong != 0) {
            return refuse(wrong);
        }
        lookAhead(n, 0);
        int found = 0;
        for (int i = 0; i < n; i++) {
            if (at(ahead, i) <= town.chairs) {
                found++;
            }
        }
        return found;
    }

    public int again() {
        lookAhead(2 * MOST_AGAIN, 0);
        for (int n = 1; n <= MOST_AGAIN; n++) {
            if (comesAgainAfter(n)) {
                return n;
            }
        }
        return NONE;
    }

    public int gains(int sort, int n) {
        if (!town.sorts.has(sort)) {
            return refuseWorth(NOBODY);
        }
        int wrong = outside(n, 1, MOST_WEEKS);
        if (wrong != 0) {
            return refuseWorth(wrong);
        }
        mind.copyFrom(town);
        return gainsInMind(sort, n);
    }

    public int rests() {
        return plans.restingPlans(town.sorts, town.chairs, town.penny);
    }

    public int rest(int sort) {
        if (sort != -1 && !town.sorts.has(sort)) {
            return refuse(NOBODY);
        }
        if (!plans.findFirstResting(town.sorts, town.chairs, town.penny)) {
            return NONE;
        }
        return sort == -1 ? plans.presentOfFirst() : at(plans.first, sort);
    }

    public int best(int what) {
        if (what == 0) {
            return plans.bestWorth(town.sorts, town.chairs, town.penny);
        }
        if (what == 1) {
            plans.findFirstBest(town.sorts, town.chairs, town.penny);
            return plans.presentOfFirst();
        }
        return refuseWorth(OTHER);
    }

    public int off() {
        int resting = plans.bestRestingWorth(town.sorts, town.chairs, town.penny);
        if (resting == NO_WORTH) {
            return NONE;
        }
        return plans.bestWorth(town.sorts, town.chairs, town.penny) - resting;
    }

    public int pennies() {
        int found = NONE;
        int greatest = NO_WORTH;
        for (int v = 0; v <= MOST_PENNY; v++) {
            int worth = plans.bestRestingWorth(town.sorts, town.chairs, v);
            if (worth > greatest) {
                greatest = worth;
                found = v;
            }
        }
        return found;
    }

    public int chairs() {
        int found = NONE;
        int greatest = -1;
        for (int c = 0; c <= MOST_CHAIRS; c++) {
            if (plans.findFirstResting(town.sorts, c, town.penny) && plans.presentOfFirst() > greatest) {
                greatest = plans.presentOfFirst();
                found = c;
            }
        }
        return found;
    }

    public int sees(int n, int few, int full, int home) {
        if (n < 1 || few < 0 || full < 0 || home < 0) {
            return refuseWorth(BELOW);
        }
        boolean tooGreat = n > MOST_WEEKS || few > MOST_WORTH || full > MOST_WORTH || home > MOST_WORTH;
        if (tooGreat || town.sorts.size >= MOST_SORTS) {
            return refuseWorth(ROOM);
        }
        mind.copyFrom(town);
        int seer = mind.sorts.size;
        mind.sorts.add(1, SEER, 0, few, full, home);
        return gainsInMind(seer, n);
    }

    public int which(int n) {
        int wrong = outside(n, 1, MOST_WEEKS);
        if (wrong != 0) {
            return refuse(wrong);
        }
        tallyRight(n);
        int found = 0;
        for (int i = 1; i < tally.length; i++) {
            if (at(tally, i) > at(tally, found)) {
                found = i;
            }
        }
        return 10 * (found / MOST_SPAN) + found % MOST_SPAN + 1;
    }

    public int longer(int n) {
        int wrong = outside(n, 1, MOST_WEEKS);
        if (wrong != 0) {
            return refuse(wrong);
        }
        lookAhead(n, 1);
        return swingOf(n);
    }

    public int seeds(int n, int z) {
        int wrong = outside(n, 1, MOST_SEEDS);
        if (wrong != 0) {
            return refuse(wrong);
        }
        mind.copyFrom(town);
        int seed = z;
        int all = 0;
        for (int i = 0; i < n; i++) {
            seed = mind.drawMemory(seed);
            mind.decide();
            all += mind.present;
        }
        return all;
    }

    public int row(int v) {
        int wrong = outside(v, 0, MOST_TOLD);
        if (wrong == 0 && toldSize >= MOST_IN_ROW) {
            wrong = ROOM;
        }
        if (wrong != 0) {
            return refuse(wrong);
        }
        put(told, toldSize, v);
        toldSize++;
        return toldSize;
    }

    public int judge() {
        lookAhead(toldSize, 0);
        int found = NONE;
        for (int i = toldSize - 1; i >= 0; i--) {
            if (at(told, i) != at(ahead, i)) {
                found = i;
            }
        }
        toldSize = 0;
        return found;
    }

    public int image() {
        kept.copyFrom(town);
        isKept = true;
        return town.number;
    }

    public int on() {
        if (!isKept) {
            return refuse(STATE);
        }
        town.copyFrom(kept);
        return town.number;
    }

    public int count(int what) {
        switch (what) {
            case 0: return town.sorts.size;
            case 1: return town.rules.size;
            case 2: return town.sorts.people();
            case 3: return town.chairs;
            case 4: return town.number;
            case 5: return town.memory.size;
            case 6: return town.penny;
            case 7: return toldSize;
            case 8: return text.size;
            default: return what >= 11 && what <= 16 ? at(refusals, what - 10) : NONE;
        }
    }

    private int refuse(int number) {
        put(refusals, -number, at(refusals, -number) + 1);
        return number;
    }

    // What calls about worth answer may be below 0 by right, so that a refusal must look otherwise.
    private int refuseWorth(int number) {
        return WORTH_REFUSED - refuse(number);
    }

    private void lookAhead(int weeks, int longerBy) {
        mind.copyFrom(town);
        mind.rules.lengthen(longerBy);
        for (int i = 0; i < weeks; i++) {
            put(ahead, i, mind.goBy());
        }
    }

    private int swingOf(int weeks) {
        int least = at(ahead, 0);
        int greatest = least;
        for (int i = 1; i < weeks; i++) {
            least = Math.min(least, at(ahead, i));
            greatest = Math.max(greatest, at(ahead, i));
        }
        return greatest - least;
    }

    private boolean comesAgainAfter(int n) {
        for (int i = 0; i < MOST_AGAIN; i++) {
            if (at(ahead, i) != at(ahead, i + n)) {
                return false;
            }
        }
        return true;
    }

    private int gainsInMind(int sort, int weeks) {
        int all = 0;
        for (int i = 0; i < weeks; i++) {
            mind.goBy();
            all += mind.worthToOne(sort);
        }
        return all;
    }

    private void tallyRight(int weeks) {
        for (int i = 0; i < tally.length; i++) {
            put(tally, i, 0);
        }
        mind.copyFrom(town);
        for (int week = 0; week < weeks; week++) {
            // What a rule foretells must be asked before the week goes by, so that it isn't remembered yet.
            mind.decide();
            for (int i = 0; i < tally.length; i++) {
                if (mind.isRight(mind.foretells(i / MOST_SPAN, i % MOST_SPAN + 1))) {
                    put(tally, i, at(tally, i) + 1);
                }
            }
            mind.goBy();
        }
    }

    private static int outside(int v, int least, int greatest) {
        if (v < least) {
            return BELOW;
        }
        return v > greatest ? ROOM : 0;
    }

    private static int at(int[] row, int place) {
        return place >= 0 && place < row.length ? row[place] : 0;
    }

    private static void put(int[] row, int place, int v) {
        if (place >= 0 && place < row.length) {
            row[place] = v;
        }
    }

    private static void copyRow(int[] from, int[] to) {
        for (int i = 0; i < from.length && i < to.length; i++) {
            to[i] = from[i];
        }
    }

    private static int quotient(int v, int by) {
        return by > 0 ? v / by : 0;
    }

    private static int remainder(int v, int by) {
        return by > 0 ? v % by : 0;
    }

    /** How many were there in the latest weeks, the latest first. */
    private static final class Memory {
        private final int[] weeks = new int[MOST_REMEMBERED];
        private int size = 0;

        private void copyFrom(Memory other) {
            copyRow(other.weeks, weeks);
            size = other.size;
        }

        private void add(int present) {
            for (int i = weeks.length - 1; i > 0; i--) {
                put(weeks, i, at(weeks, i - 1));
            }
            put(weeks, 0, present);
            size = Math.min(size + 1, MOST_REMEMBERED);
        }
    }

    private static final class Rules {
        private final int[] kind = new int[MOST_RULES];
        private final int[] span = new int[MOST_RULES];
        private final int[] right = new int[MOST_RULES];
        private int size = 0;

        private void copyFrom(Rules other) {
            copyRow(other.kind, kind);
            copyRow(other.span, span);
            copyRow(other.right, right);
            size = other.size;
        }

        private boolean has(int rule) {
            return rule >= 0 && rule < size;
        }

        private boolean add(int newKind, int newSpan) {
            if (newSpan < 1 || newSpan > MOST_SPAN || size >= MOST_RULES) {
                return false;
            }
            put(kind, size, newKind);
            put(span, size, newSpan);
            put(right, size, 0);
            size++;
            return true;
        }

        private int mostRight(int from) {
            int found = from;
            for (int i = from + 1; i < size; i++) {
                if (at(right, i) > at(right, found)) {
                    found = i;
                }
            }
            return found;
        }

        private void lengthen(int by) {
            for (int i = 0; i < size; i++) {
                put(span, i, Math.min(at(span, i) + by, MOST_SPAN));
            }
        }
    }

    private static final class Sorts {
        private final int[] many = new int[MOST_SORTS];
        private final int[] kind = new int[MOST_SORTS];
        private final int[] figure = new int[MOST_SORTS];
        private final int[] few = new int[MOST_SORTS];
        private final int[] full = new int[MOST_SORTS];
        private final int[] home = new int[MOST_SORTS];
        private int size = 0;

        private void copyFrom(Sorts other) {
            copyRow(other.many, many);
            copyRow(other.kind, kind);
            copyRow(other.figure, figure);
            copyRow(other.few, few);
            copyRow(other.full, full);
            copyRow(other.home, home);
            size = other.size;
        }

        private boolean has(int sort) {
            return sort >= 0 && sort < size;
        }

        private boolean add(int people, int newKind, int newFigure, int ifFew, int ifFull, int atHome) {
            if (people < 1 || people > MOST_OF_A_SORT || size >= MOST_SORTS) {
                return false;
            }
            put(many, size, people);
            put(kind, size, newKind);
            put(figure, size, newFigure);
            put(few, size, ifFew);
            put(full, size, ifFull);
            put(home, size, atHome);
            size++;
            return true;
        }

        private int people() {
            int all = 0;
            for (int i = 0; i < size; i++) {
                all += at(many, i);
            }
            return all;
        }
    }

    private static final class Town {
        private final Sorts sorts = new Sorts();
        private final Rules rules = new Rules();
        private final Memory memory = new Memory();
        private int chairs = FIRST_CHAIRS;
        private int penny = 0;
        private int number = 0;
        // What was foretold and decided last, kept between the steps of one call only: no part of how things stand.
        private final int[] foretold = new int[MOST_RULES];
        private final int[] going = new int[MOST_SORTS];
        private int present = 0;

        private void copyFrom(Town other) {
            sorts.copyFrom(other.sorts);
            rules.copyFrom(other.rules);
            memory.copyFrom(other.memory);
            chairs = other.chairs;
            penny = other.penny;
            number = other.number;
        }

        private boolean setChairs(int v) {
            if (v < 0 || v > MOST_CHAIRS) {
                return false;
            }
            chairs = v;
            return true;
        }

        private boolean addWeek(int v) {
            if (v < 0 || v > MOST_CHAIRS) {
                return false;
            }
            memory.add(v);
            return true;
        }

        private boolean mayFollow(int kind, int figure) {
            boolean isRuled = kind == RULER || kind == HAT;
            return !isRuled || rules.has(figure);
        }

        private int presentAgo(int ago) {
            int[] weeks = memory.weeks;
            return ago >= 1 && ago <= memory.size && ago <= weeks.length ? weeks[ago - 1] : chairs;
        }

        private int meanPresent(int span) {
            int sum = 0;
            for (int ago = 1; ago <= span; ago++) {
                sum += presentAgo(ago);
            }
            return quotient(sum, span);
        }

        private int foretells(int kind, int span) {
            switch (kind) {
                case LAST: return presentAgo(span);
                case LESS_LAST: return Math.max(0, sorts.people() - presentAgo(span));
                case MEAN: return meanPresent(span);
                case TREND: return Math.max(0, 2 * presentAgo(1) - presentAgo(span));
                case BELOW_MEAN: return Math.max(0, meanPresent(span) - span);
                default: return 10 * span;
            }
        }

        private boolean isRight(int guess) {
            return (guess <= chairs) == (present <= chairs);
        }

        private void decide() {
            askRules();
            askSorts();
        }

        private void askRules() {
            for (int i = 0; i < rules.size; i++) {
                put(foretold, i, foretells(at(rules.kind, i), at(rules.span, i)));
            }
        }

        private void askSorts() {
            present = 0;
            for (int i = 0; i < sorts.size; i++) {
                if (at(sorts.kind, i) != SEER) {
                    settle(i, wantsToGo(i));
                }
            }
            for (int i = 0; i < sorts.size; i++) {
                if (at(sorts.kind, i) == SEER) {
                    settle(i, present + at(sorts.many, i) <= chairs);
                }
            }
        }

        private void settle(int sort, boolean isGoing) {
            put(going, sort, isGoing ? 1 : 0);
            if (isGoing) {
                present += at(sorts.many, sort);
            }
        }

        private boolean wantsToGo(int sort) {
            int figure = at(sorts.figure, sort);
            switch (at(sorts.kind, sort)) {
                case ALWAYS: return true;
                case RULER: return at(foretold, figure) <= chairs;
                case HAT: return at(foretold, rules.mostRight(figure)) <= chairs;
                case TURN: return remainder(number, figure + 1) == 0;
                default: return false;
            }
        }

        private int goBy() {
            // Not by decide(): that would be one call deeper for all that looks ahead.
            askRules();
            askSorts();
            for (int i = 0; i < rules.size; i++) {
                if (isRight(at(foretold, i))) {
                    put(rules.right, i, at(rules.right, i) + 1);
                }
            }
            memory.add(present);
            number++;
            return present;
        }

        private int worthToOne(int sort) {
            if (at(going, sort) == 0) {
                return at(sorts.home, sort);
            }
            return (present <= chairs ? at(sorts.few, sort) : at(sorts.full, sort)) - penny;
        }

        private int worthToAll() {
            int all = 0;
            for (int i = 0; i < sorts.size; i++) {
                all += at(sorts.many, i) * worthToOne(i);
            }
            return all;
        }

        private int drawMemory(int z) {
            int seed = z;
            int below = sorts.people() + 1;
            for (int i = 0; i < memory.size; i++) {
                seed = seed * 1664525 + 1013904223;
                put(memory.weeks, i, remainder((seed & WITHOUT_SIGN) / 256, below));
            }
            return seed;
        }
    }

    /** The letters that came, as statements of a town. */
    private static final class Text {
        // Signs in forms: # a digit, k a kind of sorts, f a kind of rules; others stand for themselves.
        private static final String NUMBER_FORM = "#;";
        private static final String LONG_NUMBER_FORM = "##;";
        private static final String SORT_FORM = "#k#,###;";
        private static final String RULE_FORM = "f#;";

        private final int[] letters = new int[MOST_LETTERS];
        private int size = 0;

        private int add(int c) {
            put(letters, size, c);
            size = Math.min(size + 1, MOST_LETTERS);
            return size;
        }

        private void clear() {
            size = 0;
        }

        /** How many statements the town was told, or the fault, with which it may stand half told. */
        private int tellTo(Town listener) {
            int bad = badPlace();
            if (bad >= 0) {
                return FAULT_OF_FORM - bad;
            }
            int statements = 0;
            for (int start = 0; start < size; start += 1 + formAt(start).length()) {
                if (!tellStatement(listener, start)) {
                    return FAULT_OF_SENSE - start;
                }
                statements++;
            }
            return statements;
        }

        /** The place of the first letter with which no town can go on, or -1. */
        private int badPlace() {
            if (size == 0) {
                return 0;
            }
            for (int start = 0; start < size; start += 1 + formAt(start).length()) {
                String form = formAt(start);
                if (form.isEmpty()) {
                    return start;
                }
                for (int i = 0; i < form.length(); i++) {
                    if (!fits(start + 1 + i, form.charAt(i))) {
                        return start + 1 + i;
                    }
                }
            }
            return -1;
        }

        /** The form of what follows the first letter of a statement; empty if that begins none. */
        private String formAt(int start) {
            switch (letterAt(start)) {
                case 'c': return numberForm(start);
                case 'w': return numberForm(start);
                case 's': return SORT_FORM;
                case 'r': return RULE_FORM;
                default: return "";
            }
        }

        private String numberForm(int start) {
            return isDigit(start + 2) ? LONG_NUMBER_FORM : NUMBER_FORM;
        }

        private boolean fits(int place, char sign) {
            switch (sign) {
                case '#': return isDigit(place);
                case 'k': return kindAt(place, SORT_LETTERS) >= 0;
                case 'f': return kindAt(place, RULE_LETTERS) >= 0;
                default: return letterAt(place) == sign;
            }
        }

        private boolean tellStatement(Town listener, int start) {
            switch (letterAt(start)) {
                case 'c': return listener.setChairs(numberAt(start + 1));
                case 'w': return listener.addWeek(numberAt(start + 1));
                case 'r': return listener.rules.add(kindAt(start + 1, RULE_LETTERS), digitAt(start + 2));
                case 's': return tellSort(listener, start);
                default: return false;
            }
        }

        private boolean tellSort(Town listener, int start) {
            int kind = kindAt(start + 2, SORT_LETTERS);
            int figure = digitAt(start + 3);
            return listener.mayFollow(kind, figure) && listener.sorts.add(digitAt(start + 1), kind, figure,
                digitAt(start + 5), digitAt(start + 6), digitAt(start + 7));
        }

        // Behind the end there is a letter that fits nothing, so that what lacks is found at the end.
        private int letterAt(int place) {
            return place >= 0 && place < size && place < letters.length ? letters[place] : -1;
        }

        private boolean isDigit(int place) {
            return letterAt(place) >= '0' && letterAt(place) <= '9';
        }

        private int digitAt(int place) {
            return letterAt(place) - '0';
        }

        private int numberAt(int place) {
            int first = digitAt(place);
            return isDigit(place + 1) ? 10 * first + digitAt(place + 1) : first;
        }

        private int kindAt(int place, String kinds) {
            int c = letterAt(place);
            return c < 0 ? -1 : kinds.indexOf((char) c);
        }
    }

    /** Plans in which so many of each sort go, from least to most, and so many of all. */
    private static final class Box {
        private final int[] least = new int[MOST_SORTS];
        private final int[] most = new int[MOST_SORTS];
        // What all worth grows by with one more of the sort who goes.
        private final int[] gain = new int[MOST_SORTS];
        private final int[] ways = new int[MOST_PEOPLE + 1];
        private int size = 0;
        private int from = 0;
        private int to = 0;
        private int worthIfNobodyGoes = 0;

        private void begin(int leastPresent, int mostPresent) {
            size = 0;
            from = leastPresent;
            to = mostPresent;
            worthIfNobodyGoes = 0;
        }

        private void add(int leastGoing, int mostGoing, int many, int out, int home) {
            put(least, size, leastGoing);
            put(most, size, mostGoing);
            put(gain, size, out - home);
            worthIfNobodyGoes += many * home;
            size = Math.min(size + 1, MOST_SORTS);
        }

        private boolean hasPlan() {
            int fewest = 0;
            int greatest = 0;
            for (int i = 0; i < size; i++) {
                if (at(least, i) > at(most, i)) {
                    return false;
                }
                fewest += at(least, i);
                greatest += at(most, i);
            }
            return from <= to && fewest <= to && greatest >= from;
        }

        private int plans() {
            if (!hasPlan()) {
                return 0;
            }
            countWays();
            int all = 0;
            for (int p = Math.max(0, from); p <= to && p < ways.length; p++) {
                all += at(ways, p);
            }
            return all;
        }

        private void countWays() {
            for (int p = 0; p < ways.length; p++) {
                put(ways, p, p == 0 ? 1 : 0);
            }
            for (int i = 0; i < size; i++) {
                // Downward, so that what is read is still without this sort.
                for (int p = ways.length - 1; p >= 0; p--) {
                    int sum = 0;
                    for (int g = at(least, i); g <= at(most, i); g++) {
                        sum += at(ways, p - g);
                    }
                    put(ways, p, sum);
                }
            }
        }

        /** The greatest worth of all together; there must be a plan. */
        private int greatestWorth() {
            int present = 0;
            int worth = worthIfNobodyGoes;
            for (int i = 0; i < size; i++) {
                present += at(least, i);
                worth += at(least, i) * at(gain, i);
            }
            int taken = 0;
            for (int turn = 0; turn < size; turn++) {
                int i = greatestGain(taken);
                taken |= 1 << i;
                // Those who lose by it go only if too few are there without them.
                int wanted = (at(gain, i) > 0 ? to : from) - present;
                int more = Math.max(0, Math.min(wanted, at(most, i) - at(least, i)));
                present += more;
                worth += more * at(gain, i);
            }
            return worth;
        }

        private int greatestGain(int taken) {
            int found = -1;
            for (int i = 0; i < size; i++) {
                if ((taken >> i & 1) == 0 && (found < 0 || at(gain, i) > at(gain, found))) {
                    found = i;
                }
            }
            return found;
        }

        /** Leaves the first plan alone, of those of so much worth (NO_WORTH: of all); there must be one. */
        private void keepFirst(int worth) {
            for (int i = 0; i < size; i++) {
                int highest = at(most, i);
                for (int g = at(least, i); g <= highest; g++) {
                    put(least, i, g);
                    put(most, i, g);
                    if (hasPlan() && (worth == NO_WORTH || greatestWorth() == worth)) {
                        break;
                    }
                }
            }
        }
    }

    /**
     * What is asked of plans. Whether one rests, and what it's worth, depends on who is present only so far as
     * there are fewer than chairs, as many, or more: so the ten thousand plans fall into three boxes at most.
     */
    private static final class Plans {
        private static final int FEWER = 0;
        private static final int AS_MANY = 1;
        private static final int MORE = 2;
        private static final int BANDS = 3;

        private final Box box = new Box();
        private final int[] first = new int[MOST_SORTS];
        private int sortsOfFirst = 0;
        private boolean hasFirst = false;

        private int restingPlans(Sorts sorts, int chairs, int penny) {
            int all = 0;
            for (int band = 0; band < BANDS; band++) {
                boxResting(sorts, band, chairs, penny);
                all += box.plans();
            }
            return all;
        }

        private boolean findFirstResting(Sorts sorts, int chairs, int penny) {
            hasFirst = false;
            for (int band = 0; band < BANDS; band++) {
                boxResting(sorts, band, chairs, penny);
                if (box.hasPlan()) {
                    offerFirst(NO_WORTH);
                }
            }
            return hasFirst;
        }

        /** NO_WORTH if none rests. */
        private int bestRestingWorth(Sorts sorts, int chairs, int penny) {
            int greatest = NO_WORTH;
            for (int band = 0; band < BANDS; band++) {
                boxResting(sorts, band, chairs, penny);
                if (box.hasPlan()) {
                    greatest = Math.max(greatest, box.greatestWorth());
                }
            }
            return greatest;
        }

        private int bestWorth(Sorts sorts, int chairs, int penny) {
            int greatest = NO_WORTH;
            for (int band = 0; band < BANDS; band++) {
                boxAll(sorts, band, chairs, penny);
                if (box.hasPlan()) {
                    greatest = Math.max(greatest, box.greatestWorth());
                }
            }
            return greatest;
        }

        private void findFirstBest(Sorts sorts, int chairs, int penny) {
            int greatest = bestWorth(sorts, chairs, penny);
            hasFirst = false;
            for (int band = 0; band < BANDS; band++) {
                boxAll(sorts, band, chairs, penny);
                if (box.hasPlan() && box.greatestWorth() == greatest) {
                    offerFirst(greatest);
                }
            }
        }

        private int presentOfFirst() {
            int all = 0;
            for (int i = 0; i < sortsOfFirst; i++) {
                all += at(first, i);
            }
            return all;
        }

        private void offerFirst(int worth) {
            box.keepFirst(worth);
            if (!hasFirst || isBoxBeforeFirst()) {
                copyRow(box.least, first);
                sortsOfFirst = box.size;
                hasFirst = true;
            }
        }

        private boolean isBoxBeforeFirst() {
            for (int i = 0; i < box.size; i++) {
                if (at(box.least, i) != at(first, i)) {
                    return at(box.least, i) < at(first, i);
                }
            }
            return false;
        }

        private void beginBand(int band, int chairs) {
            switch (band) {
                case FEWER: box.begin(0, chairs - 1); break;
                case AS_MANY: box.begin(chairs, chairs); break;
                default: box.begin(chairs + 1, MOST_PEOPLE); break;
            }
        }

        private void boxAll(Sorts sorts, int band, int chairs, int penny) {
            beginBand(band, chairs);
            for (int i = 0; i < sorts.size; i++) {
                int out = (band == MORE ? at(sorts.full, i) : at(sorts.few, i)) - penny;
                box.add(0, at(sorts.many, i), at(sorts.many, i), out, at(sorts.home, i));
            }
        }

        private void boxResting(Sorts sorts, int band, int chairs, int penny) {
            beginBand(band, chairs);
            for (int i = 0; i < sorts.size; i++) {
                int many = at(sorts.many, i);
                int home = at(sorts.home, i);
                int out = (band == MORE ? at(sorts.full, i) : at(sorts.few, i)) - penny;
                // One who would come as well finds one more there than the others do.
                int outAsWell = (band == FEWER ? at(sorts.few, i) : at(sorts.full, i)) - penny;
                box.add(outAsWell > home ? many : 0, out < home ? 0 : many, many, out, home);
            }
        }
    }
}
