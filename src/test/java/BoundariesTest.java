import java.util.ArrayList;
import java.util.Arrays;
import java.util.List;
import java.util.function.IntUnaryOperator;
import java.util.function.ToIntBiFunction;
import java.util.function.ToIntFunction;

/**
 * Each of the document's sentences that names a boundary case, with a test of its own, named by the sentence's words (a few
 * by what follows from them).
 */
public final class BoundariesTest {
    private static final int LEAST = Integer.MIN_VALUE;
    private static final int GREATEST = Integer.MAX_VALUE;
    private static final int REFUSED = 1000000000;
    // Nine go if at most 5 went last week: nine go, nobody goes, and so on.
    private static final String SWINGING = "c5;rl1;s9r0,915;";
    // Of two, one comes where few are and the other where the first is: no plan rests.
    private static final String RESTLESS = "c1;s1a0,503;s1a0,053;";
    private static final String ANY_SORT = "s1a0,111;";

    private static int wrong = 0;
    private static int sentences = 0;
    private static String sentence = "";

    private static void says(String words, Runnable test) {
        sentence = words;
        sentences++;
        test.run();
    }

    private static void due(String what, int got, int want) {
        if (got != want) {
            wrong++;
            System.out.println("\"" + sentence + "\": " + what + " answered " + got + ", due is " + want);
        }
    }

    private static void row(String what, IntUnaryOperator call, int from, int... want) {
        for (int i = 0; i < want.length; i++) {
            due(what + "(" + (from + i) + ")", call.applyAsInt(from + i), want[i]);
        }
    }

    private static int tell(GoodHalfEmpty x, String text) {
        for (int i = 0; i < text.length(); i++) {
            x.letter(text.charAt(i));
        }
        return x.town();
    }

    private static GoodHalfEmpty inn(String text) {
        GoodHalfEmpty x = new GoodHalfEmpty();
        due("a town of " + text, Math.min(tell(x, text), 1), 1);
        return x;
    }

    private static GoodHalfEmpty innAfter(int weeks, String text) {
        GoodHalfEmpty x = inn(text);
        for (int i = 0; i < weeks; i++) {
            x.week();
        }
        return x;
    }

    private static GoodHalfEmpty innWithPenny(int v, String text) {
        GoodHalfEmpty x = inn(text);
        x.penny(v);
        return x;
    }

    /** The FAULT, or how many statements, of a text told to a new object. */
    private static void told(String text, int want) {
        due("town() of \"" + text + "\"", tell(new GoodHalfEmpty(), text), want);
    }

    private static void form(String text, int place) {
        told(text, -1000 - place);
    }

    private static void sense(String text, int place) {
        told(text, -2000 - place);
    }

    /** All that can be seen without a change, but for the refusals. */
    private static String seen(GoodHalfEmpty x) {
        List<Integer> all = new ArrayList<>();
        for (int what = 0; what <= 8; what++) {
            all.add(x.count(what));
        }
        for (int i = 0; i < x.count(0); i++) {
            for (int what = 0; what < 6; what++) {
                all.add(x.sort(i, what));
            }
        }
        for (int i = 0; i < x.count(1); i++) {
            for (int what = 0; what < 4; what++) {
                all.add(x.rule(i, what));
            }
        }
        for (int ago = 1; ago <= 8; ago++) {
            all.add(x.remembered(ago));
        }
        all.add(x.next());
        return all.toString();
    }

    private static int[] refusals(GoodHalfEmpty x) {
        int[] all = new int[6];
        for (int i = 0; i < 6; i++) {
            all[i] = x.count(11 + i);
        }
        return all;
    }

    /** The call is refused with this number; what was there is there, and one more refusal of that number alone. */
    private static void refuses(String what, GoodHalfEmpty x, int number, ToIntFunction<GoodHalfEmpty> call, int answer) {
        String before = seen(x);
        int[] counts = refusals(x);
        due(what, call.applyAsInt(x), answer);
        counts[-number - 1]++;
        due(what + " counts as " + number, Arrays.equals(counts, refusals(x)) ? 1 : 0, 1);
        due(what + " changes nothing", before.equals(seen(x)) ? 1 : 0, 1);
    }

    private static void refuses(String what, GoodHalfEmpty x, int number, ToIntFunction<GoodHalfEmpty> call) {
        refuses(what, x, number, call, number);
    }

    private static void refusesWorth(String what, GoodHalfEmpty x, int number, ToIntFunction<GoodHalfEmpty> call) {
        refuses(what, x, number, call, REFUSED - number);
    }

    private static void keeps(String what, GoodHalfEmpty x, ToIntFunction<GoodHalfEmpty> call) {
        String before = seen(x);
        int[] counts = refusals(x);
        int answer = call.applyAsInt(x);
        due(what + " a second time", call.applyAsInt(x), answer);
        due(what + " changes nothing", before.equals(seen(x)) ? 1 : 0, 1);
        due(what + " counts nothing", Arrays.equals(counts, refusals(x)) ? 1 : 0, 1);
    }

    private static GoodHalfEmpty full(char letter) {
        GoodHalfEmpty x = new GoodHalfEmpty();
        for (int i = 0; i < 80; i++) {
            x.letter(letter);
        }
        return x;
    }

    private static String times(int n, String statement) {
        return statement.repeat(n);
    }

    private static boolean isOf(int c, String letters) {
        return letters.indexOf(c) >= 0;
    }

    // ---- A new object, letters ----

    private static void newObject() {
        says("Promise 1: Ten CHAIRS, nobody.", () -> {
            GoodHalfEmpty x = new GoodHalfEmpty();
            row("count", x::count, 0, 0, 0, 0, 10, 0, 0, 0, 0, 0);
            row("count", x::count, 11, 0, 0, 0, 0, 0, 0);
            row("remembered", x::remembered, 1, 10, 10, 10, 10, 10, 10, 10, 10);
            due("worth(-1)", x.worth(-1), 0);
            due("week()", x.week(), 0);
        });
        says("Terms, of CHAIRS: 10 at first", () -> {
            due("nine go to ten CHAIRS", inn("rf1;s9r0,111;").next(), 9);
            due("ten foretold are no more than CHAIRS", inn("rf1;s9r0,111;").goes(0), 1);
            due("eleven are more", inn("s9a0,915;s2a0,915;").worth(0), 1);
            due("a town told without CHAIRS keeps ten", inn("w5;").count(3), 10);
        });
        says("Terms, of PENNY: 0 at first", () -> {
            due("count(6)", new GoodHalfEmpty().count(6), 0);
            due("penny(1)", new GoodHalfEmpty().penny(1), 0);
            due("worth(0)", inn("s1a0,700;").worth(0), 7);
        });
        says("Terms, of the WEEK's number: 0 at first", () -> {
            due("count(4)", new GoodHalfEmpty().count(4), 0);
            due("image()", new GoodHalfEmpty().image(), 0);
            due("a TURN of 9 goes at first", inn("s1u9,000;").goes(0), 1);
        });
    }

    private static void letters() {
        says("Promise 2: A letter (0 .. 255) comes", () -> {
            for (int c = 0; c <= 255; c++) {
                due("letter(" + c + ")", new GoodHalfEmpty().letter(c), 1);
            }
        });
        says("Promise 2: -4", () -> {
            refuses("letter(-1)", new GoodHalfEmpty(), -4, x -> x.letter(-1));
            refuses("letter(least)", new GoodHalfEmpty(), -4, x -> x.letter(LEAST));
        });
        says("Promise 2: -6 (255;", () -> {
            refuses("letter(256)", new GoodHalfEmpty(), -6, x -> x.letter(256));
            refuses("letter(greatest)", new GoodHalfEmpty(), -6, x -> x.letter(GREATEST));
        });
        says("Promise 2: 80, too)", () -> {
            GoodHalfEmpty x = full('w');
            due("80 are there", x.count(8), 80);
            refuses("letter 81", x, -6, y -> y.letter('w'));
            refuses("letter 82", x, -6, y -> y.letter(0));
        });
        says("Promise 2, both at once: -4; -6", () -> {
            refuses("letter(-1) with 80", full('w'), -4, x -> x.letter(-1));
            refuses("letter(256) with 80", full('w'), -6, x -> x.letter(256));
        });
        says("Promise 2: how many there are", () -> {
            GoodHalfEmpty x = new GoodHalfEmpty();
            for (int i = 1; i <= 80; i++) {
                due("letter", x.letter(i), i);
            }
            x.town();
            due("the first one then", x.letter('c'), 1);
        });
        says("Terms: told in letters, one by one (80 at most)", () -> {
            told(times(26, "w1;") + "w", -1079);
            told(times(26, "w1;") + "w1", -1080);
            told(times(24, "w1;") + "w12;w12;", 26);
            // The 81st letter doesn't come, so that what it would have ended lacks its end.
            told(times(26, "w1;") + "w1;", -1080);
            GoodHalfEmpty x = full('w');
            x.town();
            due("80 more", tell(x, times(24, "w1;") + "w12;w12;"), 26);
        });
    }

    // ---- Statements ----

    private static void forms() {
        says("Terms: STATEMENTS, each with \";\" behind", () -> {
            form("c5", 2);
            form("c5w5;", 2);
            form("w1;w5", 5);
            form("rl1", 3);
            form("rl1,", 3);
            form("s1a0,111", 8);
            form("s1a0,111:", 8);
            form("c5;;", 3);
            form(";", 0);
        });
        says("Terms: \"c\" CHAIRS (1 or 2 digits", () -> {
            form("c;", 1);
            told("c5;", 1);
            told("c12;", 1);
            form("c123;", 3);
            form("c012;", 3);
            form("c-1;", 1);
            form("c1x;", 2);
            due("both digits", inn("c12;").count(3), 12);
            due("one digit", inn("c5;").count(3), 5);
        });
        says("Terms, \"w\": 1 or 2 digits", () -> {
            form("w;", 1);
            told("w5;", 1);
            told("w12;", 1);
            form("w123;", 3);
            form("w 1;", 1);
            form("w1x;", 2);
            due("both digits", inn("w12;").remembered(1), 12);
            due("one digit", inn("w5;").remembered(1), 5);
        });
        says("Terms, \"s\": MANY (a digit", () -> {
            form("sa0,111;", 1);
            form("s10a0,111;", 2);
            form("s/a0,111;", 1);
            form("s:a0,111;", 1);
        });
        says("Terms, \"s\": a letter of a KIND", () -> {
            for (int c = 0; c <= 255; c++) {
                told("rl1;s1" + (char) c + "0,111;", isOf(c, "anrhue") ? 2 : -1006);
            }
        });
        says("Terms, \"s\": FIGURE (a digit)", () -> {
            for (int c = 0; c <= 255; c++) {
                told("s1a" + (char) c + ",111;", isOf(c, "0123456789") ? 1 : -1003);
            }
            form("s1a10,111;", 4);
        });
        says("Terms, \"s\": \",\"", () -> {
            for (int c = 0; c <= 255; c++) {
                told("s1a0" + (char) c + "111;", c == ',' ? 1 : -1004);
            }
            form("s1a0111;", 4);
        });
        says("Terms, \"s\": FEW, FULL, HOME (a digit each)", () -> {
            told("s1a0,000;", 1);
            told("s1a0,999;", 1);
            for (int place = 5; place <= 7; place++) {
                for (char c : new char[] {'/', ':', ',', 'x', ';', 0, 255}) {
                    form("s1a0,111".substring(0, place) + c + "s1a0,111".substring(place + 1) + ";", place);
                }
            }
            form("s1a0,11;", 7);
            form("s1a0,1111;", 8);
            form("s1a0,1,1,1;", 6);
        });
        says("Terms, \"r\": a letter of a KIND", () -> {
            for (int c = 0; c <= 255; c++) {
                told("r" + (char) c + "1;", isOf(c, "lomtbf") ? 1 : -1001);
            }
        });
        says("Terms, \"r\": SPAN (a digit", () -> {
            for (int c = 0; c <= 255; c++) {
                int want = isOf(c, "123456") ? 1 : isOf(c, "0789") ? -2000 : -1002;
                told("rl" + (char) c + ";", want);
            }
            form("rl11;", 3);
        });
        says("Terms: Numbers may begin with 0.", () -> {
            GoodHalfEmpty x = inn("c07;w05;w00;");
            due("CHAIRS", x.count(3), 7);
            due("the WEEK ahead", x.remembered(2), 5);
            due("the latest WEEK", x.remembered(1), 0);
            due("c00", inn("c00;").count(3), 0);
            due("c0", inn("c0;").count(3), 0);
        });
    }

    private static void ranges() {
        says("Terms, \"c\": 0 .. 60", () -> {
            for (int v = 0; v <= 99; v++) {
                GoodHalfEmpty x = new GoodHalfEmpty();
                due("c" + v, tell(x, "c" + v + ";"), v <= 60 ? 1 : -2000);
                due("CHAIRS of c" + v, x.count(3), v <= 60 ? v : 10);
            }
        });
        says("Terms, \"w\": (0 .. 60)", () -> {
            for (int v = 0; v <= 99; v++) {
                GoodHalfEmpty x = new GoodHalfEmpty();
                due("w" + v, tell(x, "w" + v + ";"), v <= 60 ? 1 : -2000);
                due("WEEKS of w" + v, x.count(5), v <= 60 ? 1 : 0);
                due("remembered of w" + v, x.remembered(1), v <= 60 ? v : 10);
            }
        });
        says("Terms, MANY: 1 .. 9", () -> {
            sense("s0a0,111;", 0);
            for (int v = 1; v <= 9; v++) {
                due("MANY " + v, inn("s" + v + "a0,111;").sort(0, 0), v);
            }
        });
        says("Terms, SPAN: 1 .. 6", () -> {
            for (int v = 0; v <= 9; v++) {
                told("rf" + v + ";", v >= 1 && v <= 6 ? 1 : -2000);
            }
            due("SPAN 1", inn("rf1;").rule(0, 1), 1);
            due("SPAN 6", inn("rf6;").rule(0, 1), 6);
        });
        says("Terms: a SORT of so many people more (4 at most", () -> {
            told(times(4, ANY_SORT), 4);
            sense(times(5, ANY_SORT), 36);
            GoodHalfEmpty x = inn(times(3, ANY_SORT));
            due("two more", tell(x, times(2, ANY_SORT)), -2009);
            due("one more", tell(x, ANY_SORT), 1);
            due("a fifth", tell(x, ANY_SORT), -2000);
            due("SORTS", x.count(0), 4);
        });
        says("Terms: a RULE more (6 at most)", () -> {
            told(times(6, "rl1;"), 6);
            sense(times(7, "rl1;"), 24);
            GoodHalfEmpty x = inn(times(5, "rl1;"));
            due("two more", tell(x, times(2, "rl1;")), -2004);
            due("one more", tell(x, "rl1;"), 1);
            due("a seventh", tell(x, "rl1;"), -2000);
            due("RULES", x.count(1), 6);
        });
        says("Terms: (the latest; of more than 8 the oldest is forgotten)", () -> {
            GoodHalfEmpty x = inn("w1;w2;w3;w4;w5;w6;w7;w8;");
            row("remembered", x::remembered, 1, 8, 7, 6, 5, 4, 3, 2, 1);
            due("a ninth", tell(x, "w9;"), 1);
            row("remembered", x::remembered, 1, 9, 8, 7, 6, 5, 4, 3, 2);
            due("WEEKS", x.count(5), 8);
            due("26 in one text", tell(x, times(26, "w3;")), 26);
            row("remembered", x::remembered, 1, 3, 3, 3, 3, 3, 3, 3, 3);
        });
        says("Terms, FIGURE of HATS and RULERS: a RULE that is there already, by number", () -> {
            for (char kind : new char[] {'r', 'h'}) {
                sense("s1" + kind + "0,111;", 0);
                told("rl1;s1" + kind + "0,111;", 2);
                sense("rl1;s1" + kind + "1,111;", 4);
                told(times(6, "rl1;") + "s1" + kind + "5,111;", 7);
                sense(times(6, "rl1;") + "s1" + kind + "6,111;", 24);
                sense(times(6, "rl1;") + "s1" + kind + "9,111;", 24);
                due("a RULE told ahead", tell(inn("rl1;"), "s1" + kind + "0,111;"), 1);
                due("no such RULE told ahead", tell(inn("rl1;"), "s1" + kind + "1,111;"), -2000);
            }
            for (char kind : new char[] {'a', 'n', 'u', 'e'}) {
                told("s1" + kind + "9,111;", 1);
            }
        });
        says("Terms: At least one STATEMENT.", () -> {
            due("town() of nothing", new GoodHalfEmpty().town(), -1000);
            GoodHalfEmpty x = inn("c5;");
            due("town() again", x.town(), -1000);
            due("CHAIRS", x.count(3), 5);
        });
    }

    private static void faults() {
        says("Terms, FAULT: kind 1 the place of the first letter with which no TOWN can go on", () -> {
            form("x", 0);
            form("c5;x", 3);
            form("xc5;", 0);
            form("c5;s1x0,y11;", 5);
            form("C5;", 0);
            form("s1a0,11x;q", 7);
            form((char) 0 + "", 0);
            form((char) 255 + "c5;", 0);
        });
        says("Terms, FAULT: (the end, if something lacks): -1000 less the place", () -> {
            String text = "c12;w3;rl1;s1a0,111;";
            List<Integer> ends = List.of(4, 7, 11, 20);
            for (int n = 0; n <= text.length(); n++) {
                told(text.substring(0, n), ends.contains(n) ? ends.indexOf(n) + 1 : -1000 - n);
            }
        });
        says("Terms, FAULT: else kind 2", () -> {
            form("c61;x", 4);
            form("s0a0,111;c5", 11);
            form("rl0;rl7;w99;;", 12);
            form("c99", 3);
            sense("c99;", 0);
        });
        says("Terms, FAULT: the place of the first letter of the first STATEMENT", () -> {
            sense("c5;c61;w61;s0a0,111;", 3);
            sense("w1;w12;rl0;c61;", 7);
            sense("c61;c5;", 0);
            sense("c5;w1;s1a0,111;s0a0,111;", 15);
        });
        says("Terms, FAULT: behind all ahead of it in the text", () -> {
            told("rl1;rl1;s1r1,111;", 3);
            sense("rl1;s1r1,111;rl1;", 4);
            sense("s1h0,111;rl1;", 0);
            due("room is counted with the text's own", tell(inn(times(2, ANY_SORT)), "c5;" + times(3, ANY_SORT)), -2021);
            due("RULES, too", tell(inn(times(4, "rl1;")), "rl1;rl1;c5;rl1;"), -2011);
            due("numbers go on behind those told ahead", tell(inn("rl1;rl1;"), "rl1;s1r2,111;s1r3,111;"), -2013);
        });
        says("Terms, FAULT: (a number out of range", () -> {
            sense("c61;", 0);
            sense("w61;", 0);
            sense("s0a0,111;", 0);
            sense("rl0;", 0);
            sense("rl7;", 0);
        });
        says("Terms, FAULT: a RULE that is not there ahead of it", () -> {
            sense("s1r0,111;", 0);
            sense("s1h0,111;", 0);
            sense("rl1;w5;s1h1,111;", 7);
        });
        says("Terms, FAULT: no room for more)", () -> {
            sense("c9;" + times(5, ANY_SORT), 39);
            sense("c9;" + times(7, "rm6;"), 27);
            told(times(20, "w1;") + times(6, "c1;"), 26);
        });
        says("Terms: Without FAULT all of it comes, with one nothing.", () -> {
            GoodHalfEmpty x = innAfter(2, SWINGING + "w4;");
            String before = seen(x);
            for (String fault : new String[] {"c9;w7;rl2;s1a0,999;c61;", "c9;w7;rl2;s1a0,999;x", "c9;w7;rl2;s1a0,999;c6"}) {
                due("below 0", Math.min(0, tell(x, fault)) == 0 ? 1 : 0, 0);
                due("nothing has come of " + fault, before.equals(seen(x)) ? 1 : 0, 1);
            }
            due("a town", tell(x, "c9;w7;rl2;s1a0,999;"), 4);
            due("CHAIRS", x.count(3), 9);
            due("the latest WEEK", x.remembered(1), 7);
            due("RULES", x.count(1), 2);
            due("SORTS", x.count(0), 2);
        });
        says("Promise 3: The letters become a TOWN, and are no more (with a FAULT neither)", () -> {
            GoodHalfEmpty x = new GoodHalfEmpty();
            for (String text : new String[] {"c5;", "", "x", "c5", "c61;"}) {
                tell(x, text);
                due("letters behind \"" + text + "\"", x.count(8), 0);
                due("town() then", x.town(), -1000);
            }
            // What lacks must not be found in letters that are no more.
            due("four letters", tell(x, "w12;"), 1);
            due("two of them", tell(x, "w1"), -1002);
            due("a SORT", tell(x, ANY_SORT), 1);
            for (int n = 0; n < 9; n++) {
                due(n + " letters of it", tell(x, ANY_SORT.substring(0, n)), -1000 - n);
            }
        });
        says("Promise 3: how many STATEMENTS", () -> {
            for (int n = 1; n <= 26; n++) {
                told(times(n, "w1;"), n);
            }
            told("c1;w1;rl1;s1a0,111;", 4);
        });
        says("Promise 3: the FAULT (nothing is counted)", () -> {
            GoodHalfEmpty x = new GoodHalfEmpty();
            tell(x, "");
            tell(x, "x");
            tell(x, "c61;");
            tell(x, times(7, "rl1;"));
            row("count", x::count, 11, 0, 0, 0, 0, 0, 0);
        });
    }

    // ---- What is told, and refusals of it ----

    private static void looks() {
        says("Promise 4: 0 MANY, 1 KIND (0 a, 1 n, 2 r, 3 h, 4 u, 5 e), 2 FIGURE, 3 FEW, 4 FULL, 5 HOME.", () -> {
            for (int kind = 0; kind < 6; kind++) {
                GoodHalfEmpty x = inn("rl1;rl1;s9" + "anrhue".charAt(kind) + "1,078;");
                row("sort 0", what -> x.sort(0, what), 0, 9, kind, 1, 0, 7, 8);
            }
            GoodHalfEmpty four = inn("s1a1,111;s2n2,222;s3u3,333;s4e4,567;");
            row("sort 2", what -> four.sort(2, what), 0, 3, 4, 3, 3, 3, 3);
            row("sort 3", what -> four.sort(3, what), 0, 4, 5, 4, 5, 6, 7);
        });
        says("Promise 4: -1", () -> {
            refuses("sort(0, 0) of nobody", new GoodHalfEmpty(), -1, x -> x.sort(0, 0));
            GoodHalfEmpty x = inn(times(2, ANY_SORT));
            refuses("sort(2, 0) of two", x, -1, y -> y.sort(2, 0));
            refuses("sort(-1, 0)", x, -1, y -> y.sort(-1, 0));
            refuses("sort(least, 0)", x, -1, y -> y.sort(LEAST, 0));
            refuses("sort(4, 0) of four", inn(times(4, ANY_SORT)), -1, y -> y.sort(4, 0));
            refuses("sort(greatest, 0)", x, -1, y -> y.sort(GREATEST, 0));
            due("the last there is", x.sort(1, 0), 1);
        });
        says("Promise 4: -2", () -> {
            GoodHalfEmpty x = inn(ANY_SORT);
            for (int what : new int[] {LEAST, -1, 6, GREATEST}) {
                refuses("sort(0, " + what + ")", x, -2, y -> y.sort(0, what));
            }
        });
        says("Promise 4, both at once: -1; -2", () -> refuses("sort(1, 6)", inn(ANY_SORT), -1, x -> x.sort(1, 6)));
        says("Promise 5: 0 KIND (0 l, 1 o, 2 m, 3 t, 4 b, 5 f), 1 SPAN, 2 RIGHT, 3 what it foretells now.", () -> {
            int[] foretold = {10, 0, 10, 10, 4, 60};
            for (int kind = 0; kind < 6; kind++) {
                GoodHalfEmpty x = inn("r" + "lomtbf".charAt(kind) + "6;");
                row("rule 0", what -> x.rule(0, what), 0, kind, 6, 0, foretold[kind]);
            }
        });
        says("Promise 5: -1", () -> {
            refuses("rule(0, 0) of none", new GoodHalfEmpty(), -1, x -> x.rule(0, 0));
            GoodHalfEmpty x = inn("rl1;rl1;");
            refuses("rule(2, 0) of two", x, -1, y -> y.rule(2, 0));
            refuses("rule(-1, 0)", x, -1, y -> y.rule(-1, 0));
            refuses("rule(least, 0)", x, -1, y -> y.rule(LEAST, 0));
            refuses("rule(6, 0) of six", inn(times(6, "rl1;")), -1, y -> y.rule(6, 0));
            refuses("rule(greatest, 0)", x, -1, y -> y.rule(GREATEST, 0));
            due("the last there is", x.rule(1, 1), 1);
        });
        says("Promise 5: -2", () -> {
            GoodHalfEmpty x = inn("rl1;");
            for (int what : new int[] {LEAST, -1, 4, GREATEST}) {
                refuses("rule(0, " + what + ")", x, -2, y -> y.rule(0, what));
            }
        });
        says("Promise 5, both at once: -1; -2", () -> refuses("rule(1, 4)", inn("rl1;"), -1, x -> x.rule(1, 4)));
        says("Promise 6: (1 .. 8; CHAIRS, if there was none)", () -> {
            row("remembered of none", new GoodHalfEmpty()::remembered, 1, 10, 10, 10, 10, 10, 10, 10, 10);
            row("remembered of seven", inn("c60;w1;w2;w3;w4;w5;w6;w7;")::remembered, 1, 7, 6, 5, 4, 3, 2, 1, 60);
            row("remembered of eight", inn("w0;w1;w2;w3;w4;w5;w6;w7;")::remembered, 1, 7, 6, 5, 4, 3, 2, 1, 0);
        });
        says("Promise 6: -4", () -> {
            refuses("remembered(0)", inn("w5;"), -4, x -> x.remembered(0));
            refuses("remembered(least)", inn("w5;"), -4, x -> x.remembered(LEAST));
        });
        says("Promise 6: -6", () -> {
            refuses("remembered(9)", inn("w5;"), -6, x -> x.remembered(9));
            refuses("remembered(greatest)", inn("w5;"), -6, x -> x.remembered(GREATEST));
        });
        says("Promise 7: PENNY: what it was.", () -> {
            GoodHalfEmpty x = new GoodHalfEmpty();
            int was = 0;
            for (int v : new int[] {0, 9, 9, 1, 0, 5}) {
                due("penny(" + v + ")", x.penny(v), was);
                due("count(6)", x.count(6), v);
                was = v;
            }
        });
        says("Promise 7: -4", () -> {
            refuses("penny(-1)", innWithPenny(3, ANY_SORT), -4, x -> x.penny(-1));
            refuses("penny(least)", innWithPenny(3, ANY_SORT), -4, x -> x.penny(LEAST));
        });
        says("Promise 7: -6 9.", () -> {
            refuses("penny(10)", innWithPenny(3, ANY_SORT), -6, x -> x.penny(10));
            refuses("penny(greatest)", innWithPenny(3, ANY_SORT), -6, x -> x.penny(GREATEST));
        });
    }

    // ---- Rules ----

    private static void rules() {
        says("Terms: (a WEEK before all these: CHAIRS)", () -> {
            GoodHalfEmpty x = inn("c7;w1;rl1;rl2;rm2;");
            due("l1", x.rule(0, 3), 1);
            due("l2", x.rule(1, 3), 7);
            due("m2", x.rule(2, 3), 4);
            tell(x, "c20;");
            due("l2 with CHAIRS told anew", x.rule(1, 3), 20);
            due("remembered(2)", x.remembered(2), 20);
            due("remembered(1)", x.remembered(1), 1);
        });
        says("Terms, l: as in the WEEK SPAN ago (1: the latest)", () -> {
            GoodHalfEmpty x = inn("w7;w6;w5;w4;w3;w2;w1;rl1;rl2;rl3;rl4;rl5;rl6;");
            row("rule", r -> x.rule(r, 3), 0, 1, 2, 3, 4, 5, 6);
        });
        says("Terms, o: all people less a LAST's, 0 at least", () -> {
            GoodHalfEmpty x = inn("w10;w8;w9;s9a0,111;ro1;ro2;ro3;ro4;");
            row("rule", r -> x.rule(r, 3), 0, 0, 1, 0, 0);
            due("of nobody", inn("w0;ro1;").rule(0, 3), 0);
            due("all of them", inn("w0;ro1;s9a0,111;s9n0,111;").rule(0, 3), 18);
        });
        says("Terms, m: of the latest SPAN WEEKS, cut", () -> {
            GoodHalfEmpty x = inn("c0;w9;w0;w0;w2;w1;w1;rm1;rm2;rm3;rm4;rm5;rm6;");
            row("rule", r -> x.rule(r, 3), 0, 1, 1, 1, 1, 0, 2);
            due("11 by 6", inn("c1;w6;rm6;").rule(0, 3), 1);
            due("12 by 6", inn("c1;w7;rm6;").rule(0, 3), 2);
        });
        says("Terms, t: twice the latest less a LAST's (of the WEEK SPAN ago), 0 at least", () -> {
            GoodHalfEmpty x = inn("w0;w5;w6;w7;w3;rt1;rt2;rt3;rt4;rt5;rt6;");
            row("rule", r -> x.rule(r, 3), 0, 3, 0, 0, 1, 6, 0);
            due("twice 60 less 0", inn("w0;w60;rt2;").rule(0, 3), 120);
        });
        says("Terms, b: a MEAN's, less SPAN, 0 at least", () -> {
            GoodHalfEmpty x = inn("c3;w4;w2;w1;rb1;rb2;rb3;rb4;");
            row("rule", r -> x.rule(r, 3), 0, 0, 0, 0, 0);
            GoodHalfEmpty y = inn("c9;w4;w2;rb1;rb2;rb3;rb4;");
            row("rule", r -> y.rule(r, 3), 0, 1, 1, 2, 2);
        });
        says("Terms, f: 10 times SPAN", () -> {
            GoodHalfEmpty x = inn("rf1;rf2;rf3;rf4;rf5;rf6;");
            row("rule", r -> x.rule(r, 3), 0, 10, 20, 30, 40, 50, 60);
        });
        says("Terms, RIGHT: (that went by since it came)", () -> {
            GoodHalfEmpty x = innAfter(3, "c5;rf1;w9;w9;s9a0,111;");
            due("told WEEKS are none that went by", inn("c5;rf1;w9;w9;s9a0,111;").rule(0, 2), 0);
            tell(x, "rf1;w9;");
            due("the first", x.rule(0, 2), 3);
            due("the new one", x.rule(1, 2), 0);
            x.after(60);
            x.which(60);
            x.week();
            due("the first then", x.rule(0, 2), 4);
            due("the new one then", x.rule(1, 2), 1);
        });
        says("Terms, RIGHT: it foretold CHAIRS at most, and so it was, or more, and so it was", () -> {
            for (int chairs = 4; chairs <= 6; chairs++) {
                for (int foretold = 4; foretold <= 6; foretold++) {
                    for (int present = 4; present <= 6; present++) {
                        String text = "c" + chairs + ";w" + foretold + ";rl1;s" + present + "a0,111;";
                        boolean right = foretold <= chairs && present <= chairs || foretold > chairs && present > chairs;
                        due("RIGHT in " + text, innAfter(1, text).rule(0, 2), right ? 1 : 0);
                    }
                }
            }
        });
    }

    // ---- Sorts ----

    private static void sorts() {
        says("Terms, a ALWAYS under GOER: yes. n NEVER under GOER: no.", () -> {
            due("a in the full inn", inn("c0;s9a0,000;").next(), 9);
            due("n in the empty inn", inn("c60;s9n0,999;").next(), 0);
        });
        says("Terms, r: if RULE FIGURE foretells CHAIRS at most", () -> {
            due("one less", inn("c20;w19;rl1;s1r0,111;").goes(0), 1);
            due("as many", inn("c20;w20;rl1;s1r0,111;").goes(0), 1);
            due("one more", inn("c20;w21;rl1;s1r0,111;").goes(0), 0);
            due("none at all", inn("c0;w0;rl1;s1r0,111;").goes(0), 1);
        });
        says("Terms, h: of the numbers FIGURE .. the last", () -> {
            // Six RULES, of which the last alone foretells that the inn will be full.
            GoodHalfEmpty x = innAfter(1, "c15;rf1;rf1;rf1;rf1;rf1;rf2;s9a0,111;s9h0,111;");
            due("RIGHT of the last", x.rule(5, 2), 1);
            due("by the last", x.goes(1), 0);
            // One whose RULE is the last has it alone; RULES ahead of FIGURE, however RIGHT, don't count.
            GoodHalfEmpty y = innAfter(3, "c15;rf2;rf1;s9a0,111;s9a0,111;s1h1,111;s1h0,111;");
            due("RIGHT of the first", y.rule(0, 2), 3);
            due("from FIGURE on", y.goes(2), 1);
            due("from the first on", y.goes(3), 0);
        });
        says("Terms, h: that is RIGHT most often, of several the first", () -> {
            GoodHalfEmpty x = inn("c15;rf2;rf1;s1h0,111;s1h1,111;");
            due("none was RIGHT: the first", x.goes(0), 0);
            due("none was RIGHT: the first of its own", x.goes(1), 1);
            GoodHalfEmpty y = innAfter(2, "c15;rf1;rf2;rl1;w20;s1h0,111;");
            due("RIGHT of the first", y.rule(0, 2), 2);
            due("RIGHT of the last", y.rule(2, 2), 1);
            due("more RIGHT is ahead", y.goes(0), 1);
            due("one RIGHT is more than none", innAfter(1, "c9;rf6;rl1;rf2;s9a0,111;s1h0,111;").goes(1), 1);
        });
        says("Terms, u: if FIGURE and 1 divide the WEEK's number (0 at first)", () -> {
            GoodHalfEmpty x = inn("s1u0,000;s1u1,000;s1u8,000;s1u9,000;");
            for (int number = 0; number <= 91; number++) {
                due("FIGURE 0 at " + number, x.goes(0), 1);
                due("FIGURE 1 at " + number, x.goes(1), number % 2 == 0 ? 1 : 0);
                due("FIGURE 8 at " + number, x.goes(2), number % 9 == 0 ? 1 : 0);
                due("FIGURE 9 at " + number, x.goes(3), number % 10 == 0 ? 1 : 0);
                x.week();
            }
        });
        says("Terms, e: last of all", () -> {
            GoodHalfEmpty x = inn("c5;s3e0,111;s3a0,111;");
            due("ahead of it by number", x.goes(0), 0);
            due("next()", x.next(), 3);
            due("those who stay take no room", inn("c5;s3e0,111;s9n0,111;").goes(0), 1);
        });
        says("Terms, e: SORT by SORT", () -> {
            GoodHalfEmpty x = inn("c5;s3e0,111;s3e0,111;s2e0,111;");
            row("goes", x::goes, 0, 1, 0, 1);
            row("goes", inn("c5;s2e0,111;s3e0,111;s3e0,111;")::goes, 0, 1, 1, 0);
        });
        says("Terms, e: if those who GO already and all of the SORT are no more than CHAIRS", () -> {
            due("as many", inn("c5;s2a0,111;s3e0,111;").goes(1), 1);
            due("one more", inn("c4;s2a0,111;s3e0,111;").goes(1), 0);
            due("no CHAIRS", inn("c0;s1e0,111;").goes(0), 0);
            due("nine alone", inn("c9;s9e0,111;").goes(0), 1);
        });
    }

    // ---- Weeks ----

    private static void weeks() {
        says("Terms, WORTH: FEW, if PRESENT is no more than CHAIRS, else FULL", () -> {
            due("as many", inn("c3;s3a0,915;").worth(0), 9);
            due("one more", inn("c2;s3a0,915;").worth(0), 1);
            due("one less", inn("c4;s3a0,915;").worth(0), 9);
        });
        says("Terms, WORTH: less PENNY; who stays: HOME", () -> {
            due("FEW", innWithPenny(9, "c3;s3a0,915;").worth(0), 0);
            due("FULL", innWithPenny(9, "c2;s3a0,915;").worth(0), -8);
            due("the least of all", innWithPenny(9, "c0;s9a0,900;").worth(-1), -81);
            due("HOME", innWithPenny(9, "s3n0,915;").worth(0), 5);
            due("HOME of 0", innWithPenny(9, "s3n0,910;").worth(0), 0);
        });
        says("Terms: PRESENT is REMEMBERED then, RIGHT counted, the number 1 more.", () -> {
            GoodHalfEmpty x = inn("c5;w9;rl1;s3a0,111;");
            due("week()", x.week(), 3);
            due("the latest", x.remembered(1), 3);
            due("the one ahead", x.remembered(2), 9);
            // It foretold 9, as was remembered ahead of this WEEK.
            due("RIGHT", x.rule(0, 2), 0);
            due("the number", x.count(4), 1);
            x.week();
            due("RIGHT then", x.rule(0, 2), 1);
        });
        says("Terms, REMEMBERED: in the latest 8 WEEKS at most", () -> {
            GoodHalfEmpty x = inn("s1u0,000;s2u8,000;");
            due("the first WEEK", x.week(), 3);
            for (int i = 1; i < 8; i++) {
                x.week();
            }
            due("WEEKS", x.count(5), 8);
            due("the first is remembered", x.remembered(8), 3);
            x.week();
            due("WEEKS of nine", x.count(5), 8);
            due("the first is forgotten", x.remembered(8), 1);
        });
        says("Promise 8: A WEEK goes by: PRESENT.", () -> {
            due("of nobody", new GoodHalfEmpty().week(), 0);
            due("of all", inn(times(4, "s9a0,000;")).week(), 36);
            GoodHalfEmpty x = inn("rl1;");
            for (int i = 1; i <= 500; i++) {
                x.week();
            }
            due("the number of 500", x.count(4), 500);
            due("RIGHT of 500", x.rule(0, 2), 500);
        });
        says("Promise 9: NEXT: PRESENT.", () -> {
            GoodHalfEmpty x = inn(SWINGING);
            keeps("next()", x, y -> y.next());
            due("next() and the WEEK", x.next(), x.week());
            keeps("next()", x, y -> y.next());
            due("next() and the WEEK", x.next(), x.week());
        });
        says("Promise 10: whether a SORT will GO: 1, 0.", () -> {
            GoodHalfEmpty x = inn("s1a0,000;s1n0,000;");
            row("goes", x::goes, 0, 1, 0);
            keeps("goes(0)", x, y -> y.goes(0));
        });
        says("Promise 10: -1.", () -> {
            refuses("goes(0) of nobody", new GoodHalfEmpty(), -1, x -> x.goes(0));
            for (int sort : new int[] {LEAST, -2, -1, 2, 4, GREATEST}) {
                refuses("goes(" + sort + ")", inn(times(2, ANY_SORT)), -1, x -> x.goes(sort));
            }
        });
        says("Promise 11: sort -1: to all people together", () -> {
            due("of nobody", new GoodHalfEmpty().worth(-1), 0);
            due("most of all", inn("c60;" + times(4, "s9a0,900;")).worth(-1), 324);
            due("each by MANY", inn("s2a0,700;s3n0,005;").worth(-1), 29);
            keeps("worth(-1)", inn(SWINGING), x -> x.worth(-1));
        });
        says("Promise 11: Refused as told: -1.", () -> {
            refusesWorth("worth(0) of nobody", new GoodHalfEmpty(), -1, x -> x.worth(0));
            for (int sort : new int[] {LEAST, -2, 2, 4, GREATEST}) {
                refusesWorth("worth(" + sort + ")", inn(times(2, ANY_SORT)), -1, x -> x.worth(sort));
            }
        });
    }

    // ---- Weeks looked at ----

    private static void countOfWeeks(String name, ToIntBiFunction<GoodHalfEmpty, Integer> call, int most) {
        says(name + ": -4", () -> {
            for (int n : new int[] {LEAST, -1, 0}) {
                refuses(name + " of " + n, inn(SWINGING), -4, x -> call.applyAsInt(x, n));
            }
        });
        says(name + ": -6 " + most, () -> {
            for (int n : new int[] {most + 1, GREATEST}) {
                refuses(name + " of " + n, inn(SWINGING), -6, x -> call.applyAsInt(x, n));
            }
        });
        says(name + ": 1 .. " + most + ", and in mind alone", () -> {
            keeps(name + " of 1", innAfter(3, SWINGING), x -> call.applyAsInt(x, 1));
            keeps(name + " of " + most, innAfter(3, SWINGING), x -> call.applyAsInt(x, most));
        });
    }

    private static void ahead() {
        countOfWeeks("Promise 12, AFTER", GoodHalfEmpty::after, 60);
        says("II: In mind, as things stand", () -> {
            // What a longer look left behind must not be seen by a shorter one.
            GoodHalfEmpty x = inn(SWINGING);
            x.after(60);
            due("mean(1)", x.mean(1), 900);
            x.after(60);
            due("swing(1)", x.swing(1), 0);
            x.after(60);
            due("longer(2)", x.longer(2), 0);
            x.after(60);
            due("good(1)", x.good(1), 0);
            x.week();
            due("good(1) a week later", x.good(1), 1);
            tell(x, "c9;");
            due("good(60) with more CHAIRS", x.good(60), 60);
            GoodHalfEmpty y = inn("s3a0,000;");
            y.after(60);
            row("mean", y::mean, 1, 300, 300);
        });
        says("Terms: AFTER n WEEKS (1 .. 60): PRESENT of the n-th.", () -> {
            row("after", inn(SWINGING)::after, 1, 9, 0, 9, 0);
            GoodHalfEmpty x = inn("s1u0,000;s3u9,000;s9u6,000;");
            GoodHalfEmpty y = inn("s1u0,000;s3u9,000;s9u6,000;");
            for (int n = 1; n <= 60; n++) {
                due("after(" + n + ")", x.after(n), y.week());
            }
        });
        countOfWeeks("Promise 13, MEAN", GoodHalfEmpty::mean, 60);
        says("Terms, MEAN: in hundredths, cut", () -> {
            GoodHalfEmpty x = inn("s1u2,000;");
            row("mean", x::mean, 1, 100, 50, 33, 50, 40, 33, 42);
            row("mean", inn(SWINGING)::mean, 1, 900, 450, 600, 450);
            due("mean(59)", x.mean(59), 33);
            due("mean(58)", x.mean(58), 34);
            due("mean(60)", x.mean(60), 33);
            due("of 36", inn(times(4, "s9a0,000;")).mean(60), 3600);
        });
        countOfWeeks("Promise 14, SWING", GoodHalfEmpty::swing, 60);
        says("Terms, SWING: the greatest less the least", () -> {
            GoodHalfEmpty x = innAfter(1, "s1u0,000;s3u9,000;s9u4,000;");
            row("swing", x::swing, 1, 0, 0, 0, 0, 9, 9, 9, 9, 9, 12, 12);
            due("all and nobody", inn("c30;rl1;" + times(4, "s9r0,000;")).swing(2), 36);
        });
        says("Terms, SWING: of the first and of the last of the n", () -> {
            due("the first", inn("s7u9,000;").swing(10), 7);
            due("nine weeks without", innAfter(1, "s7u9,000;").swing(9), 0);
            due("the tenth", innAfter(1, "s7u9,000;").swing(10), 7);
            due("the 60th", innAfter(1, "s1u0,000;s7u9,000;").swing(60), 7);
        });
        countOfWeeks("Promise 15, GOOD", GoodHalfEmpty::good, 60);
        says("Terms, GOOD: how many of them have PRESENT no more than CHAIRS", () -> {
            due("as many", inn("c3;s3a0,000;").good(60), 60);
            due("one more", inn("c2;s3a0,000;").good(60), 0);
            row("good", inn(SWINGING)::good, 1, 0, 1, 1, 2);
            GoodHalfEmpty x = inn("c3;s3a0,000;s1u2,000;");
            row("good", x::good, 1, 0, 1, 2, 2, 3, 4, 4);
        });
    }

    private static void againAndGains() {
        says("Terms, AGAIN: the least n (1 .. 40)", () -> {
            due("1", inn("s3a0,000;").again(), 1);
            due("1 of nobody", new GoodHalfEmpty().again(), 1);
            due("2, not 4 or 40", inn(SWINGING).again(), 2);
            due("10", inn("s1u9,000;").again(), 10);
            due("40", inn("s1u7,000;s2u4,000;").again(), 40);
            due("40, with one who is always there", inn("s1u7,000;s2u4,000;s1a0,000;").again(), 40);
        });
        says("Promise 16: AGAIN; -9.", () -> {
            due("it would be 45", inn("s1u8,000;s2u4,000;").again(), -9);
            due("it would be 41", innAfter(27, "rb6;rl6;rf3;rm6;s6h1,000;c2;w5;").again(), -9);
            GoodHalfEmpty x = inn("s1u8,000;s2u4,000;");
            keeps("again()", x, y -> y.again());
        });
        says("Terms, AGAIN: of WEEKS k and k and n are alike for all k of 1 .. 40", () -> {
            // One comes each week, two each 8th, three where the 8th is a 9th as well: at number 72.
            String text = "c1;s1e0,000;s1u8,000;s2u7,000;";
            due("k 41 would not be alike", innAfter(24, text).again(), 8);
            due("k 40 is not alike", innAfter(25, text).again(), -9);
            // Number 0 is such a week, too: k 1 is not alike.
            due("k 1 is not alike", inn(text).again(), -9);
            due("k 2 is", innAfter(1, text).again(), 8);
        });
        says("Promise 17: Refused as told: -1", () -> {
            refusesWorth("gains(0, 1) of nobody", new GoodHalfEmpty(), -1, x -> x.gains(0, 1));
            for (int sort : new int[] {LEAST, -1, 2, 4, GREATEST}) {
                refusesWorth("gains(" + sort + ", 1)", inn(times(2, ANY_SORT)), -1, x -> x.gains(sort, 1));
            }
        });
        says("Promise 17: -4", () -> {
            for (int n : new int[] {LEAST, -1, 0}) {
                refusesWorth("gains(0, " + n + ")", inn(SWINGING), -4, x -> x.gains(0, n));
            }
        });
        says("Promise 17: -6 60.", () -> {
            for (int n : new int[] {61, GREATEST}) {
                refusesWorth("gains(0, " + n + ")", inn(SWINGING), -6, x -> x.gains(0, n));
            }
        });
        says("Promise 17, both at once: -1; -4; -6 60.", () -> {
            refusesWorth("gains(1, 0)", inn(SWINGING), -1, x -> x.gains(1, 0));
            refusesWorth("gains(-1, 61)", inn(SWINGING), -1, x -> x.gains(-1, 61));
        });
        says("Terms, GAINS: all WORTH of one of it", () -> {
            row("gains 0", n -> inn(SWINGING + "s9n0,009;").gains(0, n), 1, 1, 6, 7, 12);
            row("gains 1", n -> inn(SWINGING + "s9n0,009;").gains(1, n), 1, 9, 18, 27);
            due("60 WEEKS", inn(SWINGING).gains(0, 60), 180);
            due("60 WEEKS of the least", innWithPenny(9, "c0;s1a0,900;").gains(0, 60), -540);
            due("60 WEEKS of the most", inn("s1a0,900;").gains(0, 60), 540);
            keeps("gains(0, 60)", innAfter(1, SWINGING), x -> x.gains(0, 60));
        });
    }

    // ---- Plans ----

    private static void resting() {
        says("Terms, PLANS: how many of each SORT go (0 .. MANY, whatever their KIND)", () -> {
            for (char kind : "anue".toCharArray()) {
                due("RESTS of " + kind, inn("c60;s9" + kind + "0,333;").rests(), 10);
                due("BEST of " + kind, inn("c60;s9" + kind + "0,900;").best(1), 9);
            }
            due("RESTS of r and h", inn("rl1;s2r0,000;s3h0,000;").rests(), 12);
            due("all 10000", inn(times(4, "s9a0,000;")).rests(), 10000);
            due("of nobody the empty one", new GoodHalfEmpty().rests(), 1);
        });
        says("Terms: A PLAN RESTS, if for nobody it were WORTH more to do otherwise alone.", () -> {
            due("FEW as much as HOME", inn("c9;s1a0,303;").rests(), 2);
            due("FEW more than HOME", inn("c9;s1a0,304;").rests(), 1);
            due("who go then", inn("c9;s1a0,304;").rest(-1), 0);
            due("HOME more than FEW", inn("c9;s1a0,403;").rests(), 1);
            due("who go then", inn("c9;s1a0,403;").rest(-1), 1);
            due("FULL as much as HOME", inn("c0;s1a0,033;").rests(), 2);
            due("FULL more than HOME", inn("c0;s1a0,043;").rest(-1), 1);
            due("PENNY is taken off", innWithPenny(1, "c9;s1a0,403;").rests(), 2);
            due("PENNY 2", innWithPenny(2, "c9;s1a0,403;").rest(-1), 0);
        });
        says("Terms, RESTS: who would come finds one more there", () -> {
            // Of three who like it half empty, as many go as there are CHAIRS: the next would be one too many.
            row("rest", c -> inn("c" + c + ";s3a0,513;").rest(-1), 0, 0, 1, 2, 3, 3);
            row("rests", c -> inn("c" + c + ";s3a0,513;").rests(), 0, 1, 1, 1, 1, 1);
            // Those who like it full: either enough are there, or nobody comes.
            row("rests", c -> inn("c" + c + ";s3a0,153;").rests(), 0, 1, 2, 2, 1, 1);
            row("rest", c -> inn("c" + c + ";s3a0,153;").rest(-1), 0, 3, 0, 0, 0, 0);
            row("rests", c -> inn("c" + c + ";s3a0,353;").rests(), 0, 1, 2, 3, 4, 4);
        });
        says("Terms, RESTS: how many PLANS REST", () -> {
            due("none", inn(RESTLESS).rests(), 0);
            due("one", inn("c2;s3n0,513;").rests(), 1);
            due("all ways to fill three CHAIRS", inn("c3;s3a0,513;s3a0,513;").rests(), 4);
            keeps("rests()", inn(RESTLESS), x -> x.rests());
        });
        says("Terms: PLANS are gone through by how many of SORT 0 go, of each by SORT 1, and so on.", () -> {
            row("rest", inn("c3;s2a0,513;s2a0,513;s2a0,513;")::rest, -1, 3, 0, 1, 2);
            row("rest", inn("c5;s2a0,513;s2a0,513;s2a0,513;")::rest, -1, 5, 1, 2, 2);
            row("rest", inn("c6;s9a0,513;s2a0,513;s1a0,513;s1a0,513;")::rest, -1, 6, 2, 2, 1, 1);
            row("best", what -> inn("c60;s2a0,333;s2a0,333;").best(what), 0, 12, 0);
            // Two in the full inn stand ahead of one in the other: fewer of the SORT ahead go.
            due("SORT 0 decides", inn("c1;s1a0,400;s2a0,020;").best(1), 2);
            due("SORT 1 decides", inn("c1;s1n0,009;s1a0,400;s2a0,020;").best(1), 2);
            row("rest", inn("c3;s1n0,009;s1a0,503;s4a0,053;")::rest, -1, 4, 0, 0, 4);
        });
        says("Promise 19: sort -1: PRESENT of it", () -> {
            due("of nobody", new GoodHalfEmpty().rest(-1), 0);
            due("of all", inn("c60;" + times(4, "s9n0,900;")).rest(-1), 36);
            keeps("rest(-1)", inn("c3;s9a0,513;"), x -> x.rest(-1));
        });
        says("Terms, RESTS: the first, as things stand", () -> {
            GoodHalfEmpty x = innWithPenny(9, "c60;s3a0,903;");
            due("with PENNY", x.rest(-1), 0);
            x.penny(0);
            due("now", x.rest(-1), 3);
            tell(x, RESTLESS);
            due("with those who find no rest", x.rest(0), -9);
        });
        says("Promise 19: -9 none does", () -> {
            GoodHalfEmpty x = inn(RESTLESS);
            row("rest", x::rest, -1, -9, -9, -9);
            row("count", x::count, 11, 0, 0, 0, 0, 0, 0);
            keeps("rest(-1)", x, y -> y.rest(-1));
        });
        says("Promise 19: -1.", () -> {
            refuses("rest(0) of nobody", new GoodHalfEmpty(), -1, x -> x.rest(0));
            for (int sort : new int[] {LEAST, -2, 2, 4, GREATEST}) {
                refuses("rest(" + sort + ")", inn(times(2, ANY_SORT)), -1, x -> x.rest(sort));
                refuses("rest(" + sort + "), none rests", inn(RESTLESS), -1, x -> x.rest(sort));
            }
        });
    }

    private static void best() {
        says("Terms, BEST: the greatest WORTH of all together of all PLANS", () -> {
            due("of nobody", new GoodHalfEmpty().best(0), 0);
            due("the most", inn("c60;" + times(4, "s9a0,900;")).best(0), 324);
            due("one on the CHAIR", inn("c1;s3a0,943;").best(0), 15);
            due("all in the full inn", inn("c3;s9a0,191;").best(0), 81);
            due("nobody for a PENNY of 9", innWithPenny(9, "s9a0,800;").best(0), 0);
            due("as many as CHAIRS, no more", inn("c4;s9a0,900;").best(0), 36);
            due("FEW is one more than HOME", inn("c60;s9a0,433;").best(0), 36);
            due("the inn can't be full of nine", inn("c9;s9a0,191;").best(0), 9);
            row("as many lose as it takes to fill it", c -> inn("c" + c + ";s3a0,090;s3a0,009;").best(0), 2, 54, 45, 36, 27, 27);
            due("no more go than gain by the full inn", inn("c0;s3a0,090;s3a0,005;").best(0), 27 + 15);
            due("those first to whom it's worth most", inn("c3;s2a0,503;s2a0,904;").best(0), 5 + 3 + 18);
            keeps("best(0)", inn("c1;s3a0,943;"), x -> x.best(0));
        });
        says("Terms, BEST: PRESENT of the first such", () -> {
            due("of nobody", new GoodHalfEmpty().best(1), 0);
            due("of all alike", inn("c5;s9a0,333;").best(1), 0);
            due("of all", inn("c60;" + times(4, "s9a0,900;")).best(1), 36);
            due("two by SORT 1 ahead of one by SORT 0", inn("c1;s1a0,400;s2a0,020;").best(1), 2);
            due("one by SORT 1 ahead of one by SORT 0", inn("c1;s1a0,400;s1a0,400;").best(1), 1);
            GoodHalfEmpty y = innWithPenny(9, "c60;s3a0,903;");
            due("with PENNY", y.best(1), 0);
            y.penny(0);
            due("as things stand now", y.best(1), 3);
            keeps("best(1)", inn("c1;s3a0,943;"), x -> x.best(1));
        });
        says("Promise 20: Refused as told: -2.", () -> {
            for (int what : new int[] {LEAST, -1, 2, GREATEST}) {
                refusesWorth("best(" + what + ")", inn(ANY_SORT), -2, x -> x.best(what));
            }
        });
        says("Terms, OFF: BEST less the greatest WORTH of all together of PLANS that REST", () -> {
            due("of nobody", new GoodHalfEmpty().off(), 0);
            due("of the best", inn("c2;s3n0,513;").off(), 0);
            due("three would go", inn("c1;s3a0,943;").off(), 3);
            due("the greatest of several", inn("c1;s1a0,903;s1a0,603;").off(), 0);
            due("two come in any case, one more has room", inn("c3;s2a0,990;s3a0,503;").off(), 0);
            due("the best of full and empty", inn("c3;s9a0,191;").off(), 0);
            keeps("off()", inn("c1;s3a0,943;"), x -> x.off());
        });
        says("Promise 21: OFF; -9.", () -> {
            GoodHalfEmpty x = inn(RESTLESS);
            due("none does", x.off(), -9);
            row("count", x::count, 11, 0, 0, 0, 0, 0, 0);
        });
    }

    private static void bestPennies() {
        says("Terms, PENNIES: the PENNY (0 .. 9) by which the latter is greatest", () -> {
            String[] towns = {"c2;s3n0,513;", "c1;s3a0,943;", "c2;s3a0,931;", "c2;s3a0,930;", "c2;s2a0,091;s3a0,905;",
                "c2;s3a0,803;s2a0,091;", "c3;s3a0,901;s1a0,193;", "c2;s2a0,801;s2a0,081;", "c1;s1a0,901;s1a0,091;"};
            for (int v = 0; v < towns.length; v++) {
                due("pennies() of " + towns[v], inn(towns[v]).pennies(), v);
            }
            GoodHalfEmpty x = innWithPenny(7, "c1;s3a0,943;");
            due("whatever PENNY is", x.pennies(), 1);
            due("PENNY stays", x.count(6), 7);
            keeps("pennies()", x, y -> y.pennies());
        });
        says("Terms, PENNIES: of several the least", () -> {
            due("of all ten", inn("s3n0,005;").pennies(), 0);
            due("of nobody", new GoodHalfEmpty().pennies(), 0);
            due("of 2 .. 9", inn(RESTLESS).pennies(), 2);
        });
        says("Promise 22: PENNIES; -9.", () -> {
            // At PENNY 9 to go is worth no more than 0, so that the PLAN in which all stay rests: it never is -9.
            GoodHalfEmpty x = inn("c1;s1a0,901;s1a0,091;");
            for (int v = 0; v <= 9; v++) {
                x.penny(v);
                due("rests() at PENNY " + v, x.rests(), v < 8 ? 0 : v == 8 ? 2 : 1);
            }
            due("pennies()", x.pennies(), 8);
        });
        says("Terms, CHAIRS BEST: by how many (0 .. 60) CHAIRS PRESENT of the first PLAN that RESTS is greatest", () -> {
            due("0", inn("s9a0,191;").chairs(), 0);
            due("3", inn("c2;s3n0,513;").chairs(), 3);
            due("36", inn(times(4, "s9a0,513;")).chairs(), 36);
            GoodHalfEmpty x = innWithPenny(9, "c2;s3n0,513;");
            due("with PENNY", x.chairs(), 0);
            due("CHAIRS stay", x.count(3), 2);
            keeps("chairs()", x, y -> y.chairs());
        });
        says("Terms, CHAIRS BEST: of several the fewest", () -> {
            due("all 61", inn("c9;s3a0,990;").chairs(), 0);
            due("of nobody", new GoodHalfEmpty().chairs(), 0);
            due("3 .. 60", inn("c60;s3n0,513;").chairs(), 3);
        });
        says("Promise 23: CHAIRS BEST; -9.", () -> {
            // With no CHAIRS it's FULL whoever comes, so that some PLAN rests: it never is -9.
            row("rest", c -> inn("c" + c + ";s1a0,503;s1a0,053;").rest(-1), 0, 1, -9, 1, 1);
            due("one CHAIR, by which none rests, is passed over", inn(RESTLESS).chairs(), 0);
        });
    }

    // ---- One more who sees, rules, longer memory ----

    private static void seer() {
        says("Promise 24: Refused as told: -4 (any)", () -> {
            GoodHalfEmpty x = inn(ANY_SORT);
            for (int low : new int[] {LEAST, -1}) {
                refusesWorth("n " + low, x, -4, y -> y.sees(low, 0, 0, 0));
                refusesWorth("FEW " + low, x, -4, y -> y.sees(1, low, 0, 0));
                refusesWorth("FULL " + low, x, -4, y -> y.sees(1, 0, low, 0));
                refusesWorth("HOME " + low, x, -4, y -> y.sees(1, 0, 0, low));
            }
            refusesWorth("n 0", x, -4, y -> y.sees(0, 0, 0, 0));
            due("the least of all", x.sees(1, 0, 0, 0), 0);
        });
        says("Promise 24: -6 (60; 9;", () -> {
            GoodHalfEmpty x = inn(ANY_SORT);
            for (int high : new int[] {10, 61, GREATEST}) {
                refusesWorth("FEW " + high, x, -6, y -> y.sees(1, high, 0, 0));
                refusesWorth("FULL " + high, x, -6, y -> y.sees(1, 0, high, 0));
                refusesWorth("HOME " + high, x, -6, y -> y.sees(1, 0, 0, high));
            }
            refusesWorth("n 61", x, -6, y -> y.sees(61, 0, 0, 0));
            refusesWorth("n greatest", x, -6, y -> y.sees(GREATEST, 0, 0, 0));
            due("the most of all", x.sees(60, 9, 9, 9), 540);
        });
        says("Promise 24: 4 SORTS are there)", () -> {
            refusesWorth("of four", inn(times(4, ANY_SORT)), -6, x -> x.sees(1, 1, 1, 1));
            due("of three", inn(times(3, ANY_SORT)).sees(1, 9, 0, 0), 9);
        });
        says("Promise 24, both at once: -4 (any); -6", () -> {
            refusesWorth("HOME below, n above", inn(ANY_SORT), -4, x -> x.sees(61, 0, 0, -1));
            refusesWorth("n below, FEW above", inn(ANY_SORT), -4, x -> x.sees(0, 10, 0, 0));
            refusesWorth("FULL below, four there", inn(times(4, ANY_SORT)), -4, x -> x.sees(1, 1, -1, 1));
        });
        says("Terms, SEES: what one SEER more, a SORT alone, with told FEW, FULL, HOME, would GAIN in n WEEKS", () -> {
            due("room for one", inn("c4;s3a0,000;").sees(1, 9, 1, 4), 9);
            due("room for none", inn("c3;s3a0,000;").sees(1, 9, 1, 4), 4);
            due("the last of SEERS", inn("c3;s3e0,000;").sees(1, 9, 1, 4), 4);
            due("PENNY", innWithPenny(9, "c9;").sees(60, 0, 0, 0), -540);
            due("one of all people", inn("c3;ro1;w1;s4r0,000;").sees(1, 9, 1, 5), 9);
            keeps("sees(60, ..)", innAfter(1, SWINGING), x -> x.sees(60, 9, 1, 4));
        });
        countOfWeeks("Promise 25, WHICH", GoodHalfEmpty::which, 60);
        says("Terms, WHICH: 10 times the KIND (0 .. 5) and SPAN", () -> {
            due("l1", new GoodHalfEmpty().which(60), 1);
            due("l6", inn("s4u8,000;c2;").which(6), 6);
            due("o1", inn("s7a0,000;c0;").which(1), 11);
            due("o6", inn("s4a0,000;c0;").which(6), 16);
            due("m6", inn("s8u6,000;c3;").which(60), 26);
            due("t6", inn("rl6;s7r0,000;c6;w18;").which(6), 36);
            due("b6", inn("s8u9,000;c1;w27;").which(30), 46);
            due("f1", inn("s3u7,000;c2;").which(1), 51);
            due("f2", inn("s4a0,000;s9u0,000;c11;").which(2), 52);
            due("f4", inn("c35;" + times(4, "s9a0,000;")).which(1), 54);
        });
        says("Terms, WHICH: of several the first", () -> {
            due("all but f are RIGHT", inn("c5;").which(60), 1);
            due("o, of all SPANS", inn("s7a0,000;c0;").which(1), 11);
            due("f, of all SPANS", inn("c5;s9a0,000;").which(1), 51);
        });
        says("Terms, WHICH: (that go by as they do)", () -> {
            due("no RULE need be told", inn("s9u1,000;c5;").which(60), 2);
            due("those told don't count", innAfter(9, "rf1;s9u1,000;c5;").which(60), 2);
            GoodHalfEmpty x = inn("s9u1,000;c5;");
            due("which(60)", x.which(60), 2);
            due("which(1) behind it", x.which(1), 51);
            tell(x, "c9;");
            due("which(60) with more CHAIRS", x.which(60), 1);
            tell(x, "c5;");
            due("which(1) with as many as at first", x.which(1), 51);
        });
        countOfWeeks("Promise 26, LONGER", GoodHalfEmpty::longer, 60);
        says("Terms, LONGER: were SPAN of all RULES 1 more (6 at most)", () -> {
            due("1 becomes 2", inn("c5;rl1;s9r0,000;w9;").longer(1), 0);
            // By the week ahead of the latest: two weeks all go, two weeks nobody.
            row("longer", inn(SWINGING)::longer, 1, 0, 0, 9, 9);
            // 5 becomes 6: w9 is six weeks ago at first, so nobody goes, then nine.
            row("longer", inn("c5;rl5;s9r0,000;w9;w0;w0;w0;w0;w0;")::longer, 1, 0, 9);
            row("swing", inn("c5;rl5;s9r0,000;w9;w0;w0;w0;w0;w0;")::swing, 1, 0, 0, 0, 0, 0, 9);
            // 6 stays: were it 7, the first week would be by w9, the second by w0.
            row("longer", inn("c5;rl6;s9r0,000;w9;w0;w0;w0;w0;w0;w0;")::longer, 1, 0, 0);
            row("longer", inn("c5;rl6;s9r0,000;w0;w9;w0;w0;w0;w0;w0;")::longer, 1, 0, 9);
            due("f becomes 20", inn("c10;rf1;s9r0,000;s1u1,000;").longer(60), 1);
            due("f stays 60", inn("c60;rf6;s9r0,000;s1u1,000;").longer(2), 1);
            due("each of six", inn("c5;rl1;rl2;rl3;rl4;rl5;rl6;s9h5,000;w9;w0;w0;w0;w0;w0;").longer(2), 9);
            GoodHalfEmpty x = inn(SWINGING);
            x.longer(60);
            due("SPAN stays", x.rule(0, 1), 1);
        });
    }

    // ---- Seeds ----

    private static int nextSeed(int z) {
        long wide = (z * 1664525L + 1013904223L) & 0xffffffffL;
        return (int) wide;
    }

    private static int drawn(int z, int below) {
        long bits = z < 0 ? z + 2147483648L : z;
        return (int) (bits / 256 % below);
    }

    private static void seeds() {
        countOfWeeks("Promise 27, SEEDS", (x, n) -> x.seeds(n, 7), 20);
        says("Terms, SEEDS: n times (1 .. 20)", () -> {
            for (int n = 1; n <= 20; n++) {
                due("seeds(" + n + ", 1)", inn("s5a0,000;w1;").seeds(n, 1), 5 * n);
            }
        });
        says("Terms, SEEDS: each REMEMBERED WEEK (as many as there are", () -> {
            due("none", inn(SWINGING).seeds(20, 7), 180);
            due("none: CHAIRS stay", inn("c5;rl6;s9r0,000;").seeds(2, 7), 18);
            // RULES by WEEK 1 .. 6 of 8: each comes true by its own DRAW.
            for (int weeks = 0; weeks <= 8; weeks++) {
                String text = "c2;s5r0,000;" + times(weeks, "w0;");
                for (int span = 1; span <= 6; span++) {
                    int z = 99;
                    int draw = 2;
                    for (int i = 1; i <= weeks; i++) {
                        z = nextSeed(z);
                        draw = i == span ? drawn(z, 6) : draw;
                    }
                    due(weeks + " weeks, SPAN " + span, inn("rl" + span + ";" + text).seeds(1, 99), draw <= 2 ? 5 : 0);
                }
            }
        });
        says("Terms, SEEDS: from the latest back", () -> {
            for (int z = 0; z < 40; z++) {
                int latest = drawn(nextSeed(z), 10);
                int ahead = drawn(nextSeed(nextSeed(z)), 10);
                due("l1 of " + z, inn("c4;rl1;s9r0,000;w0;w0;").seeds(1, z), latest <= 4 ? 9 : 0);
                due("l2 of " + z, inn("c4;rl2;s9r0,000;w0;w0;").seeds(1, z), ahead <= 4 ? 9 : 0);
            }
        });
        says("Terms, SEEDS: the seed goes on from one time to the next", () -> {
            int z = -5;
            int all = 0;
            for (int n = 1; n <= 20; n++) {
                z = nextSeed(z);
                all += drawn(z, 10) <= 4 ? 9 : 0;
                for (int i = 1; i < 8; i++) {
                    z = nextSeed(z);
                }
                due("seeds(" + n + ", -5)", inn("c4;rl1;s9r0,000;" + times(8, "w0;")).seeds(n, -5), all);
            }
        });
        says("Terms, SEEDS: becomes a DRAW below all people and 1", () -> {
            due("below 1: 0 always", inn("c0;rl1;w5;").seeds(20, 3), 0);
            int lows = 0;
            int highs = 0;
            for (int z = 0; z < 60; z++) {
                int draw = drawn(nextSeed(z), 3);
                lows += draw == 0 ? 1 : 0;
                highs += draw == 2 ? 1 : 0;
                due("none of " + z, inn("c0;rl1;s2r0,000;w0;").seeds(1, z), draw == 0 ? 2 : 0);
                due("one at most of " + z, inn("c1;rl1;s2r0,000;w0;").seeds(1, z), draw <= 1 ? 2 : 0);
            }
            due("both ends are drawn", lows > 0 && highs > 0 ? 1 : 0, 1);
        });
        says("Terms, DRAW: z times 1664525 and 1013904223 (an int); (z without its sign's bit by 256, cut) modulo m", () -> {
            for (int z : new int[] {LEAST, LEAST + 1, -1000, -1, 0, 1, 999, 1000, GREATEST - 1, GREATEST}) {
                for (int people = 1; people <= 9; people++) {
                    for (int chairs = 0; chairs < people; chairs++) {
                        String text = "c" + chairs + ";rl1;s" + people + "r0,000;w0;";
                        int draw = drawn(nextSeed(z), people + 1);
                        due(text + " with " + z, inn(text).seeds(1, z), draw <= chairs ? people : 0);
                    }
                }
            }
        });
        says("Terms, SEEDS: then PRESENT of the next one: all these together", () -> {
            // No week goes by between: the number stays, and with it who has the turn.
            due("the turn stays", inn("s2u1,000;w1;").seeds(20, 9), 40);
            due("nobody's turn", innAfter(1, "s2u1,000;").seeds(20, 9), 0);
            due("36 by 20", inn(times(4, "s9a0,000;")).seeds(20, 9), 720);
            due("of nobody", new GoodHalfEmpty().seeds(20, 9), 0);
        });
    }

    // ---- Told weeks looked at, the image, what is counted ----

    private static GoodHalfEmpty innWithRow(int n) {
        GoodHalfEmpty x = inn(SWINGING);
        for (int i = 0; i < n; i++) {
            x.row(i % 2 == 0 ? 9 : 0);
        }
        return x;
    }

    private static int judged(GoodHalfEmpty x, int... row) {
        for (int v : row) {
            x.row(v);
        }
        return x.judge();
    }

    private static void rows() {
        says("Promise 28: (0 .. 99): how many.", () -> {
            for (int v = 0; v <= 99; v++) {
                due("row(" + v + ")", new GoodHalfEmpty().row(v), 1);
            }
        });
        says("Promise 28: -4", () -> {
            refuses("row(-1)", innWithRow(3), -4, x -> x.row(-1));
            refuses("row(least)", innWithRow(3), -4, x -> x.row(LEAST));
        });
        says("Promise 28: -6 (99", () -> {
            refuses("row(100)", innWithRow(3), -6, x -> x.row(100));
            refuses("row(greatest)", innWithRow(3), -6, x -> x.row(GREATEST));
        });
        says("Promise 28: 12, too)", () -> {
            due("the twelfth", innWithRow(11).row(0), 12);
            GoodHalfEmpty x = innWithRow(12);
            refuses("the thirteenth", x, -6, y -> y.row(9));
            due("the twelve are as told", x.judge(), -9);
            due("room again", x.row(9), 1);
        });
        says("Promise 28, both at once: -4; -6", () -> {
            refuses("row(-1) with 12", innWithRow(12), -4, x -> x.row(-1));
            refuses("row(100) with 12", innWithRow(12), -6, x -> x.row(100));
        });
        says("Terms, JUDGED: the first that is not so; -9", () -> {
            due("all so", innWithRow(12).judge(), -9);
            due("no ROW", inn(SWINGING).judge(), -9);
            for (int lie = 0; lie < 12; lie++) {
                int[] row = {9, 0, 9, 0, 9, 0, 9, 0, 9, 0, 9, 0};
                row[lie]++;
                due("the lie at " + lie, judged(inn(SWINGING), row), lie);
                row[11] = 77;
                due("and at the end", judged(inn(SWINGING), row), lie);
            }
            due("one less is not so", judged(inn(SWINGING), 8), 0);
        });
        says("Promise 29: (whichever it answers, the ROW has none then)", () -> {
            GoodHalfEmpty x = inn(SWINGING);
            judged(x, 9, 0);
            due("behind -9", x.count(7), 0);
            judged(x, 9, 1);
            due("behind 1", x.count(7), 0);
            due("judge() again", x.judge(), -9);
            due("a ROW begun anew", judged(x, 9, 0, 8), 2);
            due("a shorter one", judged(x, 9, 0), -9);
            due("a longer one", judged(x, 9, 0, 9, 0), -9);
            row("count", x::count, 11, 0, 0, 0, 0, 0, 0);
            due("no week went by", x.count(4), 0);
        });
        says("Promise 29, of the next WEEKS as things stand when it judges", () -> {
            GoodHalfEmpty x = innWithRow(2);
            x.week();
            due("a week later", x.judge(), 0);
            x.row(0);
            x.row(9);
            due("and told so", x.judge(), -9);
        });
    }

    private static void images() {
        says("Promise 31: -3 there is none.", () -> {
            refuses("on()", new GoodHalfEmpty(), -3, x -> x.on());
            GoodHalfEmpty x = innAfter(2, SWINGING);
            refuses("on() of a town", x, -3, y -> y.on());
            x.image();
            due("then there is one", x.on(), 2);
        });
        says("Promise 30: THE IMAGE is taken: the number.", () -> {
            GoodHalfEmpty x = innAfter(3, SWINGING);
            keeps("image()", x, y -> y.image());
            due("image()", x.image(), 3);
            x.week();
            due("a later one", x.image(), 4);
            x.week();
            due("the latest counts", x.on(), 4);
        });
        says("Terms: ON from it all is as then.", () -> {
            GoodHalfEmpty x = innAfter(3, SWINGING + "w4;");
            x.penny(2);
            x.image();
            String then = seen(x);
            for (int i = 0; i < 3; i++) {
                x.penny(9);
                tell(x, "c60;w1;w2;rf1;s9h1,999;");
                x.week();
                due("on()", x.on(), 3);
                due("all is as then", then.equals(seen(x)) ? 1 : 0, 1);
                due("SORTS that came later are none", x.count(0), 1);
                due("RULES neither", x.count(1), 1);
            }
            due("the WEEK then", x.week(), 0);
        });
        says("Terms: ON from it all is as then, PLANS, too.", () -> {
            GoodHalfEmpty x = inn("c2;s3a0,513;");
            x.image();
            for (int i = 0; i < 2; i++) {
                tell(x, "c30;" + times(3, "s9a0,990;"));
                due("rests() of four SORTS", x.rests(), 1);
                due("rest(-1)", x.rest(-1), 30);
                due("best(1)", x.best(1), 30);
                due("off()", x.off(), 0);
                due("pennies()", x.pennies(), 0);
                due("chairs()", x.chairs(), 30);
                x.on();
                due("rests() of one SORT", x.rests(), 1);
                due("rest(-1) then", x.rest(-1), 2);
                due("best(0) then", x.best(0), 13);
                due("best(1) then", x.best(1), 2);
                due("off() then", x.off(), 0);
                due("chairs() then", x.chairs(), 3);
            }
        });
        says("Terms, THE IMAGE: (not the ROW, letters, REFUSALS)", () -> {
            GoodHalfEmpty x = new GoodHalfEmpty();
            x.row(1);
            x.letter('c');
            x.goes(0);
            x.image();
            x.row(2);
            x.letter('5');
            x.letter(';');
            x.goes(0);
            x.on();
            due("in the ROW", x.count(7), 2);
            due("letters", x.count(8), 3);
            due("REFUSALS", x.count(11), 2);
            due("the letters go on", x.town(), 1);
            x.judge();
            x.on();
            due("the ROW is not that of then", x.count(7), 0);
            due("the letters neither", x.count(8), 0);
        });
        says("Terms, THE IMAGE: of an empty town", () -> {
            GoodHalfEmpty x = new GoodHalfEmpty();
            x.image();
            String then = seen(x);
            tell(x, SWINGING + "w4;");
            x.week();
            due("on()", x.on(), 0);
            due("all is as then", then.equals(seen(x)) ? 1 : 0, 1);
            tell(x, SWINGING);
            due("RIGHT is from then on", x.rule(0, 2), 0);
        });
    }

    private static void counts() {
        says("Promise 32: 0 SORTS .. 8 letters", () -> {
            GoodHalfEmpty x = inn("c60;" + times(6, "rl1;") + times(4, "s9a0,111;"));
            for (int i = 0; i < 9; i++) {
                x.week();
            }
            x.penny(9);
            for (int i = 0; i < 12; i++) {
                x.row(i);
            }
            for (int i = 0; i < 80; i++) {
                x.letter(i);
            }
            row("count", x::count, 0, 4, 6, 36, 60, 9, 8, 9, 12, 80);
        });
        says("Promise 32: 11 .. 16 REFUSALS -1 .. -6.", () -> {
            GoodHalfEmpty x = new GoodHalfEmpty();
            x.goes(0);
            x.worth(0);
            x.best(2);
            x.on();
            x.on();
            x.on();
            x.after(0);
            x.sees(0, 0, 0, 0);
            x.letter(-1);
            x.row(-1);
            x.seeds(21, 0);
            row("count", x::count, 11, 2, 1, 3, 4, 0, 1);
            x.image();
            x.on();
            x.town();
            x.judge();
            row("count", x::count, 11, 2, 1, 3, 4, 0, 1);
        });
        says("Promise 32: -9 for another what.", () -> {
            GoodHalfEmpty x = new GoodHalfEmpty();
            for (int what : new int[] {LEAST, -9, -1, 9, 10, 17, 18, GREATEST}) {
                keeps("count(" + what + ")", x, y -> y.count(what));
                due("count(" + what + ")", x.count(what), -9);
            }
        });
    }

    public static void main(String[] args) {
        newObject();
        letters();
        forms();
        ranges();
        faults();
        looks();
        rules();
        sorts();
        weeks();
        ahead();
        againAndGains();
        resting();
        best();
        bestPennies();
        seer();
        seeds();
        rows();
        images();
        counts();
        System.out.println(wrong == 0 ? sentences + " sentences hold" : wrong + " answers are not as due");
        if (wrong != 0) {
            System.exit(1);
        }
    }
}
