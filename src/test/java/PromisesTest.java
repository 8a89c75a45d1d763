/** Each promise of the document by itself: ordinary inputs, edges, wrong inputs. Answers are worked out by hand. */
public final class PromisesTest {
    private static final int REFUSED = 1000000000;
    // Last week's number decides: nine go, nobody goes, and so on.
    private static final String SWINGING = "c5;rl1;s9r0,915;";
    // Of two alone, one comes where few are and the other where the first is: no plan rests.
    private static final String RESTLESS = "c1;s1a0,503;s1a0,053;";

    private static int wrong = 0;
    private static int promise = 0;

    private static void due(String call, int got, int want) {
        if (got != want) {
            wrong++;
            System.out.println("promise " + promise + ": " + call + " answered " + got + ", due is " + want);
        }
    }

    private static int tell(GoodHalfEmpty x, String text) {
        for (int i = 0; i < text.length(); i++) {
            x.letter(text.charAt(i));
        }
        return x.town();
    }

    private static GoodHalfEmpty inn(String text) {
        GoodHalfEmpty x = new GoodHalfEmpty();
        if (tell(x, text) < 1) {
            wrong++;
            System.out.println("promise " + promise + ": no town: " + text);
        }
        return x;
    }

    private static void refused(GoodHalfEmpty x, int... counts) {
        for (int i = 0; i < 6; i++) {
            due("count of refusals " + (-1 - i), x.count(11 + i), i < counts.length ? counts[i] : 0);
        }
    }

    private static void newObject() {
        GoodHalfEmpty x = new GoodHalfEmpty();
        int[] counts = {0, 0, 0, 10, 0, 0, 0, 0, 0};
        for (int what = 0; what < counts.length; what++) {
            due("count(" + what + ")", x.count(what), counts[what]);
        }
        due("remembered(1)", x.remembered(1), 10);
        due("next()", x.next(), 0);
        refused(x);
    }

    private static void letter() {
        GoodHalfEmpty x = new GoodHalfEmpty();
        due("letter(0)", x.letter(0), 1);
        due("letter(255)", x.letter(255), 2);
        due("letter(-1)", x.letter(-1), -4);
        due("letter(256)", x.letter(256), -6);
        due("letter(least)", x.letter(Integer.MIN_VALUE), -4);
        due("letter(greatest)", x.letter(Integer.MAX_VALUE), -6);
        for (int i = 3; i <= 80; i++) {
            due("letter(65)", x.letter(65), i);
        }
        due("letter 81", x.letter(65), -6);
        due("letter(-1) with 80 there", x.letter(-1), -4);
        due("count(8)", x.count(8), 80);
        refused(x, 0, 0, 0, 3, 0, 3);
    }

    private static void form() {
        String[] texts = {"", "c", "c1", "c12", "c;", "c123;", "c1x;", "x", ";", "C1;", "c5;;", "c5;x", "c99;x", "w", "w5",
            "w555;", "r", "rl", "rl1", "rq1;", "rl;", "rl11;", "rL1;", "s", "s1", "s1a", "s1a0", "s1a0,", "s1a0,1", "s1a0,12",
            "s1a0,123", "sa", "s1q", "s1a,", "s1a0;", "s1a0,;", "s1a0,1;", "s1a0,12;", "s1a0,1234;", "c/;", "c:;",
            "c1" + (char) 0 + ";", "c1" + (char) 255 + ";", "rn1;", "s1l0,111;"};
        int[] places = {0, 1, 2, 3, 1, 3, 2, 0, 0, 0, 3, 3, 4, 1, 2, 3, 1, 2, 3, 1, 2, 3, 1, 1, 2, 3, 4, 5, 6, 7, 8, 1, 2, 3,
            4, 5, 6, 7, 8, 1, 1, 2, 2, 1, 2};
        for (int i = 0; i < texts.length; i++) {
            GoodHalfEmpty x = new GoodHalfEmpty();
            due("town() of " + texts[i], tell(x, texts[i]), -1000 - places[i]);
            due("letters then", x.count(8), 0);
            due("CHAIRS then", x.count(3), 10);
            refused(x);
        }
        GoodHalfEmpty full = new GoodHalfEmpty();
        due("80 letters with a piece at the end", tell(full, "c1;w1;w1;w1;w1;w1;w1;w1;w1;w1;w1;w1;w1;w1;w1;w1;w1;w1;w1;w1;"
            + "w1;w1;w1;w1;w1;w1;w1"), -1080);
        due("and one statement less, 80 letters", tell(full, "c1;w1;w1;w1;w1;w1;w1;w1;w1;w1;w1;w1;w1;w1;w1;w1;w1;w1;w1;w1;"
            + "w1;w1;w1;w1;w1;w12;w"), -1080);
        due("80 letters", tell(full, "c1;w1;w1;w1;w1;w1;w1;w1;w1;w1;w1;w1;w1;w1;w1;w1;w1;w1;w1;w1;w1;w1;w1;w1;w12;w12;"), 26);
    }

    private static void sense() {
        String[] texts = {"c61;", "c60;c99;", "w61;", "w5;w60;w61;", "s0a0,000;", "rl0;", "rl7;", "rl9;", "s1r0,000;",
            "s1h0,000;", "rl1;s1r1,000;", "rl1;s1h1,000;", "s1r0,000;rl1;", "rl1;rl1;rl1;rl1;rl1;rl1;rl1;",
            "s1a0,111;s1a0,111;s1a0,111;s1a0,111;s1a0,111;", "c00;s0a0,000;c61;"};
        int[] places = {0, 4, 0, 7, 0, 0, 0, 0, 0, 0, 4, 4, 0, 24, 36, 4};
        for (int i = 0; i < texts.length; i++) {
            GoodHalfEmpty x = new GoodHalfEmpty();
            due("town() of " + texts[i], tell(x, texts[i]), -2000 - places[i]);
            int[] counts = {0, 0, 0, 10, 0, 0, 0, 0, 0};
            for (int what = 0; what < counts.length; what++) {
                due("count(" + what + ") behind a fault", x.count(what), counts[what]);
            }
            refused(x);
        }
        GoodHalfEmpty x = inn("s1a0,111;s1a0,111;s1a0,111;");
        due("fifth sort told later", tell(x, "c7;s1a0,111;s1a0,111;"), -2012);
        due("CHAIRS are as ahead", x.count(3), 10);
        due("SORTS are as ahead", x.count(0), 3);
        due("a fourth", tell(x, "s1a0,111;"), 1);
        due("a fifth", tell(x, "s1a0,111;"), -2000);
        due("a week has room at any time", tell(x, "w1;w2;w3;w4;w5;w6;w7;w8;w9;"), 9);
    }

    private static void town() {
        form();
        sense();
        GoodHalfEmpty x = new GoodHalfEmpty();
        due("statements", tell(x, "c05;rl1;s1r0,000;s9h0,999;w00;w7;"), 6);
        int[] counts = {2, 1, 10, 5, 0, 2, 0, 0, 0};
        for (int what = 0; what < counts.length; what++) {
            due("count(" + what + ")", x.count(what), counts[what]);
        }
        due("c0;", tell(x, "c0;"), 1);
        due("CHAIRS", x.count(3), 0);
        due("c60;c7;", tell(x, "c60;c7;"), 2);
        due("the last CHAIRS", x.count(3), 7);
        due("FIGURE of others is free", tell(x, "s1a9,000;s1u9,000;"), 2);
        due("rule numbers go on", tell(inn("rl1;"), "rl1;s1r1,000;s1h1,000;s1n9,000;s1e9,000;"), 5);
        due("SPAN 6", tell(x, "rf6;"), 1);
    }

    private static void sort() {
        GoodHalfEmpty x = inn("rl1;rl1;s9a8,765;s1n7,000;s2r1,999;s3h0,123;");
        int[][] all = {{9, 0, 8, 7, 6, 5}, {1, 1, 7, 0, 0, 0}, {2, 2, 1, 9, 9, 9}, {3, 3, 0, 1, 2, 3}};
        for (int s = 0; s < 4; s++) {
            for (int what = 0; what < 6; what++) {
                due("sort(" + s + ", " + what + ")", x.sort(s, what), all[s][what]);
            }
        }
        GoodHalfEmpty y = inn("s1u4,000;s1e0,000;");
        due("kind u", y.sort(0, 1), 4);
        due("kind e", y.sort(1, 1), 5);
        due("sort(-1, 0)", y.sort(-1, 0), -1);
        due("sort(2, 0)", y.sort(2, 0), -1);
        due("sort(2, 9)", y.sort(2, 9), -1);
        due("sort(0, -1)", y.sort(0, -1), -2);
        due("sort(1, 6)", y.sort(1, 6), -2);
        refused(y, 3, 2);
    }

    private static void rule() {
        GoodHalfEmpty x = inn("s9a0,111;s3a0,111;w3;w20;w11;w6;rl2;ro1;rm3;rt2;rb2;rf3;");
        int[][] all = {{0, 2, 0, 11}, {1, 1, 0, 6}, {2, 3, 0, 12}, {3, 2, 0, 1}, {4, 2, 0, 6}, {5, 3, 0, 30}};
        for (int r = 0; r < 6; r++) {
            for (int what = 0; what < 4; what++) {
                due("rule(" + r + ", " + what + ")", x.rule(r, what), all[r][what]);
            }
        }
        due("rule(-1, 0)", x.rule(-1, 0), -1);
        due("rule(6, 0)", x.rule(6, 0), -1);
        due("rule(6, 4)", x.rule(6, 4), -1);
        due("rule(0, -1)", x.rule(0, -1), -2);
        due("rule(5, 4)", x.rule(5, 4), -2);
        refused(x, 3, 2);
        GoodHalfEmpty low = inn("s9a0,111;s3a0,111;w3;w20;w11;w6;ro3;rt3;rl6;rm6;rb6;rm4;");
        int[] foretold = {0, 0, 10, 10, 4, 10};
        for (int r = 0; r < 6; r++) {
            due("rule(" + r + ", 3)", low.rule(r, 3), foretold[r]);
        }
        due("0 at least of b", inn("w1;rb6;c2;").rule(0, 3), 0);
        right();
    }

    private static void right() {
        GoodHalfEmpty few = inn("c5;s3a0,950;rf1;rl1;w5;w9;");
        due("no week went by", few.rule(0, 2), 0);
        few.week();
        due("few, f1 foretold more", few.rule(0, 2), 0);
        due("few, l1 foretold more", few.rule(1, 2), 0);
        few.week();
        due("few, l1 foretold few", few.rule(1, 2), 1);
        GoodHalfEmpty more = inn("c2;s3a0,950;rf1;rl1;");
        more.week();
        due("more, f1 foretold more", more.rule(0, 2), 1);
        due("more, l1 foretold as many as CHAIRS", more.rule(1, 2), 0);
        more.next();
        more.after(9);
        tell(more, "rl1;");
        more.week();
        due("f1 again", more.rule(0, 2), 2);
        due("l1 now", more.rule(1, 2), 1);
        due("the new one from then on", more.rule(2, 2), 1);
    }

    private static void remembered() {
        GoodHalfEmpty x = inn("c7;w1;w2;w3;");
        int[] want = {3, 2, 1, 7, 7, 7, 7, 7};
        for (int ago = 1; ago <= 8; ago++) {
            due("remembered(" + ago + ")", x.remembered(ago), want[ago - 1]);
        }
        due("remembered(0)", x.remembered(0), -4);
        due("remembered(9)", x.remembered(9), -6);
        tell(x, "w4;w5;w6;w7;w8;w9;c60;");
        due("the oldest", x.remembered(8), 2);
        due("the latest", x.remembered(1), 9);
        due("eight at most", x.count(5), 8);
        refused(x, 0, 0, 0, 1, 0, 1);
    }

    private static void penny() {
        GoodHalfEmpty x = inn("c5;s3a0,915;s2n0,123;");
        due("penny(2)", x.penny(2), 0);
        due("worth(0)", x.worth(0), 7);
        due("worth at home", x.worth(1), 3);
        due("penny(9)", x.penny(9), 2);
        due("penny(-1)", x.penny(-1), -4);
        due("penny(10)", x.penny(10), -6);
        due("penny(0)", x.penny(0), 9);
        due("count(6)", x.count(6), 0);
        refused(x, 0, 0, 0, 1, 0, 1);
    }

    private static void week() {
        GoodHalfEmpty x = inn(SWINGING);
        int[] want = {9, 0, 9, 0, 9, 0, 9, 0, 9};
        for (int i = 0; i < want.length; i++) {
            due("week " + i, x.week(), want[i]);
            due("the number", x.count(4), i + 1);
            due("remembered", x.remembered(1), want[i]);
            due("how many", x.count(5), Math.min(8, i + 1));
        }
        due("week() of nobody", new GoodHalfEmpty().week(), 0);
    }

    private static void next() {
        GoodHalfEmpty x = inn(SWINGING);
        due("next()", x.next(), 9);
        due("next() again", x.next(), 9);
        due("nothing went by", x.count(4), 0);
        x.week();
        due("next() then", x.next(), 0);
        due("next() of all kinds", inn("c9;s2a0,000;s3n0,000;s4u0,000;s3e0,000;").next(), 9);
    }

    private static void goes() {
        GoodHalfEmpty e = inn("c5;s3e0,915;s3e0,915;s2e0,915;");
        due("first SEER", e.goes(0), 1);
        due("second SEER", e.goes(1), 0);
        due("third SEER", e.goes(2), 1);
        GoodHalfEmpty last = inn("c5;s3e0,915;s4a0,915;s1n0,000;");
        due("a SEER is last", last.goes(0), 0);
        due("ALWAYS", last.goes(1), 1);
        due("NEVER", last.goes(2), 0);
        due("goes(3)", last.goes(3), -1);
        due("goes(-1)", last.goes(-1), -1);
        refused(last, 2);
        GoodHalfEmpty u = inn("s2u2,915;s2u0,915;s1u9,000;");
        for (int number = 0; number < 21; number++) {
            due("TURN 2 at " + number, u.goes(0), number % 3 == 0 ? 1 : 0);
            due("TURN 0 at " + number, u.goes(1), 1);
            due("TURN 9 at " + number, u.goes(2), number % 10 == 0 ? 1 : 0);
            u.week();
        }
        GoodHalfEmpty r = inn("c10;rf1;rf2;s1r0,000;s1r1,000;");
        due("a RULER by CHAIRS foretold", r.goes(0), 1);
        due("a RULER by more", r.goes(1), 0);
        hat();
    }

    private static void hat() {
        GoodHalfEmpty x = inn("c5;rf1;rl1;s3h0,915;s1h1,000;");
        due("of several the first", x.goes(0), 0);
        due("from FIGURE on", x.goes(1), 1);
        due("week()", x.week(), 1);
        due("RIGHT of f1", x.rule(0, 2), 0);
        due("RIGHT of l1", x.rule(1, 2), 1);
        due("the best so far", x.goes(0), 1);
        GoodHalfEmpty y = inn("c5;rf1;s3h0,915;");
        y.week();
        tell(y, "rl1;");
        due("the new one is not better", y.goes(0), 0);
        y.week();
        due("the new one has come into the hat", y.goes(0), 1);
    }

    private static void worth() {
        GoodHalfEmpty x = inn("c5;s3a0,915;s2n0,123;");
        due("FEW", x.worth(0), 9);
        due("HOME", x.worth(1), 3);
        due("all together", x.worth(-1), 33);
        x.penny(2);
        due("all together less PENNY", x.worth(-1), 27);
        tell(x, "c3;");
        due("as many as CHAIRS", x.worth(0), 7);
        tell(x, "c2;");
        due("FULL less PENNY", x.worth(0), -1);
        due("all together in the full inn", x.worth(-1), 3);
        due("worth(2)", x.worth(2), REFUSED + 1);
        due("worth(-2)", x.worth(-2), REFUSED + 1);
        refused(x, 2);
    }

    private static void after() {
        GoodHalfEmpty x = inn(SWINGING);
        due("after(1)", x.after(1), 9);
        due("after(2)", x.after(2), 0);
        due("after(59)", x.after(59), 9);
        due("after(60)", x.after(60), 0);
        due("after(0)", x.after(0), -4);
        due("after(61)", x.after(61), -6);
        due("nothing went by", x.count(4) + x.count(5), 0);
        refused(x, 0, 0, 0, 1, 0, 1);
        // The best rule so far changes on the way in mind, too.
        GoodHalfEmpty h = inn("c5;rf1;rl1;s3h0,915;");
        due("a HAT at first", h.after(1), 0);
        due("a HAT then", h.after(2), 3);
    }

    private static void mean() {
        GoodHalfEmpty x = inn(SWINGING);
        due("mean(1)", x.mean(1), 900);
        due("mean(2)", x.mean(2), 450);
        due("mean(7)", x.mean(7), 514);
        due("mean(60)", x.mean(60), 450);
        due("mean(0)", x.mean(0), -4);
        due("mean(61)", x.mean(61), -6);
        refused(x, 0, 0, 0, 1, 0, 1);
    }

    private static void swing() {
        GoodHalfEmpty x = inn(SWINGING);
        due("swing(1)", x.swing(1), 0);
        due("swing(2)", x.swing(2), 9);
        due("swing(60)", x.swing(60), 9);
        due("swing(0)", x.swing(0), -4);
        due("swing(61)", x.swing(61), -6);
        due("swing with some always there", inn(SWINGING + "s2a0,000;").swing(60), 9);
        refused(x, 0, 0, 0, 1, 0, 1);
    }

    private static void good() {
        GoodHalfEmpty x = inn(SWINGING);
        due("good(1)", x.good(1), 0);
        due("good(2)", x.good(2), 1);
        due("good(3)", x.good(3), 1);
        due("good(60)", x.good(60), 30);
        due("good(0)", x.good(0), -4);
        due("good(61)", x.good(61), -6);
        due("as many as CHAIRS are good", inn("c3;s3a0,000;").good(60), 60);
        refused(x, 0, 0, 0, 1, 0, 1);
    }

    private static void again() {
        due("again() of two weeks", inn(SWINGING).again(), 2);
        due("again() of one", inn("s3a0,000;").again(), 1);
        due("again() of nobody", new GoodHalfEmpty().again(), 1);
        due("again() of nine and eight", inn("s1u7,000;s2u4,000;").again(), 40);
        due("again() of too many", inn("s1u8,000;s2u4,000;").again(), -9);
        due("again() of ten", inn("s1u9,000;").again(), 10);
        // Weeks that only begin alike, for 40 weeks, must be alike for all of 1 .. 40.
        due("again() of twos and threes", inn("s1u1,000;s2u2,000;").again(), 6);
    }

    private static void gains() {
        GoodHalfEmpty x = inn(SWINGING + "s2n0,347;");
        due("gains(0, 1)", x.gains(0, 1), 1);
        due("gains(0, 2)", x.gains(0, 2), 6);
        due("gains(0, 60)", x.gains(0, 60), 180);
        due("gains(1, 3)", x.gains(1, 3), 21);
        x.penny(4);
        due("gains(0, 1) with PENNY", x.gains(0, 1), -3);
        due("gains(1, 3) with PENNY", x.gains(1, 3), 21);
        due("gains(2, 0)", x.gains(2, 0), REFUSED + 1);
        due("gains(-1, 1)", x.gains(-1, 1), REFUSED + 1);
        due("gains(0, 0)", x.gains(0, 0), REFUSED + 4);
        due("gains(0, 61)", x.gains(0, 61), REFUSED + 6);
        refused(x, 2, 0, 0, 1, 0, 1);
        due("nothing went by", x.count(4), 0);
    }

    private static void rests() {
        due("rests() of nobody", new GoodHalfEmpty().rests(), 1);
        due("as many as CHAIRS go", inn("c2;s3n0,513;").rests(), 1);
        due("all plans if all is alike", inn("c2;s3a0,333;s9a0,000;").rests(), 40);
        due("none", inn(RESTLESS).rests(), 0);
        due("those who stay in the full inn", inn("c0;s9a0,900;").rests(), 10);
        due("all ways to fill CHAIRS", inn("c3;s3a0,513;s3a0,513;").rests(), 4);
        due("all ways of four sorts", inn("c36;s9a0,000;s9a0,000;s9a0,000;s9a0,000;").rests(), 10000);
        GoodHalfEmpty x = inn("c2;s3a0,513;");
        x.penny(2);
        due("with PENNY FEW is as good as HOME", x.rests(), 3);
        x.penny(3);
        due("with more PENNY nobody comes", x.rests(), 1);
    }

    private static void rest() {
        GoodHalfEmpty x = inn("c2;s3n0,513;");
        due("rest(0)", x.rest(0), 2);
        due("rest(-1)", x.rest(-1), 2);
        due("rest(1)", x.rest(1), -1);
        due("rest(-2)", x.rest(-2), -1);
        refused(x, 2);
        GoodHalfEmpty two = inn("c3;s2a0,513;s3a0,513;");
        due("as few of SORT 0 as can be", two.rest(0), 0);
        due("the others from SORT 1", two.rest(1), 3);
        tell(two, "c4;");
        due("one of SORT 0 now", two.rest(0), 1);
        due("rest(-1) then", two.rest(-1), 4);
        GoodHalfEmpty none = inn(RESTLESS);
        due("rest(0), none rests", none.rest(0), -9);
        due("rest(-1), none rests", none.rest(-1), -9);
        due("rest(2), none rests", none.rest(2), -1);
        refused(none, 1);
        due("rest(-1) of nobody", new GoodHalfEmpty().rest(-1), 0);
        // By 2 of SORT 1 in the full inn, not by 1 of SORT 0 with room: SORT 0 counts first.
        due("plans of two bands", inn("c1;s1a0,303;s2a0,033;").rest(-1), 0);
    }

    private static void best() {
        GoodHalfEmpty x = inn("c1;s3a0,943;");
        due("best(0)", x.best(0), 15);
        due("best(1)", x.best(1), 1);
        due("best(2)", x.best(2), REFUSED + 2);
        due("best(-1)", x.best(-1), REFUSED + 2);
        refused(x, 0, 2);
        x.penny(9);
        due("best(0) with PENNY", x.best(0), 9);
        due("best(1) with PENNY", x.best(1), 0);
        due("of several the first", inn("c5;s2a0,333;").best(1), 0);
        GoodHalfEmpty tied = inn("c1;s1a0,400;s2a0,020;");
        due("best(0) of ties", tied.best(0), 4);
        due("two of SORT 1 come ahead of one of SORT 0", tied.best(1), 2);
        GoodHalfEmpty full = inn("c3;s9a0,191;");
        due("the full inn may be best", full.best(0), 81);
        due("with all in it", full.best(1), 9);
        due("best(0) of nobody", new GoodHalfEmpty().best(0), 0);
        GoodHalfEmpty low = inn("c0;s9a0,000;");
        low.penny(9);
        due("none goes for nothing", low.best(0), 0);
    }

    private static void off() {
        due("off()", inn("c1;s3a0,943;").off(), 3);
        due("off() of none", inn(RESTLESS).off(), -9);
        due("off() of the best", inn("c2;s3n0,513;").off(), 0);
        due("off() of nobody", new GoodHalfEmpty().off(), 0);
        GoodHalfEmpty x = inn("c1;s3a0,943;");
        x.penny(1);
        // With PENNY 1 FULL is as good as HOME: one goes, and that is best.
        due("off() with PENNY", x.off(), 0);
    }

    private static void pennies() {
        due("pennies()", inn(RESTLESS).pennies(), 2);
        due("pennies() of nobody", new GoodHalfEmpty().pennies(), 0);
        due("a PENNY makes none worse off here", inn("c2;s3n0,513;").pennies(), 0);
        // Without PENNY all nine go and have 4; with PENNY 1 one has 8 and the others 3.
        due("a PENNY that parts them", inn("c1;s3a0,943;").pennies(), 1);
        GoodHalfEmpty x = inn("c1;s3a0,943;");
        x.penny(7);
        due("whatever PENNY is", x.pennies(), 1);
        due("it stays as it is", x.count(6), 7);
        due("the least of several", inn("s3n0,005;").pennies(), 0);
        due("none rests with less", inn("c1;s1a0,901;s1a0,091;").pennies(), 8);
    }

    private static void chairs() {
        GoodHalfEmpty x = inn("c2;s3n0,513;");
        due("chairs()", x.chairs(), 3);
        due("CHAIRS stay", x.count(3), 2);
        due("of several the fewest", inn("c9;s3a0,990;").chairs(), 0);
        due("chairs() of nobody", new GoodHalfEmpty().chairs(), 0);
        due("one CHAIR less is fuller", inn("s9a0,191;").chairs(), 0);
        x.penny(9);
        due("chairs() with PENNY", x.chairs(), 0);
        due("36 CHAIRS", inn("s9a0,513;s9a0,513;s9a0,513;s9a0,513;").chairs(), 36);
    }

    private static void sees() {
        GoodHalfEmpty x = inn("c5;s3a0,950;");
        due("sees(1, ..)", x.sees(1, 9, 1, 4), 9);
        due("sees(60, ..)", x.sees(60, 9, 1, 4), 540);
        x.penny(2);
        due("sees with PENNY", x.sees(1, 0, 1, 4), -2);
        due("sees(0, ..)", x.sees(0, 10, 1, 4), REFUSED + 4);
        due("FEW below", x.sees(61, -1, 10, 4), REFUSED + 4);
        due("FULL below", x.sees(1, 1, -1, 4), REFUSED + 4);
        due("HOME below", x.sees(1, 1, 10, -1), REFUSED + 4);
        due("sees(61, ..)", x.sees(61, 1, 1, 1), REFUSED + 6);
        due("FEW above", x.sees(1, 10, 1, 1), REFUSED + 6);
        due("FULL above", x.sees(1, 1, 10, 1), REFUSED + 6);
        due("HOME above", x.sees(1, 1, 1, 10), REFUSED + 6);
        refused(x, 0, 0, 0, 4, 0, 4);
        due("nobody has come", x.count(0) + x.count(2), 4);
        due("no room: home", inn("c3;s3a0,950;").sees(2, 9, 1, 4), 8);
        due("the others see first", inn("c4;s4e0,000;").sees(1, 9, 1, 4), 4);
        due("it is one of all people", inn("c5;ro1;s9r0,915;w4;").sees(1, 9, 1, 4), 9);
        due("the only one", new GoodHalfEmpty().sees(3, 9, 1, 4), 27);
        due("no CHAIR for it", inn("c0;").sees(60, 9, 9, 9), 540);
        due("least of all", inn("c0;").sees(1, 0, 0, 0), 0);
        due("one only, though two had no room", inn("c4;s3a0,000;").sees(1, 9, 1, 4), 9);
        GoodHalfEmpty four = inn("s1a0,000;s1a0,000;s1a0,000;s1a0,000;");
        due("four are there", four.sees(1, 1, 1, 1), REFUSED + 6);
        due("four are there, and below", four.sees(0, 1, 1, 1), REFUSED + 4);
    }

    private static void which() {
        GoodHalfEmpty x = inn(SWINGING);
        // Nothing is remembered: all but f foretell CHAIRS at most, and nine come.
        due("which(1)", x.which(1), 51);
        due("which(2)", x.which(2), 2);
        due("which(60)", x.which(60), 2);
        due("which(0)", x.which(0), -4);
        due("which(61)", x.which(61), -6);
        refused(x, 0, 0, 0, 1, 0, 1);
        due("no rule need be there", new GoodHalfEmpty().which(60), 1);
        due("o of the least SPAN", inn("c4;s9a0,000;w0;w4;").which(1), 11);
        due("m", inn("c4;s5a0,000;w14;w4;").which(1), 2);
        due("nothing went by", x.count(4), 0);
    }

    private static void longer() {
        GoodHalfEmpty x = inn(SWINGING);
        due("longer(1)", x.longer(1), 0);
        due("longer(2)", x.longer(2), 0);
        due("longer(3)", x.longer(3), 9);
        due("longer(60)", x.longer(60), 9);
        due("SPAN stays", x.rule(0, 1), 1);
        due("swing(2)", x.swing(2), 9);
        due("longer(0)", x.longer(0), -4);
        due("longer(61)", x.longer(61), -6);
        refused(x, 0, 0, 0, 1, 0, 1);
        // Were SPAN 7 the week of 9 would come back one week later.
        GoodHalfEmpty six = inn("c5;rl6;s9r0,915;w0;w0;w0;w0;w0;w9;w9;");
        due("6 at most", six.longer(5), six.swing(5));
        due("SPAN 6 foretells no 7", inn("c5;rl6;s9r0,915;w0;w9;w0;w0;w0;w0;w0;").longer(1), 0);
        due("f, too", inn("c10;rf1;s9r0,915;s1u1,000;").longer(60), 1);
    }

    private static int drawn(int seed, int below) {
        return (int) ((seed & 0x7fffffffL) / 256 % below);
    }

    private static void seeds() {
        due("none is remembered: next() each time", inn(SWINGING).seeds(3, 7), 27);
        int seed = 123456789;
        int all = 0;
        GoodHalfEmpty x = inn(SWINGING + "w1;w2;w3;");
        for (int n = 1; n <= 20; n++) {
            int latest = 0;
            for (int i = 0; i < 3; i++) {
                seed = seed * 1664525 + 1013904223;
                latest = i == 0 ? drawn(seed, 10) : latest;
            }
            all += latest <= 5 ? 9 : 0;
            due("seeds(" + n + ", ..)", x.seeds(n, 123456789), all);
        }
        due("the memory stays", x.remembered(1), 3);
        due("seeds(0, 0)", x.seeds(0, 0), -4);
        due("seeds(21, 0)", x.seeds(21, 0), -6);
        refused(x, 0, 0, 0, 1, 0, 1);
        due("no week goes by", inn("s2u1,000;w1;").seeds(4, 9), 8);
        // 1000 times 1664525 and 1013904223 is below 0 as an int: the sign's bit is taken off.
        for (int people = 1; people <= 9; people++) {
            due("DRAW of 0 with " + people, inn("c0;rl1;s" + people + "r0,000;w0;").seeds(1, 1000),
                drawn(1000 * 1664525 + 1013904223, people + 1) == 0 ? people : 0);
        }
        due("a seed below 0", inn("c2;rl1;s3r0,000;w0;").seeds(1, -1), drawn(-1664525 + 1013904223, 4) <= 2 ? 3 : 0);
    }

    private static void row() {
        GoodHalfEmpty x = new GoodHalfEmpty();
        due("row(-1)", x.row(-1), -4);
        due("row(100)", x.row(100), -6);
        for (int i = 1; i <= 12; i++) {
            due("row(..)", x.row(i == 1 ? 0 : 99), i);
        }
        due("row 13", x.row(5), -6);
        due("row(-1), 12 there", x.row(-1), -4);
        due("count(7)", x.count(7), 12);
        refused(x, 0, 0, 0, 2, 0, 2);
    }

    private static int judged(GoodHalfEmpty x, int... row) {
        for (int v : row) {
            x.row(v);
        }
        return x.judge();
    }

    private static void judge() {
        GoodHalfEmpty x = inn(SWINGING);
        due("no ROW", x.judge(), -9);
        due("all so", judged(x, 9, 0, 9, 0, 9, 0, 9, 0, 9, 0, 9, 0), -9);
        due("none left", x.count(7), 0);
        due("the third is not so", judged(x, 9, 0, 8, 1), 2);
        due("none left then", x.count(7), 0);
        due("the first is not so", judged(x, 0, 0), 0);
        due("the last is not so", judged(x, 9, 0, 9, 0, 9, 0, 9, 0, 9, 0, 9, 1), 11);
        due("nothing went by", x.count(4), 0);
    }

    private static void image() {
        GoodHalfEmpty x = inn(SWINGING);
        due("image()", x.image(), 0);
        x.week();
        x.week();
        due("image() of the second", x.image(), 2);
        x.week();
        due("on() is from the latest", x.on(), 2);
    }

    private static void on() {
        GoodHalfEmpty x = inn("c5;rl1;s9r0,915;w1;");
        due("on(), none there", x.on(), -3);
        x.penny(3);
        x.week();
        x.image();
        tell(x, "c6;rf2;s1a0,111;w4;w3;");
        x.week();
        x.penny(5);
        x.row(7);
        x.letter('c');
        x.goes(9);
        due("on()", x.on(), 1);
        int[] counts = {1, 1, 9, 5, 1, 2, 3, 1, 1};
        for (int what = 0; what < counts.length; what++) {
            due("count(" + what + ")", x.count(what), counts[what]);
        }
        refused(x, 1, 0, 1);
        due("remembered(1)", x.remembered(1), 9);
        due("remembered(2)", x.remembered(2), 1);
        due("RIGHT", x.rule(0, 2), 0);
        due("week()", x.week(), 0);
        due("RIGHT then", x.rule(0, 2), 0);
        x.town();
        tell(x, "c9;");
        x.week();
        due("RIGHT later", x.rule(0, 2), 1);
        due("on() once more", x.on(), 1);
        due("CHAIRS once more", x.count(3), 5);
        due("RIGHT once more", x.rule(0, 2), 0);
        // A rule that comes where one was ahead of ON begins anew.
        GoodHalfEmpty y = inn("c5;s3a0,111;");
        y.image();
        tell(y, "rl1;");
        y.week();
        due("RIGHT ahead of ON", y.rule(0, 2), 1);
        y.on();
        due("no rule then", y.rule(0, 2), -1);
        tell(y, "rf1;");
        due("RIGHT of the new one", y.rule(0, 2), 0);
    }

    private static void count() {
        GoodHalfEmpty x = inn("c7;rl1;rl2;s3a0,111;s4n0,000;s1e0,000;w1;w2;w3;w4;");
        x.week();
        x.penny(6);
        x.row(1);
        x.row(2);
        x.letter('c');
        int[] counts = {3, 2, 8, 7, 1, 5, 6, 2, 1};
        for (int what = 0; what < counts.length; what++) {
            due("count(" + what + ")", x.count(what), counts[what]);
        }
        int[] other = {-1, 9, 10, 17, 99, Integer.MIN_VALUE, Integer.MAX_VALUE};
        for (int what : other) {
            due("count(" + what + ")", x.count(what), -9);
        }
        refused(x);
        x.goes(-1);
        x.best(7);
        x.on();
        x.after(0);
        x.after(61);
        refused(x, 1, 1, 1, 1, 0, 1);
    }

    private static void check(int number) {
        promise = number;
        switch (number) {
            case 1: newObject(); break;
            case 2: letter(); break;
            case 3: town(); break;
            case 4: sort(); break;
            case 5: rule(); break;
            case 6: remembered(); break;
            case 7: penny(); break;
            case 8: week(); break;
            case 9: next(); break;
            case 10: goes(); break;
            case 11: worth(); break;
            case 12: after(); break;
            case 13: mean(); break;
            case 14: swing(); break;
            case 15: good(); break;
            case 16: again(); break;
            case 17: gains(); break;
            case 18: rests(); break;
            case 19: rest(); break;
            case 20: best(); break;
            case 21: off(); break;
            case 22: pennies(); break;
            case 23: chairs(); break;
            case 24: sees(); break;
            case 25: which(); break;
            case 26: longer(); break;
            case 27: seeds(); break;
            case 28: row(); break;
            case 29: judge(); break;
            case 30: image(); break;
            case 31: on(); break;
            default: count(); break;
        }
    }

    public static void main(String[] args) {
        for (int number = 1; number <= 32; number++) {
            check(number);
        }
        System.out.println(wrong == 0 ? "32 promises are kept" : wrong + " answers are not as due");
        if (wrong != 0) {
            System.exit(1);
        }
    }
}
