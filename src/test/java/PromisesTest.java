/** A test of each promise by hand: ordinary calls, the edges that the document names, wrong ones. */
public final class PromisesTest {
    private static final int NONE = WantOfAWant.NONE;
    private final Check check = new Check("PromisesTest");
    private WantOfAWant x;

    public static void main(String[] args) {
        PromisesTest t = new PromisesTest();
        t.toldThings();
        t.tapeAndTexts();
        t.doneThings();
        t.stateThings();
        t.comingThings();
        t.wayThings();
        t.wideThings();
        t.dealThings();
        t.smallThings();
        t.imageThings();
        t.check.finish();
    }

    private void fresh() {
        x = new WantOfAWant();
    }

    private void due(String what, long got, long want) {
        check.due(what, got, want);
    }

    private void due(String what, boolean got, boolean want) {
        check.due(what, got, want);
    }

    /** 0 on 1 and 2, both on 3, that on 4; beside them 5 on 6. */
    private void diamond() {
        fresh();
        x.hang(0, 1, true);
        x.hang(0, 2, true);
        x.hang(1, 3, true);
        x.hang(2, 3, true);
        x.hang(3, 4, true);
        x.hang(5, 6, true);
    }

    private void toldThings() {
        newObject();
        pain();
        hang();
        person();
    }

    private void newObject() {
        fresh();
        due("1 NONE", NONE, -1);
        due("1 nobody", x.about(0), 0);
        due("1 no text", x.about(1), 0);
        due("1 none rules", x.about(2), NONE);
        due("1 no step", x.about(3), 0);
        due("1 none said", x.about(4), 0);
        due("1 empty tape", x.about(5), 0);
        due("1 day", x.is(0), 0);
        due("1 x", x.is(1), 251);
        due("1 nobody waits", x.is(2), 0);
        due("1 none granted", x.is(3), 0);
        for (int w = 0; w < 12; w++) {
            due("1 pain", x.ofWant(w, 0), 10);
            due("1 hangs on none", x.ofWant(w, 1), 0);
        }
        x.person(1, 2);
        x.hang(1, 2, true);
        x.pain(0, 3);
        x.day(5);
        due("1 back to the first image", x.back(), 0);
        due("1 nobody again", x.about(0), 0);
        due("1 no step again", x.about(3), 0);
        due("1 pain again", x.ofWant(0, 0), 10);
        due("1 no hanging again", x.ofWant(1, 1), 0);
        due("1 x again", x.is(1), 251);
    }

    private void pain() {
        fresh();
        due("2 least", x.pain(0, 0), true);
        due("2 most", x.pain(11, 99), true);
        due("2 is least", x.ofWant(0, 0), 0);
        due("2 is most", x.ofWant(11, 0), 99);
        due("2 below", x.pain(1, -1), false);
        due("2 above", x.pain(1, 100), false);
        due("2 want -1", x.pain(-1, 5), false);
        due("2 want 12", x.pain(12, 5), false);
        due("2 far", x.pain(Integer.MIN_VALUE, Integer.MAX_VALUE), false);
        due("2 like it was", x.pain(0, 0), true);
        due("2 others stay", x.ofWant(1, 0), 10);
        due("2 no step", x.about(3), 0);
    }

    private void hang() {
        fresh();
        due("3 told", x.hang(0, 11, true), true);
        due("3 is so", x.hang(0, 11, true), false);
        due("3 not so", x.hang(0, 10, false), false);
        due("3 itself", x.hang(4, 4, true), false);
        due("3 upwards", x.hang(5, 4, true), false);
        due("3 want -1", x.hang(-1, 4, true), false);
        due("3 want 12", x.hang(3, 12, true), false);
        due("3 far", x.hang(Integer.MIN_VALUE, Integer.MAX_VALUE, true), false);
        due("3 hangs", x.ofWant(0, 1), 1 << 11);
        due("3 taken off", x.hang(0, 11, false), true);
        due("3 hangs no more", x.ofWant(0, 1), 0);
        due("3 taken off again", x.hang(0, 11, false), false);
        due("3 no step", x.about(3), 0);
    }

    private void person() {
        fresh();
        due("4 want 12", x.person(12, 0), NONE);
        due("4 want -1", x.person(-1, 0), NONE);
        due("4 purse -1", x.person(0, -1), NONE);
        due("4 purse 100", x.person(0, 100), NONE);
        due("4 first", x.person(11, 99), 0);
        due("4 want", x.of(0, 0), 11);
        due("4 waits", x.of(0, 1), 0);
        due("4 no tears", x.of(0, 2), 0);
        due("4 purse", x.of(0, 3), 99);
        due("4 gave nothing", x.of(0, 4), 0);
        due("4 no answers", x.of(0, 5), 0);
        for (int i = 1; i < 5; i++) {
            due("4 next", x.person(i, i), i);
        }
        due("4 sixth", x.person(0, 0), NONE);
        due("4 many", x.about(0), 5);
        due("4 no step", x.about(3), 0);
    }

    private void tapeAndTexts() {
        fresh();
        due("8 ahead of any", x.fault(0), NONE);
        due("8 ahead of any, place", x.fault(1), NONE);
        for (int i = 1; i <= 15; i++) {
            due("5 twenty more", x.feed(0x20202020, 0x20202020, 0x20202020, 0x20202020, 0x20202020), 20 * i);
        }
        due("5 full", x.feed(0, 0, 0, 0, 0), NONE);
        due("5 none came", x.about(5), 300);
        due("6 below", x.end(-1), NONE);
        due("6 too many", x.end(301), NONE);
        due("6 stays", x.about(5), 300);
        due("6 all", x.end(300), 300);
        due("6 less", x.end(281), 281);
        due("5 no room for twenty", x.feed(0, 0, 0, 0, 0), NONE);
        due("6 less yet", x.end(280), 280);
        due("5 room", x.feed(0x20202020, 0x20202020, 0x20202020, 0x20202020, 0x20202020), 300);
        due("7 blanks alone", x.text(), 0);
        due("7 empty then", x.about(5), 0);
        due("8 none", x.fault(0), 0);
        due("8 no place", x.fault(1), NONE);
        due("8 others", x.fault(2), NONE);
        due("8 others below", x.fault(-1), NONE);
        due("7 empty tape", x.text(), 1);
        due("7 fault", Check.read(x, "ask 0; \u0000"), NONE);
        due("7 empty behind a fault", x.about(5), 0);
        due("8 fault", x.fault(0), 1);
        due("8 place", x.fault(1), 7);
        due("7 how many", x.about(1), 2);
        due("7 third", Check.read(x, "day 1;"), 2);
        due("7 fourth", Check.read(x, "day 2;"), 3);
        Check.load(x, "day;");
        due("7 fifth", x.text(), NONE);
        due("7 the tape stays", x.about(5), 4);
        due("8 it was not read", x.fault(0), 0);
        due("9 fourth", x.by(3), true);
        due("9 it rules", x.about(2), 3);
        due("9 others", x.by(4), false);
        due("9 others below", x.by(-2), false);
        due("9 rules yet", x.about(2), 3);
        due("9 none", x.by(NONE), true);
        due("9 none rules", x.about(2), NONE);
        order();
    }

    /** The highest byte of the first comes first. */
    private void order() {
        fresh();
        x.feed('p' << 24 | 'e' << 16 | 'r' << 8 | 's', 'o' << 24 | 'n' << 16 | ' ' << 8 | '7',
                ' ' << 24 | 'p' << 16 | 'u' << 8 | 'r', 's' << 24 | 'e' << 16 | ' ' << 8 | '4', '2' << 24 | ';' << 16 | 200 << 8 | 201);
        due("6 cut", x.end(18), 18);
        due("5 order", x.text(), 0);
        due("14 a person", x.played(0), NONE);
        due("5 want", x.of(0, 0), 7);
        due("5 purse", x.of(0, 3), 42);
    }

    private void doneThings() {
        ask();
        give();
        again();
        day();
        lastDay();
        played();
        years();
        undo();
    }

    private void ask() {
        diamond();
        x.pain(2, 11);
        x.pain(3, 0);
        x.person(0, 0);
        due("10 nobody there", x.ask(1), NONE);
        due("10 below", x.ask(-1), NONE);
        due("10 no step", x.about(3), 0);
        due("10 to most pain", x.ask(0), 2);
        due("10 tears", x.of(0, 2), 11);
        due("10 answers", x.of(0, 5), 1);
        due("10 down", x.ask(0), 3);
        due("10 no pain", x.of(0, 2), 11);
        due("10 down yet", x.ask(0), 4);
        due("10 bottom", x.ask(0), 12);
        due("10 granted", x.of(0, 1), 1);
        due("10 answers stay", x.of(0, 5), 3);
        due("10 purse", x.of(0, 3), 10);
        due("10 doesn't wait", x.ask(0), NONE);
        due("10 steps", x.about(3), 4);
        x.person(4, 99);
        due("10 at the bottom at once", x.ask(1), 12);
        due("10 no need", x.of(1, 1), 2);
        due("10 the door gives nothing", x.of(1, 3), 99);
        due("10 granted in all", x.is(3), 1);
        diamond();
        x.person(0, 0);
        due("10 of like ones the lowest", x.ask(0), 1);
        diamond();
        x.person(0, 0);
        x.give(0, 1);
        due("10 not to what it gave up", x.ask(0), 2);
        diamond();
        x.pain(0, 99);
        x.person(4, 95);
        Check.read(x, "needs 1;");
        x.by(0);
        x.ask(0);
        due("10 purse 99 at most", x.of(0, 3), 99);
    }

    private void give() {
        diamond();
        x.pain(1, 99);
        x.person(0, 0);
        due("11 its own one", x.give(0, 0), false);
        due("11 nobody", x.give(1, 1), false);
        due("11 person -1", x.give(-1, 1), false);
        due("11 want 12", x.give(0, 12), false);
        due("11 want -1", x.give(0, -1), false);
        due("11 no step", x.about(3), 0);
        due("11 given up", x.give(0, 1), true);
        due("11 bits", x.of(0, 4), 2);
        due("11 tears", x.of(0, 2), 99);
        due("11 answers stay", x.of(0, 5), 0);
        due("11 once", x.give(0, 1), false);
        due("11 one it could never come to", x.give(0, 11), true);
        due("11 step", x.about(3), 2);
        for (int w = 2; w < 11; w++) {
            x.pain(w, 99);
            due("11 all", x.give(0, w), true);
        }
        due("11 tears 999 at most", x.of(0, 2), 999);
        due("11 bits of all", x.of(0, 4), 4094);
        due("10 nowhere to go", x.ask(0), 12);
        due("11 doesn't wait", x.give(0, 0), false);
        due("21 the last want", x.book(0, 2), 0);
    }

    private void again() {
        diamond();
        x.person(4, 0);
        due("12 waits", x.again(0, 1), false);
        x.give(0, 7);
        x.ask(0);
        due("12 granted", x.of(0, 1), 1);
        due("12 want 12", x.again(0, 12), false);
        due("12 want -1", x.again(0, -1), false);
        due("12 nobody", x.again(1, 1), false);
        due("12 person -1", x.again(-1, 1), false);
        due("12 steps", x.about(3), 2);
        due("12 comes again", x.again(0, 3), true);
        due("12 there", x.of(0, 0), 3);
        due("12 waits again", x.of(0, 1), 0);
        due("12 no tears", x.of(0, 2), 0);
        due("12 purse stays", x.of(0, 3), 10);
        due("12 nothing given up", x.of(0, 4), 0);
        due("12 no answers", x.of(0, 5), 0);
        due("12 step", x.about(3), 3);
        x.ask(0);
        x.ask(0);
        due("12 shown the door", x.of(0, 1), 2);
        due("12 comes again from there", x.again(0, 4), true);
    }

    private void day() {
        fresh();
        due("13 none", x.day(0), NONE);
        due("13 below", x.day(-1), NONE);
        due("13 too many", x.day(61), NONE);
        due("13 nobody", x.day(60), 0);
        due("13 no draw", x.is(1), 251);
        due("13 day", x.is(0), 60);
        due("13 a step each, 30 at most", x.about(3), 30);
        // x: 251, 912, 18693, 6219, 16885: by 10 that is 1, 2, 3, 9, 5
        fresh();
        x.person(0, 0);
        x.person(1, 0);
        x.person(2, 0);
        x.person(3, 0);
        x.give(2, 0);
        due("13 granted in it", x.day(1), 1);
        due("13 drawn", x.is(1), 16885);
        due("13 the first", x.of(0, 1), 2);
        due("13 the third", x.of(2, 1), 1);
        due("13 the fourth isn't asked", x.of(3, 1), 0);
        due("13 the rest", x.day(1), 0);
        due("13 one draw then", x.is(1), (16885 * 491 + 379) % 30677);
        due("13 the fourth is asked", x.of(3, 1), 2);
        due("21 by the day", x.book(3, 0), 1);
        due("21 by the day ahead", x.book(2, 0), 0);
    }

    private void lastDay() {
        fresh();
        for (int i = 0; i < 166; i++) {
            x.day(60);
        }
        due("13 near the last", x.is(0), 9960);
        due("13 beyond", x.day(40), NONE);
        due("13 nothing done", x.is(0), 9960);
        x.person(0, 0);
        due("22 those that can pass", x.foretold(60, 0, 1), 2);
        Check.read(x, "day 30; day 10; ask 0;");
        due("14 those that can pass", x.played(0), 1);
        due("14 the last", x.is(0), 9999);
        due("13 none", x.day(1), NONE);
        due("15 a day that can't pass", x.years(0, 1), 9999);
        for (int i = 1; i < 5; i++) {
            x.person(0, 0);
            due("22 none can pass", x.foretold(60, i, 1), 0);
        }
        due("14 none can pass", x.played(0), 0);
        x.undo();
        x.undo();
        due("16 a day back", x.is(0), 9998);
        due("13 it can pass", x.day(1), 0);
    }

    private void played() {
        fresh();
        due("14 none", x.played(0), -2);
        due("14 below", x.played(-1), -2);
        Check.read(x, "pain 7 of 3; needs 1; hang 2 on 3; person 2 purse 4; ask 0; give 5 by 0; tells 0; ask 0; again 9 by 0; day 2;");
        due("14 all", x.played(0), NONE);
        due("14 pain", x.ofWant(3, 0), 7);
        due("14 hang", x.ofWant(2, 1), 8);
        due("14 steps", x.about(3), 6);
        due("14 its own laws don't rule", x.of(0, 3), 14);
        due("14 day", x.is(0), 2);
        due("14 a hanging that is so", x.played(0), 2);
        due("14 what was done stays", x.about(3), 6);
        Check.read(x, "hang 4 on 3;");
        due("14 upwards", x.played(1), 0);
        Check.read(x, "tells 0; ask 1;");
        due("14 among all clauses", x.played(2), 1);
        Check.read(x, "person 0 purse 0; person 0 purse 0; person 0 purse 0; person 0 purse 0; person 0 purse 0;");
        due("14 the sixth person", x.played(3), 4);
        due("14 four came", x.about(0), 5);
        due("14 others", x.played(4), -2);
    }

    private void years() {
        fresh();
        due("15 seed -1", x.years(-1, 1), NONE);
        due("15 seed 10000", x.years(10000, 1), NONE);
        due("15 n 0", x.years(0, 0), NONE);
        due("15 n 41", x.years(0, 41), NONE);
        due("15 nothing", x.about(3), 0);
        // 251 and 6219 by 6: 5 and 3; 912: 0; 18693: 3
        due("15 without persons a day", x.years(0, 1), 1);
        due("15 x", x.is(1), 912);
        due("15 without persons nothing", x.years(0, 4), 2);
        due("15 two steps", x.about(3), 2);
        due("16 a step", x.undo(), 1);
        due("16 x", x.is(1), 912);
        due("16 day", x.is(0), 1);
        fresh();
        // seed 0: a day, in which 912 is drawn for the one that waits: it is asked; then 18693: it comes again with 18693 / 6 mod 12
        x.person(4, 0);
        x.give(0, 5);
        due("15 a day, coming again", x.years(0, 2), 1);
        due("15 where", x.of(0, 0), 18693 / 6 % 12);
        due("15 purse", x.of(0, 3), 10);
        due("15 granted", x.is(3), 1);
        // seed 1: 253 by 6: 1, asked. seed 3: 257 by 6: 5. seed 9: 269 by 6: 5; 2 * s + 251 = 254 can't be: it is odd
        fresh();
        x.person(4, 0);
        due("15 asked", x.years(1, 1), 0);
        due("15 shown the door", x.of(0, 1), 2);
        // seed 9999: 20249 by 6: 5
        due("15 greatest", x.years(9999, 40) >= 1, true);
        giveByYears();
    }

    /** A seed of whose draws the second says: gives up. */
    private void giveByYears() {
        for (int seed = 0; seed < 200; seed++) {
            int first = seed * 2 + 251;
            int second = (first * 491 + 379) % 30677;
            int want = second / 6 % 12;
            if (first % 6 == 3 && second % 6 == 2 && want != 4) {
                fresh();
                x.person(4, 0);
                due("15 day stays", x.years(seed, 2), 0);
                due("15 one that waits can't come again", x.of(0, 0), 4);
                due("15 gives up", x.of(0, 4), 1 << want);
                due("15 tears", x.of(0, 2), 10);
                return;
            }
        }
        due("15 a seed was found", 0, 1);
    }

    private void undo() {
        diamond();
        due("16 none", x.undo(), NONE);
        x.person(0, 7);
        x.ask(0);
        x.person(3, 9);
        x.ask(1);
        x.give(1, 8);
        x.pain(4, 50);
        x.hang(4, 5, true);
        due("16 giving", x.undo(), 2);
        due("16 not given", x.of(1, 4), 0);
        due("16 asking", x.undo(), 1);
        due("16 where it was", x.of(1, 0), 3);
        x.give(1, 8);
        x.undo();
        due("16 the first", x.undo(), 0);
        due("16 back at the top", x.of(0, 0), 0);
        due("16 told since: there", x.about(0), 2);
        due("16 told since: as told", x.of(1, 0), 3);
        due("16 told since: purse", x.of(1, 3), 9);
        due("16 pain stays", x.ofWant(4, 0), 50);
        due("16 hanging stays", x.ofWant(4, 1), 1 << 5);
        due("16 none more", x.undo(), NONE);
        fresh();
        x.person(0, 0);
        x.give(0, 1);
        x.ask(0);
        x.day(1);
        x.person(5, 5);
        x.ask(1);
        x.again(1, 7);
        x.undo();
        x.undo();
        x.undo();
        due("16 told since a day", x.of(1, 0), 5);
        due("16 book", x.book(NONE, 0), 1);
        x.undo();
        due("16 granted", x.is(3), 0);
        due("16 book empty", x.book(NONE, 0), 0);
        due("16 purse", x.of(0, 3), 0);
        due("16 waits", x.of(0, 1), 0);
        thirty();
    }

    private void thirty() {
        fresh();
        x.person(0, 0);
        for (int i = 0; i < 33; i++) {
            x.ask(0);
            x.again(0, i % 12);
        }
        due("21 thirty at most", x.book(NONE, 0), 30);
        due("21 the eldest gone", x.book(0, 2), 2);
        due("21 the latest", x.book(29, 2), 31 % 12);
        due("21 no more", x.book(30, 2), -2);
        due("48 the door", x.ledger(false), 30);
        due("16 thirty at most", x.about(3), 30);
        x.undo();
        x.undo();
        due("16 the eldest again", x.book(0, 2), 1);
        for (int i = 27; i >= 0; i--) {
            due("16 left", x.undo(), i);
        }
        due("16 none left", x.undo(), NONE);
        due("16 book of then", x.book(NONE, 0), 18);
    }

    private void stateThings() {
        diamond();
        x.pain(4, 33);
        x.person(0, 20);
        due("17 needs", x.of(0, 6), -40);
        due("17 where to", x.of(0, 7), 1);
        due("17 others", x.of(0, 8), NONE);
        due("17 others below", x.of(0, -1), NONE);
        due("17 nobody", x.of(1, 0), NONE);
        due("17 person -1", x.of(-1, 0), NONE);
        x.give(0, 1);
        x.give(0, 2);
        due("17 nowhere", x.of(0, 7), NONE);
        x.ask(0);
        due("17 as if it waited", x.of(0, 7), NONE);
        due("17 shown the door", x.of(0, 1), 2);
        x.person(3, 0);
        x.ask(1);
        x.ask(1);
        due("17 granted", x.of(1, 1), 1);
        x.hang(4, 9, true);
        due("17 as if it waited, elsewhere", x.of(1, 7), 9);
        due("18 pain", x.ofWant(4, 0), 33);
        due("18 hangs", x.ofWant(0, 1), 6);
        due("18 below", x.ofWant(0, 2), 2 + 4 + 8 + 16 + 512);
        due("18 depth", x.ofWant(0, 3), 4);
        due("18 depth of none", x.ofWant(9, 3), 0);
        due("18 others", x.ofWant(0, 4), NONE);
        due("18 others below", x.ofWant(0, -1), NONE);
        due("18 want 12", x.ofWant(12, 0), NONE);
        due("18 want -1", x.ofWant(-1, 0), NONE);
        due("19 pain", x.tells(1, 4), 33);
        due("19 nobody", x.tells(2, 4), -1000);
        due("19 person -1", x.tells(-1, 4), -1000);
        due("19 want 12", x.tells(0, 12), -1000);
        due("19 want -1", x.tells(0, -1), -1000);
        Check.read(x, "tells next * 1000 - 500;");
        x.by(0);
        due("19 999 at most", x.tells(0, 11), 999);
        due("19 -999 at least", x.tells(0, 0), -500);
        Check.read(x, "tells 0 - 1000 - next;needs -5000;");
        x.by(1);
        due("19 clamped", x.tells(0, 0), -999);
        due("17 needs clamped", x.of(0, 6), -999);
        due("20 day", x.is(0), 0);
        due("20 x", x.is(1), 251);
        due("20 waiting", x.is(2), 0);
        due("20 granted", x.is(3), 1);
        due("20 others", x.is(4), -2);
        due("20 others below", x.is(-1), -2);
        x.person(0, 0);
        due("20 the third waits", x.is(2), 4);
        due("21 many", x.book(NONE, 0), 2);
        due("21 day", x.book(0, 0), 0);
        due("21 person", x.book(1, 1), 1);
        due("21 want", x.book(1, 2), 4);
        due("21 granted", x.book(1, 3), 1);
        due("21 not granted", x.book(0, 3), 0);
        due("21 none such", x.book(2, 0), -2);
        due("21 below", x.book(-2, 0), -2);
        due("21 others", x.book(0, 4), -2);
        due("21 others below", x.book(0, -1), -2);
    }

    private void comingThings() {
        diamond();
        x.person(0, 0);
        x.person(3, 40);
        // x by 10: 1, 2, 3, 9, 5: on the first day both are asked, on the second the first one alone
        due("22 want", x.foretold(1, 0, 0), 1);
        due("22 tears", x.foretold(1, 1, 2), 10);
        due("22 second day", x.foretold(2, 0, 0), 3);
        due("22 not asked", x.foretold(2, 1, 0), 4);
        due("22 waits yet", x.foretold(2, 1, 1), 0);
        due("22 in the end", x.foretold(60, 1, 1), 2);
        due("22 in the end granted", x.foretold(60, 0, 1), 1);
        due("22 n 0", x.foretold(0, 0, 0), NONE);
        due("22 n 61", x.foretold(61, 0, 0), NONE);
        due("22 nobody", x.foretold(1, 2, 0), NONE);
        due("22 person -1", x.foretold(1, -1, 0), NONE);
        due("22 others", x.foretold(1, 0, 3), NONE);
        due("22 others below", x.foretold(1, 0, -1), NONE);
        due("22 nothing is changed", x.is(1), 251);
        due("22 nobody went", x.of(0, 0), 0);
        due("22 no step", x.about(3), 0);
        due("23 bottom", x.bottom(0), 4);
        due("23 nobody", x.bottom(2), NONE);
        due("23 person -1", x.bottom(-1), NONE);
        due("23 nothing is changed", x.of(0, 0), 0);
        x.give(0, 4);
        due("23 not what it gave up", x.bottom(0), 3);
        // with tears its way turns: to the greater number first, then to the lesser one
        x.hang(2, 7, true);
        x.hang(7, 8, true);
        x.hang(7, 9, true);
        Check.read(x, "tells if tears >= 30 then 0 - next else next end;");
        x.by(0);
        due("23 by the tears of then", x.bottom(0), 8);
        x.ask(1);
        x.ask(1);
        due("23 doesn't wait", x.bottom(1), NONE);
    }

    private void wayThings() {
        diamond();
        due("24 two", x.ways(0, 4), 2);
        due("24 itself", x.ways(11, 11), 1);
        due("24 none", x.ways(0, 5), 0);
        due("24 upwards", x.ways(4, 0), 0);
        due("24 want 12", x.ways(0, 12), NONE);
        due("24 want -1", x.ways(-1, 0), NONE);
        due("25 must", x.must(0, 4), 1 + 8 + 16);
        due("25 itself", x.must(2, 2), 4);
        due("25 next", x.must(5, 6), 32 + 64);
        due("25 no way", x.must(0, 5), NONE);
        due("25 want 12", x.must(12, 5), NONE);
        due("25 want -1", x.must(0, -1), NONE);
        due("26 between", x.between(0, 4), 31);
        due("26 itself", x.between(7, 7), 128);
        due("26 a part", x.between(1, 4), 2 + 8 + 16);
        due("26 none", x.between(0, 6), 0);
        due("26 upwards", x.between(4, 0), 0);
        due("26 want 12", x.between(0, 12), NONE);
        due("26 want -1", x.between(-1, 3), NONE);
        x.pain(0, 90);
        x.pain(2, 25);
        due("27 heaviest", x.heaviest(0, 4), 45);
        due("27 itself", x.heaviest(0, 0), 0);
        due("27 no way", x.heaviest(0, 6), NONE);
        due("27 upwards", x.heaviest(4, 0), NONE);
        due("27 want 12", x.heaviest(0, 12), NONE);
        due("27 want -1", x.heaviest(-1, 0), NONE);
        x.hang(1, 6, true);
        due("28 under", x.under(0, 3), 8 + 16);
        due("28 under, aside", x.under(0, 1), 2 + 64);
        due("28 the top itself", x.under(0, 0), 2 + 4 + 8 + 16 + 64);
        due("28 not below", x.under(0, 5), 0);
        due("28 above", x.under(3, 0), 0);
        due("28 itself alone", x.under(0, 4), 16);
        due("28 want 12", x.under(0, 12), NONE);
        due("28 want -1", x.under(-1, 0), NONE);
        due("29 none", x.needless(0), 0);
        x.hang(0, 3, true);
        x.hang(0, 4, true);
        due("29 two", x.needless(0), 8 + 16);
        due("29 want 12", x.needless(12), NONE);
        due("29 want -1", x.needless(-1), NONE);
        due("24 more", x.ways(0, 4), 4);
        due("30 shared", x.shared(1, 2), 8);
        due("30 the one itself", x.shared(3, 0), 8);
        due("30 like ones", x.shared(2, 2), 4);
        due("30 none", x.shared(2, 5), 0);
        due("30 one", x.shared(1, 5), 64);
        x.hang(2, 6, true);
        due("30 two", x.shared(1, 2), 8 + 64);
        due("30 want 12", x.shared(0, 12), NONE);
        due("30 want -1", x.shared(-1, 0), NONE);
        allHang();
    }

    private void allHang() {
        fresh();
        for (int a = 0; a < 12; a++) {
            for (int b = a + 1; b < 12; b++) {
                x.hang(a, b, true);
            }
        }
        due("24 most", x.ways(0, 11), 1024);
        due("25 the two alone", x.must(0, 11), 1 + 2048);
        due("26 all", x.between(0, 11), 4095);
        due("27 all", x.heaviest(0, 11), 110);
        due("29 all but the next", x.needless(0), 4095 - 3);
        due("31 one", x.apart(true), 1);
        due("31 the lowest", x.apart(false), 1);
        due("32 one", x.chains(), 1);
        due("33 all", x.levels(), 12);
        due("34 halves", x.asked(4095, false), 4);
        due("18 deepest", x.ofWant(0, 3), 11);
    }

    private void wideThings() {
        diamond();
        due("31 many", x.apart(true), 8);
        due("31 the lowest set", x.apart(false), 2 + 4 + 32 + (4095 - 127));
        fresh();
        due("31 all", x.apart(false), 4095);
        x.hang(0, 1, true);
        due("31 of like ones the lowest", x.apart(false), 4095 - 2);
        diamond();
        due("32 rows", x.chains(), 12 - 4);
        x.hang(0, 3, true);
        x.hang(2, 9, true);
        due("32 rows by a turn", x.chains(), 12 - 5);
        fresh();
        x.hang(0, 1, true);
        x.hang(1, 2, true);
        x.hang(3, 1, true);
        x.hang(1, 4, true);
        due("32 a want stands in one row alone", x.chains(), 12 - 2);
        due("33 levels", x.levels(), 3);
        due("33 one alone", new WantOfAWant().levels(), 1);
        asked();
        cheap();
    }

    private void asked() {
        fresh();
        due("34 none", x.asked(0, false), NONE);
        due("34 none, first", x.asked(0, true), NONE);
        due("34 below", x.asked(-1, false), NONE);
        due("34 above", x.asked(4096, false), NONE);
        due("34 one alone", x.asked(2048, false), 0);
        due("34 one alone, first", x.asked(2048, true), NONE);
        due("34 two", x.asked(2048 + 8, false), 1);
        due("34 two, first", x.asked(2048 + 8, true), 3);
        due("34 apart", x.asked(4095, false), 11);
        int four = 16 + 32 + 64 + 128;
        due("34 four apart", x.asked(four, false), 3);
        due("34 four apart, first", x.asked(four, true), 4);
        x.hang(1, 4, true);
        x.hang(1, 5, true);
        due("34 one beside them parts them", x.asked(four, false), 2);
        due("34 one beside them, first", x.asked(four, true), 1);
        due("34 it parts these too", x.asked(16 + 64, true), 1);
        due("34 it doesn't part these", x.asked(16 + 32, true), 4);
        x.hang(1, 5, false);
        due("34 anew", x.asked(four, false), 3);
        due("34 anew, of like ones the lowest", x.asked(four, true), 1);
        x.hang(0, 1, true);
        x.hang(0, 5, true);
        due("34 below it, farther", x.asked(four, true), 0);
    }

    private void cheap() {
        diamond();
        due("35 one", x.cheap(0, 4, false), 8);
        due("35 pain", x.cheap(0, 4, true), 10);
        due("35 two", x.cheap(0, 3, false), 2 + 4);
        due("35 two, pain", x.cheap(0, 3, true), 20);
        due("35 it hangs on it itself", x.cheap(0, 1, false), NONE);
        due("35 it hangs on it itself, pain", x.cheap(0, 1, true), NONE);
        due("35 none leads", x.cheap(0, 6, false), 0);
        due("35 none leads, pain", x.cheap(0, 6, true), 0);
        due("35 upwards", x.cheap(4, 0, true), 0);
        due("35 itself", x.cheap(3, 3, false), NONE);
        due("35 want 12", x.cheap(0, 12, false), NONE);
        due("35 want -1", x.cheap(-1, 0, true), NONE);
        x.pain(3, 20);
        due("35 of like ones the fewest", x.cheap(0, 4, false), 8);
        x.pain(3, 21);
        due("35 least pain", x.cheap(0, 4, false), 6);
        x.pain(1, 0);
        x.pain(2, 0);
        x.pain(3, 0);
        due("35 without pain the fewest", x.cheap(0, 4, false), 8);
        due("35 without pain", x.cheap(0, 4, true), 0);
        fresh();
        x.hang(0, 2, true);
        x.hang(2, 5, true);
        x.hang(5, 9, true);
        due("35 the lowest set", x.cheap(0, 9, false), 4);
    }

    private void dealThings() {
        rings();
        budget();
        whose();
    }

    private void rings() {
        fresh();
        due("36 told", x.offers(0, 4, true), true);
        due("36 is so", x.offers(0, 4, true), false);
        due("36 not so", x.offers(4, 0, false), false);
        due("36 oneself", x.offers(2, 2, true), false);
        due("36 person 5", x.offers(0, 5, true), false);
        due("36 person -1", x.offers(-1, 0, true), false);
        due("37 none", x.rings(false), 0);
        due("38 none", x.ring(0), NONE);
        x.offers(4, 0, true);
        due("37 two", x.rings(false), 17);
        due("37 many", x.rings(true), 2);
        due("38 first", x.ring(0), 4);
        due("38 last", x.ring(4), 0);
        due("38 nobody's", x.ring(1), NONE);
        due("38 person 5", x.ring(5), NONE);
        due("38 person -1", x.ring(-1), NONE);
        x.offers(0, 1, true);
        x.offers(1, 0, true);
        due("37 the lowest one it can", x.rings(false), 3);
        x.offers(1, 2, true);
        x.offers(2, 3, true);
        x.offers(3, 1, true);
        due("37 all", x.rings(true), 5);
        due("38 by most", x.ring(0), 4);
        due("38 round", x.ring(1), 2);
        due("38 round again", x.ring(3), 1);
        x.offers(1, 3, true);
        x.offers(3, 2, true);
        x.offers(2, 1, true);
        due("38 the other way round is later", x.ring(1), 2);
        due("36 taken off", x.offers(2, 3, false), true);
        due("38 the other way round", x.ring(1), 3);
        fresh();
        for (int i = 0; i < 5; i++) {
            x.offers(i, (i + 1) % 5, true);
        }
        due("37 five round are no ring", x.rings(true), 0);
        fresh();
        x.offers(0, 1, true);
        x.offers(1, 2, true);
        x.offers(2, 0, true);
        x.offers(0, 2, true);
        x.offers(3, 4, true);
        x.offers(4, 3, true);
        x.offers(1, 3, true);
        x.offers(3, 1, true);
        due("37 a ring and a pair", x.rings(false), 31);
        due("38 pair", x.ring(3), 4);
        due("37 no step", x.about(3), 0);
    }

    private void budget() {
        fresh();
        due("40 nobody", x.budget(0, false), 1);
        due("40 nobody, lower", x.budget(0, true), 1);
        due("41 nobody", x.enough(10), 0);
        due("39 not there", x.grant(4, 10, 99), true);
        due("39 person 5", x.grant(5, 5, 5), false);
        due("39 person -1", x.grant(-1, 5, 5), false);
        due("39 odds 11", x.grant(0, 11, 5), false);
        due("39 odds -1", x.grant(0, -1, 5), false);
        due("39 cost 100", x.grant(0, 5, 100), false);
        due("39 cost -1", x.grant(0, 5, -1), false);
        x.person(0, 0);
        x.person(0, 0);
        due("40 at first", x.budget(10, false), 3);
        due("40 at first, lower", x.budget(10, true), 4);
        due("40 less", x.budget(9, false), 1);
        due("40 less, lower", x.budget(9, true), 4);
        due("40 cost -1", x.budget(-1, false), NONE);
        due("40 cost 496", x.budget(496, false), NONE);
        due("40 most", x.budget(495, false), 1);
        x.grant(0, 3, 7);
        x.grant(1, 8, 7);
        // none: 7 * 2 = 14, one: 3 * 2 + 7 * 8 = 62, both: 24 of 100
        due("40 none", x.budget(6, false), 7);
        due("40 none, lower", x.budget(6, true), 50);
        due("40 one", x.budget(13, false), 19);
        due("40 one, lower", x.budget(13, true), 25);
        due("41 one in ten", x.enough(1), 0);
        due("41 two in ten", x.enough(2), 7);
        due("41 seven in ten", x.enough(7), 7);
        due("41 eight in ten", x.enough(8), 14);
        due("41 odds 0", x.enough(0), NONE);
        due("41 odds 11", x.enough(11), NONE);
        x.grant(0, 10, 99);
        x.grant(1, 0, 99);
        due("40 can't be", x.budget(98, false), 0);
        due("40 can't be, lower", x.budget(98, true), 1);
        due("41 certain", x.enough(10), 99);
        for (int i = 0; i < 5; i++) {
            x.person(0, 0);
            x.grant(i, 10, 99);
        }
        due("41 most", x.enough(1), 495);
        due("40 most of all", x.budget(494, false), 0);
        for (int i = 0; i < 5; i++) {
            x.grant(i, 1, 1);
        }
        due("40 lowest terms", x.budget(0, false), 59049);
        due("40 lowest terms, lower", x.budget(0, true), 100000);
    }

    private void whose() {
        fresh();
        due("42 nobody", x.said(0, 0), -2);
        due("43 no text", x.whose(), 0);
        x.person(3, 4);
        Check.read(x, "needs 7;");
        Check.read(x, "tells 7;");
        Check.read(x, "needs want + 4;");
        due("43 none said", x.whose(), 7);
        due("42 needs 1000", x.said(0, 1000), -2);
        due("42 needs -1000", x.said(0, -1000), -2);
        due("42 person 1", x.said(1, 0), -2);
        due("42 person -2", x.said(-2, 0), -2);
        due("42 one", x.said(0, 7), 1);
        due("43 two", x.whose(), 5);
        due("42 none any more", x.said(NONE, 5), 0);
        due("42 none", x.about(4), 0);
        x.said(0, -8);
        due("43 without a law of needs", x.whose(), 2);
        x.said(NONE, 0);
        for (int i = 1; i <= 8; i++) {
            due("42 more", x.said(0, 7), i);
        }
        due("42 the ninth", x.said(0, 7), -2);
        due("42 eight", x.about(4), 8);
        due("43 two yet", x.whose(), 5);
        x.ask(0);
        x.again(0, 2);
        due("43 as now", x.whose(), 1);
        due("42 none any more, of eight", x.said(NONE, 2000), 0);
        due("42 anew", x.said(0, 999), 1);
        due("42 least", x.said(0, -999), 2);
        due("43 none", x.whose(), 0);
    }

    private void smallThings() {
        diamond();
        due("44 nobody", x.saddest(), NONE);
        x.person(0, 0);
        x.person(0, 0);
        x.person(3, 0);
        due("44 no tears", x.saddest(), NONE);
        x.pain(1, 1);
        x.ask(1);
        due("44 the second, by one tear", x.saddest(), 1);
        x.ask(0);
        due("44 of like ones the lowest", x.saddest(), 0);
        x.pain(4, 11);
        x.ask(2);
        x.ask(2);
        due("44 one that doesn't wait", x.saddest(), 2);
        due("45 plain", x.plain(), 4095 - 1 - 2 - 4 - 8 - 32);
        due("46 loose", x.loose(), 4095 - 2 - 4 - 8 - 16 - 64);
        due("47 above", x.above(4), 15);
        due("47 none", x.above(0), 0);
        due("47 want 12", x.above(12), NONE);
        due("47 want -1", x.above(-1), NONE);
        due("48 granted", x.ledger(true), 1);
        due("48 the door", x.ledger(false), 0);
        x.again(2, 4);
        x.ask(2);
        due("48 the door, one", x.ledger(false), 1);
        due("48 granted, one", x.ledger(true), 1);
    }

    private void imageThings() {
        diamond();
        x.person(0, 3);
        x.ask(0);
        Check.read(x, "needs 1;");
        x.by(0);
        x.said(0, 1);
        x.offers(0, 1, true);
        x.offers(1, 0, true);
        x.grant(0, 10, 20);
        x.day(2);
        due("49 day", x.image(), 2);
        int lot = x.is(1);
        x.years(5, 40);
        x.undo();
        x.undo();
        x.pain(0, 50);
        x.hang(0, 9, true);
        x.hang(0, 1, false);
        x.person(5, 5);
        x.person(6, 6);
        Check.read(x, "needs 2;");
        x.by(1);
        x.said(NONE, 0);
        x.said(1, 5);
        x.said(1, 6);
        x.offers(0, 1, false);
        x.grant(0, 0, 0);
        Check.read(x, "oh");
        Check.load(x, "needs 3;");
        due("50 day", x.back(), 2);
        due("50 persons", x.about(0), 1);
        due("50 texts", x.about(1), 1);
        due("50 the text", x.about(2), 0);
        due("50 steps", x.about(3), 3);
        due("50 said", x.about(4), 1);
        due("50 the tape stays", x.about(5), 8);
        due("50 the fault stays", x.fault(0), 1);
        due("50 x", x.is(1), lot);
        due("50 pain", x.ofWant(0, 0), 10);
        due("50 hangings", x.ofWant(0, 1), 6);
        due("50 below", x.ofWant(0, 2), 30);
        due("50 whose", x.whose(), 1);
        due("50 rings", x.rings(true), 2);
        due("50 budget", x.budget(19, false), 0);
        due("50 undo", x.undo(), 2);
        due("50 it stays", x.back(), 2);
        due("50 steps again", x.about(3), 3);
        due("7 the tape it has", x.text(), 1);
        x.by(1);
        due("17 by the new one", x.of(0, 6), 3);
        due("50 again", x.back(), 2);
        due("17 by the old one", x.of(0, 6), 1);
        due("49 anew", x.image(), 2);
        due("51 others", x.about(6), -2);
        due("51 others below", x.about(-1), -2);
    }
}
