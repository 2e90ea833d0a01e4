/** Part II: texts, their tokens, their faults, what they say, how they are played. */
final class TextSentences extends Sentences {
    private static final int T = Doc.TERMS;
    private static final String[] WORDS = (
        "tells needs pain of hang on person purse ask give by again day within below if then else end or and not who tears "
        + "answers want given next depth <= >= < > = # + - * / ( ) ; 5 foo ? tell Tells").split(" ");

    TextSentences(Doc doc, Check check) {
        super(doc, check);
    }

    @Override
    void all() {
        texts();
        tokens();
        clauses();
        deeds();
        sums();
        conditions();
        names();
        values();
        faultPlaces();
        faultNumbers();
        faultsOfDepth();
        faultsOfLaws();
        rule();
        play();
    }

    private void fault(String text, int number, int place) {
        fresh();
        due("read: " + text, reads(text), number == 0 ? 0 : NONE);
        due("fault: " + text, x.fault(0), number);
        due("place: " + text, x.fault(1), number == 0 ? NONE : place);
    }

    private void good(String text) {
        fault(text, 0, NONE);
    }

    /** Person 1 at want 2, purse 7, tears 21 by giving up 3 and 4, day 2; 2 hangs on 8 and 9, 8 on 10. */
    private void scene() {
        fresh();
        hangs(2, 8, 2, 9, 8, 10);
        x.pain(3, 20);
        x.pain(4, 1);
        x.pain(9, 6);
        x.day(2);
        x.person(0, 0);
        x.person(2, 7);
        x.give(1, 3);
        x.give(1, 4);
    }

    private void needs(String sum, int value) {
        scene();
        due("read: " + sum, reads("needs " + sum + ";"), 0);
        x.by(0);
        due("needs " + sum, x.of(1, 6), value);
    }

    private void tells(String sum, int want, int value) {
        scene();
        due("read: " + sum, reads("tells " + sum + ";"), 0);
        x.by(0);
        due("tells " + sum, x.tells(1, want), value);
    }

    private void texts() {
        says(T, "TEXTS 0 .. 3: of up to 300 bytes.");
        String whole = "day 1;".repeat(10) + " ".repeat(233) + "day 60;";
        due("300 bytes", whole.length(), 300);
        Check.load(x, whole);
        due("on the tape", x.about(5), 300);
        due("the first", x.text(), 0);
        due("all of it", x.played(0) * 1000 + x.is(0), -1000 + 70);
        due("an empty one", x.text(), 1);
        due("the third", reads("ask 0;"), 2);
        due("the fourth", reads("ask 1;"), 3);
        due("no fifth", reads("ask 2;"), NONE);
        due("four", x.about(1), 4);
        due("text 4 isn't there", x.by(4), false);
        due("text 3 is", x.by(3), true);
        due("text 4 can't be played", x.played(4), -2);
        fault("needs " + "1+".repeat(146) + "1;", 0, NONE);
        fault("needs " + "1+".repeat(147), 1, 300);
        fault(" ".repeat(299) + "x", 1, 299);
        fault("(".repeat(300), 1, 0);
        fault("needs " + "-(".repeat(147), 3, 14);
        fault("a".repeat(300), 1, 0);
        fault("needs " + " ".repeat(289) + "tears", 1, 300);
        fault("needs " + " ".repeat(290) + "tear", 1, 296);
        fault("needs " + "0".repeat(293) + ";", 0, NONE);
        fault("needs " + "9".repeat(294), 2, 6);
    }

    private void tokens() {
        says(T, "TOKENS, blanks (32, 10) aside:");
        good(" \n ask \n\n 0 \n;\n ");
        good("\n");
        for (int sign : new int[] {0, 1, 8, 9, 11, 12, 13, 31, 33, 127, 128, 128 + 10, 128 + 32, 160, 255}) {
            fault((char) sign + "ask 0;", 1, 0);
            fault("ask" + (char) sign + "0;", 1, 3);
        }

        says(T, "letters a .. z, A .. Z one behind the other (one TOKEN),");
        fault("askk 0;", 1, 0);
        fault("askA 0;", 1, 0);
        fault("askZ 0;", 1, 0);
        fault("aska 0;", 1, 0);
        fault("askz 0;", 1, 0);
        fault("Zask 0;", 1, 0);
        fault("ASK 0;", 1, 0);
        fault("as k 0;", 1, 0);
        fault("needs tearspurse;", 1, 6);
        fault("needs tears purse;", 1, 12);
        for (char c : new char[] {'@', '[', '`', '{', '_', '\'', '^'}) {
            fault("ask" + c + " 0;", 1, 3);
        }
        good("needs within(1)of(2);");
        good("needs(1);");
        fault("needs wit;", 1, 6);
        fault("needs tear;", 1, 6);
        fault("needs tearss;", 1, 6);

        says(T, "digits likewise (NUMBERS, 0 .. 9999),");
        needs("0009", 9);
        needs("10", 10);
        needs("9999-9990", 9);
        fault("needs 1 0;", 1, 8);
        fault("needs 9999;", 0, NONE);
        fault("needs 10000;", 2, 6);
        fault("needs 09999;", 0, NONE);
        fault("needs 010000;", 2, 6);
        fault("ask/;", 1, 3);
        fault("ask:;", 1, 3);
        fault("needs 1:;", 1, 7);
        good("ask0;give1by2;");
        fault("needs 1a;", 1, 7);

        says(T, "<= >= < > = # + - * / ( ) ; (the longest).");
        needs("if 2<=2 then 5 else 6 end", 5);
        needs("if 2>=2 then 5 else 6 end", 5);
        fault("needs if 1< =2 then 5 else 6 end;", 1, 12);
        fault("needs if 1> =2 then 5 else 6 end;", 1, 12);
        fault("needs if 1<==2 then 5 else 6 end;", 1, 12);
        fault("needs if 1=<2 then 5 else 6 end;", 1, 11);
        fault("needs if 1<>2 then 5 else 6 end;", 1, 11);
        fault("needs if 1<<2 then 5 else 6 end;", 1, 11);
        needs("((1))*2/1+3-4", 1);
        for (char c : "!\"$%&',.:?@[\\]^_`{|}~".toCharArray()) {
            fault("needs 1" + c + "2;", 1, 7);
        }
        fault("needs if 1 <", 1, 12);
        fault("needs 1 <", 1, 8);
    }

    private void clauses() {
        says(T, "{CLAUSE}, 24 at most:");
        good("");
        good("day 1;".repeat(24));
        fault("day 1;".repeat(25), 6, 144);
        good("day 1;".repeat(22) + "tells 1;needs 1;");
        fault("day 1;".repeat(23) + "tells 1;needs 1;", 6, 146);
        fresh();
        reads("day 1;".repeat(24));
        due("all 24", x.played(0), NONE);
        due("a day each", x.is(0), 24);

        says(T, "tells SUM ; or needs SUM ; (each once)");
        good("tells 1;");
        good("needs 1;");
        good("tells 1; needs 2;");
        scene();
        rules("tells 10+1; needs 20+2;");
        due("each its own: tells", x.tells(1, 0), 11);
        due("each its own: needs", x.of(1, 6), 22);
        rules("needs 30+3; day 1; tells 40+4;");
        due("the other way round: tells", x.tells(1, 0), 44);
        due("the other way round: needs", x.of(1, 6), 33);
        fault("tells 1; needs 2; tells 3;", 4, 18);
        fault("tells ;", 1, 6);
        fault("needs 1", 1, 7);
        fault("tells needs 1;", 1, 6);
    }

    private void deeds() {
        says(T, "or pain NUMBER of NUMBER ; (PAIN, WANT)");
        reads("pain 99 of 11; pain 0 of 0;");
        due("played", x.played(0), NONE);
        due("the last", x.ofWant(11, 0), 99);
        due("the first", x.ofWant(0, 0), 0);
        fault("pain 1 of;", 1, 9);
        fault("pain of 1;", 1, 5);

        says(T, "or hang NUMBER on NUMBER ;");
        reads("hang 0 on 11; hang 10 on 11;");
        due("played", x.played(0), NONE);
        due("the first", x.ofWant(0, 1), bits(11));
        due("the last", x.ofWant(10, 1), bits(11));
        fault("hang 1 of 2;", 1, 7);

        says(T, "or person NUMBER purse NUMBER ; (WANT)");
        reads("person 11 purse 99; person 0 purse 0;");
        due("played", x.played(0), NONE);
        due("want", x.of(0, 0), 11);
        due("purse", x.of(0, 3), 99);
        due("the second's", x.of(1, 0) * 100 + x.of(1, 3), 0);
        fault("person 1 with 2;", 1, 9);

        says(T, "or ask NUMBER ;");
        x.person(3, 0);
        reads("ask 0;");
        due("played", x.played(0), NONE);
        due("gone", x.of(0, 1), 2);
        fault("ask 0 0;", 1, 6);

        says(T, "or give NUMBER by NUMBER ; (WANT, PERSON)");
        for (int p = 0; p < 5; p++) {
            x.person(3, 0);
        }
        reads("give 11 by 4; give 4 by 0;");
        due("played", x.played(0), NONE);
        due("by the last", x.of(4, 4), bits(11));
        due("by the first", x.of(0, 4), bits(4));
        fault("give 1 2;", 1, 7);

        says(T, "or again NUMBER by NUMBER ; likewise");
        for (int p = 0; p < 5; p++) {
            x.person(3, 0);
            x.ask(p);
        }
        reads("again 11 by 4; again 4 by 0;");
        due("played", x.played(0), NONE);
        due("the last", x.of(4, 0), 11);
        due("the first", x.of(0, 0), 4);
        due("both wait", x.is(2), 17);
        fault("again 1 on 2;", 1, 8);

        says(T, "or day NUMBER ;.");
        reads("day 60; day 1;");
        due("played", x.played(0), NONE);
        due("days", x.is(0), 61);
        fault("day;", 1, 3);
        fault("day 1 1;", 1, 6);
    }

    private void sums() {
        says(T, "SUM: PRODUCT {+ or - PRODUCT}.");
        needs("1", 1);
        needs("1+2*3-4*5", -13);
        fault("needs +1;", 1, 6);
        fault("needs 1+;", 1, 8);
        fault("needs 1++1;", 1, 8);

        says(T, "PRODUCT: ONE {* or / ONE}.");
        needs("2*3*4", 24);
        needs("100/5/2", 10);
        needs("7/2*2", 6);
        fault("needs *1;", 1, 6);
        fault("needs 1*;", 1, 8);
        fault("needs 1**1;", 1, 8);

        says(T, "ONE: NUMBER, NAME, ( SUM ), - ONE,");
        needs("0", 0);
        needs("tears", 21);
        needs("(1+2)*3", 9);
        needs("-5", -5);
        needs("--5", 5);
        needs("-2*3", -6);
        needs("2*-3", -6);
        needs("-(1+2)", -3);
        needs("-2+3", 1);
        needs("1--1", 2);
        fault("needs ();", 1, 7);
        fault("needs -;", 1, 7);
        fault("needs (1;", 1, 8);

        says(T, "within ONE of ONE (the first, but no more above 0 or below 0 than the second says; 0, if that is 0 or less),");
        needs("within 4 of 5", 4);
        needs("within 5 of 5", 5);
        needs("within 6 of 5", 5);
        needs("within -4 of 5", -4);
        needs("within -5 of 5", -5);
        needs("within -6 of 5", -5);
        needs("within 0 of 5", 0);
        needs("within 6 of 1", 1);
        needs("within -6 of 1", -1);
        needs("within 6 of 0", 0);
        needs("within -6 of 0", 0);
        needs("within 6 of -1", 0);
        needs("within -6 of -1", 0);
        needs("within 6 of -9", 0);
        needs("within -6 of -9", 0);
        needs("within 9 of 4*2", 8);
        fault("needs within 3*2 of 4;", 1, 14);
        needs("within (3*2) of 4", 4);

        says(T, "below ONE (how many WANTS are BELOW the one of that number; 0 for others),");
        needs("below 2", 3);
        needs("below 8", 1);
        needs("below 10", 0);
        needs("below 0", 0);
        needs("below 11", 0);
        needs("below 12", 0);
        needs("below -1", 0);
        needs("below 9999", 0);
        needs("below (9999*9999)", 0);
        needs("below -(9999*9999)", 0);
        needs("below (32+2)", 0);
        needs("below want+1", 4);
        scene();
        for (int a = 0; a < 11; a++) {
            x.hang(a, a + 1, true);
        }
        rules("needs below 0*100+below 11;");
        due("all but itself; none", x.of(0, 6), 999);
        rules("needs below 0*10+below 10;");
        due("11 and 1", x.of(0, 6), 111);
        x.hang(0, 1, false);
        due("as they hang now", x.of(0, 6), 10 * 0 + 1);
    }

    private void conditions() {
        says(T, "if EITHER then SUM else SUM end.");
        needs("if 1<2 then 3+4 else 5+6 end", 7);
        needs("if 2<1 then 3+4 else 5+6 end", 11);
        needs("2*if 1<2 then 3 else 4 end*5", 30);
        needs("if 1<2 then if 2<1 then 3 else 4 end else 5 end", 4);
        fault("needs if 1<2 then 3 end;", 1, 20);
        fault("needs if 1<2 then 3 else 4;", 1, 26);
        fault("needs if 1<2 3 else 4 end;", 1, 13);
        fault("needs if then 3 else 4 end;", 1, 9);
        fault("needs if 1 then 3 else 4 end;", 1, 11);

        says(T, "EITHER: BOTH {or BOTH}. BOTH: ASK {and ASK}.");
        needs("if 1=1 or 1=2 then 3 else 4 end", 3);
        needs("if 1=2 or 1=1 then 3 else 4 end", 3);
        needs("if 1=2 or 1=3 then 3 else 4 end", 4);
        needs("if 1=1 and 1=2 then 3 else 4 end", 4);
        needs("if 1=2 and 1=1 then 3 else 4 end", 4);
        needs("if 1=1 and 2=2 then 3 else 4 end", 3);
        needs("if 1=1 or 1=1 and 1=2 then 3 else 4 end", 3);
        needs("if 1=2 and 1=1 or 1=1 then 3 else 4 end", 3);
        needs("if 1=2 and 1=2 or 1=2 then 3 else 4 end", 4);
        needs("if 1=1 and 1=1 and 1=2 or 1=2 or 1=1 then 3 else 4 end", 3);
        fault("needs if or 1=1 then 3 else 4 end;", 1, 9);
        fault("needs if 1=1 or then 3 else 4 end;", 1, 16);
        fault("needs if 1=1 and and 1=1 then 3 else 4 end;", 1, 17);

        says(T, "ASK: not ASK, or SUM one of < <= > >= = # (unlike) SUM.");
        String[] signs = {"<", "<=", ">", ">=", "=", "#"};
        int[][] is = {{1, 0, 0}, {1, 1, 0}, {0, 0, 1}, {0, 1, 1}, {0, 1, 0}, {1, 0, 1}};
        for (int i = 0; i < 6; i++) {
            for (int d = -1; d <= 1; d++) {
                String sums = "2+" + (d + 1) + signs[i] + "3";
                needs("if " + sums + " then 3 else 4 end", is[i][d + 1] == 1 ? 3 : 4);
                needs("if not " + sums + " then 3 else 4 end", is[i][d + 1] == 1 ? 4 : 3);
            }
        }
        needs("if -1<0 then 3 else 4 end", 3);
        needs("if not not 1=1 then 3 else 4 end", 3);
        needs("if not 1=1 or 1=1 then 3 else 4 end", 3);
        needs("if not 1=2 and 1=2 then 3 else 4 end", 4);
        fault("needs if (1=1) then 3 else 4 end;", 1, 11);
        fault("needs if 1=1=1 then 3 else 4 end;", 1, 12);
        fault("needs if not then 3 else 4 end;", 1, 13);
        fault("needs not 1=1;", 1, 6);
    }

    private void names() {
        says(T, "NAMES: day, who (the PERSON), tears, purse, answers, want (that it is at), given (how many WANTS it gave up) in both;");
        String[] all = {"day", "who", "tears", "purse", "answers", "want", "given"};
        int[] now = {2, 1, 21, 7, 0, 2, 2};
        for (int i = 0; i < 7; i++) {
            needs(all[i], now[i]);
            tells(all[i], 5, now[i]);
        }
        scene();
        rules("needs answers*100+want*10+given;");
        due("ahead", x.of(1, 6), 22);
        x.ask(1);
        due("asked", x.of(1, 6), 100 + 80 + 2);
        x.give(1, 11);
        due("given up one more", x.of(1, 6), 100 + 80 + 3);

        says(T, "next (the WANT to which it might go), pain (of that), depth (of that) in tells.");
        tells("next", 0, 0);
        tells("next", 11, 11);
        tells("pain", 9, 6);
        tells("pain", 8, 10);
        tells("depth", 2, 2);
        tells("depth", 8, 1);
        tells("depth", 11, 0);
        fault("needs next;", 5, 6);
        fault("needs pain;", 5, 6);
        fault("needs depth;", 5, 6);
    }

    private void values() {
        says(T, "From the left;");
        needs("10-4-3", 3);
        needs("100/10/5", 2);
        needs("7/2*2", 6);
        needs("2*7/2", 7);
        needs("9999*9999/9999*9999-9999*99", 999);

        says(T, "/ cuts towards 0, by 0 it is 0;");
        needs("7/2", 3);
        needs("-7/2", -3);
        needs("7/-2", -3);
        needs("-7/-2", 3);
        needs("1/2", 0);
        needs("-1/2", 0);
        needs("6/3", 2);
        needs("7/0", 0);
        needs("-7/0", 0);
        needs("0/0", 0);
        needs("7/(3-3)+1", 1);

        says(T, "what is above 1000000 (below the same less) is that, at each step.");
        // 1000000 and one more or less, by products
        needs("1000*1000-9999*100", 100);
        needs("1000*1000+1-9999*100", 100);
        needs("1000*1000+1-1-9999*100", 99);
        needs("1001*1000-9999*100", 100);
        needs("-1000*1000-1+9999*100", -100);
        needs("-1000*1000-1+1+9999*100", -99);
        needs("-1001*1000+9999*100", -100);
        needs("9999*9999-9999*100", 100);
        needs("-9999*9999+9999*100", -100);
        needs("9999*9999*9999-9999*100", 100);
        needs("9999*9999*-9999+9999*100", -100);
        needs("(9999*9999)*(9999*9999)-9999*100", 100);
        needs("(9999*9999)*-(9999*9999)+9999*100", -100);
        needs("9999*9999/1000-1", 999);
        needs("9999*9999/1000-9", 991);
        needs("-(9999*9999)/1000+9", -991);
        needs("-(-9999*9999)/1000-9", 991);
        needs("999*1000+999+0-9999*100", 99);
        needs("within(9999*9999)of(9999*9999)-9999*100", 100);

        says(T, "or and and look at both sides always, of if just the SUM that is chosen is asked.");
        needs("if 1=1 or 1/0=0 then 3 else 1/0 end", 3);
        needs("if 1=2 and 1/0=1 then 1/0 else 4 end", 4);
        needs("if 1=1 then 1 else 9999*9999 end + if 1=2 then 9999*9999 else 2 end", 3);
    }

    private void faultPlaces() {
        says(T, "FAULTS, the first as TOKENS are come to, at the TOKEN's first byte (of the end at the length), of one the least:");
        fault("ask 5; ask 6; foo", 2, 4);
        fault("foo; ask 5;", 1, 0);
        fault("ask  \n 5;", 2, 7);
        fault("needs 12345 12345;", 2, 6);
        fault("ask", 1, 3);
        fault("ask   ", 1, 6);
        fault("ask 0", 1, 5);
        fault("ask 0\n\n", 1, 7);
        fault("ask 0; foo bar", 1, 7);
        fault("needs (((((((((foo", 3, 14);
        fault("needs next foo", 5, 6);
        fault("needs 1 next", 1, 8);
        fault("needs 1 99999", 1, 8);
        fault("day 1;".repeat(23) + "needs 1; needs 1;", 4, 147);
        fault("day 1;".repeat(23) + "needs 1; foo", 1, 147);
        fault("needs ((((((((1(", 1, 15);
        fresh();
        Check.load(x, "ask 0;foo");
        x.end(6);
        due("what is cut off isn't there", x.text(), 0);

        says(T, "1 it can't stand there, or is none.");
        fault("purse 1;", 1, 0);
        fault("5;", 1, 0);
        fault(";", 1, 0);
        fault("day 1;;", 1, 6);
        fault("ask x;", 1, 4);
        fault("ask -1;", 1, 4);
        fault("ask (1);", 1, 4);
        fault("needs then;", 1, 6);
        fault("needs within 1 2;", 1, 15);
        fault("needs within of 2;", 1, 13);
        fault("needs below;", 1, 11);
        fault("needs 1 of 2;", 1, 8);
        fault("needs 1);", 1, 7);
        fault("needs hang;", 1, 6);
        fault("needs a;", 1, 6);
        fault("needs ?;", 1, 6);
        fault("\u0000", 1, 0);
        fault("\u00ff", 1, 0);
        grammar();
    }

    /** At a place each word and sign is a fault of the first kind but for those that can stand there. */
    private void only(String ahead, String behind, String can) {
        int place = ahead.isEmpty() ? 0 : ahead.length() + 1;
        for (String word : WORDS) {
            fresh();
            reads((ahead.isEmpty() ? "" : ahead + " ") + word + " " + behind);
            boolean stands = (" " + can + " ").contains(" " + word + " ");
            due("can stand behind " + ahead + ": " + word, x.fault(0) == 1 && x.fault(1) == place, !stands);
        }
    }

    private void grammar() {
        String clauses = "tells needs pain hang person ask give again day";
        only("", "1;", clauses);
        only("day 1;", "1;", clauses);
        for (String deed : new String[] {"pain", "hang", "person", "ask", "give", "again", "day"}) {
            only(deed, "1;", "5");
        }
        String[][] links = {{"pain", "of"}, {"hang", "on"}, {"person", "purse"}, {"give", "by"}, {"again", "by"}};
        for (String[] link : links) {
            only(link[0] + " 1", "2;", link[1]);
            only(link[0] + " 1 " + link[1], ";", "5");
            only(link[0] + " 1 " + link[1] + " 1", "", ";");
        }
        only("ask 1", "", ";");
        only("day 1", "", ";");
        // names of the other law have a fault of their own
        String ones = "5 day who tears purse answers want given next pain depth ( - within below if";
        String signs = "+ - * /";
        String asks = "< <= > >= = #";
        only("needs", "1;", ones);
        only("tells", "1;", ones);
        only("needs 1 +", "1;", ones);
        only("needs 1 *", "1;", ones);
        only("needs (", "1;", ones);
        only("needs -", "1;", ones);
        only("needs below", "1;", ones);
        only("needs within", "1;", ones);
        only("needs within 1 of", "1;", ones);
        only("needs 1", "", signs + " ;");
        only("needs tears", "", signs + " ;");
        only("needs (1", "", signs + " )");
        only("needs (1)", "", signs + " ;");
        only("needs -1", "", signs + " ;");
        only("needs within 1", "1;", "of");
        only("needs below 1", "1;", signs + " ;");
        only("needs if", "1;", ones + " not");
        only("needs if not", "1;", ones + " not");
        only("needs if 1", "1;", signs + " " + asks);
        only("needs if 1 <", "1;", ones);
        only("needs if 1 < 1", "1;", signs + " and or then");
        only("needs if 1 < 1 and", "1;", ones + " not");
        only("needs if 1 < 1 or", "1;", ones + " not");
        only("needs if 1 < 1 then", "1;", ones);
        only("needs if 1 < 1 then 1", "1;", signs + " else");
        only("needs if 1 < 1 then 1 else", "1;", ones);
        only("needs if 1 < 1 then 1 else 1", "", signs + " end");
        only("needs if 1 < 1 then 1 else 1 end", "", signs + " ;");
    }

    private void faultNumbers() {
        says(T, "2 a NUMBER that isn't one of those told (above 9999; WANTS 0 .. 11, PAIN, PURSE 0 .. 99, PERSONS 0 .. 4, DAYS 1 .. 60).");
        good("needs 9999;");
        fault("needs 10000;", 2, 6);
        fault("tells 1+10000;", 2, 8);
        good("pain 0 of 0; pain 99 of 11;");
        fault("pain 100 of 0;", 2, 5);
        fault("pain 0 of 12;", 2, 10);
        good("hang 0 on 0; hang 11 on 11;");
        fault("hang 12 on 0;", 2, 5);
        fault("hang 0 on 12;", 2, 10);
        good("person 0 purse 0; person 11 purse 99;");
        fault("person 12 purse 0;", 2, 7);
        fault("person 0 purse 100;", 2, 15);
        good("ask 0; ask 4;");
        fault("ask 5;", 2, 4);
        good("give 0 by 0; give 11 by 4;");
        fault("give 12 by 0;", 2, 5);
        fault("give 0 by 5;", 2, 10);
        good("again 0 by 0; again 11 by 4;");
        fault("again 12 by 0;", 2, 6);
        fault("again 0 by 5;", 2, 11);
        good("day 1; day 60;");
        fault("day 0;", 2, 4);
        fault("day 61;", 2, 4);
        for (String far : new String[] {"10000", "32768", "65536", "65537", "2147483648", "4294967296", "4294967297",
            "18446744073709551616", "18446744073709551617", "9".repeat(100), "1" + "0".repeat(100)}) {
            fault("needs " + far + ";", 2, 6);
            fault("ask " + far + ";", 2, 4);
            fault("day " + far + ";", 2, 4);
        }
    }

    private void faultsOfDepth() {
        says(T, "3 the 9th of ( not within below if and - (of one ONE) that are open around one another (at it; within till its second is whole).");
        good("needs " + "(".repeat(8) + "1" + ")".repeat(8) + ";");
        fault("needs " + "(".repeat(9) + "1" + ")".repeat(9) + ";", 3, 14);
        good("needs " + "-".repeat(8) + "1;");
        fault("needs " + "-".repeat(9) + "1;", 3, 14);
        good("needs " + "below ".repeat(8) + "1;");
        fault("needs " + "below ".repeat(9) + "1;", 3, 54);
        good("needs " + "within ".repeat(8) + "1" + " of 1".repeat(8) + ";");
        fault("needs " + "within ".repeat(9) + "1" + " of 1".repeat(9) + ";", 3, 62);
        good("needs " + "within 1 of ".repeat(8) + "1;");
        fault("needs " + "within 1 of ".repeat(9) + "1;", 3, 102);
        String ends = " else 1 end";
        good("needs " + "if 1=1 then ".repeat(8) + "1" + ends.repeat(8) + ";");
        fault("needs " + "if 1=1 then ".repeat(9) + "1" + ends.repeat(9) + ";", 3, 102);
        good("needs if " + "not ".repeat(7) + "1=1 then 1 else 1 end;");
        fault("needs if " + "not ".repeat(8) + "1=1 then 1 else 1 end;", 3, 37);
        String seven = "needs (((((((";
        // each kind as the eighth, and closed again ahead of another one
        good(seven + "(1)+(1))))))));");
        good(seven + "-1+-1)))))));");
        good(seven + "below 1+below 1)))))));");
        good(seven + "within 1 of 1+within 1 of 1)))))));");
        good(seven + "if 1=1 then 1 else 1 end+(1))))))));");
        good("needs ((((((if not 1=1 and not 1=1 or not 1=1 then 1 else 1 end))))));");
        // each kind as the ninth
        String eight = "needs ((((((((";
        fault(eight + "-1))))))));", 3, 14);
        fault(eight + "below 1))))))));", 3, 14);
        fault(eight + "within 1 of 1))))))));", 3, 14);
        fault(eight + "if 1=1 then 1 else 1 end))))))));", 3, 14);
        fault(seven + "if not 1=1 then 1 else 1 end)))))));", 3, 16);
        good(eight + "1-1))))))));");
        fault(eight + "1--1))))))));", 3, 16);
        // till its second is whole
        fault(seven + "within (1) of 1)))))));", 3, 20);
        fault(seven + "within 1 of (1))))))));", 3, 25);
        good(seven + "within 1 of 1*(1))))))));");
        good("needs ((((((within (1) of (1)))))));");
        // till they are whole
        fault(seven + "if (1)=1 then 1 else 1 end)))))));", 3, 16);
        fault(seven + "if 1=(1) then 1 else 1 end)))))));", 3, 18);
        fault(seven + "if 1=1 then (1) else 1 end)))))));", 3, 25);
        fault(seven + "if 1=1 then 1 else (1) end)))))));", 3, 32);
        fault("needs ((((((if not (1)=1 then 1 else 1 end))))));", 3, 19);
        fault("needs ((((((if not 1=(1) then 1 else 1 end))))));", 3, 21);
        fault(seven + "-(1))))))));", 3, 14);
        fault(seven + "below (1))))))));", 3, 19);
        // one law doesn't count for the next
        good("tells " + "(".repeat(8) + "1" + ")".repeat(8) + ";needs " + "(".repeat(8) + "1" + ")".repeat(8) + ";");
    }

    private void faultsOfLaws() {
        says(T, "4 tells, needs for the second time (at it).");
        fault("tells 1; tells 2;", 4, 9);
        fault("needs 1; needs 2;", 4, 9);
        fault("needs 1; day 1; tells 2; needs", 4, 25);
        good("needs 1; tells 2;");
        fresh();
        reads("needs 1;");
        due("another text may have it too", reads("needs 2;"), 1);
        reads("tells 1; foo");
        due("one that had a fault isn't remembered", reads("tells 1;"), 2);

        says(T, "5 a NAME that isn't of that CLAUSE (at it).");
        fault("needs 1 + next;", 5, 10);
        fault("needs (pain);", 5, 7);
        fault("needs if 1 < depth then 1 else 2 end;", 5, 13);
        fault("tells next; needs depth;", 5, 18);
        fault("needs next; tells next;", 5, 6);
        good("needs 1; tells next + pain + depth;");

        says(T, "6 the 25th CLAUSE (at its first TOKEN).");
        fault("ask 0;".repeat(24) + " \n ask 0;", 6, 147);
        fault("ask 0;".repeat(24) + "ask", 6, 144);
        good("ask 0;".repeat(24) + " \n ");
        fault("ask 0;".repeat(24) + ";", 1, 144);
        fault("ask 0;".repeat(23) + "ask", 1, 141);
    }

    private void rule() {
        says(T, "THE TEXT (told; at first none) rules.");
        due("none at first", x.about(2), NONE);
        x.person(0, 4);
        reads("needs 5;");
        reads("needs 6;");
        due("one that is read doesn't rule", x.of(0, 6), -8);
        due("none yet", x.about(2), NONE);
        x.by(1);
        due("told", x.of(0, 6), 6);
        x.by(0);
        due("told anew", x.of(0, 6), 5);
        x.by(NONE);
        due("none again", x.of(0, 6), -8);

        says(T, "tells: -999 at least, 999 at most; without: PAIN.");
        tells("998", 3, 998);
        tells("999", 3, 999);
        tells("1000", 3, 999);
        tells("-998", 3, -998);
        tells("-999", 3, -999);
        tells("-1000", 3, -999);
        tells("9999*9999", 3, 999);
        tells("-9999*9999", 3, -999);
        scene();
        due("no text", x.tells(1, 3), 20);
        rules("needs 500;");
        due("a text without", x.tells(1, 3), 20);
        x.pain(3, 0);
        due("no pain", x.tells(1, 3), 0);
        x.pain(3, 99);
        due("most pain", x.tells(1, 3), 99);

        says(T, "needs: -999 at least, 999 at most; without: TEARS less twice PURSE.");
        needs("998", 998);
        needs("999", 999);
        needs("1000", 999);
        needs("-998", -998);
        needs("-999", -999);
        needs("-1000", -999);
        needs("9999*9999", 999);
        needs("-9999*9999", -999);
        scene();
        due("no text", x.of(1, 6), 21 - 14);
        rules("tells 500;");
        due("a text without", x.of(1, 6), 21 - 14);
        fresh();
        x.person(0, 99);
        due("the least without", x.of(0, 6), -198);
        x.person(0, 0);
        for (int w = 1; w < 12; w++) {
            x.pain(w, 99);
            x.give(1, w);
        }
        due("the most without", x.of(1, 6), 999);
        x.ask(0);
        due("the door", x.of(0, 1), 2);
        x.ask(1);
        due("granted", x.of(1, 1), 1);
    }

    private void play() {
        says(T, "PLAYED by a TEXT: its CLAUSES but laws, in their order, as by hand (one of a hanging that is so can't be);");
        reads("needs 1; hang 0 on 3; hang 0 on 3; tells 0;");
        due("so by itself", x.played(0), 2);
        due("the first was told", x.ofWant(0, 1), bits(3));
        due("so from before", x.played(0), 1);
        x.hang(0, 3, false);
        due("no more so", x.played(0), 2);
        due("its laws don't rule by that", x.about(2), NONE);
        fresh();
        reads("person 0 purse 3; hang 0 on 1; ask 0; pain 80 of 2; hang 1 on 2; ask 0; give 5 by 0; ask 0; again 9 by 0;");
        due("in their order", x.played(0), NONE);
        due("its want", x.of(0, 0), 9);
        due("granted", x.is(3), 1);
        due("tears of then: 10, 80, 10 less twice 3", x.book(0, 3), 1);
        due("a step each", x.about(3), 5);
        fresh();
        reads("needs 1; tells 2;");
        due("laws alone: all is done", x.played(0), NONE);
        due("laws alone: nothing", x.about(3), 0);
        reads("");
        due("an empty one: all is done", x.played(1), NONE);
        canNotBe("hang 5 on 5;");
        canNotBe("hang 5 on 4;");
        canNotBe("hang 11 on 0;");
        canNotBe("ask 0;");
        canNotBe("ask 4;");
        canNotBe("give 1 by 0;");
        canNotBe("again 1 by 0;");

        says(T, "one that can't be ends it (of so many DAYS those that can pass do): its number among all CLAUSES (from 0); what was done stays.");
        reads("needs 1; pain 50 of 0; tells 1; day 1; ask 3; pain 51 of 0;");
        due("among all", x.played(0), 4);
        due("what was done stays", x.ofWant(0, 0), 50);
        due("a day too", x.is(0), 1);
        reads("day 1;".repeat(23) + "ask 0;");
        due("the last of 24", x.played(1), 23);
        reads("day 60; pain 9 of 9;");
        toDay(9939);
        due("sixty can pass", x.played(2), NONE);
        due("9999", x.is(0), 9999);
        due("none can", x.played(2), 0);
        x.undo();
        due("one step back", x.is(0), 9998);
        x.pain(9, 0);
        due("one of sixty can", x.played(2), 0);
        due("it passed", x.is(0), 9999);
        due("it was a step", x.about(3), 30);
        due("what comes behind isn't done", x.ofWant(9, 0), 0);
        full();
    }

    private void canNotBe(String clause) {
        fresh();
        reads("pain 1 of 1; " + clause + " pain 2 of 1;");
        due("can't be: " + clause, x.played(0), 1);
        due("ended: " + clause, x.ofWant(1, 0), 1);
        due("no step: " + clause, x.about(3), 0);
    }

    private void full() {
        fresh();
        reads("person 0 purse 0;".repeat(6));
        due("the sixth person", x.played(0), 5);
        due("five are there", x.about(0), 5);
        reads("give 0 by 0;");
        due("its own want", x.played(1), 0);
        reads("again 1 by 0;");
        due("it waits", x.played(2), 0);
        x.ask(0);
        due("it doesn't", x.played(2), NONE);
        reads("give 3 by 0; give 3 by 0;");
        due("given up already", x.played(3), 1);
    }
}
