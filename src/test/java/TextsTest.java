/** The language of texts: what is a token, what may stand where, what laws say. Promises 7 to 9, 14, 17, 19. */
public final class TextsTest {
    private final Check check = new Check("TextsTest");

    public static void main(String[] args) {
        TextsTest t = new TextsTest();
        t.tokens();
        t.places();
        t.numbers();
        t.openOnes();
        t.laws();
        t.clauses();
        t.names();
        t.values();
        t.conditions();
        t.wholeSentences();
        t.wholeTapes();
        t.check.finish();
    }

    private void fault(String text, int number, int place) {
        WantOfAWant x = new WantOfAWant();
        int got = Check.read(x, text);
        check.due("text of " + text, got, number == 0 ? 0 : -1);
        check.due("fault of " + text, x.fault(0), number);
        check.due("place in " + text, x.fault(1), number == 0 ? -1 : place);
    }

    private void good(String text) {
        fault(text, 0, -1);
    }

    /** Person 2, at want 3, purse 6, tears 24 by giving up 7, 8; day 5. 3 hangs on 4 and 5, 4 on 5 and 6. */
    private static WantOfAWant town() {
        WantOfAWant x = new WantOfAWant();
        x.hang(3, 4, true);
        x.hang(3, 5, true);
        x.hang(4, 5, true);
        x.hang(4, 6, true);
        x.day(5);
        x.person(0, 0);
        x.person(0, 0);
        x.person(3, 6);
        x.pain(7, 11);
        x.pain(8, 13);
        x.pain(5, 2);
        x.give(2, 7);
        x.give(2, 8);
        return x;
    }

    private void needs(String sum, int value) {
        WantOfAWant x = town();
        check.due("needs " + sum + " is read", Check.read(x, "needs " + sum + ";"), 0);
        x.by(0);
        check.due("needs " + sum, x.of(2, 6), value);
    }

    private void tells(String sum, int want, int value) {
        WantOfAWant x = town();
        check.due("tells " + sum + " is read", Check.read(x, "tells " + sum + ";"), 0);
        x.by(0);
        check.due("tells " + sum, x.tells(2, want), value);
    }

    private void tokens() {
        good("");
        good("\n \n");
        good("ask 0;");
        good("ask0;");
        good("\nask\n0\n;\n");
        fault("ask\t0;", 1, 3);
        fault("ask\r0;", 1, 3);
        fault("ask 0;!", 1, 6);
        fault("ask 0;\u0000", 1, 6);
        fault("ask 0;\u00e9", 1, 6);
        fault("ask 0;\u00ff\u00fe", 1, 6);
        fault("Ask 0;", 1, 0);
        fault("askA 0;", 1, 0);
        fault("as k 0;", 1, 0);
        fault("xyz", 1, 0);
        fault("needs 1 < = 2;", 1, 8);
        good("needs if 1<=2then 1 else 2end;");
        fault("needs if 1< =2 then 1 else 2 end;", 1, 12);
        fault("needs if 1=<2 then 1 else 2 end;", 1, 11);
        fault("needs if 1>==2 then 1 else 2 end;", 1, 12);
        fault("needs 1.5;", 1, 7);
        fault("needs tears2;", 1, 11);
        fault("needs tearsa;", 1, 6);
        fault("needs tearsz;", 1, 6);
        fault("needs tearsA;", 1, 6);
        fault("needs tearsZ;", 1, 6);
        fault("needs tears9;", 1, 11);
        fault("_", 1, 0);
        fault("[", 1, 0);
        fault("{", 1, 0);
        fault("@", 1, 0);
        fault("`", 1, 0);
        fault(":", 1, 0);
        fault("needs 1:;", 1, 7);
    }

    private void places() {
        fault("ask", 1, 3);
        fault("ask  ", 1, 5);
        fault("ask ;", 1, 4);
        fault("ask 0", 1, 5);
        fault("ask 0 ask", 1, 6);
        fault(";", 1, 0);
        fault("ask 0;;", 1, 6);
        fault("0", 1, 0);
        fault("pain 1;", 1, 6);
        fault("pain 1 on 1;", 1, 7);
        fault("pain 1 of ;", 1, 10);
        fault("hang 1 of 2;", 1, 7);
        fault("person 1 2;", 1, 9);
        fault("person 1 purse 2 3;", 1, 17);
        fault("give 1 to 2;", 1, 7);
        fault("again 1 by x;", 1, 11);
        fault("again 1 by 1 ", 1, 13);
        fault("day tears;", 1, 4);
        fault("day -1;", 1, 4);
        fault("needs;", 1, 5);
        fault("needs ", 1, 6);
        fault("needs 1 1;", 1, 8);
        fault("needs 1 +;", 1, 9);
        fault("needs 1 + * 2;", 1, 10);
        fault("needs (1;", 1, 8);
        fault("needs 1);", 1, 7);
        fault("needs ();", 1, 7);
        fault("needs within 1;", 1, 14);
        fault("needs within of 2;", 1, 13);
        fault("needs within 1 of;", 1, 17);
        fault("needs below;", 1, 11);
        fault("needs not 1 < 2;", 1, 6);
        fault("needs if 1 < 2 then 3 end;", 1, 22);
        fault("needs if 1 < 2 then 3 else 4;", 1, 28);
        fault("needs if 1 < 2 else 3 end;", 1, 15);
        fault("needs if (1 < 2) then 3 else 4 end;", 1, 12);
        fault("needs if 1 < 2 < 3 then 3 else 4 end;", 1, 15);
        fault("needs if 1 and 2 < 3 then 3 else 4 end;", 1, 11);
        fault("needs if 1 < 2 and then 3 else 4 end;", 1, 19);
        fault("needs if 1 < 2 or or 3 < 4 then 3 else 4 end;", 1, 18);
        fault("needs then;", 1, 6);
        fault("needs end;", 1, 6);
        fault("needs of;", 1, 6);
        fault("needs person;", 1, 6);
        fault("needs ask;", 1, 6);
        fault("needs tells;", 1, 6);
        fault("needs foo;", 1, 6);
        fault("person 1 tears 2;", 1, 9);
    }

    private void numbers() {
        good("pain 99 of 11;pain 0 of 0;");
        fault("pain 100 of 11;", 2, 5);
        fault("pain 99 of 12;", 2, 11);
        fault("pain 100 of 12;", 2, 5);
        good("hang 11 on 0;");
        fault("hang 12 on 0;", 2, 5);
        fault("hang 0 on 12;", 2, 10);
        good("person 11 purse 99;");
        fault("person 12 purse 99;", 2, 7);
        fault("person 11 purse 100;", 2, 16);
        good("ask 4;");
        fault("ask 5;", 2, 4);
        good("give 11 by 4;");
        fault("give 12 by 4;", 2, 5);
        fault("give 11 by 5;", 2, 11);
        good("again 11 by 4;");
        fault("again 12 by 4;", 2, 6);
        fault("again 11 by 5;", 2, 12);
        good("day 1;day 60;");
        fault("day 0;", 2, 4);
        fault("day 61;", 2, 4);
        good("needs 9999;");
        fault("needs 10000;", 2, 6);
        fault("needs 1+(2*12345);", 2, 11);
        good("ask 00000000000000000000000000000000000004;");
        fault("ask 99999999999999999999999999999999999999;", 2, 4);
        fault("ask 4294967296;", 2, 4);
        fault("ask 18446744073709551616;", 2, 4);
        fault("needs 4294967297;", 2, 6);
        fault("ask 1 99999;", 1, 6);
        fault("99999", 1, 0);
    }

    private void openOnes() {
        good("needs ((((((((1))))))));");
        fault("needs (((((((((1)))))))));", 3, 14);
        fault("needs ((((((((;", 1, 14);
        good("needs --------1;");
        fault("needs ---------1;", 3, 14);
        good("needs ((((((((1-1))))))));");
        good("needs ((((((((1))))))))+((((((((1))))))));");
        fault("needs ((((((((-1))))))));", 3, 14);
        good("needs below below below below below below below below 1;");
        fault("needs below below below below below below below below below 1;", 3, 54);
        // within is open till its second is whole
        good("needs (((((((within 1 of 2)))))));");
        fault("needs (((((((within 1 of (2))))))));", 3, 25);
        fault("needs (((((((within (1) of 2)))))));", 3, 20);
        good("needs ((((((within (1) of (2)))))));");
        good("needs (((((((within 1 of 2 + (1)))))))) ;");
        good("needs (((((((below 1 + (1)))))))) ;");
        good("needs (((((((-1 + (1)))))))) ;");
        good("needs (((((((if 1 < 2 then 3 else 4 end)))))));");
        fault("needs ((((((((if 1 < 2 then 3 else 4 end))))))));", 3, 14);
        fault("needs (((((((if (1) < 2 then 3 else 4 end)))))));", 3, 16);
        fault("needs (((((((if 1 < 2 then (3) else 4 end)))))));", 3, 27);
        fault("needs (((((((if 1 < 2 then 3 else (4) end)))))));", 3, 34);
        good("needs (((((((if 1 < 2 then 3 else 4 end + (1)))))))) ;");
        good("needs if not not not not not not not 1 < 2 then 3 else 4 end;");
        fault("needs if not not not not not not not not 1 < 2 then 3 else 4 end;", 3, 37);
        good("needs if not not not not not not not 1 < 2 and not not not not not not not 1 < 2 then 3 else 4 end;");
        fault("needs if not not not not not not not (1) < 2 then 3 else 4 end;", 3, 37);
        fault("needs if not not not not not not not 1 < (2) then 3 else 4 end;", 3, 41);
        // it can't stand there comes ahead of that it is the ninth
        fault("needs ((((((((1(", 1, 15);
        fault("needs ((((((((not", 1, 14);
    }

    private void laws() {
        good("tells 1; needs 1;");
        good("needs 1; tells 1;");
        fault("tells 1; tells 1;", 4, 9);
        fault("needs 1; tells 1; needs;", 4, 18);
        fault("tells 1; ask 0; tells", 4, 16);
        fault("needs 1 tells 1;", 1, 8);
    }

    private void clauses() {
        String many = "";
        for (int i = 0; i < 23; i++) {
            many += "ask 0;";
        }
        good(many + "day 1;");
        good(many + "needs 1; ");
        fault(many + "day 1; day 1;", 6, 145);
        fault(many + "needs 1; tells 1;", 6, 147);
        fault(many + "needs 1; needs 1;", 4, 147);
        fault(many + "needs 1; foo", 1, 147);
        fault(many + "needs 1; day", 6, 147);
        fault(many + "needs 1; ;", 1, 147);
        WantOfAWant x = new WantOfAWant();
        String full = many + many;
        Check.load(x, full.substring(0, 138) + "                                                                                                                                                          day 60;");
        check.due("300 bytes are loaded", x.about(5), 299);
        check.due("a long text", x.text(), 0);
    }

    private void names() {
        good("tells day+who+tears+purse+answers+want+given+next+pain+depth;");
        good("needs day+who+tears+purse+answers+want+given;");
        fault("needs next;", 5, 6);
        fault("needs 1+pain;", 5, 8);
        fault("needs if depth<1 then 1 else 2 end;", 5, 9);
        fault("tells next; needs next;", 5, 18);
        fault("needs 1; tells pain; ask pain;", 1, 25);
        fault("needs 1 next;", 1, 8);
        needs("day", 5);
        needs("who", 2);
        needs("tears", 24);
        needs("purse", 6);
        needs("answers", 0);
        needs("want", 3);
        needs("given", 2);
        tells("next", 5, 5);
        tells("pain", 5, 2);
        tells("depth", 5, 0);
        tells("depth", 4, 1);
        tells("depth", 3, 2);
        tells("want*100+next", 11, 311);
        tells("given", 0, 2);
        WantOfAWant x = town();
        x.ask(2);
        Check.read(x, "needs answers * 100 + want;");
        x.by(0);
        check.due("answers, want", x.of(2, 6), 104);
    }

    private void values() {
        needs("1+2*3", 7);
        needs("(1+2)*3", 9);
        needs("10-2-3", 5);
        needs("100/10/2", 5);
        needs("100/10*2", 20);
        needs("7/2", 3);
        needs("-7/2", -3);
        needs("(0-7)/2", -3);
        needs("7/-2", -3);
        needs("-7/-2", 3);
        needs("7/0", 0);
        needs("0/0", 0);
        needs("7/(1-1)+2", 2);
        needs("--5", 5);
        needs("-2*3", -6);
        needs("2--3", 5);
        needs("9999", 999);
        needs("-9999", -999);
        // above a million it is that
        needs("9999*9999/1000-500", 500);
        needs("9999*9999*9999/1001", 999);
        needs("9999*9999/1001", 999);
        needs("(9999*9999+9999)/2000", 500);
        needs("9999*9999-9999*100", 100);
        needs("(-9999*9999)/2000", -500);
        needs("(-9999*9999-9999)/2000", -500);
        needs("9999*9999*-1/2000", -500);
        needs("9999*100+9999*100-9999*99", 999);
        needs("(9999*100+9999*100)/1250", 800);
        needs("within 5 of 3", 3);
        needs("within -5 of 3", -3);
        needs("within 2 of 3", 2);
        needs("within -3 of 3", -3);
        needs("within 5 of 0", 0);
        needs("within 5 of -3", 0);
        needs("within -5 of -3", 0);
        needs("within 5 of 3*2", 6);
        needs("within 7 of 3+2", 5);
        needs("within within 9 of 7 of 8", 7);
        needs("within 9 of within 8 of 7", 7);
        needs("below 3", 3);
        needs("below 4", 2);
        needs("below 6", 0);
        needs("below 12", 0);
        needs("below -1", 0);
        needs("below 9999", 0);
        needs("below want", 3);
        needs("below below want", 3);
        needs("below 3+1", 4);
        needs("below (3+1)", 2);
        needs("-below 3*2", -6);
        tells("below next*10+below want", 4, 23);
    }

    private void conditions() {
        needs("if 1<2 then 10 else 20 end", 10);
        needs("if 2<2 then 10 else 20 end", 20);
        needs("if 2<=2 then 10 else 20 end", 10);
        needs("if 3<=2 then 10 else 20 end", 20);
        needs("if 2>1 then 10 else 20 end", 10);
        needs("if 2>2 then 10 else 20 end", 20);
        needs("if 2>=2 then 10 else 20 end", 10);
        needs("if 1>=2 then 10 else 20 end", 20);
        needs("if 2=2 then 10 else 20 end", 10);
        needs("if 2=3 then 10 else 20 end", 20);
        needs("if 2#3 then 10 else 20 end", 10);
        needs("if 2#2 then 10 else 20 end", 20);
        needs("if not 2#2 then 10 else 20 end", 10);
        needs("if not not 2#2 then 10 else 20 end", 20);
        needs("if 1=1 or 1=2 and 1=2 then 10 else 20 end", 10);
        needs("if 1=2 and 1=2 or 1=1 then 10 else 20 end", 10);
        needs("if 1=2 or 1=1 and 1=2 then 10 else 20 end", 20);
        needs("if not 1=2 and 1=2 then 10 else 20 end", 20);
        needs("if not 1=1 or 1=1 then 10 else 20 end", 10);
        needs("if 1=1 and 2=2 and 3=3 then 10 else 20 end", 10);
        needs("if 1=2 or 2=3 or 3=4 then 10 else 20 end", 20);
        needs("if 1+1=2*1 then 10+1 else 20+1 end+5", 16);
        needs("if 1=2 then 10 else if 1=1 then 30 else 40 end end", 30);
        needs("if if 1=1 then 2 else 3 end = 2 then 10 else 20 end", 10);
        needs("3*if 1=2 then 10 else 20 end*2", 120);
        needs("if 1=1 then if 1=2 then 1 else 2 end else 3 end - if 2=2 then 5 else 6 end", -3);
    }

    private void wholeSentences() {
        WantOfAWant x = town();
        // the least pain first, of like ones the lowest; granted by purse alone
        Check.read(x, "tells -pain; needs purse - 5;");
        x.by(0);
        check.due("where to", x.of(2, 7), 5);
        check.due("asked", x.ask(2), 5);
        check.due("gone", x.ask(2), 12);
        check.due("granted", x.of(2, 1), 1);
        x.again(2, 3);
        check.due("another law", Check.read(x, "tells next; needs 5 - purse;"), 1);
        x.by(1);
        check.due("a greater number", x.ask(2), 5);
        x.ask(2);
        check.due("the door", x.of(2, 1), 2);
        x.by(-1);
        check.due("without a law: needs", x.of(2, 6), 2 - 2 * 16);
        check.due("without a law: tells", x.tells(2, 8), 13);
        check.due("a law of needs alone", Check.read(x, "needs 0;"), 2);
        x.by(2);
        check.due("tells without", x.tells(2, 8), 13);
        x.again(2, 5);
        x.ask(2);
        check.due("0 is not more than 0", x.of(2, 1), 2);
        check.due("a law of tells alone", Check.read(x, "tells 0;"), 3);
        x.by(3);
        check.due("needs without", x.of(2, 6), -32);
        x.again(2, 3);
        check.due("all alike: the lowest", x.of(2, 7), 4);
    }

    private void wholeTapes() {
        fault(";".repeat(300), 1, 0);
        fault(" ".repeat(299) + "z", 1, 299);
        fault("needs " + " ".repeat(289) + "tears", 1, 300);
        fault("needs " + "1+".repeat(147), 1, 300);
        good(" ".repeat(300));
        needs("1" + "+1".repeat(146), 147);
        needs("1" + "-1".repeat(146), -145);
        // what stood behind the end is gone
        WantOfAWant x = new WantOfAWant();
        Check.load(x, "ask 12;");
        x.end(5);
        check.due("cut within a number", x.text(), -1);
        check.due("cut within a number: fault", x.fault(0), 1);
        check.due("cut within a number: place", x.fault(1), 5);
        Check.load(x, "needs tears;");
        x.end(8);
        x.text();
        check.due("cut within a word: place", x.fault(1), 6);
    }
}
