import java.util.Random;

/** Texts drawn by the grammar, some of them spoilt. */
final class RandomText {
    private static final String[] SPOIL = {
        "(", ")", ";", "+", "-", "*", "/", "<", "<=", "=", "#", ">", ">=", "not ", "within ", "below ", "if ", "then ",
        "else ", "end ", "or ", "and ", "of ", "on ", "by ", "purse ", "tells ", "needs ", "pain ", "hang ", "person ",
        "ask ", "give ", "again ", "day ", "next ", "depth ", "want ", "who ", "tears ", "answers ", "given ", "foo ",
        "Tears ", "10000", "9999", "12", "100", "61", "5", "0", " ", "\n", "\t", "!", "\u00e9", "\u0000", "a", "7"};
    private static final String[] BOTH = {"day", "who", "tears", "purse", "answers", "want", "given"};
    private static final String[] TELLS = {"next", "pain", "depth"};

    private final Random random;
    private StringBuilder out;
    private boolean telling;

    RandomText(Random random) {
        this.random = random;
    }

    String draw() {
        String text = good();
        for (int i = 0; i < 50 && text.length() > 300; i++) {
            text = good();
        }
        if (random.nextInt(100) < 35) {
            text = spoilt(text);
        }
        return text.length() > 300 ? text.substring(0, 300) : text;
    }

    private String spoilt(String text) {
        String s = text;
        for (int i = 1 + random.nextInt(2); i > 0; i--) {
            int at = random.nextInt(s.length() + 1);
            int to = Math.min(s.length(), at + random.nextInt(4));
            String in = random.nextInt(3) == 0 ? "" : SPOIL[random.nextInt(SPOIL.length)];
            s = s.substring(0, at) + in + s.substring(to);
        }
        return s;
    }

    private String good() {
        out = new StringBuilder();
        int many = random.nextInt(40) == 0 ? 23 + random.nextInt(3) : random.nextInt(9);
        int hasTells = random.nextInt(many + 2);
        int hasNeeds = random.nextInt(many + 2);
        for (int i = 0; i < many; i++) {
            boolean shortOne = many > 20;
            if ((i == hasTells || i > hasTells && random.nextInt(40) == 0) && !shortOne) {
                law("tells");
            } else if (i == hasNeeds && !shortOne) {
                law("needs");
            } else {
                deed(shortOne);
            }
        }
        return out.toString();
    }

    private void put(String s) {
        boolean glue = out.length() > 0 && Character.isLetterOrDigit(out.charAt(out.length() - 1))
                && Character.isLetterOrDigit(s.charAt(0));
        if (glue || random.nextInt(6) == 0) {
            out.append(random.nextInt(12) == 0 ? "\n" : " ");
        }
        out.append(s);
    }

    private void put(int n) {
        put(random.nextInt(30) == 0 ? "00" + n : String.valueOf(n));
    }

    private void law(String word) {
        telling = word.equals("tells");
        put(word);
        if (random.nextInt(5) == 0) {
            deep();
        } else {
            sum(random.nextInt(12) == 0 ? 8 : 1 + random.nextInt(4));
        }
        put(";");
    }

    /** As many open around one another as may be, and one more or less. */
    private void deep() {
        int many = 7 + random.nextInt(3);
        StringBuilder closing = new StringBuilder();
        for (int i = 0; i < many; i++) {
            int kind = random.nextInt(6);
            boolean last = i == many - 1;
            if (kind == 0) {
                put("(");
                closing.insert(0, ")");
            } else if (kind == 1) {
                put("-");
            } else if (kind == 2) {
                put("below");
            } else if (kind == 3) {
                put("within");
                closing.insert(0, " of 7");
            } else if (kind == 4 && i + 1 < many) {
                put("if");
                put("not");
                i++;
                closing.insert(0, ">4 then 1 else 0 end ");
            } else {
                put("within");
                put(last ? "tears" : "9");
                put("of");
            }
        }
        put("3");
        out.append(closing);
        while (random.nextInt(3) > 0) {
            put("+");
            one(random.nextInt(3));
        }
    }

    private void deed(boolean shortOne) {
        int kind = shortOne ? 3 + 3 * random.nextInt(2) : random.nextInt(7);
        switch (kind) {
            case 0:
                put("pain");
                put(random.nextInt(100));
                put("of");
                put(random.nextInt(12));
                break;
            case 1:
                put("hang");
                put(random.nextInt(9));
                put("on");
                put(random.nextInt(12));
                break;
            case 2:
                put("person");
                put(random.nextInt(12));
                put("purse");
                put(random.nextInt(60));
                break;
            case 3:
                put("ask");
                put(random.nextInt(5));
                break;
            case 4:
            case 5:
                put(kind == 4 ? "give" : "again");
                put(random.nextInt(12));
                put("by");
                put(random.nextInt(5));
                break;
            default:
                put("day");
                put(1 + random.nextInt(random.nextInt(4) == 0 ? 60 : 4));
                break;
        }
        put(";");
    }

    private void sum(int deep) {
        product(deep);
        while (random.nextInt(3) == 0) {
            put(random.nextBoolean() ? "+" : "-");
            product(deep - 1);
        }
    }

    private void product(int deep) {
        one(deep);
        while (random.nextInt(4) == 0) {
            put(random.nextBoolean() ? "*" : "/");
            one(deep - 1);
        }
    }

    private void one(int deep) {
        int kind = deep <= 0 ? random.nextInt(2) : random.nextInt(9);
        switch (kind) {
            case 0:
                put(random.nextInt(random.nextInt(5) == 0 ? 10000 : 12));
                break;
            case 1:
            case 2:
                // now and then one that isn't of this clause
                boolean own = telling && random.nextBoolean() || random.nextInt(40) == 0;
                put(own ? TELLS[random.nextInt(3)] : BOTH[random.nextInt(7)]);
                break;
            case 3:
                put("(");
                sum(deep - 1);
                put(")");
                break;
            case 4:
                put("-");
                one(deep - 1);
                break;
            case 5:
                put("within");
                one(deep - 1);
                put("of");
                one(deep - 1);
                break;
            case 6:
                put("below");
                one(deep - 1);
                break;
            default:
                put("if");
                either(deep - 1);
                put("then");
                sum(deep - 1);
                put("else");
                sum(deep - 2);
                put("end");
                break;
        }
    }

    private void either(int deep) {
        ask(deep);
        while (random.nextInt(3) == 0) {
            put(random.nextBoolean() ? "or" : "and");
            ask(deep - 1);
        }
    }

    private void ask(int deep) {
        while (deep > 0 && random.nextInt(4) == 0) {
            put("not");
            deep--;
        }
        sum(deep - 1);
        put(new String[] {"<", "<=", ">", ">=", "=", "#"}[random.nextInt(6)]);
        sum(deep - 1);
    }
}
