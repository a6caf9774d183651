/** The text of RULES, its first wrong byte, and what its LINES mean: promises 6 and 7, and RULES of the terms. */
final class TextEdges extends Edges {
    private static final String TEN = "pass;pass;pass;pass;pass;pass;pass;pass;pass;pass";

    TextEdges(Checks checks, Document document, int[] tested) {
        super(checks, document, tested);
    }

    @Override
    void testAll() {
        use();
        fault();
        lines();
        numbers();
        deep();
        words();
        blanks();
        firstWrongByte();
        missing();
        told();
        facts();
        bounds();
        marks();
        passed();
        cost();
    }

    private void reads(String text, int due) {
        x = new QuakeNet();
        is("LINES of '" + text + "'", rules(text), due);
        is("fault of '" + text + "'", x.fault(), NONE);
    }

    private void wrong(String text, int due) {
        x = new QuakeNet();
        Tapes.put(x, text);
        refused("'" + text + "'", ARGUMENT, () -> x.rules());
        is("the first wrong byte of '" + text + "'", x.fault(), due);
        is("no LINES of '" + text + "'", x.count(3), 0);
    }

    /** Whether a condition holds for the one WORD that a PHONE has, just told there. */
    private void holds(String condition, int kind, int number, boolean due) {
        anew("first 1 if " + condition);
        phones(1);
        say(0, kind, number);
        is(condition + " of kind " + kind + " with " + number, x.copy(0, 0, 4), due ? 1 : 0);
    }

    private void use() {
        edge(6, "Uses the TAPE up: RULES: how many LINES.", () -> {
            is("two", rules("pass;show"), 2);
            is("none behind them", x.rules(), 0);
            is("nor are there any now", x.count(3), 0);
            is("the TAPE begins anew", x.feed(0, 0, 0, 0, 0), 20);
        });
        edge(6, "IllegalArgumentException: the text is wrong", () -> {
            rules("first 3;cost 2");
            phones(1);
            say(0, 0, 0);
            Tapes.put(x, "first 4;cost");
            refused("wrong at its end", ARGUMENT, () -> x.rules());
            is("the RULES stay", x.count(3), 2);
            is("with their MARKS", x.copy(0, 0, 4), 3);
            no("the TAPE is used up", x.end(1));
        });
        edge(6, "the text is wrong; IllegalStateException.", () -> {
            rules("first 3");
            phones(1);
            say(0, 0, 0);
            Tapes.put(x, "first 4;pass");
            x.ticks(1);
            refused("TICK 1", STATE, () -> x.rules());
            is("the RULES stay", x.count(3), 1);
            is("with their MARKS", x.copy(0, 0, 4), 3);
            no("the TAPE is used up", x.end(1));
            refused("an empty text", STATE, () -> x.rules());
            Tapes.put(x, "pas");
            refused("a wrong text is told first", ARGUMENT, () -> x.rules());
            is("and was read", x.fault(), 0);
        });
    }

    private void fault() {
        edge(7, "The first wrong byte of the latest text that was read", () -> {
            Tapes.put(x, "cost 7 8 9");
            refused("wrong", ARGUMENT, () -> x.rules());
            is("of the first one", x.fault(), 7);
            Tapes.put(x, "+");
            is("fed is not read", x.fault(), 7);
            refused("wrong too", ARGUMENT, () -> x.rules());
            is("of the latest one", x.fault(), 0);
            phones(1);
            say(0, 0, 0);
            Tapes.put(x, "pass pass");
            refused("WOULD reads too", ARGUMENT, () -> x.would(0));
            is("of that", x.fault(), 5);
        });
        edge(7, "NONE without one, and ahead of any", () -> {
            is("ahead of any", x.fault(), NONE);
            Tapes.put(x, "passs");
            is("none was read", x.fault(), NONE);
            refused("wrong", ARGUMENT, () -> x.rules());
            is("the first byte", x.fault(), 0);
            rules("pass");
            is("without one", x.fault(), NONE);
            Tapes.put(x, "passs");
            refused("wrong", ARGUMENT, () -> x.rules());
            x.rules();
            is("an empty text has none", x.fault(), NONE);
        });
    }

    private void lines() {
        edge(TERMS, "a text: LINE { ; LINE }, at most 10", () -> {
            reads("pass", 1);
            reads(TEN, 10);
            wrong(TEN + ";pass", 50);
            anew("first 1;first 10;first 100;first 1000;pass;cost 3;show;first 2;cost 4;first 20 if not kin");
            phones(1);
            is("the tenth counts", x.copy(0, say(0, 0, 0), 4), 1111 + 22);
        });
        edge(TERMS, "A text that is empty, or blanks alone, has no LINE.", () -> {
            reads("", 0);
            reads(" ", 0);
            StringBuilder blanks = new StringBuilder();
            for (int i = 0; i < 400; i++) {
                blanks.append(' ');
            }
            reads(blanks.toString(), 0);
            rules("pass");
            is("the LINES are gone", rules(""), 0);
            is("none counts", x.count(3), 0);
        });
        edge(TERMS, "of an 11th LINE its first word", () -> {
            wrong(TEN + ";pass", 50);
            wrong(TEN + " ;  pass", 53);
            wrong(TEN + ";show if alive", 50);
            wrong(TEN + ";cost 1", 50);
            wrong(TEN + ";x", 50);
        });
    }

    private void numbers() {
        edge(TERMS, "NUMBER: 1 to 4 digits; of cost 0 to 100", () -> {
            reads("first 0", 1);
            reads("first 9999", 1);
            reads("first 0009", 1);
            wrong("first 10000", 6);
            wrong("first", 5);
            reads("cost 0", 1);
            reads("cost 100", 1);
            reads("cost 0100", 1);
            wrong("cost 101", 5);
            wrong("cost 9999", 5);
            reads("pass if age < 0 and hops > 9999", 1);
            wrong("pass if age < 10000", 14);
            wrong("pass if age > 00000", 14);
        });
        edge(TERMS, "a NUMBER of more digits, or out of its bounds", () -> {
            wrong("first 00000", 6);
            wrong("first 99999999999999999999", 6);
            wrong("first 4294967297", 6);
            wrong("cost 00001", 5);
            wrong("cost 101", 5);
            wrong("pass if have>00001", 13);
        });
    }

    private void deep() {
        edge(TERMS, "( and not within one another at most 6 deep", () -> {
            reads("pass if not not not not not not alive", 1);
            reads("pass if ((((((alive))))))", 1);
            reads("pass if not (not (not (alive)))", 1);
            reads("pass if ((((((alive)))))) and not not not not not not seen or ((((((age < 1))))))", 1);
            reads("pass if (((((not alive and not seen) or not need) and not kin) or (order)))", 1);
            holds("not not not not not not alive", 0, 0, true);
            holds("(((((not seen and alive)))))", 0, 0, true);
        });
        edge(TERMS, "the ( or not that is a 7th one deep", () -> {
            wrong("pass if not not not not not not not alive", 32);
            wrong("pass if (((((((alive)))))))", 14);
            wrong("pass if ((((((not alive))))))", 14);
            wrong("pass if not not not not not not (alive)", 32);
            wrong("pass if ((((((alive and (seen)))))))", 24);
            wrong("pass if not (not (not (not alive)))", 23);
        });
    }

    private void words() {
        edge(TERMS, "Words are as long as a to z go on", () -> {
            wrong("passif alive", 0);
            wrong("pass ifalive", 5);
            wrong("pass if notalive", 8);
            wrong("pass if aliveorseen", 8);
            reads("first5if(alive)or(seen)and age<3and hops>2", 1);
            wrong("passz", 0);
            wrong("pass if alivez", 8);
            wrong("pass`", 4);
            wrong("pass{", 4);
            wrong("passA", 4);
            wrong("Pass", 0);
        });
        edge(TERMS, "a word that is none", () -> {
            wrong("pas", 0);
            wrong("passs", 0);
            wrong("xass", 0);
            wrong("pxss", 0);
            wrong("pass if xlive", 8);
            wrong("pass if alivex", 8);
            wrong("a", 0);
            wrong("undonee", 0);
            wrong("pass if undon", 8);
            wrong("pass if undonee", 8);
            wrong("pass if z", 8);
            wrong("pass when alive", 5);
            wrong("pass if alive xor seen", 14);
            wrong("pass if place < 3", 8);
        });
        edge(TERMS, "LINE: first NUMBER [ if C ] | pass [ if C ] | cost NUMBER | show [ if C ].", () -> {
            reads("first 1 if alive", 1);
            reads("pass if alive", 1);
            reads("show if alive", 1);
            wrong("cost 1 if alive", 7);
            wrong("pass 1", 5);
            wrong("show 1 if alive", 5);
            wrong("first if alive", 6);
            wrong("if alive", 0);
            wrong("alive", 0);
            wrong("3", 0);
            wrong("(pass)", 0);
        });
        edge(TERMS, "ATOM: not ATOM | ( C ) | TAG | FACT < NUMBER | FACT > NUMBER.", () -> {
            reads("pass if alive or seen or need or asked or order or undone or kin", 1);
            reads("pass if age<1 or hops<1 or have<1 or charge<1 or number<1", 1);
            reads("pass if age>1 or hops>1 or have>1 or charge>1 or number>1", 1);
            wrong("pass if alive < 1", 14);
            wrong("pass if age", 11);
            wrong("pass if age and alive", 12);
            wrong("pass if age = 1", 12);
            wrong("pass if age <> 1", 13);
            wrong("pass if 1 < age", 8);
            wrong("pass if age < age", 14);
            wrong("pass if not or alive", 12);
            wrong("pass if ()", 9);
            wrong("pass if (alive seen)", 15);
            wrong("pass if alive)", 13);
            wrong("pass if first", 8);
        });
    }

    private void blanks() {
        edge(TERMS, "between all there may be blanks (32), also ahead and behind", () -> {
            reads("   first   1   if   (   age   <   1   )   ;   pass   ", 2);
            reads("first 1if(age<1);pass", 2);
            wrong("\tpass", 0);
            wrong("pass\n", 4);
            wrong("pass" + (char) 0, 4);
            wrong("pass" + (char) 160, 4);
            wrong("first 1 0", 8);
            wrong("pa ss", 0);
        });
    }

    private void firstWrongByte() {
        edge(TERMS, "the begin of the first thing that cannot stand there", () -> {
            wrong(";", 0);
            wrong("pass;;pass", 5);
            wrong("pass pass", 5);
            wrong("pass; + ; 99999", 6);
            wrong("pass if alive alive", 14);
            wrong("first -1", 6);
            wrong("pass if (alive;pass)", 14);
            wrong("first pass", 6);
            wrong("cost show", 5);
            wrong("first;pass", 5);
            wrong("pass if not or or", 12);
            wrong("pass if not and seen 5", 12);
            wrong("pass if (or or", 9);
            wrong("pass if (and) (", 9);
            wrong("pass if age < or or", 14);
            wrong("pass if alive and or or", 18);
            wrong("pass if show;show;+", 8);
            wrong("pass" + (char) 255, 4);
            wrong("pass" + (char) 128, 4);
        });
    }

    private void missing() {
        edge(TERMS, "or the text's length, if more must come", () -> {
            wrong("first", 5);
            wrong("first ", 6);
            wrong("cost", 4);
            wrong("pass if", 7);
            wrong("pass if not", 11);
            wrong("pass if (", 9);
            wrong("pass if (alive", 14);
            wrong("pass if (alive   ", 17);
            wrong("pass if alive and", 17);
            wrong("pass if alive or  ", 18);
            wrong("pass if age", 11);
            wrong("pass if age <", 13);
            wrong("pass;", 5);
            wrong("pass ;  ", 8);
            wrong(TEN + ";", 50);
            wrong(TEN + ";  ", 52);
            StringBuilder full = new StringBuilder("pass if (alive");
            while (full.length() < 400) {
                full.append(' ');
            }
            wrong(full.toString(), 400);
        });
    }

    private void told() {
        edge(TERMS, "(the latest counts; no LINES at first)", () -> {
            phones(1);
            say(0, 0, 0);
            is("MARK at first", x.copy(0, 0, 4), 0);
            rules("first 3;first 4");
            is("MARK", x.copy(0, 0, 4), 7);
            rules("first 5");
            is("of the latest ones alone", x.copy(0, 0, 4), 5);
            is("one LINE", x.count(3), 1);
            rules("pass if kin;cost 7;show;show");
            is("that may not be PASSED", x.copy(0, 0, 5), 0);
            rules("first 1;cost 2");
            is("the LINES of before count no more", x.copy(0, 0, 5), 1);
            phones(1);
            x.hide(0, true);
            say(0, 1, 0);
            is("nor what they show", x.ask(0, true), 0);
            x.ticks(1);
            is("nor what they cost", x.look(0, 1), 1000 - 2 * 2);
        });
    }

    private void facts() {
        edge(TERMS, "TAG: alive, seen, need, asked, order, undone, kin.", () -> {
            String[] tags = {"alive", "seen", "need", "asked", "order"};
            for (int kind = 0; kind < 5; kind++) {
                for (int tag = 0; tag < 5; tag++) {
                    holds(tags[tag], kind, 0, kind == tag);
                }
                holds("undone", kind, 0, false);
            }
            anew("first 1 if undone;first 2 if alive or seen or need or asked or order");
            phones(1);
            say(0, 0, 0);
            is("an undone one is nothing else", x.copy(0, x.undo(0, 1, 0), 4), 1);
        });
        edge(TERMS, "kin: no", () -> {
            for (int kind = 0; kind < 5; kind++) {
                holds("kin", kind, 0, false);
                holds("not kin", kind, 0, true);
            }
        });
        edge(TERMS, "ALL { or ALL }; ALL: ATOM { and ATOM }", () -> {
            holds("alive or seen and need", 0, 0, true);
            holds("need and seen or alive", 0, 0, true);
            holds("(alive or seen) and need", 0, 0, false);
            holds("need and (seen or alive)", 0, 0, false);
            holds("seen or need or alive", 0, 0, true);
            holds("alive or need or seen", 0, 0, true);
            holds("need or alive or seen", 0, 0, true);
            holds("need or seen or order", 0, 0, false);
            holds("alive and number > 3", 0, 5, true);
            holds("alive and number < 9", 0, 5, true);
            holds("seen and number > 3", 0, 5, false);
            holds("alive and number > 9", 0, 5, false);
            holds("alive and not seen and not need", 0, 0, true);
            holds("alive and not seen and need", 0, 0, false);
            holds("not alive or seen", 0, 0, false);
            holds("not alive and seen", 0, 0, false);
            holds("not (alive and seen)", 0, 0, true);
            holds("seen or alive and alive or seen", 0, 0, true);
        });
    }

    private void bounds() {
        edge(TERMS, "FACT < NUMBER | FACT > NUMBER", () -> {
            holds("number < 7", 0, 7, false);
            holds("number < 8", 0, 7, true);
            holds("number > 7", 0, 7, false);
            holds("number > 6", 0, 7, true);
            holds("number < 0", 0, 0, false);
            holds("number > 9999", 0, 9999, false);
            holds("number > 9998", 0, 9999, true);
            holds("charge > 999 and charge < 1001", 0, 0, true);
            holds("charge > 1000 or charge < 1000", 0, 0, false);
            holds("have > 0 and have < 2", 0, 0, true);
            holds("hops < 1", 0, 0, true);
            holds("hops > 0", 0, 0, false);
        });
        edge(TERMS, "age: TICKS since the WORD was told", () -> {
            rules("first 1 if age < 1;first 2 if age > 1;first 4 if age > 198");
            phones(2);
            x.ticks(5);
            say(0, 0, 0);
            is("0 at once", x.copy(0, 0, 4), 1);
            x.ticks(1);
            is("1", x.copy(0, 0, 4), 0);
            is("of a COPY that came now too", x.copy(1, 0, 4), 0);
            x.ticks(1);
            is("2", x.copy(0, 0, 4), 2);
            ticksTo(5 + 199);
            is("199", x.copy(1, 0, 4), 6);
        });
        edge(TERMS, "have: how many PHONES have the WORD now", () -> {
            rules("first 1 if have > 0;first 2 if have > 1;first 4 if have > 2");
            phones(2);
            x.phone(0, 1000, 12, 0);
            x.move(0, 2, 1, 5);
            x.move(0, 2, 2, 0);
            say(0, 0, 0);
            is("one", x.copy(0, 0, 4), 1);
            x.ticks(1);
            is("two", x.copy(0, 0, 4), 3);
            x.ticks(1);
            is("three", x.copy(0, 0, 4), 7);
            x.undo(1, 1, 0);
            is("two again", x.copy(0, 0, 4), 3);
            is("where it is gone there is no MARK", x.copy(1, 0, 4), NONE);
        });
        edge(TERMS, "charge: of that PHONE", () -> {
            rules("first 1 if charge > 0;first 2 if charge > 5;cost 3");
            x.phone(0, 8, 3, 0);
            x.phone(0, 6, 3, 0);
            say(0, 0, 0);
            is("8", x.copy(0, 0, 4), 3);
            x.ticks(1);
            is("8 less 3", x.copy(0, 0, 4), 1);
            is("6 less 1", x.copy(1, 0, 4), 1);
        });
        edge(TERMS, "hops, number: its own", () -> {
            rules("first 1 if hops > 0;first 2 if number > 9");
            x.phone(0, 9, 3, 0);
            x.phone(0, 9, 3, 1);
            say(1, 1, 9);
            x.ticks(1);
            is("at its MOUTH", x.copy(1, 0, 4), 0);
            is("at the TENT", x.copy(0, 0, 4), 3);
        });
    }

    private void marks() {
        edge(TERMS, "MARK: the sum of all first NUMBERS that hold.", () -> {
            rules("first 3 if seen;first 5;first 7 if need;pass;cost 9;show");
            phones(1);
            is("two of three", x.copy(0, say(0, 1, 0), 4), 8);
            is("one", x.copy(0, say(0, 0, 0), 4), 5);
            rules("first 7 if need");
            is("none", x.copy(0, 0, 4), 0);
            rules("first 9999;first 9999;first 9999;first 9999;first 9999;first 9999;first 9999;first 9999;"
                    + "first 9999;first 9999");
            is("ten of the greatest", x.copy(0, 0, 4), 99990);
        });
    }

    private void passed() {
        edge(TERMS, "and some pass LINE holds, or there is no pass LINE at all", () -> {
            phones(1);
            say(0, 1, 0);
            is("without LINES", x.copy(0, 0, 5), 1);
            rules("first 3 if need;cost 3;show if need");
            is("without a pass LINE", x.copy(0, 0, 5), 1);
            rules("pass if need");
            is("one that does not hold", x.copy(0, 0, 5), 0);
            rules("pass if need;pass if seen;pass if order");
            is("one that holds of three", x.copy(0, 0, 5), 1);
            rules("pass if need;pass if order");
            is("none that holds of two", x.copy(0, 0, 5), 0);
            rules("pass if need;first 3;cost 2;show");
            is("none that holds of one ahead of others", x.copy(0, 0, 5), 0);
            rules("pass");
            is("one without an if", x.copy(0, 0, 5), 1);
        });
        edge(TERMS, "if it has less than 12 HOPS", () -> {
            rules("first 9 if number < 1;pass if number < 1");
            for (int i = 0; i < 3; i++) {
                x.phone(i, 1000, 1, 0);
            }
            say(0, 4, 0);
            // Three PHONES of ROOM 1 hand it round, and each has another WORD in its place behind that.
            for (int t = 1; t <= 13; t++) {
                int giver = (t - 1) % 3;
                int taker = t % 3;
                x.move(0, giver, t, giver + 3);
                x.move(0, taker, t, giver + 3);
                x.ticks(1);
                is("HOPS at TICK " + t, x.copy(taker, 0, 1), t < 13 ? t : NONE);
                is("it may be PASSED at TICK " + t, x.copy(taker, 0, 5), t < 12 ? 1 : t == 12 ? 0 : NONE);
                if (t < 12) {
                    x.say(giver, 4, 1, 0, 0, 0, 5);
                }
            }
            is("it stays where it has twelve", x.copy(0, 0, 1), 12);
        });
    }

    private void cost() {
        edge(TERMS, "COST: the last cost LINE (1 without).", () -> {
            costs("", 1);
            costs("pass", 1);
            costs("cost 0", 0);
            costs("cost 5", 5);
            costs("cost 5;cost 2", 2);
            costs("cost 2;cost 7;pass", 7);
            costs("cost 100", 100);
        });
    }

    private void costs(String text, int due) {
        anew("cost 9;cost 9;cost 9;cost 9;cost 9;cost 9;cost 9;cost 9;cost 9;cost 9");
        rules(text);
        phones(2);
        say(0, 0, 0);
        x.ticks(1);
        is("by '" + text + "'", x.look(0, 1), 1000 - due);
        is("of the taker by '" + text + "'", x.look(1, 1), 999);
    }
}
