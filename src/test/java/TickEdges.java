/** A TICK: who hands what to whom, what it costs, what goes for ROOM: promise 10 and TICK of the terms. */
final class TickEdges extends Edges {
    TickEdges(Checks checks, Document document, int[] tested) {
        super(checks, document, tested);
    }

    @Override
    void testAll() {
        ticks();
        order();
        charge();
        best();
        taking();
        room();
        givenAway();
        handed();
        undone();
        telling();
    }

    private void ticks() {
        edge(TERMS, "TICK: 0 at first, 400 at last.", () -> {
            is("at first", x.count(0), 0);
            for (int i = 1; i <= 10; i++) {
                is("forty more", x.ticks(40), 40 * i);
            }
            is("at last", x.ticks(1), 400);
            is("as it is counted", x.count(0), 400);
        });
        edge(10, "So many TICKS, as far as TICK may go: TICK.", () -> {
            phones(1);
            is("none", x.ticks(0), 0);
            is("one", x.ticks(1), 1);
            ticksTo(399);
            x.say(0, 0, 2, 0, 0, 0, 0);
            is("one of forty", x.ticks(40), 400);
            is("none of forty", x.ticks(40), 400);
            is("it did not die", x.word(0, 10), 0);
            is("nor is it gone", x.look(0, 2), 1);
            is("none of none", x.ticks(0), 400);
        });
        edge(10, "IllegalArgumentException: not 0 to 40", () -> {
            for (int n : new int[] {-1, 41, LEAST, MOST}) {
                refused("so many: " + n, ARGUMENT, () -> x.ticks(n));
            }
            is("none went by", x.count(0), 0);
            is("forty", x.ticks(40), 40);
        });
    }

    private void order() {
        edge(TERMS, "TICK is one more, then: (a) PHONES move. (b) COPIES of WORDS that are dead are gone. (c) MEETINGS", () -> {
            phones(1);
            x.phone(5, 1000, 12, 0);
            x.phone(6, 1000, 12, 0);
            x.say(1, 0, 3, 0, 0, 0, 0);
            x.say(1, 0, 4, 0, 0, 0, 0);
            x.move(0, 1, 3, 0);
            x.move(0, 2, 2, 0);
            x.move(0, 2, 3, 6);
            x.ticks(2);
            x.say(2, 0, 9, 0, 0, 0, 0);
            x.ticks(1);
            is("it died ahead of the MEETING", x.had(0), NONE);
            is("it dies a TICK later", x.had(1), 3);
            is("who went away met nobody", x.had(2), NONE);
            is("nothing of the dead one is left", x.word(0, 9), 0);
        });
        edge(TERMS, "of all PHONES at one PLACE each pair, by the lesser number, then the greater one", () -> {
            phones(4);
            say(3, 0, 0);
            say(2, 0, 0);
            say(1, 0, 0);
            x.ticks(1);
            // WORD 0 goes 3 to 0, 3 to 1, 3 to 2; WORD 1 goes 2 to 0, 0 to 3, 2 to 1; WORD 2 goes 1 to 0, 0 to 2, 0 to 3.
            int[][] from = {{3, 3, 3, NONE}, {2, 2, NONE, 0}, {1, NONE, 0, 0}};
            for (int word = 0; word < 3; word++) {
                for (int phone = 0; phone < 4; phone++) {
                    is("WORD " + word + " on " + phone, x.copy(phone, word, 2), from[word][phone]);
                }
            }
        });
        edge(TERMS, "of all PHONES at one PLACE", () -> {
            phones(1);
            x.phone(1, 1000, 12, 0);
            x.phone(4, 1000, 12, 0);
            say(0, 0, 0);
            x.ticks(9);
            is("a PLACE beside it is another one", x.word(0, 9), 1);
        });
    }

    private void charge() {
        edge(TERMS, "as long as both have CHARGE above 0, and something can be handed", () -> {
            x.phone(0, 0, 12, 0);
            x.phone(0, 1000, 12, 0);
            say(0, 0, 0);
            say(1, 0, 0);
            x.ticks(1);
            is("one has none", x.count(5), 0);
            is("the other loses none", x.look(1, 1), 1000);
            x = new QuakeNet();
            x.phone(0, 1, 12, 0);
            x.phone(0, 1, 12, 0);
            say(0, 0, 0);
            say(0, 0, 0);
            x.ticks(1);
            is("1 is above 0, once", x.count(5), 1);
            is("the giver's", x.look(0, 1), 0);
            is("the taker's", x.look(1, 1), 0);
            x = new QuakeNet();
            phones(2);
            say(0, 0, 0);
            x.ticks(9);
            is("nothing more can be handed", x.look(0, 1), 999);
        });
        edge(TERMS, "the giver's CHARGE is less by COST (0 at least), the taker's by 1", () -> {
            rules("cost 5");
            x.phone(0, 6, 12, 0);
            x.phone(0, 9, 12, 0);
            for (int i = 0; i < 3; i++) {
                say(0, 0, 0);
            }
            x.ticks(1);
            is("6 less 5, then 0", x.look(0, 1), 0);
            is("two were handed", x.look(0, 5), 2);
            is("9 less 2", x.look(1, 1), 7);
            anew("cost 5");
            x.phone(0, 5, 12, 0);
            x.phone(0, 9, 12, 0);
            say(0, 0, 0);
            say(0, 0, 0);
            x.ticks(1);
            is("5 less 5", x.look(0, 1), 0);
            is("one was handed", x.look(0, 5), 1);
            anew("cost 0");
            x.phone(0, 1, 12, 0);
            x.phone(0, 3, 12, 0);
            for (int i = 0; i < 4; i++) {
                say(0, 0, 0);
            }
            x.ticks(1);
            is("for nothing", x.look(0, 1), 1);
            is("the taker's 3", x.look(1, 1), 0);
            is("as many as it had", x.look(1, 6), 3);
        });
    }

    private void best() {
        edge(TERMS, "of all COPIES of both that the other one can take that of the greatest MARK (as it is on the giver)", () -> {
            rules("first 5 if charge > 50;first 1");
            x.phone(0, 1, 12, 0);
            x.phone(0, 100, 12, 0);
            say(0, 0, 0);
            say(1, 0, 0);
            x.ticks(1);
            is("6 is on PHONE 1, and 1 on the TENT", x.copy(0, 1, 1), 1);
            is("no CHARGE is left for the other", x.copy(1, 0, 1), NONE);
            anew("first 5 if charge > 50;first 1");
            x.phone(0, 100, 12, 0);
            x.phone(0, 1, 12, 0);
            say(1, 0, 0);
            say(0, 0, 0);
            x.ticks(1);
            is("6 is on the TENT, and 1 on PHONE 1", x.copy(1, 1, 1), 1);
            is("no CHARGE is left for the lesser number", x.copy(0, 0, 1), NONE);
        });
        edge(TERMS, "that the other one can take", () -> {
            rules("first 9 if seen;pass if not seen");
            x.phone(0, 1, 12, 0);
            x.phone(0, 1, 12, 0);
            say(0, 1, 0);
            say(0, 0, 0);
            x.ticks(1);
            is("the greatest may not be PASSED", x.copy(1, 0, 1), NONE);
            is("so the other one goes", x.copy(1, 1, 1), 1);
        });
        edge(TERMS, "of several the WORD of the least number, is HANDED", () -> {
            x.phone(0, 1, 12, 0);
            x.phone(0, 1, 12, 0);
            say(1, 0, 0);
            say(0, 0, 0);
            say(1, 0, 0);
            x.ticks(1);
            is("0 goes to the TENT", x.copy(0, 0, 1), 1);
            is("and nothing else", x.count(5), 1);
            x = new QuakeNet();
            x.phone(0, 1, 12, 0);
            x.phone(0, 1, 12, 0);
            say(0, 0, 0);
            say(1, 0, 0);
            say(0, 0, 0);
            x.ticks(1);
            is("0 goes from the TENT", x.copy(1, 0, 1), 1);
            is("and nothing else then", x.count(5), 1);
        });
    }

    private void taking() {
        edge(TERMS, "One can take a WORD, if it may be PASSED, the other has it not", () -> {
            rules("pass if seen");
            phones(2);
            say(0, 1, 0);
            say(0, 0, 0);
            x.ticks(5);
            is("it may be PASSED", x.copy(1, 0, 1), 1);
            is("it may not", x.copy(1, 1, 1), NONE);
            is("who has it takes it no more", x.count(5), 1);
            is("nor does it come back", x.copy(0, 0, 1), 0);
        });
        edge(TERMS, "has no COPY of an undone WORD that undoes it", () -> {
            rules("pass if not undone");
            phones(3);
            say(0, 0, 0);
            x.undo(1, 3, 0);
            x.ticks(1);
            is("it has one", x.copy(1, 0, 1), NONE);
            is("the one behind it has none", x.copy(2, 0, 1), 1);
            is("a WORD that nothing undoes", x.copy(1, say(0, 0, 0), 1), NONE);
            x.ticks(1);
            is("goes", x.copy(1, 2, 1), 1);
            is("this one still does not", x.copy(1, 0, 1), NONE);
            x.ticks(1);
            is("when the undone one is dead it does", x.copy(1, 0, 1), 1);
            anew("pass if not undone");
            phones(3);
            say(0, 0, 0);
            x.undo(1, 9, 0);
            x.undo(2, 9, 0);
            x.ticks(1);
            is("the first of two undone ones bars it", x.copy(1, 0, 1), NONE);
            is("as does the second", x.copy(2, 0, 1), NONE);
        });
        edge(TERMS, "did not give it away for ROOM in this MEETING", () -> {
            rules("first 1 if age > 1;first 9 if have < 2");
            x.phone(0, 100, 1, 0);
            x.phone(0, 100, 2, 0);
            say(0, 0, 0);
            x.ticks(1);
            say(1, 0, 0);
            x.ticks(1);
            // WORD 1 (MARK 9) goes to 0 for WORD 0 (MARK 1), which has MARK 10 on 1 then, and 1 has MARK 0.
            is("it has the other one", x.copy(0, 1, 1), 1);
            is("it does not take it back", x.copy(0, 0, 1), NONE);
            x.ticks(1);
            is("in the next MEETING it does", x.copy(0, 0, 1), 2);
        });
        edge(TERMS, "give it away for ROOM", () -> {
            rules("first 5 if charge > 500");
            x.phone(0, 100, 1, 0);
            x.phone(0, 1000, 12, 0);
            say(1, 0, 0);
            x.ticks(1);
            say(1, 0, 0);
            say(1, 0, 0);
            x.ticks(1);
            // All have MARK 5 on 1, and 0 on the TENT: it gives 0 away for 1, then 1 for 2.
            is("it has the last one", x.copy(0, 2, 3), 2);
            is("neither of the others comes back", x.look(0, 7), 2);
            is("three were handed in all", x.count(5), 3);
        });
        edge(TERMS, "in this MEETING", () -> {
            rules("first 3 if charge > 500;first 5 if charge > 900");
            x.phone(0, 10, 1, 0);
            x.phone(5, 600, 12, 0);
            x.phone(0, 1000, 12, 0);
            say(2, 0, 0);
            say(1, 0, 0);
            x.move(0, 1, 2, 0);
            x.ticks(1);
            is("0 has WORD 0", x.copy(0, 0, 1), 1);
            x.ticks(1);
            // With 1 it gave WORD 0 (MARK 0) away for WORD 1 (MARK 3); 2 has WORD 0 with MARK 8.
            is("from 2 it takes it back in the same TICK", x.copy(0, 0, 3), 2);
            is("for the other one", x.copy(0, 1, 1), NONE);
            is("it gave away two", x.look(0, 7), 2);
        });
    }

    private void room() {
        edge(TERMS, "and has room: fewer COPIES than ROOM", () -> {
            x.phone(0, 1000, 12, 0);
            x.phone(0, 1000, 3, 0);
            say(1, 0, 0);
            say(1, 0, 0);
            say(0, 0, 0);
            say(0, 0, 0);
            x.ticks(1);
            is("2 of 3 are fewer", x.copy(1, 2, 1), 1);
            is("3 of 3 are not", x.copy(1, 3, 1), NONE);
            is("none was given away", x.look(1, 7), 0);
            is("COPIES", x.look(1, 2), 3);
        });
        edge(TERMS, "if a COPY on the taker has a MARK (as it is there) that is less than its MARK on the giver", () -> {
            rules("first 2 if number > 1;first 1 if number > 0");
            x.phone(0, 1000, 1, 0);
            x.phone(0, 1000, 1, 0);
            say(0, 0, 1);
            say(1, 0, 1);
            x.ticks(1);
            is("no less a MARK", x.count(5), 0);
            say(1, 0, 2);
            x.ticks(1);
            is("1 is less than 3", x.copy(0, 2, 1), 1);
            is("which was given away", x.copy(0, 0, 1), NONE);
            anew("first 4 if charge > 500;first 2");
            x.phone(0, 1000, 1, 0);
            x.phone(0, 500, 1, 0);
            say(0, 0, 0);
            say(1, 0, 0);
            x.ticks(1);
            is("2 there is less than 6 on the giver", x.copy(1, 0, 1), 1);
            is("6 there is not less than 2", x.copy(0, 1, 1), NONE);
        });
        edge(TERMS, "the least one (of several the WORD of the greatest number) is given away for it", () -> {
            rules("first 3 if number > 2;first 1 if number > 0");
            x.phone(0, 1000, 4, 0);
            x.phone(0, 1000, 12, 0);
            int[] numbers = {0, 1, 0, 3};
            for (int number : numbers) {
                say(0, 0, number);
            }
            say(1, 0, 3);
            x.ticks(1);
            is("2, behind 0 of the same MARK", x.copy(0, 2, 1), NONE);
            is("0 stays", x.copy(0, 0, 1), 0);
            is("1 stays", x.copy(0, 1, 1), 0);
            is("3 stays", x.copy(0, 3, 1), 0);
            is("4 came", x.copy(0, 4, 1), 1);
            is("one was given away", x.look(0, 7), 1);
            is("and none by the other", x.look(1, 7), 0);
        });
    }

    private void givenAway() {
        edge(TERMS, "is given away for it", () -> {
            rules("first 1 if number > 0");
            x.phone(0, 1000, 1, 0);
            x.phone(0, 1000, 1, 0);
            say(0, 0, 0);
            say(1, 0, 1);
            x.ticks(1);
            is("the last COPY of it is gone", x.word(0, 9), 0);
            is("HAD it all the same", x.had(0), 0);
            is("given away in all", x.count(6), 1);
            x.ticks(1);
            is("it comes no more", x.word(0, 9), 0);
        });
    }

    private void handed() {
        edge(TERMS, "for kinds seen and need the giver's SWELL more (9999 at most)", () -> {
            x.phone(0, 1000, 12, 0);
            x.phone(0, 1000, 12, 9);
            for (int kind = 0; kind < 5; kind++) {
                say(1, kind, 5);
            }
            say(1, 1, 9990);
            say(1, 2, 9991);
            say(1, 1, 9999);
            x.ticks(1);
            int[] due = {5, 14, 14, 5, 5, 9999, 9999, 9999};
            for (int word = 0; word < due.length; word++) {
                is("WORD " + word, x.copy(0, word, 0), due[word]);
            }
            is("the giver's stays", x.copy(1, 1, 0), 5);
        });
        edge(TERMS, "the giver's SWELL more", () -> {
            x.phone(0, 1000, 12, 3);
            x.phone(0, 1000, 12, 0);
            say(1, 1, 5);
            x.ticks(1);
            is("not the taker's", x.copy(0, 0, 0), 5);
            is("undone ones do not swell", x.copy(1, x.undo(0, 9, 0), 0), NONE);
            x.ticks(1);
            is("handed by the TENT", x.copy(1, 1, 0), 0);
        });
        edge(TERMS, "HOPS one more", () -> {
            for (int i = 0; i < 4; i++) {
                x.phone(i, 1000, 12, 0);
            }
            say(0, 0, 0);
            for (int i = 1; i < 4; i++) {
                x.move(0, i - 1, i, 8);
                x.move(0, i, i, 8);
                x.move(0, i - 1, i + 1, 9);
                x.ticks(1);
                is("HOPS on " + i, x.copy(i, 0, 1), i);
            }
            is("HOPS where it was told", x.copy(0, 0, 1), 0);
        });
    }

    private void undone() {
        edge(TERMS, "With an undone WORD that it takes the taker's COPY of the WORD that it undoes is gone.", () -> {
            phones(2);
            say(0, 0, 0);
            say(0, 0, 0);
            x.ticks(1);
            x.undo(1, 9, 0);
            x.ticks(1);
            is("the undone one came", x.copy(0, 2, 1), 1);
            is("what it undoes is gone", x.copy(0, 0, 1), NONE);
            is("the other one stays", x.copy(0, 1, 1), 0);
            is("gone is not given away", x.look(0, 7), 0);
            is("COPIES", x.look(0, 2), 2);
        });
        edge(TERMS, "With an undone WORD that it takes", () -> {
            rules("first 4 if seen;first 5 if undone;first 1 if order");
            x.phone(0, 1000, 12, 0);
            x.phone(0, 1000, 2, 0);
            say(1, 1, 0);
            say(1, 4, 0);
            x.undo(0, 50, 0);
            x.ticks(1);
            is("a full one gives its least away for it", x.look(1, 7), 1);
            is("that is not the one undone", x.had(1), NONE);
            is("the undone one alone is left", x.look(1, 2), 1);
            anew("first 4 if seen;first 4 if undone;first 4 if order");
            x.phone(0, 1000, 12, 0);
            x.phone(0, 1000, 2, 0);
            say(1, 1, 0);
            say(1, 4, 0);
            x.undo(0, 50, 0);
            x.ticks(1);
            is("of no less a MARK it takes none", x.copy(1, 2, 1), NONE);
            is("so nothing is gone", x.copy(1, 0, 1), 0);
        });
    }

    private void telling() {
        edge(TERMS, "A WORD is told at a PHONE at once: it has it there (HOPS 0)", () -> {
            x.phone(3, 0, 1, 9);
            x.ticks(4);
            is("its number", x.say(0, 1, 9, 0, 0, 0, 7), 0);
            int[] due = {7, 0, NONE, 4, 0, 1};
            for (int what = 0; what < due.length; what++) {
                is("what " + what, x.copy(0, 0, what), due[what]);
            }
            is("it is not HANDED", x.count(5), 0);
        });
        edge(TERMS, "an undone one takes the WORD that it undoes away there first", () -> {
            x.phone(0, 9, 2, 0);
            x.phone(0, 0, 2, 0);
            say(0, 0, 0);
            say(0, 0, 0);
            x.undo(0, 9, 0);
            is("it is gone", x.copy(0, 0, 0), NONE);
            is("so there was room", x.copy(0, 1, 0), 0);
            is("none was given away", x.look(0, 7), 0);
            x.undo(1, 9, 1);
            is("there alone", x.copy(0, 1, 0), 0);
        });
        edge(TERMS, "then, if there is no room, the COPY of the least MARK (of several the greatest number) is given away", () -> {
            rules("first 5 if need");
            x.phone(0, 9, 3, 0);
            say(0, 3, 0);
            say(0, 3, 0);
            say(0, 2, 0);
            is("room for three", x.look(0, 7), 0);
            say(0, 3, 0);
            is("of 0 and 1 the greatest number", x.copy(0, 1, 0), NONE);
            is("not the least number", x.copy(0, 0, 0), 0);
            is("not the greatest MARK", x.copy(0, 2, 0), 0);
            is("nor the new one", x.copy(0, 3, 0), 0);
            is("given away", x.look(0, 7), 1);
            say(0, 2, 0);
            say(0, 2, 0);
            is("3, then 0", x.copy(0, 0, 0), NONE);
            say(0, 3, 0);
            is("now of three alike the last", x.copy(0, 5, 0), NONE);
            is("for one of a lesser MARK", x.copy(0, 6, 0), 0);
            x.undo(0, 9, 0);
            is("an undone one too, of what is not there", x.copy(0, 6, 0), NONE);
            is("given away in all", x.count(6), 5);
        });
        edge(TERMS, "if there is no room", () -> {
            x.phone(0, 9, 1, 0);
            for (int i = 0; i < 30; i++) {
                say(0, 0, 0);
                is("the new one is there", x.copy(0, i, 0), 0);
                is("alone", x.look(0, 2), 1);
            }
            is("all but the last were given away", x.look(0, 7), 29);
            is("HAD them all", x.count(7), 30);
        });
    }
}
