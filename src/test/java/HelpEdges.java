/** Who is meant, and which GANG goes where: promises 25 to 32. */
final class HelpEdges extends Edges {
    HelpEdges(Checks checks, Document document, int[] tested) {
        super(checks, document, tested);
    }

    @Override
    void testAll() {
        describe();
        prices();
        apart();
        heaps();
        best();
        stones();
        gangs();
        saved();
        whole();
        send();
        sending();
    }

    private void describe() {
        edge(25, "A description: its number; NONE, and it does not come, if there are 7.", () -> {
            x.apart(1000);
            for (int i = 0; i < 7; i++) {
                is("its number", x.describe(3, 3, 3), i);
            }
            is("an 8th", x.describe(4, 3, 3), NONE);
            is("seven", x.count(8), 7);
            is("the 8th is in no price", x.heaps(0), 1000);
            refused("nor in a HEAP", INDEX, () -> x.heap(7));
            refused("a wrong 8th", ARGUMENT, () -> x.describe(100, 3, 3));
        });
        edge(25, "IllegalArgumentException: a number is none.", () -> {
            for (int n : new int[] {-2, 100, LEAST, MOST}) {
                refused("NAME " + n, ARGUMENT, () -> x.describe(n, 0, 0));
                refused("AGE " + n, ARGUMENT, () -> x.describe(0, n, 0));
            }
            for (int n : new int[] {-2, 10, LEAST, MOST}) {
                refused("COAT " + n, ARGUMENT, () -> x.describe(0, 0, n));
            }
            is("none came", x.count(8), 0);
        });
        edge(TERMS, "a NAME (0 to 99), AGE (0 to 99), COAT (0 to 9), each may be missing (NONE)", () -> {
            x.apart(1000);
            is("the least of all", x.describe(0, 0, 0), 0);
            is("the most of all", x.describe(99, 99, 9), 1);
            is("20 and 99 and 7", x.heaps(0), 1000 + 126);
            is("all missing", x.describe(NONE, NONE, NONE), 2);
            is("nothing more", x.heaps(0), 1000 + 126);
            is("a NAME is missing", x.describe(NONE, 0, 0), 3);
            is("an AGE is missing", x.describe(0, NONE, 0), 4);
            is("a COAT is missing", x.describe(0, 0, NONE), 5);
            is("106, 27 and 119 from the second", x.heaps(0), 1000 + 126 + 106 + 27 + 119);
        });
        edge(TERMS, "descriptions (at most 7, numbered from 0 on)", () -> {
            refused("there is none", INDEX, () -> x.heap(0));
            x.describe(1, 1, 1);
            is("0", x.heap(0), 0);
            for (int n : new int[] {-1, 1, 7, LEAST, MOST}) {
                refused("description " + n, INDEX, () -> x.heap(n));
            }
        });
    }

    private void prices() {
        edge(TERMS, "Price of two: 20 if both NAMES are there and unlike; what AGES are apart (if both are there); 7 if both COATS are there and unlike.", () -> {
            price(0, NONE, NONE, 99, NONE, NONE, 20);
            price(5, NONE, NONE, 5, NONE, NONE, 0);
            price(NONE, 5, 5, 0, 5, 5, 0);
            price(0, 5, 5, NONE, 5, 5, 0);
            price(NONE, 0, NONE, NONE, 99, NONE, 99);
            price(NONE, 99, NONE, NONE, 98, NONE, 1);
            price(5, NONE, 5, 5, 0, 5, 0);
            price(5, 0, 5, 5, NONE, 5, 0);
            price(NONE, NONE, 0, NONE, NONE, 9, 7);
            price(5, 5, NONE, 5, 5, 0, 0);
            price(5, 5, 0, 5, 5, NONE, 0);
            price(0, 0, 0, 1, 1, 1, 28);
        });
    }

    private void price(int name, int age, int coat, int otherName, int otherAge, int otherCoat, int due) {
        anew("");
        x.apart(1000);
        x.describe(name, age, coat);
        x.describe(otherName, otherAge, otherCoat);
        is("of " + name + ", " + age + ", " + coat + " and " + otherName + ", " + otherAge + ", " + otherCoat,
                x.heaps(0), 1000 + due);
    }

    private void apart() {
        edge(TERMS, "and APART (0 to 1000; 10 at first) for each HEAP, together", () -> {
            x.describe(1, NONE, NONE);
            is("10 at first", x.heaps(0), 10);
            x.describe(2, NONE, NONE);
            is("for each", x.heaps(0), 20);
            x.apart(0);
            is("the least", x.heaps(0), 0);
            x.apart(1000);
            is("the most, for one, and 20", x.heaps(0), 1020);
        });
        edge(26, "APART. IllegalArgumentException: it is none.", () -> {
            x.describe(1, 1, 1);
            for (int n : new int[] {-1, 1001, LEAST, MOST}) {
                refused("APART " + n, ARGUMENT, () -> x.apart(n));
            }
            is("it is 10 still", x.heaps(0), 10);
            x.apart(0);
            is("0", x.heaps(0), 0);
            x.apart(1000);
            is("1000", x.heaps(0), 1000);
        });
    }

    private void heaps() {
        edge(27, "BEST parting what 0 its price, 1 HEAPS.", () -> {
            is("the price of none", x.heaps(0), 0);
            is("no HEAPS", x.heaps(1), 0);
            x.describe(1, 1, 1);
            is("the price of one", x.heaps(0), 10);
            is("a HEAP", x.heaps(1), 1);
            for (int i = 2; i < 8; i++) {
                x.describe(i, 1, 1);
            }
            is("seven that are all unlike", x.heaps(0), 70);
            is("seven HEAPS", x.heaps(1), 7);
            x.apart(1000);
            is("21 pairs in one", x.heaps(0), 1000 + 21 * 20);
        });
        edge(27, "NoSuchElementException: another what.", () -> {
            for (int what : new int[] {-1, 2, LEAST, MOST}) {
                refused("what " + what, ELEMENT, () -> x.heaps(what));
            }
        });
    }

    private void best() {
        edge(TERMS, "the prices of all pairs in one HEAP, and APART (0 to 1000; 10 at first) for each HEAP, together", () -> {
            for (int i = 0; i < 7; i++) {
                x.describe(i, i % 2 * 99, i);
            }
            x.apart(1000);
            is("two of 1000, and nine pairs of 27", x.heaps(0), 2243);
            is("two", x.heaps(1), 2);
            x.apart(53);
            is("four of 53, and three pairs of 27", x.heaps(0), 293);
            int[] due = {0, 1, 0, 1, 2, 3, 2};
            for (int i = 0; i < due.length; i++) {
                is("of the dearest " + i, x.heap(i), due[i]);
            }
        });
        edge(TERMS, "BEST: the least; of several with the fewest HEAPS", () -> {
            x.apart(20);
            x.describe(1, 1, 1);
            x.describe(2, 1, 1);
            is("20 together or apart", x.heaps(0), 40);
            is("together", x.heaps(1), 1);
            x.apart(19);
            is("apart is less", x.heaps(1), 2);
            is("by one", x.heaps(0), 38);
            x.apart(21);
            is("together is less", x.heaps(0), 41);
        });
        edge(TERMS, "of several with the fewest HEAPS", () -> {
            x.apart(14);
            x.describe(1, NONE, 1);
            x.describe(NONE, 10, 1);
            x.describe(1, 11, 2);
            x.describe(2, NONE, 2);
            // 0 with 1, which are alike, and 2 and 3 alone; or 0 with 2, and 1 with 3, for 7 each.
            is("42 as two or as three", x.heaps(0), 42);
            is("two are fewer", x.heaps(1), 2);
            int[] due = {0, 1, 0, 1};
            for (int i = 0; i < 4; i++) {
                is("though 1 could be with 0, of " + i, x.heap(i), due[i]);
            }
        });
        edge(TERMS, "of these that in which, one behind the other, each description has the HEAP of the least number", () -> {
            x.apart(15);
            x.describe(1, NONE, NONE);
            x.describe(2, NONE, NONE);
            x.describe(NONE, NONE, NONE);
            is("it goes with either", x.heap(2), 0);
            anew("");
            x.apart(15);
            x.describe(1, NONE, NONE);
            x.describe(NONE, 1, NONE);
            x.describe(NONE, 50, NONE);
            x.describe(2, NONE, NONE);
            // 0 apart from 3, 1 apart from 2: 1 with 0, and 2 with 3; or 2 with 0.
            is("the second goes with the first", x.heap(1), 0);
            is("so the third begins another one", x.heap(2), 1);
            is("with the fourth", x.heap(3), 1);
        });
        edge(TERMS, "(HEAPS numbered as they begin)", () -> {
            for (int i = 0; i < 7; i++) {
                x.describe(i / 3, NONE, NONE);
            }
            int[] due = {0, 0, 0, 1, 1, 1, 2};
            for (int i = 0; i < 7; i++) {
                is("of description " + i, x.heap(i), due[i]);
            }
            is("three", x.heaps(1), 3);
        });
        edge(28, "The HEAP of a description in it.", () -> {
            x.apart(0);
            for (int i = 0; i < 7; i++) {
                x.describe(i, i, i);
                is("a HEAP of its own", x.heap(i), i);
            }
            x.apart(1000);
            is("all in one", x.heap(6), 0);
        });
    }

    private void stones() {
        edge(29, "STONES: their number.", () -> {
            is("the least of all", x.stones(0, 0, 0, 0, 1), 0);
            is("the most of all", x.stones(15, 100, 100, 20, 1000), 1);
            is("two", x.count(9), 2);
        });
        edge(29, "IllegalArgumentException: a number is none", () -> {
            for (int n : new int[] {-1, 101, LEAST, MOST}) {
                refused("LIVING " + n, ARGUMENT, () -> x.stones(0, n, 0, 0, 1));
                refused("ODDS " + n, ARGUMENT, () -> x.stones(0, 0, n, 0, 1));
            }
            for (int n : new int[] {-1, 21, LEAST, MOST}) {
                refused("FADE " + n, ARGUMENT, () -> x.stones(0, 0, 0, n, 1));
            }
            for (int n : new int[] {0, 1001, -1, LEAST, MOST}) {
                refused("DIG " + n, ARGUMENT, () -> x.stones(0, 0, 0, 0, n));
            }
            is("none came", x.count(9), 0);
        });
        edge(29, "UnsupportedOperationException: there are 5", () -> {
            for (int i = 0; i < 5; i++) {
                is("as far as 5", x.stones(0, 0, 0, 0, 1), i);
            }
            refused("a 6th", UNSUPPORTED, () -> x.stones(0, 0, 0, 0, 1));
            is("five", x.count(9), 5);
            x.gang(0, 1);
            is("the last one", x.saved(0, 4), 0);
            for (int n : new int[] {-1, 5, LEAST, MOST}) {
                refused("STONES " + n, INDEX, () -> x.saved(0, n));
            }
        });
        edge(TERMS, "STONES (at most 5, numbered from 0 on): a PLACE, LIVING (0 to 100), ODDS (0 to 100)", () -> {
            x.gang(0, 100);
            x.stones(0, 100, 100, 0, 1);
            x.stones(0, 0, 100, 0, 1);
            x.stones(0, 100, 0, 0, 1);
            is("the most", x.saved(0, 0), 10000);
            is("of none LIVING", x.saved(0, 1), 0);
            is("of no ODDS", x.saved(0, 2), 0);
        });
    }

    private void gangs() {
        edge(TERMS, "DIG (1 to 1000). GANGS (at most 4, numbered from 0 on): a PLACE, STRENGTH (1 to 100)", () -> {
            x.stones(0, 1, 100, 1, 1);
            x.stones(0, 100, 100, 1, 1000);
            x.gang(0, 1);
            x.gang(0, 100);
            is("the least DIG by the least STRENGTH", x.saved(0, 0), 99);
            is("the least DIG by the most STRENGTH", x.saved(1, 0), 99);
            is("the most DIG by the most STRENGTH", x.saved(1, 1), 9000);
            is("the most DIG by the least STRENGTH", x.saved(0, 1), 0);
        });
        edge(30, "A GANG: its number.", () -> {
            is("the least STRENGTH", x.gang(0, 1), 0);
            is("the most STRENGTH", x.gang(15, 100), 1);
            is("two", x.count(10), 2);
        });
        edge(30, "IllegalArgumentException: STRENGTH is none", () -> {
            for (int n : new int[] {0, 101, -1, LEAST, MOST}) {
                refused("STRENGTH " + n, ARGUMENT, () -> x.gang(0, n));
            }
            is("none came", x.count(10), 0);
        });
        edge(30, "UnsupportedOperationException: there are 4", () -> {
            x.stones(0, 1, 1, 0, 1);
            for (int i = 0; i < 4; i++) {
                is("as far as 4", x.gang(0, 1), i);
            }
            refused("a 5th", UNSUPPORTED, () -> x.gang(0, 1));
            is("four", x.count(10), 4);
            is("the last one", x.saved(3, 0), 1);
            for (int n : new int[] {-1, 4, LEAST, MOST}) {
                refused("GANG " + n, INDEX, () -> x.saved(n, 0));
            }
        });
    }

    private void saved() {
        edge(TERMS, "A GANG that goes to STONES comes FAR APART TICKS later, and has them open DIG by STRENGTH, rounded up, TICKS later still", () -> {
            x.stones(0, 1, 100, 1, 12);
            is("there", x.gang(0, 12), 0);
            is("a step away", x.gang(4, 12), 1);
            is("six steps away", x.gang(15, 12), 2);
            is("and weaker by one", x.gang(0, 11), 3);
            is("one TICK", x.saved(0, 0), 99);
            is("two TICKS", x.saved(1, 0), 98);
            is("seven TICKS", x.saved(2, 0), 93);
            is("12 by 11 is 2", x.saved(3, 0), 98);
            x = new QuakeNet();
            x.stones(0, 1, 100, 1, 12);
            x.gang(0, 13);
            x.gang(0, 6);
            x.gang(0, 5);
            x.gang(0, 1);
            is("12 by 13 is 1", x.saved(0, 0), 99);
            is("12 by 6 is 2", x.saved(1, 0), 98);
            is("12 by 5 is 3", x.saved(2, 0), 97);
            is("12 by 1 is 12", x.saved(3, 0), 88);
        });
        edge(TERMS, "from the TICK at which they are told on less by FADE (0 to 20) each TICK", () -> {
            x.ticks(7);
            x.gang(0, 1);
            x.stones(0, 1, 100, 0, 1000);
            x.stones(0, 1, 100, 20, 1);
            is("it does not FADE", x.saved(0, 0), 100);
            is("20 a TICK", x.saved(0, 1), 80);
            x.ticks(3);
            is("not at all", x.saved(0, 0), 100);
            is("four TICKS after it was told", x.saved(0, 1), 20);
            x.stones(0, 1, 100, 20, 1);
            is("told later", x.saved(0, 2), 80);
            is("told earlier", x.saved(0, 1), 20);
        });
        edge(TERMS, "LIVING times what is left of ODDS then (0 at least), in hundredths (whole)", () -> {
            x.gang(0, 1);
            x.stones(0, 7, 61, 20, 3);
            x.stones(0, 7, 60, 20, 3);
            x.stones(0, 7, 59, 20, 3);
            x.stones(0, 100, 100, 20, 1000);
            is("1 is left", x.saved(0, 0), 7);
            is("0 is left", x.saved(0, 1), 0);
            is("not less than 0", x.saved(0, 2), 0);
            is("never", x.saved(0, 3), 0);
            ticksTo(400);
            is("nor at last", x.saved(0, 3), 0);
            is("in all", x.send(NONE), 0);
        });
    }

    private void whole() {
        edge(31, "SAVED by a GANG at STONES, if it went now.", () -> {
            x.stones(0, 2, 50, 1, 1);
            x.gang(0, 1);
            is("at TICK 0", x.saved(0, 0), 98);
            x.ticks(40);
            is("at TICK 40", x.saved(0, 0), 18);
            x.ticks(8);
            is("at TICK 48", x.saved(0, 0), 2);
            x.ticks(1);
            is("at TICK 49", x.saved(0, 0), 0);
        });
    }

    private void send() {
        edge(32, "BEST SENDING: SAVED together (gang NONE), or the STONES of a GANG (NONE: none).", () -> {
            is("without GANGS and STONES", x.send(NONE), 0);
            x.gang(0, 1);
            is("without STONES", x.send(NONE), 0);
            is("to none", x.send(0), NONE);
            for (int n : new int[] {-2, 1, 4, LEAST, MOST}) {
                refused("GANG " + n, INDEX, () -> x.send(n));
            }
            x.stones(0, 3, 100, 0, 1);
            is("to the only ones", x.send(0), 0);
            is("together", x.send(NONE), 300);
            x = new QuakeNet();
            x.stones(0, 3, 100, 0, 1);
            is("without GANGS", x.send(NONE), 0);
            refused("there is no GANG", INDEX, () -> x.send(0));
        });
        edge(TERMS, "each GANG to STONES or none, no two to the same", () -> {
            x.stones(0, 3, 100, 0, 1);
            for (int i = 0; i < 4; i++) {
                x.gang(0, 1);
            }
            is("once", x.send(NONE), 300);
            is("the first one", x.send(0), 0);
            for (int i = 1; i < 4; i++) {
                is("to none", x.send(i), NONE);
            }
        });
    }

    private void sending() {
        edge(TERMS, "BEST: the greatest SAVED together", () -> {
            x.stones(0, 10, 100, 10, 10);
            x.stones(5, 10, 100, 10, 10);
            x.gang(0, 10);
            x.gang(5, 1);
            // 0 at 0 and 1 at 1: 900 and 0; 0 at 1 and 1 at 0: 700 and 0.
            is("the best", x.send(NONE), 900);
            is("0 goes to 0", x.send(0), 0);
            is("1 goes for nothing", x.send(1), 1);
            x.gang(0, 10);
            is("0 and 2", x.send(NONE), 900 + 700);
            is("then 1 stays", x.send(1), NONE);
            is("2 goes", x.send(2), 1);
            for (int i = 2; i < 5; i++) {
                x.stones(15, 100, 100, 0, 1);
            }
            x.gang(15, 1);
            is("each to the three best, and one to the next", x.send(NONE), 30000 + 900);
        });
        edge(TERMS, "of several that in which the first GANG goes to the least STONES (none is the last), then the next one", () -> {
            x.stones(0, 0, 100, 0, 1);
            x.stones(0, 5, 100, 0, 1);
            x.stones(0, 5, 100, 0, 1);
            x.gang(0, 1);
            x.gang(0, 1);
            x.gang(0, 1);
            is("two GANGS are of use", x.send(NONE), 1000);
            is("the first one goes for nothing", x.send(0), 0);
            is("the next to the least of what is left", x.send(1), 1);
            is("the last to the other ones", x.send(2), 2);
            x.gang(0, 1);
            is("as before", x.send(0), 0);
            is("none is the last", x.send(3), NONE);
            x = new QuakeNet();
            x.stones(0, 0, 0, 0, 1);
            x.gang(0, 1);
            is("nothing is SAVED", x.send(NONE), 0);
            is("but it goes rather than not", x.send(0), 0);
        });
    }
}
