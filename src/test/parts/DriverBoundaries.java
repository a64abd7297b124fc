/** Terms: drivers, tales, ropes and majorities. */
final class DriverBoundaries extends Sentences {
    static void all() {
        callsPerObject();
        majorityIsRoundedDown();
        whatWasAgreedStays();
        atMostFiveDrivers();
        numberedFromZero();
        followsAtFirst();
        asksAndLeads();
        aboardAtFirst();
        termAtFirst();
        leastAndGreatestPatience();
        waitsAsLongAsItsPatience();
        waitedAtFirst();
        noVoteAtFirst();
        noTaleAtFirst();
        atMostTwelveLines();
        linesFromOne();
        termOfALine();
        leastAndGreatestLetter();
        agreedAtFirst();
        greaterTermIsLonger();
        greaterNumberIsLonger();
        emptyTale();
        ropesAtFirst();
        cutAndTied();
        reachIfBothAboard();
        reachIfRopeIsWhole();
        moreThanHalfOfVotes();
        moreThanHalfOfHolders();
        allThatCame();
    }

    /** Five drivers ask in each beat: 485 calls make the term grow to 48,500. */
    private static void callsPerObject() {
        sentence("What it is", "An object is used for at most 512 calls after it has been made");
        LogRaft x = crew(1, 1, 1, 1, 1);
        for (int i = 0; i < 485; i++) {
            due("beats", x.beats(20), 100);
        }
        due("call 491", x.account(4), 48500);
        due("call 492", x.account(10), 5 * 48500);
        due("call 493", x.leader(), 4);
        for (int i = 1; i <= 12; i++) {
            due("shout", x.shout(4, 'z'), i);
        }
        due("call 506", x.send(4), 5);
        due("call 507", x.tell(4), 80);
        due("call 508", x.written(79), '|');
        due("call 509", x.lineOf(0, 12, false), 48500);
        due("call 510", x.account(9), 1);
        due("call 511", x.undo(), 7);
        due("call 512", x.driverOf(4, 6), 0);
    }

    private static void majorityIsRoundedDown() {
        sentence(TERMS, "divisions are rounded down");
        LogRaft x = crewOf(5);
        cutFrom(x, 0, 3, 4);
        due("three of five", x.ask(0), 3);
        due("leads", x.driverOf(0, 0), 2);
        x = crewOf(3);
        x.cut(0, 2);
        due("two of three", x.ask(0), 2);
        due("leads", x.driverOf(0, 0), 2);
        x = crewOf(1);
        due("one of one", x.ask(0), 1);
        due("leads", x.driverOf(0, 0), 2);
    }

    private static void whatWasAgreedStays() {
        sentence(TERMS, "What was agreed once stays.");
        LogRaft x = sailing();
        x.shout(0, 'c');
        x.cut(0, 2);
        x.send(0);
        due("the leader knows", x.driverOf(0, 6), 3);
        x.ask(1);
        due("the next leader knows less", x.driverOf(1, 6), 2);
        x.send(1);
        due("after its sending", x.driverOf(0, 6), 3);
        x.wash(0);
        x.back(0);
        due("after it came back", x.driverOf(0, 6), 3);
        x.send(1);
        due("of all", x.agreed(), 3);
    }

    private static void atMostFiveDrivers() {
        sentence(TERMS, "Drivers. At most 5 drivers come");
        LogRaft x = new LogRaft();
        for (int i = 1; i <= 5; i++) {
            x.driver(9);
            due("drivers", x.account(1), i);
        }
        due("a sixth", x.driver(9), REFUSED);
        due("drivers then", x.account(1), 5);
        due("aboard", x.account(2), 5);
        due("changes", x.account(12), 5);
    }

    private static void numberedFromZero() {
        sentence(TERMS, "numbered from 0. A driver");
        LogRaft x = new LogRaft();
        for (int i = 0; i < 5; i++) {
            due("driver", x.driver(9 - i), i);
        }
        for (int i = 0; i < 5; i++) {
            due("patience", x.driverOf(i, 2), 9 - i);
        }
    }

    private static void followsAtFirst() {
        sentence(TERMS, "A driver is a follower, 0, as at first");
        due("a new one", crewOf(1).driverOf(0, 0), 0);
        due("the fifth", crewOf(5).driverOf(4, 0), 0);
    }

    private static void asksAndLeads() {
        sentence(TERMS, "asks for votes, 1; or leads, 2;");
        LogRaft x = crewOf(2);
        x.cut(0, 1);
        x.ask(0);
        due("asks", x.driverOf(0, 0), 1);
        x.tie(0, 1);
        x.ask(0);
        due("leads", x.driverOf(0, 0), 2);
    }

    private static void aboardAtFirst() {
        sentence(TERMS, "and is aboard, or washed away.");
        LogRaft x = crewOf(2);
        due("aboard", x.driverOf(1, 7), 1);
        x.wash(1);
        due("washed away", x.driverOf(1, 7), 0);
    }

    private static void termAtFirst() {
        sentence(TERMS, "Each has a term, 0 at first");
        due("a new one", crewOf(1).driverOf(0, 1), 0);
        LogRaft x = crewOf(1);
        x.beats(9);
        due("a later one", x.driverOf(0, 1), 1);
        x.clear();
        x.driver(9);
        due("one who comes in place of another", x.driverOf(0, 1), 0);
    }

    private static void leastAndGreatestPatience() {
        sentence(TERMS, "a patience from 1 to 9");
        LogRaft x = new LogRaft();
        due("below", x.driver(0), BAD);
        due("least", x.driver(1), 0);
        due("greatest", x.driver(9), 1);
        due("above", x.driver(10), BAD);
        due("the least one", x.driverOf(0, 2), 1);
        due("the greatest one", x.driverOf(1, 2), 9);
    }

    private static void waitsAsLongAsItsPatience() {
        sentence(TERMS, "which is how many beats a driver waits");
        for (int patience = 1; patience <= 9; patience++) {
            LogRaft x = crew(patience);
            if (patience > 1) {
                due("one beat less than " + patience, x.beats(patience - 1), 0);
            }
            due("the beat " + patience, x.beats(1), 1);
        }
    }

    private static void waitedAtFirst() {
        sentence(TERMS, "a count of beats waited, 0 at first");
        LogRaft x = crewOf(1);
        due("a new one", x.driverOf(0, 3), 0);
        x.beats(5);
        x.driver(9);
        due("one who comes later", x.driverOf(1, 3), 0);
        due("the one before", x.driverOf(0, 3), 5);
    }

    private static void noVoteAtFirst() {
        sentence(TERMS, "the driver who got a vote in this term, if one did");
        LogRaft x = crewOf(3);
        due("nobody did", x.driverOf(0, 4), NONE);
        x.ask(0);
        due("the lowest one did", x.driverOf(2, 4), 0);
        x.ask(2);
        due("the highest one did", x.driverOf(0, 4), 2);
    }

    private static void noTaleAtFirst() {
        sentence(TERMS, "if one did, and a tale.");
        LogRaft x = crewOf(1);
        due("lines at first", x.driverOf(0, 5), 0);
        due("the first line", x.lineOf(0, 1, true), NONE);
    }

    private static void atMostTwelveLines() {
        sentence(TERMS, "Tales. A tale is a row of at most 12 lines");
        LogRaft x = crewOf(2);
        x.ask(0);
        shoutAll(x, 0, "abcdefghijk");
        due("the twelfth", x.shout(0, 'l'), 12);
        due("a thirteenth", x.shout(0, 'm'), REFUSED);
        due("lines", x.driverOf(0, 5), 12);
        due("the last", x.lineOf(0, 12, true), 'l');
        due("none behind", x.lineOf(0, 13, true), NONE);
        x.send(0);
        due("all of them are sent", told(x, 1), "f1:|a1b1c1d1e1f1g1h1i1j1k1l1");
        due("all are agreed", told(x, 0), "l1:a1b1c1d1e1f1g1h1i1j1k1l1|");
        due("a full tale is sent again", x.send(0), 2);
        due("all are known", x.driverOf(1, 6), 12);
    }

    private static void linesFromOne() {
        sentence(TERMS, "numbered from 1; each has");
        LogRaft x = crewOf(1);
        x.ask(0);
        due("the first", x.shout(0, 'q'), 1);
        due("no line 0", x.lineOf(0, 0, true), NONE);
        due("line 1", x.lineOf(0, 1, true), 'q');
    }

    private static void termOfALine() {
        sentence(TERMS, "each has the term in which it was shouted");
        LogRaft x = crewOf(2);
        x.ask(0);
        x.shout(0, 'a');
        x.send(0);
        x.ask(1);
        x.shout(1, 'b');
        x.send(1);
        due("the earlier term stays", x.lineOf(0, 1, false), 1);
        due("the later one", x.lineOf(0, 2, false), 2);
    }

    private static void leastAndGreatestLetter() {
        sentence(TERMS, "and a letter from \"a\" to \"z\". A driver");
        LogRaft x = crewOf(1);
        x.ask(0);
        due("below a", x.shout(0, '`'), BAD);
        due("a", x.shout(0, 'a'), 1);
        due("z", x.shout(0, 'z'), 2);
        due("above z", x.shout(0, '{'), BAD);
        due("the least", x.lineOf(0, 1, true), 'a');
        due("the greatest", x.lineOf(0, 2, true), 'z');
    }

    private static void agreedAtFirst() {
        sentence(TERMS, "A driver knows up to which line the tale is agreed, up to 0 at first.");
        LogRaft x = crewOf(3);
        due("at first", x.driverOf(0, 6), 0);
        x.ask(0);
        x.shout(0, 'a');
        due("a line that was shouted", x.driverOf(0, 6), 0);
    }

    private static void greaterTermIsLonger() {
        sentence(TERMS, "One tale is longer than another one if its last line has a greater term");
        LogRaft x = crewOf(3);
        x.ask(0);
        shoutAll(x, 0, "abcdefghijkl");
        x.cut(0, 1);
        x.ask(1);
        x.shout(1, 'a');
        due("one line of a term 1 greater against twelve", x.longer(1, 0), 1);
        due("the other way", x.longer(0, 1), -1);
    }

    private static void greaterNumberIsLonger() {
        sentence(TERMS, "or the same term and a greater number");
        LogRaft x = crewOf(2);
        x.ask(0);
        shoutAll(x, 0, "ab");
        x.send(0);
        due("the same number", x.longer(0, 1), 0);
        x.shout(0, 'c');
        due("one line more", x.longer(0, 1), 1);
        due("the other way", x.longer(1, 0), -1);
    }

    private static void emptyTale() {
        sentence(TERMS, "a tale without lines is as one whose last line has the term 0 and the number 0.");
        LogRaft x = crewOf(2);
        due("two empty ones", x.longer(0, 1), 0);
        x.cut(0, 1);
        x.ask(1);
        due("another term of the driver", x.longer(1, 0), 0);
        x.tie(0, 1);
        x.ask(0);
        due("votes for an empty one", x.ask(0), 2);
        x.shout(0, 'a');
        due("one line", x.longer(0, 1), 1);
        due("the other way", x.longer(1, 0), -1);
        due("no vote for an empty one", x.ask(1), 1);
    }

    private static void ropesAtFirst() {
        sentence(TERMS, "Ropes. There is a rope between each two drivers, whole at first");
        LogRaft x = crewOf(5);
        due("ropes that are cut", x.account(3), 0);
        for (int one = 0; one < 5; one++) {
            for (int other = 0; other < 5; other++) {
                due("rope " + one + other, x.reaches(one, other), one != other);
            }
        }
    }

    private static void cutAndTied() {
        sentence(TERMS, "which can be cut and tied again.");
        LogRaft x = crewOf(5);
        int ropes = 0;
        for (int one = 0; one < 5; one++) {
            for (int other = 0; other < one; other++) {
                ropes++;
                due("cut " + one + other, x.cut(one, other), ropes);
                due("reach " + one + other, x.reaches(one, other), false);
            }
        }
        due("all of them", ropes, 10);
        for (int one = 0; one < 5; one++) {
            for (int other = 0; other < one; other++) {
                ropes--;
                due("tie " + one + other, x.tie(other, one), ropes);
                due("reach " + one + other, x.reaches(one, other), true);
            }
        }
    }

    private static void reachIfBothAboard() {
        sentence(TERMS, "Two drivers reach one another if both are aboard");
        LogRaft x = crewOf(2);
        due("both", x.reaches(0, 1), true);
        x.wash(0);
        due("the other one alone", x.reaches(0, 1) || x.reaches(1, 0), false);
        x.wash(1);
        due("neither", x.reaches(0, 1) || x.reaches(1, 0), false);
        x.back(0);
        due("the one alone", x.reaches(0, 1) || x.reaches(1, 0), false);
        x.back(1);
        due("both again", x.reaches(0, 1) && x.reaches(1, 0), true);
    }

    private static void reachIfRopeIsWhole() {
        sentence(TERMS, "and the rope between them is whole.");
        LogRaft x = crewOf(3);
        x.cut(2, 0);
        due("the cut one", x.reaches(0, 2) || x.reaches(2, 0), false);
        due("no way over another driver", x.reaches(0, 1) && x.reaches(1, 2), true);
        x.wash(0);
        x.tie(0, 2);
        x.back(0);
        due("tied while one was away", x.reaches(0, 2), true);
    }

    /** Driver 0 reaches as many others as give it these votes. */
    private static LogRaft crewWithVotes(int many, int votes) {
        LogRaft x = crewOf(many);
        for (int i = votes; i < many; i++) {
            x.cut(0, i);
        }
        due(many + " drivers", x.ask(0), votes);
        return x;
    }

    private static void moreThanHalfOfVotes() {
        sentence(TERMS, "A majority is more than half");
        for (int many = 1; many <= 5; many++) {
            for (int votes = 1; votes <= many; votes++) {
                LogRaft x = crewWithVotes(many, votes);
                due(votes + " of " + many + " votes", x.driverOf(0, 0), votes * 2 > many ? 2 : 1);
            }
        }
    }

    private static void moreThanHalfOfHolders() {
        sentence(TERMS, "the greatest line of its own term that a majority has");
        for (int many = 2; many <= 5; many++) {
            for (int holding = 1; holding <= many; holding++) {
                LogRaft x = crewOf(many);
                x.ask(0);
                x.shout(0, 'a');
                for (int i = holding; i < many; i++) {
                    x.cut(0, i);
                }
                due("sends in a crew of " + many, x.send(0), holding);
                due(holding + " of " + many + " have it", x.agreed(), holding * 2 > many ? 1 : 0);
            }
        }
    }

    private static void allThatCame() {
        sentence(TERMS, "of all drivers that came.");
        LogRaft x = crewOf(4);
        x.wash(2);
        x.wash(3);
        due("all who are aboard", x.ask(0), 2);
        due("are half of those who came", x.driverOf(0, 0), 1);
        x.back(3);
        due("one more", x.ask(0), 3);
        x.shout(0, 'a');
        x.wash(3);
        due("leads two of four", x.send(0), 2);
        due("agrees nothing", x.agreed(), 0);
    }
}
