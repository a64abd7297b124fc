/** The promises of the questions. */
final class QuestionBoundaries extends Sentences {
    static void all() {
        numbersOfADriver();
        numbersOfNobody();
        numbersOfNoKind();
        linesFromOne();
        noLine();
        latestTerm();
        noLeader();
        reachOneAndTheSame();
        whoseTaleIsLonger();
        longerOfNobody();
        wouldVoteUnreached();
        wouldVoteForItself();
        wouldVoteOfNobody();
        couldLeadAsAsk();
        couldLeadOfNobody();
        couldLeadNothing();
        couldLeadAgain();
        couldLeadAgainOfNobody();
        couldLeadAgainNothing();
        alikeUpTo();
        alikeNone();
        alikeOfNobody();
        holdersWashedAway();
        holdersOfALine();
        holdersOfNobody();
        agreedByAny();
        agreedByNone();
        agreedAgain();
        conflictsOfPairs();
        safeUpToTheLesser();
        rankedLongest();
        rankedPlace();
        oldestAboard();
        oldestPlace();
        quietFromOneToNine();
        quietForever();
        toldLine();
        toldAhead();
        toldInPlace();
        toldNobody();
        votesInOrder();
        votesOfNobody();
        votesToldOfNobody();
        writtenAtFirst();
        writtenIndex();
        writtenNone();
        meanOfLines();
        meanWithoutDrivers();
        shareOfLines();
        shareWithoutLines();
        accountsInOrder();
        greatestTermWithoutAny();
        accountOfNothing();
    }

    // Drivers

    private static void numbersOfADriver() {
        sentence(16, "0 for what it does, 0 to 2");
        LogRaft x = crew(3, 1, 9);
        due("follows", x.driverOf(0, 0), 0);
        cutFrom(x, 0, 1, 2);
        x.ask(0);
        due("asks", x.driverOf(0, 0), 1);
        sentence(16, "3 for the beats waited; 4 for the driver who got its vote in this term, or -1");
        x.cut(1, 2);
        x.beats(2);
        due("waited", x.driverOf(0, 3), 2);
        due("for itself", x.driverOf(0, 4), 0);
        due("for nobody", x.driverOf(2, 4), -1);
        x.beats(2);
        x.tie(0, 1);
        x.ask(0);
        due("a greater term was taken over", x.driverOf(0, 1), 4);
        due("without a vote", x.driverOf(0, 4), -1);
        sentence(16, "1 for its term; 2 for its patience;");
        due("of the first", x.driverOf(0, 1) * 10 + x.driverOf(0, 2), 43);
        due("of the last", x.driverOf(2, 1) * 10 + x.driverOf(2, 2), 9);
        sentence(16, "5 for the lines of its tale; 6 for the line up to which it knows it agreed");
        LogRaft y = crewOf(1);
        due("no lines", y.driverOf(0, 5) + y.driverOf(0, 6), 0);
        y.ask(0);
        shoutAll(y, 0, "abcdefghijkl");
        due("twelve, none agreed", y.driverOf(0, 5) * 100 + y.driverOf(0, 6), 1200);
        y.send(0);
        due("twelve agreed", y.driverOf(0, 6), 12);
        sentence(16, "7 for 1 if it is aboard, 0 otherwise; 8 for how many drivers it reaches");
        LogRaft z = crewOf(5);
        due("all others", z.driverOf(4, 7) * 10 + z.driverOf(4, 8), 14);
        cutFrom(z, 4, 0, 1, 2, 3);
        due("none", z.driverOf(4, 7) * 10 + z.driverOf(4, 8), 10);
        z.wash(0);
        due("washed away", z.driverOf(0, 7) * 10 + z.driverOf(0, 8), 0);
        due("one who is washed away is not reached", z.driverOf(1, 8), 2);
        sentence(16, "9 for how often it asked so far; 10 for how often it came to lead so far");
        due("never", z.driverOf(1, 9) + z.driverOf(1, 10), 0);
        z.ask(1);
        due("three of five", z.driverOf(1, 9) * 10 + z.driverOf(1, 10), 11);
        z.ask(2);
        z.wash(3);
        z.ask(1);
        due("two of five", z.driverOf(1, 9) * 10 + z.driverOf(1, 10), 21);
    }

    private static void numbersOfNobody() {
        sentence(16, "Returns the number; NONE if there is no such driver");
        dueOfStrangers("driverOf", (x, i) -> x.driverOf(i, 0), NONE);
    }

    private static void numbersOfNoKind() {
        sentence(16, "BAD if there is no such what.");
        LogRaft x = crewOf(5);
        for (int what : new int[] {LOW, -256, -1, 11, 12, 256, 65536, HIGH}) {
            due("what " + what, x.driverOf(4, what), BAD);
        }
        for (int what = 0; what <= 10; what++) {
            due("what " + what + " is bad", x.driverOf(4, what) == BAD, false);
        }
    }

    // Tales

    private static void linesFromOne() {
        sentence(17, "`line`: the number of the line, from 1");
        LogRaft x = sailing();
        due("the first", x.lineOf(0, 1, true), 'a');
        due("the last", x.lineOf(0, 2, true), 'b');
        sentence(17, "whether the code of the letter is returned, and not the term");
        due("the letter", x.lineOf(2, 1, true), 97);
        due("the term", x.lineOf(2, 1, false), 1);
    }

    private static void noLine() {
        sentence(17, "Returns the number; NONE if there is no such driver or line.");
        dueOfStrangers("lineOf", (x, i) -> x.lineOf(i, 1, true), NONE);
        LogRaft x = sailing();
        for (int line : new int[] {LOW, LOW + 1, -256, -1, 0, 3, 12, 13, 256 + 1, 65536 + 1, HIGH}) {
            due("letter of line " + line, x.lineOf(0, line, true), NONE);
            due("term of line " + line, x.lineOf(0, line, false), NONE);
        }
        x.undo();
        x.undo();
        x.undo();
        due("a line that was taken back", x.lineOf(0, 2, true), NONE);
        due("the line ahead", x.lineOf(0, 1, true), 'a');
        due("an empty tale", x.lineOf(1, 1, true), NONE);
    }

    private static void latestTerm() {
        sentence(18, "Returns the driver who leads in the latest term in which one does.");
        LogRaft x = crewOf(5);
        x.ask(0);
        due("the first", x.leader(), 0);
        cutFrom(x, 0, 1, 2, 3, 4);
        x.ask(4);
        due("the last, in a later term", x.leader(), 4);
        x.ask(0);
        x.cut(4, 1);
        x.ask(1);
        x.ask(1);
        x.ask(1);
        due("who asks in a later term does not lead", x.leader() == x.ranked(0), true);
    }

    private static void noLeader() {
        sentence(18, "Returns the driver; NOTHING if nobody leads.");
        due("without drivers", new LogRaft().leader(), NOTHING);
        LogRaft x = crewOf(2);
        due("followers", x.leader(), NOTHING);
        x.cut(0, 1);
        x.ask(0);
        due("one who asks", x.leader(), NOTHING);
        x.tie(0, 1);
        x.ask(0);
        due("one who leads", x.leader(), 0);
        x.wash(0);
        due("it is washed away", x.leader(), NOTHING);
        x.back(0);
        due("it came back", x.leader(), NOTHING);
    }

    private static void reachOneAndTheSame() {
        sentence(19, "false for one and the same, or if there is no such driver.");
        LogRaft x = crewOf(5);
        for (int i = 0; i < 5; i++) {
            due("reaches itself", x.reaches(i, i), false);
        }
        dueOfStrangers("reaches", (y, i, j) -> y.reaches(i, j) ? 1 : 0, 0);
        sentence(19, "Returns whether they do");
        due("the first and the last", x.reaches(0, 4) && x.reaches(4, 0), true);
    }

    private static void whoseTaleIsLonger() {
        sentence(20, "Returns 1 if the one's is, -1 if the other's is, 0 if neither is");
        LogRaft x = crewOf(3);
        due("empty ones", x.longer(0, 1), 0);
        due("one and the same", x.longer(2, 2), 0);
        x.ask(2);
        x.shout(2, 'a');
        due("a line against none", x.longer(2, 0), 1);
        due("the other way", x.longer(0, 2), -1);
        x.send(2);
        due("as long ones", x.longer(0, 2), 0);
    }

    private static void longerOfNobody() {
        sentence(20, "NOTHING if there is no such driver.");
        dueOfStrangers("longer", (x, i, j) -> x.longer(i, j), NOTHING);
    }

    // Votes

    private static void wouldVoteUnreached() {
        sentence(21, "whether they reach one another or not");
        LogRaft x = crewOf(3);
        x.cut(0, 1);
        due("a cut rope", x.wouldVote(0, 1), true);
        x.wash(2);
        due("one who is washed away", x.wouldVote(2, 1), true);
        due("for one who is washed away", x.wouldVote(1, 2), true);
        x.ask(0);
        x.ask(0);
        due("not for one of a term less", x.wouldVote(0, 2), false);
        sentence(21, "Returns whether it would");
        LogRaft y = crewOf(3);
        y.ask(0);
        due("a term 1 less, a vote given", y.wouldVote(1, 2), true);
        y.ask(1);
        y.cut(1, 2);
        y.ask(2);
        due("gave another vote in the term", y.wouldVote(0, 1), false);
        y.shout(2, 'a');
        due("a longer tale", y.wouldVote(2, 0), false);
        due("for a longer tale", y.wouldVote(0, 2), true);
    }

    private static void wouldVoteForItself() {
        sentence(21, "the other one, or the same, who would vote for itself");
        LogRaft x = crewOf(5);
        due("the first", x.wouldVote(0, 0), true);
        due("the last", x.wouldVote(4, 4), true);
        x.ask(0);
        due("a leader", x.wouldVote(0, 0), true);
        due("one who gave its vote", x.wouldVote(1, 1), true);
        x.wash(4);
        due("one who is washed away", x.wouldVote(4, 4), true);
    }

    private static void wouldVoteOfNobody() {
        sentence(21, "false if there is no such driver.");
        dueOfStrangers("wouldVote", (x, i, j) -> x.wouldVote(i, j) ? 1 : 0, 0);
    }

    private static void couldLeadAsAsk() {
        sentence(22, "Returns how many votes a driver would get by asking now, as ask would tell it, from those whom it reaches");
        for (int many = 1; many <= 5; many++) {
            LogRaft x = crewOf(many);
            for (int reached = many; reached >= 1; reached--) {
                due("votes of " + many, x.couldLead(0), reached);
                x.cut(0, reached - 1);
            }
        }
        LogRaft x = crewOf(3);
        cutFrom(x, 2, 0, 1);
        x.ask(2);
        x.tie(2, 1);
        due("the same term as the next one", x.couldLead(1), 2);
        x.cut(2, 1);
        x.ask(2);
        x.tie(2, 1);
        due("a greater term than the next one", x.couldLead(1), 0);
        due("not reached", x.couldLead(0), 2);
        sentence(22, "driver by driver, without doing it.");
        due("nobody asked", x.driverOf(0, 9) + x.driverOf(1, 9) + x.driverOf(1, 1), 0);
        due("no vote", x.driverOf(1, 4), NONE);
        due("the askings", x.account(5), 2);
    }

    private static void couldLeadOfNobody() {
        sentence(22, "Returns how many; NONE if there is no such driver");
        dueOfStrangers("couldLead", (x, i) -> x.couldLead(i), NONE);
    }

    private static void couldLeadNothing() {
        sentence(22, "NOTHING if it is washed away, or leads.");
        LogRaft x = crewOf(3);
        x.wash(0);
        due("washed away", x.couldLead(0), NOTHING);
        x.ask(2);
        due("leads", x.couldLead(2), NOTHING);
        x.back(0);
        due("came back, but the votes are given", x.couldLead(0), 1);
        x.wash(2);
        x.back(2);
        due("leads no more", x.couldLead(2), 3);
    }

    private static void couldLeadAgain() {
        sentence(23, "Returns the same by a second way: by doing it, and taking it back.");
        for (int many = 1; many <= 5; many++) {
            LogRaft x = crewOf(many);
            x.beats(3);
            for (int reached = many; reached >= 1; reached--) {
                due("votes of " + many, x.couldLeadAgain(0), reached);
                x.cut(0, reached - 1);
            }
            due("nobody asked", x.account(5) + x.account(6) + x.account(10), 0);
            due("nobody votes or waits anew", x.driverOf(many - 1, 3) * 10 + x.driverOf(many - 1, 4), 29);
        }
        sentence(23, "Returns how many");
        LogRaft x = crewOf(2);
        x.cut(0, 1);
        x.ask(0);
        x.tie(0, 1);
        due("the same term as the next one", x.couldLeadAgain(1), 1);
        x.ask(0);
        due("leads in the term that would be", x.couldLeadAgain(1), 2);
        x.cut(0, 1);
        x.wash(0);
        x.back(0);
        x.ask(0);
        x.ask(0);
        x.tie(0, 1);
        due("a greater term than the next one", x.couldLeadAgain(1), 0);
        due("is not taken over", x.driverOf(1, 1), 2);
    }

    private static void couldLeadAgainOfNobody() {
        sentence(23, "NONE if there is no such driver");
        dueOfStrangers("couldLeadAgain", (x, i) -> x.couldLeadAgain(i), NONE);
    }

    private static void couldLeadAgainNothing() {
        sentence(23, "NOTHING if it is washed away, or leads.");
        LogRaft x = crewOf(3);
        x.wash(2);
        due("washed away", x.couldLeadAgain(2), NOTHING);
        x.ask(0);
        due("leads", x.couldLeadAgain(0), NOTHING);
        x.back(2);
        due("came back, but the votes are given", x.couldLeadAgain(2), 1);
        due("still leads", x.leader(), 0);
    }

    // Lines that are alike

    private static void alikeUpTo() {
        sentence(24, "Returns the number of the last such line");
        LogRaft x = crewOf(2);
        x.ask(0);
        shoutAll(x, 0, "abcdefghijkl");
        x.send(0);
        due("twelve", x.alike(0, 1), 12);
        due("one and the same", x.alike(1, 1), 12);
        x.undo();
        due("lines that were taken back", x.alike(0, 1), 0);
        x.undo();
        x.send(0);
        x.shout(0, 'z');
        due("all of the shorter one", x.alike(0, 1), 11);
        due("the other way", x.alike(1, 0), 11);
    }

    private static void alikeNone() {
        sentence(24, "0 if there is none");
        LogRaft x = crewOf(3);
        due("empty ones", x.alike(0, 1), 0);
        x.ask(0);
        shoutAll(x, 0, "ab");
        due("one of them", x.alike(0, 1), 0);
        x.cut(0, 1);
        x.ask(1);
        shoutAll(x, 1, "ab");
        due("of other terms", x.alike(0, 1), 0);
    }

    private static void alikeOfNobody() {
        sentence(24, "NONE if there is no such driver.");
        dueOfStrangers("alike", (x, i, j) -> x.alike(i, j), NONE);
    }

    private static void holdersWashedAway() {
        sentence(25, "Returns how many drivers, washed away or not, have a tale that is alike with that of a driver up to a line,"
            + " the driver included.");
        LogRaft x = sailing();
        x.wash(1);
        x.wash(2);
        due("two of them washed away", x.holders(0, 2), 3);
        due("asked of one of these", x.holders(2, 2), 3);
        x.shout(0, 'c');
        due("the driver alone", x.holders(0, 3), 1);
    }

    private static void holdersOfALine() {
        sentence(25, "`line`: the number of the line, from 1");
        LogRaft x = crewOf(5);
        x.ask(0);
        x.shout(0, 'a');
        x.send(0);
        shoutAll(x, 0, "bcdefghijkl");
        x.wash(4);
        x.wash(3);
        x.send(0);
        due("no line 0", x.holders(0, 0), NONE);
        due("the first", x.holders(0, 1), 5);
        due("the second", x.holders(0, 2), 3);
        due("the last", x.holders(0, 12), 3);
        due("none behind", x.holders(0, 13), NONE);
        due("a line that the driver has not", x.holders(4, 2), NONE);
        sentence(25, "Returns how many");
        x.back(4);
        x.send(0);
        due("one more", x.holders(1, 12), 4);
    }

    private static void holdersOfNobody() {
        sentence(25, "NONE if there is no such driver or line.");
        dueOfStrangers("holders", (x, i) -> x.holders(i, 1), NONE);
        LogRaft x = sailing();
        for (int line : new int[] {LOW, -256, -1, 0, 3, 12, 13, 256 + 1, 65536 + 1, HIGH}) {
            due("holders of line " + line, x.holders(1, line), NONE);
        }
    }

    private static void dueAgreed(String call, LogRaft x, int line) {
        due("agreed " + call, x.agreed(), line);
        due("agreedAgain " + call, x.agreedAgain(), line);
    }

    private static void agreedByAny() {
        sentence(26, "Returns the greatest line up to which any driver knows its tale agreed.");
        for (int knowing = 0; knowing < 5; knowing++) {
            LogRaft x = crewOf(5);
            x.ask(knowing);
            shoutAll(x, knowing, "abcdefghijkl");
            x.send(knowing);
            due("one alone knows", x.agreed(), 12);
            x.wash(knowing);
            due("and is washed away", x.agreed(), 12);
        }
    }

    private static void agreedByNone() {
        sentence(26, "0 if there is none.");
        due("without drivers", new LogRaft().agreed(), 0);
        LogRaft x = crewOf(2);
        due("without lines", x.agreed(), 0);
        x.ask(0);
        x.shout(0, 'a');
        x.cut(0, 1);
        x.send(0);
        due("with a line of half of them", x.agreed(), 0);
    }

    private static void agreedAgain() {
        sentence(27, "Returns the same by a second way: of the drivers one by one, whether each knows less or more than those before.");
        for (int knowing = 0; knowing < 5; knowing++) {
            LogRaft x = crewOf(5);
            dueAgreed("without lines", x, 0);
            x.ask(knowing);
            x.shout(knowing, 'a');
            dueAgreed("at first", x, 0);
            x.send(knowing);
            x.send(knowing);
            dueAgreed("by all", x, 1);
            x.shout(knowing, 'b');
            x.send(knowing);
            dueAgreed("more by driver " + knowing, x, 2);
            x.wash(knowing);
            dueAgreed("by one who is washed away", x, 2);
        }
        sentence(27, "Returns the number of the line.");
        due("without drivers", new LogRaft().agreedAgain(), 0);
    }

    private static void conflictsOfPairs() {
        sentence(28, "Returns how many pairs of drivers have tales of which neither is the beginning of the other, or the same.");
        due("without drivers", new LogRaft().conflicts(), 0);
        due("one driver", crewOf(1).conflicts(), 0);
        LogRaft x = crewOf(5);
        due("empty tales", x.conflicts(), 0);
        x.ask(0);
        x.shout(0, 'a');
        due("an empty tale is a beginning", x.conflicts(), 0);
        x.cut(0, 1);
        x.ask(1);
        x.shout(1, 'a');
        due("one pair", x.conflicts(), 1);
        cutFrom(x, 2, 0, 1);
        x.ask(2);
        x.shout(2, 'a');
        due("three pairs", x.conflicts(), 3);
        sentence(28, "Returns how many.");
        x.send(2);
        due("two more have the tale of the third", x.conflicts(), 7);
    }

    private static void safeUpToTheLesser() {
        sentence(29, "Returns whether all tales are alike as far as two drivers know them agreed, each up to the lesser of both.");
        LogRaft x = sailing();
        x.shout(0, 'c');
        x.cut(0, 1);
        x.cut(0, 2);
        x.ask(1);
        shoutAll(x, 1, "de");
        x.send(1);
        due("one knows two, and one four", x.driverOf(0, 6) * 10 + x.driverOf(1, 6), 24);
        due("they differ in line 3", x.alike(0, 1), 2);
        due("up to the lesser they do not", x.isSafe(), 1);
        sentence(29, "Returns 1 if it is so, 0 otherwise.");
        due("without drivers", new LogRaft().isSafe(), 1);
        due("one driver", crewOf(1).isSafe(), 1);
        due("empty tales", crewOf(5).isSafe(), 1);
        due("the same tales", sailing().isSafe(), 1);
    }

    // Ranks and beats to come

    private static String ranks(LogRaft x) {
        StringBuilder ranks = new StringBuilder();
        for (int i = 0; x.ranked(i) != NONE; i++) {
            ranks.append(x.ranked(i));
        }
        return ranks.toString();
    }

    private static String oldestOnes(LogRaft x) {
        StringBuilder places = new StringBuilder();
        for (int i = 0; x.oldest(i) != NONE; i++) {
            places.append(x.oldest(i));
        }
        return places.toString();
    }

    private static void rankedLongest() {
        sentence(30, "the longest first, of several the one with the greater term, then the lowest one.");
        LogRaft x = crewOf(5);
        due("all are the same", ranks(x), "01234");
        x.cut(4, 3);
        x.wash(3);
        cutFrom(x, 4, 0, 1, 2);
        x.ask(4);
        due("a greater term", ranks(x), "40123");
        x.ask(2);
        due("of several the lowest", ranks(x), "01243");
        x.shout(2, 'a');
        due("a longer tale ahead of all", ranks(x), "20143");
        x.ask(4);
        due("a greater term behind it", ranks(x), "24013");
    }

    private static void rankedPlace() {
        sentence(30, "`place`: the place, from 0");
        LogRaft x = crewOf(5);
        due("the first", x.ranked(0), 0);
        due("the last", x.ranked(4), 4);
        x.wash(0);
        due("washed away or not", x.ranked(0), 0);
        sentence(30, "Returns the driver; NONE if there is no such place.");
        dueOfStrangers("ranked", (y, i) -> y.ranked(i), NONE);
    }

    private static void oldestAboard() {
        sentence(31, "Returns a driver by how long it will wait yet, the least first, of those aboard who do not lead;"
            + " of several the lowest one.");
        LogRaft x = crew(9, 3, 9, 1, 3);
        due("by patience", oldestOnes(x), "31402");
        x.wash(3);
        due("not one who is washed away", oldestOnes(x), "1402");
        x.beats(2);
        x.back(3);
        due("one beat left for three of them", oldestOnes(x), "13402");
        x.ask(0);
        due("not one who leads", oldestOnes(x), "3142");
        x.cut(4, 0);
        x.cut(4, 1);
        x.wash(2);
        x.ask(4);
        due("one who asks", oldestOnes(x), "314");
    }

    private static void oldestPlace() {
        sentence(31, "`place`: the place, from 0");
        LogRaft x = crew(9, 8, 7, 6, 5);
        due("the first", x.oldest(0), 4);
        due("the last", x.oldest(4), 0);
        x.wash(4);
        due("four are left", x.oldest(3), 0);
        due("no fifth", x.oldest(4), NONE);
        sentence(31, "Returns the driver; NONE if there is no such place.");
        dueOfStrangers("oldest", (y, i) -> y.oldest(i), NONE);
        LogRaft z = crewOf(1);
        z.ask(0);
        due("all lead", z.oldest(0), NONE);
    }

    private static void quietFromOneToNine() {
        sentence(32, "Returns how many, from 1 to 9");
        for (int patience = 1; patience <= 9; patience++) {
            due("patience " + patience, crew(patience, 9).quietBeats(), patience);
        }
        LogRaft x = crew(9, 9);
        x.beats(8);
        due("the next beat", x.quietBeats(), 1);
        x.beats(1);
        x.cut(0, 1);
        due("one beat was waited by the other one", x.quietBeats(), 8);
        sentence(32, "if only beats go by and leaders send.");
        x.tie(0, 1);
        due("it is sent to", x.quietBeats(), NOTHING);
        due("nothing was done", x.account(0) * 10 + x.account(9), 90);
        due("nobody waited", x.driverOf(1, 3), 1);
    }

    private static void quietForever() {
        sentence(32, "NOTHING if nobody would within 9.");
        due("without drivers", new LogRaft().quietBeats(), NOTHING);
        LogRaft x = crew(1, 9);
        x.wash(0);
        due("the last of nine", x.quietBeats(), 9);
        x.wash(1);
        due("nobody is aboard", x.quietBeats(), NOTHING);
        LogRaft y = crew(1);
        y.ask(0);
        due("all lead", y.quietBeats(), NOTHING);
    }

    // Written lines

    private static void toldLine() {
        sentence(33, "\"f\", \"c\" or \"l\" for what it does, 0 to 2");
        LogRaft x = crewOf(3);
        due("follows", told(x, 2), "f0:|");
        cutFrom(x, 2, 0, 1);
        x.ask(2);
        due("asks", told(x, 2), "c1:|");
        x.tie(1, 2);
        x.ask(2);
        due("leads", told(x, 2), "l2:|");
        sentence(33, "as in \"l3:a1b1|c3\".");
        LogRaft y = sailing();
        y.ask(1);
        y.ask(0);
        y.shout(0, 'c');
        due("as there", told(y, 0), "l3:a1b1|c3");
    }

    private static void toldAhead() {
        sentence(33, "with \"|\" behind the line up to which it knows it agreed, or ahead of all if that is 0");
        LogRaft x = crewOf(1);
        due("no lines", told(x, 0), "f0:|");
        x.ask(0);
        shoutAll(x, 0, "abcdefghijk");
        due("none of eleven", told(x, 0), "l1:|a1b1c1d1e1f1g1h1i1j1k1");
        x.send(0);
        due("eleven", told(x, 0), "l1:a1b1c1d1e1f1g1h1i1j1k1|");
        x.shout(0, 'l');
        due("eleven of twelve", told(x, 0), "l1:a1b1c1d1e1f1g1h1i1j1k1|l1");
        x.send(0);
        due("twelve", told(x, 0), "l1:a1b1c1d1e1f1g1h1i1j1k1l1|");
    }

    private static void toldInPlace() {
        sentence(33, "Writes a line about a driver, in place of the one before");
        LogRaft x = sailing();
        told(x, 0);
        x.undo();
        x.undo();
        due("a line that is as long", told(x, 0), "l1:|a1b1");
        x.clear();
        x.driver(1);
        due("a shorter one", told(x, 0), "f0:|");
        sentence(33, "Returns the length of the line");
        due("again", x.tell(0), 4);
    }

    private static void toldNobody() {
        sentence(33, "NONE if there is no such driver.");
        dueOfStrangers("tell", (x, i) -> x.tell(i), NONE);
        LogRaft x = crewOf(2);
        x.tell(1);
        x.tell(2);
        due("the line stays", writtenOf(x), "f0:|");
    }

    private static void votesInOrder() {
        sentence(34, "their numbers, the lowest first, with \",\" between two");
        LogRaft x = crewOf(5);
        x.ask(4);
        due("five", toldVotes(x, 4), "0,1,2,3,4");
        x.cut(0, 1);
        x.cut(0, 3);
        x.ask(0);
        due("three", toldVotes(x, 0), "0,2,4");
        due("none are left", toldVotes(x, 4), "-");
        x.tie(0, 1);
        x.tie(0, 3);
        x.ask(2);
        due("five again", toldVotes(x, 2), "0,1,2,3,4");
        sentence(34, "Writes who voted for a driver in the term of this driver, in place of the line before");
        due("voted in an earlier term", toldVotes(x, 4), "-");
        sentence(34, "Returns the length of the line");
        due("five numbers", x.tellVotes(2), 9);
        due("none", x.tellVotes(4), 1);
    }

    private static void votesOfNobody() {
        sentence(34, "or \"-\" if nobody did.");
        LogRaft x = crewOf(2);
        due("no term yet", toldVotes(x, 0), "-");
        x.ask(0);
        due("voted for another one", toldVotes(x, 1), "-");
        due("voted for itself", toldVotes(x, 0), "0,1");
        x.ask(1);
        due("leads no more", toldVotes(x, 0), "-");
    }

    private static void votesToldOfNobody() {
        sentence(34, "NONE if there is no such driver.");
        dueOfStrangers("tellVotes", (x, i) -> x.tellVotes(i), NONE);
        LogRaft x = crewOf(2);
        x.ask(1);
        x.tellVotes(1);
        x.tellVotes(2);
        due("the line stays", writtenOf(x), "0,1");
    }

    private static void writtenAtFirst() {
        sentence(35, "Returns the code of a character of the written line, which is empty at first.");
        LogRaft x = crewOf(1);
        due("at first", x.written(0), NONE);
        x.tell(5);
        due("after a telling of nobody", x.written(0), NONE);
        x.tellVotes(0);
        due("a line", x.written(0), '-');
        due("its end", x.written(1), NONE);
    }

    private static void writtenIndex() {
        sentence(35, "`index`: its index, from 0");
        LogRaft x = sailing();
        x.tell(0);
        due("below", x.written(-1), NONE);
        due("the first", x.written(0), 'l');
        due("the last", x.written(7), '|');
        due("behind it", x.written(8), NONE);
        sentence(35, "Returns the code");
        due("a digit", x.written(1), 49);
    }

    private static void writtenNone() {
        sentence(35, "NONE if there is none.");
        LogRaft x = sailing();
        x.tell(0);
        for (int index : new int[] {LOW, LOW + 1, -256, -1, 8, 9, 256, 65536, HIGH}) {
            due("index " + index, x.written(index), NONE);
        }
        x.tellVotes(1);
        due("what was there before", x.written(1), NONE);
    }

    // Means, shares, accounts

    private static void dueMean(String call, LogRaft x, float mean) {
        due("mean " + call, Float.floatToIntBits(x.meanTale()), Float.floatToIntBits(mean));
    }

    private static void dueShare(String call, LogRaft x, double share) {
        due("share " + call, Double.doubleToLongBits(x.agreedShare()), Double.doubleToLongBits(share));
    }

    private static void meanOfLines() {
        sentence(36, "the sum divided by the number of drivers, both converted to float.");
        LogRaft x = crewOf(3);
        x.ask(0);
        x.shout(0, 'a');
        dueMean("of one line", x, 1.0f / 3.0f);
        shoutAll(x, 0, "bcdefghijkl");
        dueMean("of twelve", x, 4.0f);
        x.wash(2);
        x.send(0);
        dueMean("of twice twelve", x, 8.0f);
        x.back(2);
        x.send(0);
        dueMean("of all", x, 12.0f);
        sentence(36, "Returns the mean");
        LogRaft y = crewOf(5);
        y.ask(0);
        shoutAll(y, 0, "abc");
        dueMean("of three", y, 3.0f / 5.0f);
    }

    private static void meanWithoutDrivers() {
        sentence(36, "0.0f without drivers.");
        LogRaft x = new LogRaft();
        dueMean("of nobody", x, 0.0f);
        x.driver(9);
        dueMean("of one without lines", x, 0.0f);
        x.ask(0);
        x.shout(0, 'a');
        dueMean("of one line", x, 1.0f);
        x.clear();
        dueMean("of nobody again", x, 0.0f);
    }

    private static void shareOfLines() {
        sentence(37, "Returns the share of all lines of all tales that their drivers know agreed, both numbers converted to double.");
        LogRaft x = crewOf(3);
        x.ask(0);
        shoutAll(x, 0, "abc");
        dueShare("of none", x, 0.0);
        x.send(0);
        dueShare("of those of the leader", x, 1.0 / 3.0);
        x.wash(2);
        x.send(0);
        dueShare("of those of two", x, 2.0 / 3.0);
        x.back(2);
        x.send(0);
        dueShare("of all", x, 1.0);
        x.shout(0, 'd');
        dueShare("of all but one", x, 9.0 / 10.0);
        sentence(37, "Returns the share");
        x.send(0);
        dueShare("of all but two", x, 10.0 / 12.0);
        x.clear();
        x.driver(9);
        x.ask(0);
        x.shout(0, 'a');
        dueShare("of one line alone", x, 0.0);
        x.send(0);
        dueShare("that is agreed", x, 1.0);
    }

    private static void shareWithoutLines() {
        sentence(37, "0.0 without lines.");
        LogRaft x = new LogRaft();
        dueShare("of nobody", x, 0.0);
        x.driver(9);
        dueShare("without lines", x, 0.0);
        x.ask(0);
        x.send(0);
        dueShare("without lines that were sent", x, 0.0);
    }

    private static void accountsInOrder() {
        sentence(38, "0 the beat; 1 the drivers; 2 those aboard; 3 the ropes that are cut");
        LogRaft x = crewOf(5);
        x.beats(8);
        x.wash(3);
        x.wash(4);
        x.cut(0, 3);
        due("accounts", accounts(x), "[8, 5, 3, 1, 0, 0, 0, 0, 0, 0, 0, 0, 8]");
        sentence(38, "5 how often drivers asked so far; 6 how often drivers came to lead so far; 7 the lines shouted so far;"
            + " 8 the lines cut off so far; 9 how often a leader sent so far; 10 the votes given so far, own ones included");
        x.ask(0);
        shoutAll(x, 0, "abc");
        x.wash(0);
        x.ask(1);
        x.back(3);
        x.ask(1);
        x.shout(1, 'd');
        x.back(0);
        x.send(1);
        x.beats(2);
        due("accounts", accounts(x), "[10, 5, 4, 1, 3, 3, 2, 4, 3, 3, 8, 0, 8]");
        sentence(38, "11 the characters of the input; 12 the changes that can be undone");
        LogRaft y = new LogRaft();
        due("none at first", y.account(11) + y.account(12), 0);
        for (int i = 1; i <= 60; i++) {
            y.append('x');
            due("characters", y.account(11), i);
        }
        for (int i = 1; i <= 9; i++) {
            y.beats(1);
            due("changes", y.account(12), Math.min(i, 8));
        }
    }

    private static void greatestTermWithoutAny() {
        sentence(38, "4 the greatest term of a driver, 0 without any");
        LogRaft x = new LogRaft();
        due("without any", x.account(4), 0);
        x.driver(9);
        x.driver(9);
        due("at first", x.account(4), 0);
        x.cut(0, 1);
        x.ask(1);
        due("of the last one", x.account(4), 1);
        x.ask(0);
        x.ask(0);
        due("of the first one", x.account(4), 2);
        x.wash(0);
        due("of one who is washed away", x.account(4), 2);
        x.clear();
        due("without any again", x.account(4), 0);
    }

    private static void accountOfNothing() {
        sentence(38, "Returns the account; BAD if there is no such what.");
        LogRaft x = crewOf(5);
        for (int what : new int[] {LOW, -256, -1, 13, 14, 256, 65536, HIGH}) {
            due("account " + what, x.account(what), BAD);
        }
        for (int what = 0; what <= 12; what++) {
            due("account " + what + " is bad", x.account(what) == BAD, false);
        }
    }
}
