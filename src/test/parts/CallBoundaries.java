/** The promises of the calls that change something, but for those of texts. */
final class CallBoundaries extends Sentences {
    static void all() {
        newObject();
        clearAll();
        clearKeeps();
        clearEndsUndo();
        clearReturns();
        driverNumber();
        driverPatience();
        driverRefused();
        askVotes();
        askOwnVote();
        askTakesOver();
        askNobody();
        askRefused();
        sendTakingPart();
        sendLeadsNoMore();
        sendNobody();
        sendRefused();
        shoutLine();
        shoutNobody();
        shoutLetter();
        shoutRefused();
        washAboard();
        washNobody();
        washRefused();
        backAboard();
        backNobody();
        backRefused();
        cutRopes();
        cutNobody();
        cutRefused();
        tieRopes();
        tieNobody();
        tieRefused();
        beatsMany();
        beatsAsked();
        beatsOutOfRange();
        undoLatest();
        undoNothing();
        saveInPlace();
        saveBeat();
        restoreStaysSaved();
        restoreEndsUndo();
        restoreBeat();
        restoreNothing();
    }

    private static void newObject() {
        sentence(1, "Creates a raft without drivers, in the beat 0.");
        LogRaft x = new LogRaft();
        due("accounts", accounts(x), "[0, 0, 0, 0, 0, 0, 0, 0, 0, 0, 0, 0, 0]");
        due("no driver", x.driverOf(0, 0), NONE);
        due("no line", writtenOf(x), "");
        due("another object has its own drivers", crewOf(2).account(1) + x.account(1), 2);
    }

    private static void clearAll() {
        sentence(2, "Makes everything as in a new object");
        LogRaft x = sailedFar();
        due("all accounts are others", accounts(x), "[2, 5, 4, 2, 3, 3, 3, 4, 1, 6, 14, 0, 8]");
        x.clear();
        due("accounts", accounts(x), "[0, 0, 0, 0, 0, 0, 0, 0, 0, 0, 0, 0, 0]");
        for (int i = 0; i < 5; i++) {
            due("driver", x.driver(9), i);
            due("numbers", numbers(x, i), "[0, 0, 9, 0, -1, 0, 0, 1, " + i + ", 0, 0]");
        }
        due("ropes", x.driverOf(4, 8), 4);
        due("asks", x.ask(0), 5);
    }

    /** Five drivers of whom each has asked, voted, waited, or knows lines agreed; one line was cut off. */
    private static LogRaft sailedFar() {
        LogRaft x = crewOf(5);
        x.ask(4);
        shoutAll(x, 4, "ab");
        x.send(4);
        x.send(4);
        x.shout(4, 'c');
        cutFrom(x, 4, 0, 1, 2, 3);
        x.ask(0);
        x.shout(0, 'd');
        x.tie(0, 4);
        x.tie(1, 4);
        x.send(0);
        x.ask(1);
        x.send(1);
        x.wash(2);
        x.beats(2);
        return x;
    }

    private static void clearKeeps() {
        sentence(2, "except the input, the fault position, the reasons, the written line and what was saved.");
        LogRaft x = sailing();
        x.beats(2);
        x.save();
        readText(x, "beat+");
        readText(x, "wash 2;wash 2");
        x.tell(0);
        type(x, "bea");
        x.clear();
        due("the input", x.account(11), 3);
        due("the fault position", x.fault(), 4);
        dueReason("the reason", x, 8, 1);
        due("the reason behind it", x.reason(1, false) * 10 + x.reason(1, true), 22);
        due("the written line", writtenOf(x), "l1:a1b1|");
        due("what was saved", x.restore(), 2);
        due("its drivers", told(x, 2), "f1:a1b1|");
        due("the input again", x.append('t') + x.read(), 5);
    }

    private static void clearEndsUndo() {
        sentence(2, "Nothing can be undone then.");
        LogRaft x = sailing();
        x.clear();
        due("changes", x.account(12), 0);
        due("undo", x.undo(), NOTHING);
        due("drivers", x.account(1), 0);
        x.beats(1);
        due("a change from then on", x.undo(), 0);
        due("none ahead of it", x.undo(), NOTHING);
    }

    private static void clearReturns() {
        sentence(2, "Returns how many drivers there were.");
        for (int many = 0; many <= 5; many++) {
            LogRaft x = crewOf(many);
            x.wash(0);
            due("clear", x.clear(), many);
            due("clear again", x.clear(), 0);
        }
    }

    private static void driverNumber() {
        sentence(4, "Returns the number of the driver");
        LogRaft x = new LogRaft();
        for (int i = 0; i < 5; i++) {
            due("driver", x.driver(1), i);
            x.wash(i);
        }
    }

    private static void driverPatience() {
        sentence(4, "BAD if the patience is out of range");
        LogRaft x = new LogRaft();
        for (int patience : new int[] {LOW, -256, -9, -1, 0, 10, 11, 256 + 3, 65536 + 3, HIGH}) {
            due("patience " + patience, x.driver(patience), BAD);
        }
        due("no driver came", x.account(1), 0);
        due("the least", x.driver(1), 0);
        due("the greatest", x.driver(9), 1);
    }

    private static void driverRefused() {
        sentence(4, "REFUSED for 7 or 1.");
        LogRaft x = crewOf(4);
        due("the fifth", x.driver(9), 4);
        dueRefused("the sixth", x.driver(9), x, 1, 5);
        x = crew(1);
        x.beats(1);
        dueRefused("after an asking in a beat", x.driver(9), x, 7, 1);
        x = crewOf(5);
        x.ask(0);
        x.ask(1);
        dueRefused("both", x.driver(9), x, 7, 2);
    }

    private static void askVotes() {
        sentence(5, "Returns how many votes it has in its term then");
        for (int many = 1; many <= 5; many++) {
            due("all of " + many, crewOf(many).ask(many - 1), many);
        }
        LogRaft x = crewOf(5);
        x.cut(0, 1);
        due("of those who are reached", x.ask(1), 4);
        due("of those without another vote", x.ask(0), 1);
        due("in its next term", x.ask(0), 4);
    }

    private static void askOwnVote() {
        sentence(5, "its own included");
        LogRaft x = crewOf(5);
        cutFrom(x, 3, 0, 1, 2, 4);
        due("nobody is reached", x.ask(3), 1);
        due("again", x.ask(3), 1);
    }

    private static void askTakesOver() {
        sentence(5, "0 if it takes over another term");
        LogRaft x = crewOf(2);
        x.cut(0, 1);
        x.ask(0);
        x.tie(0, 1);
        due("the same term", x.ask(1), 1);
        x.cut(0, 1);
        x.ask(0);
        x.ask(0);
        x.tie(0, 1);
        due("one term less", x.ask(1), 0);
        due("is a change", x.undo() >= 0, true);
        due("taken back", x.driverOf(1, 1), 1);
    }

    private static void askNobody() {
        sentence(5, "NONE if there is no such driver");
        dueOfStrangers("ask", (x, i) -> x.ask(i), NONE);
    }

    private static void askRefused() {
        sentence(5, "REFUSED for 2 or 3.");
        LogRaft x = crewOf(3);
        x.wash(1);
        dueRefused("washed away", x.ask(1), x, 2, 1);
        x.ask(2);
        dueRefused("leads", x.ask(2), x, 3, 1);
        x.wash(2);
        dueRefused("led until it was washed away", x.ask(2), x, 2, 2);
        x.back(2);
        due("came back", x.ask(2), 2);
    }

    private static void sendTakingPart() {
        sentence(6, "Returns how many drivers took part, the leader included");
        for (int many = 1; many <= 5; many++) {
            LogRaft x = crewOf(many);
            x.ask(0);
            due("all of " + many, x.send(0), many);
            for (int i = 1; i < many; i++) {
                x.cut(0, i);
                due("one less", x.send(0), many - i);
            }
        }
    }

    private static void sendLeadsNoMore() {
        sentence(6, "0 if it leads no more");
        LogRaft x = crewOf(3);
        cutFrom(x, 2, 0, 1);
        x.ask(2);
        x.ask(0);
        x.tie(0, 2);
        due("the same term", x.send(0), 3);
        x.cut(0, 2);
        x.ask(2);
        x.tie(0, 2);
        due("a greater term", x.send(0), 0);
        due("is a change", x.undo() >= 0, true);
        due("leads again", x.leader(), 0);
    }

    private static void sendNobody() {
        sentence(6, "NONE if there is no such driver");
        dueOfStrangers("send", (x, i) -> x.send(i), NONE);
    }

    private static void sendRefused() {
        sentence(6, "REFUSED for 2 or 4.");
        LogRaft x = crewOf(3);
        dueRefused("follows", x.send(0), x, 4, 0);
        x.ask(1);
        x.wash(1);
        dueRefused("led until it was washed away", x.send(1), x, 2, 1);
        x.back(1);
        dueRefused("came back", x.send(1), x, 4, 1);
        due("nothing was sent", x.account(9), 0);
    }

    private static void shoutLine() {
        sentence(7, "Returns the number of the line");
        LogRaft x = crewOf(1);
        x.ask(0);
        for (int i = 1; i <= 12; i++) {
            due("shout", x.shout(0, (char) ('z' - i)), i);
            due("its letter", x.lineOf(0, i, true), 'z' - i);
        }
    }

    private static void shoutNobody() {
        sentence(7, "NONE if there is no such driver");
        dueOfStrangers("shout", (x, i) -> x.shout(i, 'a'), NONE);
    }

    private static void shoutLetter() {
        sentence(7, "BAD if it is no such letter");
        LogRaft x = crewOf(1);
        x.ask(0);
        int[] codes = {0, ' ', '0', 'A', 'Z', 'a' - 1, 'z' + 1, 127, 228, 256 + 'a', 256 + 'z', 32768 + 'a', 65535};
        for (int code : codes) {
            due("shout of " + code, x.shout(0, (char) code), BAD);
        }
        due("no line", x.driverOf(0, 5), 0);
        due("a", x.shout(0, 'a'), 1);
        due("z", x.shout(0, 'z'), 2);
    }

    private static void shoutRefused() {
        sentence(7, "REFUSED for 2, 4 or 1.");
        LogRaft x = crewOf(2);
        dueRefused("follows", x.shout(1, 'a'), x, 4, 0);
        x.ask(1);
        shoutAll(x, 1, "abcdefghijk");
        due("the twelfth", x.shout(1, 'l'), 12);
        dueRefused("the thirteenth", x.shout(1, 'm'), x, 1, 12);
        x.wash(1);
        dueRefused("washed away", x.shout(1, 'm'), x, 2, 1);
        due("shouted", x.account(7), 12);
    }

    private static void washAboard() {
        sentence(8, "Returns how many drivers are aboard then");
        LogRaft x = crewOf(5);
        for (int i = 4; i >= 0; i--) {
            due("wash " + i, x.wash(i), i);
        }
        due("aboard", x.account(2), 0);
        due("drivers", x.account(1), 5);
    }

    private static void washNobody() {
        sentence(8, "NONE if there is no such driver");
        dueOfStrangers("wash", (x, i) -> x.wash(i), NONE);
    }

    private static void washRefused() {
        sentence(8, "REFUSED for 2.");
        LogRaft x = crewOf(5);
        x.wash(4);
        dueRefused("again", x.wash(4), x, 2, 4);
        x.back(4);
        due("came back", x.wash(4), 4);
    }

    private static void backAboard() {
        sentence(9, "Returns how many drivers are aboard then");
        LogRaft x = crewOf(5);
        for (int i = 0; i < 5; i++) {
            x.wash(i);
        }
        for (int i = 0; i < 5; i++) {
            due("back " + i, x.back(i), i + 1);
        }
    }

    private static void backNobody() {
        sentence(9, "NONE if there is no such driver");
        dueOfStrangers("back", (x, i) -> x.back(i), NONE);
    }

    private static void backRefused() {
        sentence(9, "REFUSED for 6.");
        LogRaft x = crewOf(5);
        dueRefused("aboard", x.back(3), x, 6, 3);
        x.wash(3);
        due("back", x.back(3), 5);
        dueRefused("again", x.back(3), x, 6, 3);
    }

    private static void cutRopes() {
        sentence(10, "Returns how many ropes are cut then");
        LogRaft x = crewOf(5);
        int cut = 0;
        for (int one = 0; one < 5; one++) {
            for (int other = one + 1; other < 5; other++) {
                cut++;
                due("cut", x.cut(other, one), cut);
            }
        }
        due("ropes", x.account(3), 10);
    }

    private static void cutNobody() {
        sentence(10, "NONE if there is no such driver");
        dueOfStrangers("cut", (x, i, j) -> x.cut(i, j), NONE);
    }

    private static void cutRefused() {
        sentence(10, "REFUSED for 5 or 6.");
        LogRaft x = crewOf(5);
        dueRefused("one and the same", x.cut(4, 4), x, 5, 4);
        x.cut(3, 4);
        dueRefused("again", x.cut(3, 4), x, 6, 4);
        dueRefused("the other way", x.cut(4, 3), x, 6, 4);
        x.tie(3, 4);
        due("tied again", x.cut(4, 3), 1);
    }

    private static void tieRopes() {
        sentence(11, "Returns how many ropes are cut then");
        LogRaft x = crewOf(5);
        for (int i = 0; i < 5; i++) {
            x.cut(i, (i + 1) % 5);
        }
        for (int i = 0; i < 5; i++) {
            due("tie", x.tie((i + 1) % 5, i), 4 - i);
        }
    }

    private static void tieNobody() {
        sentence(11, "NONE if there is no such driver");
        dueOfStrangers("tie", (x, i, j) -> x.tie(i, j), NONE);
    }

    private static void tieRefused() {
        sentence(11, "REFUSED for 5 or 6.");
        LogRaft x = crewOf(5);
        dueRefused("one and the same", x.tie(0, 0), x, 5, 0);
        dueRefused("a whole rope", x.tie(4, 0), x, 6, 4);
        x.cut(4, 0);
        due("a cut one", x.tie(0, 4), 0);
        dueRefused("again", x.tie(0, 4), x, 6, 4);
    }

    private static void beatsMany() {
        sentence(12, "`many`: how many, from 1 to 20");
        LogRaft x = crewOf(1);
        due("none", x.beats(0), BAD);
        due("the least", x.beats(1), 0);
        due("the beat", x.account(0), 1);
        due("the most", x.beats(20), 1);
        due("the beat", x.account(0), 21);
        due("too many", x.beats(21), BAD);
    }

    private static void beatsAsked() {
        sentence(12, "Returns how often drivers asked for votes in them");
        due("without drivers", new LogRaft().beats(20), 0);
        LogRaft x = crew(1, 1, 1, 1, 1);
        due("five in each of twenty", x.beats(20), 100);
        due("and in one", x.beats(1), 5);
        due("in all", x.account(5), 105);
        x = crew(9, 9);
        due("one beat too few", x.beats(8), 0);
        due("the ninth", x.beats(1), 1);
    }

    private static void beatsOutOfRange() {
        sentence(12, "BAD if the number is out of range.");
        LogRaft x = crew(1);
        for (int many : new int[] {LOW, -256, -20, -1, 0, 21, 22, 256 + 1, 65536 + 1, HIGH}) {
            due("beats " + many, x.beats(many), BAD);
        }
        due("no beat went by", x.account(0), 0);
        due("nobody asked", x.account(5), 0);
        due("no change", x.account(12), 1);
    }

    private static void undoLatest() {
        sentence(39, "Undoes the latest change.");
        LogRaft x = crewOf(5);
        x.ask(0);
        x.shout(0, 'a');
        x.beats(20);
        x.undo();
        due("the beats", accounts(x), "[0, 5, 5, 0, 1, 1, 1, 1, 0, 0, 5, 0, 7]");
        x.undo();
        x.undo();
        due("the shout and the asking", accounts(x), "[0, 5, 5, 0, 0, 0, 0, 0, 0, 0, 0, 0, 5]");
        x.undo();
        due("the fifth driver", x.driverOf(4, 0), NONE);
        due("comes again", x.driver(1), 4);
        due("with another patience", x.driverOf(4, 2), 1);
        x = crewOf(3);
        x.ask(0);
        shoutAll(x, 0, "ab");
        cutFrom(x, 0, 1, 2);
        x.ask(1);
        x.shout(1, 'c');
        x.tie(0, 1);
        x.send(1);
        due("two lines were cut off", told(x, 0) + x.account(8), "f2:|c2" + 2);
        x.undo();
        due("they are there again", told(x, 0) + x.account(8), "l1:|a1b1" + 0);
    }

    private static void undoNothing() {
        sentence(39, "NOTHING if there is none.");
        LogRaft x = new LogRaft();
        due("at first", x.undo(), NOTHING);
        x.driver(9);
        due("the only one", x.undo(), 0);
        due("one more", x.undo(), NOTHING);
        x.ask(0);
        x.driver(0);
        due("failed calls", x.undo(), NOTHING);
    }

    private static void saveInPlace() {
        sentence(40, "Saves all that changes can change, in place of what was saved before.");
        LogRaft x = crewOf(3);
        x.save();
        x.ask(0);
        shoutAll(x, 0, "ab");
        x.send(0);
        x.wash(2);
        x.cut(0, 1);
        x.beats(1);
        String saved = accounts(x).replaceAll(" [0-9]+\\]", "") + numbers(x, 0) + numbers(x, 1) + numbers(x, 2);
        x.save();
        due("no change", x.account(12), 8);
        x.back(2);
        x.ask(2);
        x.beats(20);
        x.tie(0, 1);
        x.restore();
        due("the latest", accounts(x).replaceAll(" [0-9]+\\]", "") + numbers(x, 0) + numbers(x, 1) + numbers(x, 2), saved);
        due("a tale", told(x, 1), "f1:|a1b1");
        due("the rope", x.reaches(0, 1), false);
        LogRaft y = sailedFar();
        y.save();
        String before = accounts(y);
        y.clear();
        y.restore();
        due("every account", accounts(y), before.replace(" 8]", " 0]"));
        due("one who led", numbers(y, 0) + told(y, 0), "[0, 3, 9, 0, 1, 3, 3, 1, 3, 1, 1]f3:a1b1d2|");
        due("a leader", numbers(y, 1) + told(y, 1), "[2, 3, 9, 0, 1, 3, 2, 1, 3, 1, 1]l3:a1b1|d2");
        due("one who is washed away", numbers(y, 2) + told(y, 2), "[0, 3, 9, 0, 1, 3, 2, 0, 0, 0, 0]f3:a1b1|d2");
        due("one who waits", numbers(y, 4) + told(y, 4), "[0, 3, 9, 1, 1, 3, 2, 1, 2, 1, 1]f3:a1b1|d2");
    }

    private static void saveBeat() {
        sentence(40, "Returns the beat.");
        LogRaft x = new LogRaft();
        due("at first", x.save(), 0);
        x.beats(20);
        due("later", x.save(), 20);
        x.undo();
        due("after an undo", x.save(), 0);
    }

    private static void restoreStaysSaved() {
        sentence(41, "Restores what was saved, which stays saved.");
        LogRaft x = sailing();
        x.save();
        for (int i = 1; i <= 3; i++) {
            x.shout(0, 'c');
            x.beats(1);
            x.wash(1);
            due("restore", x.restore(), 0);
            due("the tale", told(x, 0), "l1:a1b1|");
            due("another one's", told(x, 1), "f1:a1b1|");
            due("aboard", x.account(2), 3);
        }
        x.clear();
        due("after a clearing", x.restore(), 0);
        due("drivers", x.account(1), 3);
    }

    private static void restoreEndsUndo() {
        sentence(41, "Nothing can be undone then.");
        LogRaft x = sailing();
        x.save();
        x.beats(1);
        x.restore();
        due("changes", x.account(12), 0);
        due("undo", x.undo(), NOTHING);
        x.shout(0, 'c');
        due("a change from then on", x.undo(), 0);
        due("the tale", told(x, 0), "l1:a1b1|");
        due("none ahead of it", x.undo(), NOTHING);
    }

    private static void restoreBeat() {
        sentence(41, "Returns the beat");
        LogRaft x = new LogRaft();
        x.beats(7);
        x.save();
        x.beats(20);
        due("the saved one", x.restore(), 7);
        due("is the beat", x.account(0), 7);
    }

    private static void restoreNothing() {
        sentence(41, "NOTHING if nothing was saved.");
        LogRaft x = sailing();
        due("restore", x.restore(), NOTHING);
        due("all is as it was", told(x, 0), "l1:a1b1|");
        due("and can be undone", x.account(12), 8);
        LogRaft y = new LogRaft();
        y.save();
        y.driver(9);
        due("an empty raft was saved", y.restore(), 0);
        due("nobody is there", y.account(1), 0);
    }
}
