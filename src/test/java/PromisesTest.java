/** For each promise of the document, calls with the answers that are due. */
public final class PromisesTest extends Checks {
    public static void main(String[] arguments) {
        constants();
        newObject();
        clear();
        append();
        driver();
        ask();
        askTakesOver();
        send();
        sendTales();
        sendToOneWhoAsked();
        sendTakesOver();
        shout();
        wash();
        back();
        cut();
        tie();
        beats();
        read();
        readWords();
        fault();
        reason();
        driverOf();
        lineOf();
        leader();
        reaches();
        longer();
        wouldVote();
        couldLead();
        alike();
        holders();
        agreed();
        conflicts();
        isSafe();
        ranked();
        oldest();
        quietBeats();
        tell();
        tellVotes();
        written();
        meanTale();
        agreedShare();
        account();
        fullCrew();
        undo();
        save();
        restore();
        endWith("all promises are kept");
    }

    private static void constants() {
        due("NONE", LogRaft.NONE, -1);
        due("BAD", LogRaft.BAD, -2);
        due("REFUSED", LogRaft.REFUSED, -3);
        due("NOTHING", LogRaft.NOTHING, -4);
    }

    private static void newObject() {
        where = "promise 1";
        LogRaft x = new LogRaft();
        due("accounts", accounts(x), "[0, 0, 0, 0, 0, 0, 0, 0, 0, 0, 0, 0, 0]");
        due("leader", x.leader(), NOTHING);
        due("fault", x.fault(), NOTHING);
        due("reason", x.reason(0, false), NOTHING);
        due("written", x.written(0), NONE);
        due("undo", x.undo(), NOTHING);
        due("restore", x.restore(), NOTHING);
        due("beats", x.beats(20), 0);
        due("beat", x.account(0), 20);
    }

    private static void clear() {
        where = "promise 2";
        LogRaft x = new LogRaft();
        due("clear of nothing", x.clear(), 0);
        x = sailing();
        x.shout(0, 'c');
        x.cut(0, 1);
        x.ask(1);
        x.shout(1, 'd');
        x.tie(0, 1);
        x.send(1);
        x.shout(1, 'e');
        x.beats(2);
        due("lines were cut off", x.account(8), 1);
        due("clear after cut lines", x.clear(), 3);
        due("accounts", accounts(x), "[0, 0, 0, 0, 0, 0, 0, 0, 0, 0, 0, 0, 0]");
        x = sailing();
        x.cut(1, 2);
        x.beats(2);
        due("has waited", x.driverOf(1, 3), 1);
        x.save();
        readText(x, "xx");
        x.ask(0);
        x.tell(0);
        type(x, "beat");
        due("clear", x.clear(), 3);
        due("accounts", accounts(x), "[0, 0, 0, 0, 0, 0, 0, 0, 0, 0, 0, 4, 0]");
        due("undo", x.undo(), NOTHING);
        due("fault stays", x.fault(), 0);
        dueReason("clear keeps", x, 3, 1);
        due("written stays", writtenOf(x), "l1:a1b1|");
        due("no driver", x.driverOf(0, 0), NONE);
        due("driver", x.driver(4), 0);
        due("driver", x.driver(4), 1);
        due("driver", x.driver(4), 2);
        due("the new driver's tale", told(x, 0), "f0:|");
        due("the new driver's vote", x.driverOf(0, 4), NONE);
        due("the new driver's waiting", x.driverOf(1, 3), 0);
        due("the new driver's asking", x.driverOf(0, 9), 0);
        due("the new driver's leading", x.driverOf(0, 10), 0);
        due("ropes are whole", x.reaches(1, 2), true);
        due("input stays", x.read(), 1);
        due("saved stays", x.restore(), 2);
        due("drivers", x.account(1), 3);
        due("leader", x.leader(), 0);
        due("ropes", x.account(3), 1);
    }

    private static void append() {
        where = "promise 3";
        LogRaft x = new LogRaft();
        due("too low", x.append((char) 31), BAD);
        due("too high", x.append((char) 127), BAD);
        due("far too high", x.append((char) 65535), BAD);
        due("zero", x.append((char) 0), BAD);
        due("lowest", x.append((char) 32), 1);
        due("highest", x.append((char) 126), 2);
        for (int i = 3; i <= 60; i++) {
            due("append", x.append('b'), i);
        }
        due("too many", x.append('b'), BAD);
        due("length", x.account(11), 60);
        due("read", x.read(), BAD);
        due("append anew", x.append('b'), 1);
    }

    private static void driver() {
        where = "promise 4";
        LogRaft x = new LogRaft();
        due("patience 0", x.driver(0), BAD);
        due("patience 10", x.driver(10), BAD);
        due("patience low", x.driver(LOW), BAD);
        due("patience high", x.driver(HIGH), BAD);
        due("patience 1", x.driver(1), 0);
        due("patience 9", x.driver(9), 1);
        due("third", x.driver(5), 2);
        due("fourth", x.driver(5), 3);
        due("fifth", x.driver(5), 4);
        due("sixth", x.driver(5), REFUSED);
        dueReason("sixth", x, 1, 5);
        x.ask(0);
        x.ask(1);
        due("asked and full", x.driver(5), REFUSED);
        dueReason("asked and full", x, 7, 2);
        due("bad ahead of refused", x.driver(0), BAD);
        x = crew(1);
        x.wash(0);
        due("beside a washed one", x.driver(2), 1);
        x.cut(0, 1);
        x.beats(1);
        due("after beats without asking", x.driver(3), 2);
        due("waits", x.driverOf(2, 3), 0);
        due("ropes", x.account(3), 1);
        due("reaches", x.reaches(1, 2), true);
    }

    private static void ask() {
        where = "promise 5";
        LogRaft x = new LogRaft();
        due("nobody", x.ask(0), NONE);
        x = crew(5);
        due("alone", x.ask(0), 1);
        due("alone leads", x.driverOf(0, 0), 2);
        due("leads already", x.ask(0), REFUSED);
        dueReason("leads already", x, 3, 1);
        x = crew(5, 5, 5, 5);
        due("below", x.ask(-1), NONE);
        due("above", x.ask(4), NONE);
        due("low", x.ask(LOW), NONE);
        due("high", x.ask(HIGH), NONE);
        x.wash(3);
        due("washed", x.ask(3), REFUSED);
        dueReason("washed", x, 2, 3);
        x.beats(3);
        x.cut(0, 1);
        due("half is no majority", x.ask(0), 2);
        due("asks", x.driverOf(0, 0), 1);
        due("has waited", x.driverOf(0, 3), 0);
        due("term", x.driverOf(0, 1), 1);
        due("own vote", x.driverOf(0, 4), 0);
        due("voter waits anew", x.driverOf(2, 3), 0);
        due("voter's term", x.driverOf(2, 1), 1);
        due("voter's vote", x.driverOf(2, 4), 0);
        due("not asked", x.driverOf(1, 1), 0);
        due("not asked waits on", x.driverOf(1, 3), 3);
        due("same term, no votes", x.ask(1), 1);
        due("the vote stays", x.driverOf(2, 4), 0);
        due("asks again", x.ask(0), 2);
        due("term", x.driverOf(0, 1), 2);
        x.tie(0, 1);
        due("majority", x.ask(0), 3);
        due("leads", x.driverOf(0, 0), 2);
        due("one who asked follows", x.driverOf(1, 0), 0);
        due("came to lead", x.account(6), 1);
        due("asked", x.account(5), 4);
        due("votes", x.account(10), 2 + 1 + 2 + 3);
    }

    private static void askTakesOver() {
        where = "promise 5";
        LogRaft x = crew(9, 9, 9);
        x.cut(0, 1);
        x.cut(0, 2);
        x.ask(2);
        x.ask(1);
        due("terms", x.driverOf(1, 1) * 10 + x.driverOf(2, 1), 22);
        due("leads", x.leader(), 1);
        x.beats(1);
        x.tie(0, 1);
        x.tie(0, 2);
        due("a greater term", x.ask(0), 0);
        due("taken over", x.driverOf(0, 1), 2);
        due("follows", x.driverOf(0, 0), 0);
        due("no vote", x.driverOf(0, 4), NONE);
        due("waited", x.driverOf(0, 3), 0);
        due("asked", x.driverOf(0, 9), 1);
        due("the leader stays", x.leader(), 1);
        due("votes", x.account(10), 2 + 2 + 1);

        x = sailing();
        x.cut(0, 2);
        x.shout(0, 'c');
        x.send(0);
        x.beats(1);
        due("less long a tale", x.ask(2), 1);
        due("the one who was asked takes the term", x.driverOf(1, 1), 2);
        due("but gives no vote", x.driverOf(1, 4), NONE);
        due("and waits on", x.driverOf(1, 3), 1);
        due("not reached", x.driverOf(0, 0), 2);
        due("a longer tale", x.ask(1), 3);
        due("term", x.driverOf(1, 1), 3);
        due("the leader takes over", x.driverOf(0, 0) * 10 + x.driverOf(0, 1), 3);
        due("and votes", x.driverOf(0, 4), 1);
        due("leader", x.leader(), 1);

        x = crew(9, 9, 9, 9, 9);
        x.cut(4, 0);
        x.cut(4, 1);
        x.cut(4, 2);
        x.cut(4, 3);
        x.ask(4);
        x.tie(4, 2);
        x.ask(4);
        due("those ahead are asked, nobody behind", x.ask(0), 0);
        due("ahead", x.driverOf(1, 4), 0);
        due("behind", x.driverOf(3, 1), 0);
        due("term", x.driverOf(0, 1), 2);
        due("the one with a greater term gives none", x.driverOf(2, 4), 4);
    }

    private static void send() {
        where = "promise 6";
        LogRaft x = new LogRaft();
        due("nobody", x.send(0), NONE);
        x = crew(5);
        due("follows", x.send(0), REFUSED);
        dueReason("follows", x, 4, 0);
        due("above", x.send(1), NONE);
        due("below", x.send(-1), NONE);
        x.ask(0);
        x.shout(0, 'q');
        due("alone", x.send(0), 1);
        due("alone agrees", told(x, 0), "l1:q1|");
        x = crew(5, 5, 5);
        x.wash(1);
        due("washed", x.send(1), REFUSED);
        dueReason("washed", x, 2, 1);
        x.ask(0);
        x.beats(2);
        due("waited", x.driverOf(2, 3), 1);
        due("sends to one", x.send(0), 2);
        due("waits anew", x.driverOf(2, 3), 0);
        due("sent", x.account(9), 3);
        x.shout(0, 'a');
        x.cut(0, 2);
        due("to none", x.send(0), 1);
        due("no majority", told(x, 0), "l1:|a1");
        x.back(1);
        due("to one who came back", x.send(0), 2);
        due("the leader knows", told(x, 0), "l1:a1|");
        due("the other does not yet", told(x, 1), "f1:|a1");
        due("again", x.send(0), 2);
        due("the other knows now", told(x, 1), "f1:a1|");
        due("not reached", told(x, 2), "f1:|");
        x.ask(2);
        due("asked", x.send(2), REFUSED);
        dueReason("asked", x, 4, 2);
    }

    private static void sendTales() {
        where = "promise 6";
        LogRaft x = sailing();
        x.cut(0, 1);
        x.cut(0, 2);
        x.shout(0, 'c');
        x.shout(0, 'd');
        x.ask(1);
        x.shout(1, 'c');
        x.tie(0, 1);
        due("writes anew", x.send(1), 3);
        due("the tail", told(x, 0), "f2:a1b1|c2");
        due("cut off", x.account(8), 2);
        due("vote of the term before", x.driverOf(0, 4), NONE);
        due("agreed", told(x, 1), "l2:a1b1c2|");

        x = crew(9, 9, 9);
        x.ask(0);
        x.shout(0, 'a');
        x.cut(0, 2);
        x.cut(0, 1);
        x.wash(1);
        x.ask(2);
        x.back(1);
        x.ask(2);
        x.tie(0, 2);
        due("an empty tale cuts nothing", x.send(2), 3);
        due("it stays", told(x, 0), "f3:|a1");
        due("nothing cut", x.account(8), 0);
        due("agreed nothing", x.agreed(), 0);
        x.shout(2, 'z');
        due("then it is cut", x.send(2), 3);
        due("anew", told(x, 0), "f3:|z3");
        due("cut", x.account(8), 1);

        x = crew(9, 9, 9);
        x.ask(0);
        x.shout(0, 'a');
        x.cut(0, 2);
        x.cut(1, 2);
        x.wash(0);
        x.ask(1);
        x.back(0);
        x.cut(0, 1);
        x.tie(1, 2);
        due("nobody with a longer tale", x.ask(1), 2);
        due("leads", x.leader(), 1);
        x.wash(1);
        x.tie(0, 2);
        due("longer tale", x.ask(0), 0);
        due("longer tale again", x.ask(0), 2);
        due("leads", x.leader(), 0);
        due("an earlier line is not agreed", x.send(0), 2);
        due("an earlier line", told(x, 0), "l4:|a1");
        due("the other has it", told(x, 2), "f4:|a1");
        x.shout(0, 'b');
        due("a line of its own", x.send(0), 2);
        due("agreed with it", told(x, 0), "l4:a1b4|");
        due("not yet", told(x, 2), "f4:|a1b4");
    }

    private static void sendToOneWhoAsked() {
        where = "promise 6";
        LogRaft x = crew(5, 5, 5, 5);
        x.cut(0, 1);
        x.cut(1, 2);
        x.cut(1, 3);
        x.ask(1);
        x.beats(2);
        x.ask(0);
        due("asks in the same term", x.driverOf(1, 0) * 10 + x.driverOf(1, 1), 11);
        due("leads in the same term", x.driverOf(0, 0) * 10 + x.driverOf(0, 1), 21);
        x.tie(0, 1);
        due("sends to it", x.send(0), 4);
        due("it follows", x.driverOf(1, 0), 0);
        due("waits anew", x.driverOf(1, 3), 0);
        due("keeps its vote in the same term", x.driverOf(1, 4), 1);
    }

    private static void sendTakesOver() {
        where = "promise 6";
        LogRaft x = sailing();
        x.cut(0, 2);
        x.cut(1, 2);
        x.ask(2);
        x.ask(2);
        x.shout(0, 'c');
        x.tie(0, 2);
        due("a greater term", x.send(0), 0);
        due("follows", x.driverOf(0, 0) * 10 + x.driverOf(0, 1), 3);
        due("no vote", x.driverOf(0, 4), NONE);
        due("those ahead keep what they got", told(x, 1), "f1:a1b1|c1");
        due("agrees nothing", told(x, 0), "f3:a1b1|c1");
        due("is counted", x.account(9), 3);
        due("no leader", x.leader(), NOTHING);
    }

    private static void shout() {
        where = "promise 7";
        LogRaft x = crew(5, 5);
        due("nobody", x.shout(2, 'a'), NONE);
        due("below", x.shout(-1, 'a'), NONE);
        due("nobody and bad", x.shout(2, 'A'), NONE);
        due("below a", x.shout(0, (char) 96), BAD);
        due("above z", x.shout(0, (char) 123), BAD);
        due("far above", x.shout(0, (char) (65536 - 1)), BAD);
        due("follows", x.shout(0, 'a'), REFUSED);
        dueReason("follows", x, 4, 0);
        x.wash(1);
        due("washed", x.shout(1, 'a'), REFUSED);
        dueReason("washed", x, 2, 1);
        due("washed and bad", x.shout(1, '1'), BAD);
        x.back(1);
        x.ask(0);
        due("a", x.shout(0, 'a'), 1);
        due("z", x.shout(0, 'z'), 2);
        due("the tale", told(x, 0), "l1:|a1z1");
        due("of the leader alone", told(x, 1), "f1:|");
        for (int i = 3; i <= 12; i++) {
            due("shout", x.shout(0, 'm'), i);
        }
        due("too many", x.shout(0, 'm'), REFUSED);
        dueReason("too many", x, 1, 12);
        due("shouted", x.account(7), 12);
        due("lines", x.driverOf(0, 5), 12);
    }

    private static void wash() {
        where = "promise 8";
        LogRaft x = crew(5, 5, 5);
        due("nobody", x.wash(3), NONE);
        due("below", x.wash(-1), NONE);
        x.beats(2);
        due("wash", x.wash(1), 2);
        due("again", x.wash(1), REFUSED);
        dueReason("again", x, 2, 1);
        due("aboard", x.driverOf(1, 7), 0);
        x.beats(2);
        due("keeps what it waited", x.driverOf(1, 3), 2);
        x.ask(0);
        x.shout(0, 'a');
        due("a leader", x.wash(0), 1);
        due("follows then", x.driverOf(0, 0), 0);
        due("keeps the rest", told(x, 0), "f1:|a1");
        due("keeps its vote", x.driverOf(0, 4), 0);
        x.ask(2);
        due("asks", x.driverOf(2, 0), 1);
        due("the last one", x.wash(2), 0);
        due("follows then", x.driverOf(2, 0), 0);
        due("nobody waits", x.beats(20), 0);
    }

    private static void back() {
        where = "promise 9";
        LogRaft x = crew(5, 5);
        due("nobody", x.back(2), NONE);
        due("below", x.back(-1), NONE);
        due("aboard", x.back(1), REFUSED);
        dueReason("aboard", x, 6, 1);
        x.beats(3);
        x.ask(0);
        x.shout(0, 'a');
        x.wash(0);
        x.beats(2);
        x.wash(1);
        due("the first", x.back(1), 1);
        due("has waited 0", x.driverOf(1, 3), 0);
        due("the second", x.back(0), 2);
        due("follows", told(x, 0), "f1:|a1");
        due("its vote", x.driverOf(0, 4), 0);
        due("again", x.back(0), REFUSED);
        dueReason("again", x, 6, 0);
    }

    private static void cut() {
        where = "promise 10";
        LogRaft x = crew(5, 5, 5);
        due("nobody", x.cut(0, 3), NONE);
        due("nobody", x.cut(3, 0), NONE);
        due("below", x.cut(-1, 0), NONE);
        due("one who is not there", x.cut(7, 7), NONE);
        due("one and the same", x.cut(2, 2), REFUSED);
        dueReason("one and the same", x, 5, 2);
        due("cut", x.cut(2, 0), 1);
        due("either way", x.cut(0, 2), REFUSED);
        dueReason("either way", x, 6, 2);
        due("second", x.cut(0, 1), 2);
        due("again", x.cut(1, 0), REFUSED);
        dueReason("again", x, 6, 1);
        x.wash(1);
        due("to a washed one", x.cut(1, 2), 3);
        due("cut ropes", x.account(3), 3);
    }

    private static void tie() {
        where = "promise 11";
        LogRaft x = crew(5, 5, 5);
        due("nobody", x.tie(0, 3), NONE);
        due("nobody", x.tie(3, 0), NONE);
        due("below", x.tie(0, -1), NONE);
        due("one and the same", x.tie(1, 1), REFUSED);
        dueReason("one and the same", x, 5, 1);
        due("whole", x.tie(2, 1), REFUSED);
        dueReason("whole", x, 6, 2);
        x.cut(0, 1);
        x.cut(1, 2);
        due("tie", x.tie(1, 0), 1);
        due("reach", x.reaches(0, 1), true);
        due("not these", x.reaches(1, 2), false);
        due("last", x.tie(1, 2), 0);
    }

    private static void beats() {
        where = "promise 12";
        LogRaft x = crew(2, 4);
        due("none", x.beats(0), BAD);
        due("below", x.beats(-1), BAD);
        due("too many", x.beats(21), BAD);
        due("low", x.beats(LOW), BAD);
        due("high", x.beats(HIGH), BAD);
        due("the first asks", x.beats(2), 1);
        due("it leads", x.leader(), 0);
        due("who voted waits on in the same beat", x.driverOf(1, 3), 1);
        x.shout(0, 'a');
        due("the leader sends", x.beats(1), 0);
        due("sent", told(x, 1), "f1:|a1");
        due("waited in this beat", x.driverOf(1, 3), 1);
        due("many", x.beats(20), 0);
        due("beat", x.account(0), 23);
        due("sent so often", x.account(9), 21);
        x.wash(1);
        x.wash(0);
        due("nobody", x.beats(20), 0);

        x = crew(1, 1, 9);
        x.cut(0, 1);
        due("two ask in one beat", x.beats(1), 2);
        due("the first got the vote", x.driverOf(2, 4), 0);
        due("it leads", x.leader(), 0);
        due("another term for the second", x.beats(1), 1);
        due("its term", x.driverOf(1, 1), 2);
        due("and the last one's vote", x.driverOf(2, 4), 1);

        x = crew(3, 3);
        x.cut(0, 1);
        due("asks again in a new term", x.beats(7), 4);
        due("term", x.driverOf(0, 1), 2);
        due("goes on waiting", x.driverOf(0, 3), 1);

        x = crew(9, 1);
        x.cut(0, 1);
        x.ask(0);
        x.beats(3);
        x.tie(0, 1);
        x.wash(1);
        x.back(1);
        due("one of patience 1", x.beats(1), 1);
        due("one who led is outvoted", x.leader(), 1);
    }

    private static void read() {
        where = "promise 13";
        LogRaft x = new LogRaft();
        due("empty", x.read(), BAD);
        due("fault of an empty text", x.fault(), 0);
        due("many", readText(x, "driver 2;driver 5;beat 2;shout 0 a;send 0;cut 01;tie 10"), 7);
        due("the input is empty", x.account(11), 0);
        due("all done", told(x, 0), "l1:a1|");
        due("one change", x.account(12), 1);
        due("undone at once", x.undo(), 0);
        due("nobody then", x.account(1), 0);

        x = sailing();
        String before = accounts(x);
        due("refused at the third", readText(x, "beat 9;wash 1;wash 1;ask 2"), REFUSED);
        due("all or none", accounts(x), before);
        due("aboard", x.driverOf(1, 7), 1);
        dueReason("refused at the third", x, 8, 2);
        due("behind it", x.reason(1, false), 2);
        due("behind it", x.reason(1, true), 1);
        due("another code", readText(x, "wash 0;ask 9"), REFUSED);
        dueReason("another code", x, 9, 1);
        due("nothing behind it", x.reason(1, false), NOTHING);
        due("nothing done", accounts(x), before);
        due("bad code", readText(x, "beat 0"), REFUSED);
        dueReason("bad code", x, 9, 0);
        due("bad patience", readText(x, "driver 0"), REFUSED);
        dueReason("bad patience", x, 9, 0);
        due("the first that fails", readText(x, "back 7;back 1"), REFUSED);
        dueReason("the first that fails", x, 9, 0);
        due("a fault ahead of all", readText(x, "back 7;x"), BAD);
        dueReason("a fault keeps reasons", x, 9, 0);
        due("the fault", x.fault(), 7);
        due("the input is empty", x.account(11), 0);
        due("nothing done", accounts(x), before);
        due("twelve", readText(x, "beat;beat;beat;beat;beat;beat;beat;beat;beat;beat;beat;beat"), 12);
        due("beats", x.account(0), 12);
        due("a sixtieth sign", readText(x, "beat;beat;beat;beat;beat;beat;beat;beat;beat;beat;beat;beat;"), BAD);
        due("ends too early", x.fault(), 60);
        due("a takeover is no refusal", readText(crew(9), "ask 0"), 1);
    }

    private static void readWords() {
        where = "promise 13";
        LogRaft x = new LogRaft();
        due("driver", readText(x, "driver 9"), 1);
        due("patience", x.driverOf(0, 2), 9);
        due("drivers", readText(x, "driver 8;driver 1"), 2);
        due("cut", readText(x, "cut 20"), 1);
        due("is cut", x.reaches(0, 2), false);
        due("tie", readText(x, "tie 02"), 1);
        due("is tied", x.reaches(0, 2), true);
        due("ask", readText(x, "ask 1"), 1);
        due("leads", x.leader(), 1);
        due("shout", readText(x, "shout 1 a;shout 1 z"), 2);
        due("shouted", told(x, 1), "l1:|a1z1");
        due("send", readText(x, "send 1"), 1);
        due("sent", told(x, 0), "f1:|a1z1");
        due("wash", readText(x, "wash 1"), 1);
        due("washed", x.driverOf(1, 7), 0);
        due("back", readText(x, "back 1"), 1);
        due("back", x.driverOf(1, 7), 1);
        due("beat", readText(x, "beat"), 1);
        due("a beat", x.account(0), 1);
        due("beats", readText(x, "beat 3"), 1);
        due("four beats", x.account(0), 4);
    }

    private static void dueFault(String text, int position) {
        LogRaft x = new LogRaft();
        due("read of '" + text + "'", readText(x, text), BAD);
        due("fault of '" + text + "'", x.fault(), position);
    }

    private static void fault() {
        where = "promise 14";
        due("none", new LogRaft().fault(), NOTHING);
        dueFault(" ", 0);
        dueFault("x", 0);
        dueFault("Ask 0", 0);
        dueFault("s", 1);
        dueFault("sa", 1);
        dueFault("seed", 2);
        dueFault("sho", 3);
        dueFault("shoot", 3);
        dueFault("b", 1);
        dueFault("bi", 1);
        dueFault("bead", 3);
        dueFault("bad", 2);
        dueFault("driver", 6);
        dueFault("driver ", 7);
        dueFault("driver  1", 7);
        dueFault("driver x", 7);
        dueFault("driver 12", 8);
        dueFault("driver 1 ", 8);
        dueFault("driver 1;", 9);
        dueFault("driver 1; ask 0", 9);
        dueFault("driver 1;;", 9);
        dueFault("ask0", 3);
        dueFault("shout 0a", 7);
        dueFault("shout 0 ", 8);
        dueFault("shout 0 A", 8);
        dueFault("shout 0 `", 8);
        dueFault("shout 0 {", 8);
        dueFault("shout 0 aa", 9);
        dueFault("shout a 0", 6);
        dueFault("cut 0", 5);
        dueFault("cut 0 1", 5);
        dueFault("cut 01 ", 6);
        dueFault("cut /", 4);
        dueFault("tie :", 4);
        dueFault("tie 0a", 5);
        dueFault("beat ", 5);
        dueFault("beat x", 5);
        dueFault("beat1", 4);
        dueFault("beat 1 ", 6);
        dueFault("beat 20", 6);
        dueFault("beat ;", 5);
        dueFault("beat;b", 6);
        dueFault("beat;beat 2;bear", 15);
        dueFault("wash", 4);
        dueFault("back-", 4);
        LogRaft x = new LogRaft();
        readText(x, "bed");
        due("bed", x.fault(), 2);
        due("a good text", readText(x, "beat"), 1);
        due("keeps the fault", x.fault(), 2);
        due("a refused text", readText(x, "ask 0"), REFUSED);
        due("keeps it too", x.fault(), 2);
        x.undo();
        due("and so does undo", x.fault(), 2);
        readText(x, "");
        due("the latest", x.fault(), 0);
    }

    private static void reason() {
        where = "promise 15";
        LogRaft x = crew(5, 5);
        due("depth -1", x.reason(-1, false), BAD);
        due("depth 2", x.reason(2, true), BAD);
        due("depth low", x.reason(LOW, true), BAD);
        due("nothing", x.reason(0, false), NOTHING);
        due("no detail", x.reason(0, true), NOTHING);
        due("nothing behind", x.reason(1, true), NOTHING);
        x.ask(7);
        x.beats(0);
        due("errors of another kind", x.reason(0, false), NOTHING);
        x.cut(1, 1);
        dueReason("one", x, 5, 1);
        due("nothing behind it", x.reason(1, false), NOTHING);
        x.cut(0, 1);
        dueReason("stays", x, 5, 1);
        readText(x, "beat;cut 10");
        dueReason("text", x, 8, 1);
        due("behind", x.reason(1, false), 6);
        due("behind", x.reason(1, true), 1);
        x.undo();
        x.save();
        x.restore();
        dueReason("stays", x, 8, 1);
        x.send(0);
        dueReason("a later one", x, 4, 0);
        due("nothing behind it", x.reason(1, false), NOTHING);
        due("nothing behind it", x.reason(1, true), NOTHING);
    }

    private static void driverOf() {
        where = "promise 16";
        LogRaft x = sailing();
        due("nobody", x.driverOf(3, 0), NONE);
        due("below", x.driverOf(-1, 0), NONE);
        due("nobody and bad", x.driverOf(3, 11), NONE);
        due("bad", x.driverOf(0, 11), BAD);
        due("below", x.driverOf(0, -1), BAD);
        x.cut(1, 2);
        x.beats(1);
        x.shout(0, 'c');
        int[] want = {2, 1, 3, 0, 0, 3, 2, 1, 2, 1, 1};
        for (int i = 0; i < want.length; i++) {
            due("number " + i + " of a leader", x.driverOf(0, i), want[i]);
        }
        int[] wantOther = {0, 1, 7, 1, 0, 2, 2, 1, 1, 0, 0};
        for (int i = 0; i < wantOther.length; i++) {
            due("number " + i + " of another", x.driverOf(2, i), wantOther[i]);
        }
        x.wash(0);
        due("a washed one reaches", x.driverOf(0, 8), 0);
        due("aboard", x.driverOf(0, 7), 0);
        x.ask(1);
        due("asks", x.driverOf(1, 0), 1);
        x.ask(1);
        due("asked twice", x.driverOf(1, 9), 2);
        due("never led", x.driverOf(1, 10), 0);
        due("no vote at first", crew(1).driverOf(0, 4), NONE);
    }

    private static void lineOf() {
        where = "promise 17";
        LogRaft x = sailing();
        due("nobody", x.lineOf(3, 1, true), NONE);
        due("below", x.lineOf(-1, 1, true), NONE);
        due("no line 0", x.lineOf(0, 0, false), NONE);
        due("no line 3", x.lineOf(0, 3, true), NONE);
        due("low", x.lineOf(0, LOW, true), NONE);
        due("high", x.lineOf(0, HIGH, true), NONE);
        due("letter 1", x.lineOf(0, 1, true), 'a');
        due("letter 2", x.lineOf(1, 2, true), 'b');
        due("term 2", x.lineOf(2, 2, false), 1);
        x.ask(1);
        x.shout(1, 'z');
        due("term 3", x.lineOf(1, 3, false), 2);
        due("letter 3", x.lineOf(1, 3, true), 'z');
        due("not of another", x.lineOf(0, 3, true), NONE);
    }

    private static void leader() {
        where = "promise 18";
        LogRaft x = crew(5, 5, 5);
        due("nobody", x.leader(), NOTHING);
        x.ask(2);
        due("one", x.leader(), 2);
        x.cut(2, 0);
        x.cut(2, 1);
        x.ask(0);
        due("the later of two", x.leader(), 0);
        due("two lead", x.driverOf(2, 0) + x.driverOf(0, 0), 4);
        x.wash(0);
        due("the earlier one", x.leader(), 2);
        x.back(0);
        due("a follower", x.leader(), 2);
        x.wash(2);
        due("nobody again", x.leader(), NOTHING);
        x = crew(5, 5, 5);
        x.ask(0);
        x.cut(2, 0);
        x.cut(1, 0);
        x.ask(2);
        due("the later one behind", x.leader(), 2);
    }

    private static void reaches() {
        where = "promise 19";
        LogRaft x = crew(5, 5, 5);
        due("reach", x.reaches(0, 1), true);
        due("the same", x.reaches(1, 1), false);
        due("nobody", x.reaches(0, 3), false);
        due("nobody", x.reaches(3, 0), false);
        due("below", x.reaches(-1, 0), false);
        x.cut(0, 1);
        due("cut", x.reaches(0, 1), false);
        due("cut", x.reaches(1, 0), false);
        due("over another one", x.reaches(0, 2), true);
        x.wash(2);
        due("washed", x.reaches(0, 2), false);
        due("washed", x.reaches(2, 0), false);
    }

    private static void longer() {
        where = "promise 20";
        LogRaft x = sailing();
        due("nobody", x.longer(0, 3), NOTHING);
        due("nobody", x.longer(-1, 0), NOTHING);
        due("the same", x.longer(1, 1), 0);
        due("alike", x.longer(1, 2), 0);
        x.shout(0, 'c');
        x.shout(0, 'd');
        due("more lines", x.longer(0, 1), 1);
        due("less lines", x.longer(1, 0), -1);
        x.cut(0, 1);
        x.cut(0, 2);
        x.ask(1);
        x.shout(1, 'e');
        due("a greater term with less lines", x.longer(1, 0), 1);
        due("a less term with more lines", x.longer(0, 1), -1);
        due("against a short one", x.longer(2, 1), -1);
        LogRaft y = crew(5, 5);
        due("empty ones", y.longer(0, 1), 0);
        y.ask(0);
        y.shout(0, 'a');
        due("an empty one", y.longer(1, 0), -1);
        due("a line", y.longer(0, 1), 1);
    }

    private static void wouldVote() {
        where = "promise 21";
        LogRaft x = crew(5, 5, 5);
        due("nobody", x.wouldVote(0, 3), false);
        due("nobody", x.wouldVote(3, 0), false);
        due("the same nobody", x.wouldVote(3, 3), false);
        due("below", x.wouldVote(-1, -1), false);
        due("the same", x.wouldVote(1, 1), true);
        due("another", x.wouldVote(0, 1), true);
        x.cut(0, 1);
        due("not reached", x.wouldVote(0, 1), true);
        x.wash(0);
        due("washed", x.wouldVote(0, 1), true);
        x.back(0);
        x.ask(1);
        due("it gave its vote to another", x.wouldVote(2, 0), false);
        due("to the same in the next term", x.wouldVote(2, 1), true);
        due("a leader in this term", x.wouldVote(1, 0), false);
        x.shout(1, 'a');
        due("a longer tale", x.wouldVote(1, 2), false);
        due("a leader may be told too", x.wouldVote(2, 1), true);
        x.ask(0);
        due("the next term", x.wouldVote(2, 0), true);
        due("nothing was done", x.driverOf(2, 4), 1);
        x.wash(2);
        x.ask(0);
        x.ask(0);
        due("a greater term", x.wouldVote(0, 2), false);
        due("one who votes in a term for itself", x.wouldVote(0, 0), true);
        LogRaft y = crew(5, 5, 5);
        y.cut(0, 1);
        y.cut(0, 2);
        y.cut(1, 2);
        y.ask(0);
        y.ask(0);
        y.ask(2);
        y.tie(0, 1);
        due("a takeover", y.ask(1), 0);
        due("a takeover leaves no vote", y.driverOf(1, 4), NONE);
        due("free in the same term", y.wouldVote(1, 2), true);
        due("taken in the same term", y.wouldVote(0, 2), false);
    }

    private static void dueLead(String call, LogRaft x, int driver, int want) {
        where = "promise 22";
        due("couldLead " + call, x.couldLead(driver), want);
        where = "promise 23";
        due("couldLeadAgain " + call, x.couldLeadAgain(driver), want);
        due("couldLead after it " + call, x.couldLead(driver), want);
    }

    private static void couldLead() {
        LogRaft x = crew(5, 5, 5, 5);
        dueLead("nobody", x, 4, NONE);
        dueLead("below", x, -1, NONE);
        dueLead("all", x, 2, 4);
        x.cut(2, 3);
        dueLead("those whom it reaches", x, 2, 3);
        x.wash(0);
        dueLead("those aboard", x, 2, 2);
        dueLead("washed", x, 0, NOTHING);
        x.back(0);
        String before = accounts(x);
        dueLead("nothing is done", x, 1, 4);
        due("nothing was done", accounts(x), before);
        due("nothing asked", x.driverOf(1, 9), 0);
        x.ask(1);
        dueLead("leads", x, 1, NOTHING);
        dueLead("in the term after", x, 0, 4);
        x.shout(1, 'a');
        dueLead("one with a longer tale", x, 0, 3);
        x.cut(3, 0);
        x.cut(3, 1);
        x.ask(0);
        dueLead("votes were given in this term", x, 3, 1);
        x.ask(0);
        x.tie(3, 0);
        dueLead("a greater term", x, 3, 0);
        x.tie(3, 1);
        dueLead("a greater term", x, 3, 0);
        due("undone changes", x.undo(), 7);
        dueLead("one who asks", x, 0, 3);
        LogRaft y = crew(5, 5, 5);
        y.cut(0, 1);
        y.cut(0, 2);
        y.ask(0);
        y.tie(0, 1);
        dueLead("one in the term in which it would ask", y, 1, 2);
    }

    private static void alike() {
        where = "promise 24";
        LogRaft x = sailing();
        due("nobody", x.alike(0, 3), NONE);
        due("nobody", x.alike(3, 0), NONE);
        due("below", x.alike(0, -1), NONE);
        due("the same", x.alike(2, 2), 2);
        due("both", x.alike(0, 1), 2);
        x.cut(0, 1);
        x.cut(0, 2);
        x.shout(0, 'c');
        due("a beginning", x.alike(0, 1), 2);
        x.ask(1);
        x.shout(1, 'c');
        due("another term", x.alike(1, 0), 2);
        due("empty ones", crew(1, 1).alike(0, 1), 0);
        x = crew(5, 5);
        x.ask(0);
        x.shout(0, 'a');
        x.shout(0, 'b');
        x.send(0);
        due("after sending", x.alike(0, 1), 2);
        x.undo();
        due("lines that were taken back", x.alike(0, 1), 0);
        due("the other way", x.alike(1, 0), 0);
    }

    private static void holders() {
        where = "promise 25";
        LogRaft x = sailing();
        due("nobody", x.holders(3, 1), NONE);
        due("below", x.holders(-1, 1), NONE);
        due("no line", x.holders(0, 0), NONE);
        due("no line", x.holders(0, 3), NONE);
        due("low", x.holders(0, LOW), NONE);
        due("all", x.holders(1, 2), 3);
        x.shout(0, 'c');
        due("it alone", x.holders(0, 3), 1);
        x.wash(1);
        due("washed ones too", x.holders(2, 2), 3);
        x.send(0);
        due("two", x.holders(2, 3), 2);
        due("an earlier line", x.holders(2, 1), 3);
        x.cut(0, 2);
        x.back(1);
        x.ask(2);
        x.wash(0);
        x.ask(1);
        x.ask(2);
        x.shout(2, 'd');
        x.back(0);
        due("a line of one", x.holders(2, 4), 1);
        due("a line of two", x.holders(0, 3), 2);
    }

    private static void agreed() {
        LogRaft x = crew(5, 5, 5);
        where = "promise 26";
        due("agreed by nobody", x.agreed(), 0);
        due("without drivers", new LogRaft().agreed(), 0);
        where = "promise 27";
        due("agreed by nobody", x.agreedAgain(), 0);
        due("without drivers", new LogRaft().agreedAgain(), 0);
        x.ask(1);
        x.shout(1, 'a');
        x.shout(1, 'b');
        x.cut(1, 0);
        x.cut(1, 2);
        x.send(1);
        where = "promise 26";
        due("no majority", x.agreed(), 0);
        where = "promise 27";
        due("no majority", x.agreedAgain(), 0);
        x.tie(1, 0);
        x.send(1);
        where = "promise 26";
        due("majority", x.agreed(), 2);
        where = "promise 27";
        due("majority", x.agreedAgain(), 2);
        x.wash(1);
        where = "promise 26";
        due("a washed one knows", x.agreed(), 2);
        where = "promise 27";
        due("a washed one knows", x.agreedAgain(), 2);
        x = crew(5, 5, 5);
        x.ask(0);
        x.shout(0, 'a');
        x.send(0);
        where = "promise 26";
        due("the first one knows", x.agreed(), 1);
        where = "promise 27";
        due("the first one knows", x.agreedAgain(), 1);
        x.send(0);
        x.shout(0, 'b');
        x.cut(0, 1);
        x.cut(0, 2);
        x.ask(2);
        x.shout(2, 'c');
        x.send(2);
        where = "promise 26";
        due("the last one knows", x.agreed(), 2);
        where = "promise 27";
        due("the last one knows", x.agreedAgain(), 2);
    }

    private static void conflicts() {
        where = "promise 28";
        due("nobody", new LogRaft().conflicts(), 0);
        LogRaft x = sailing();
        due("the same", x.conflicts(), 0);
        x.shout(0, 'c');
        due("a beginning", x.conflicts(), 0);
        x.cut(0, 1);
        x.cut(0, 2);
        x.ask(1);
        x.shout(1, 'c');
        due("another term", x.conflicts(), 1);
        x.send(1);
        due("with two", x.conflicts(), 2);
        x.tie(0, 1);
        x.send(1);
        due("none again", x.conflicts(), 0);
    }

    private static void isSafe() {
        where = "promise 29";
        due("nobody", new LogRaft().isSafe(), 1);
        LogRaft x = sailing();
        due("agreed by all", x.isSafe(), 1);
        x.shout(0, 'c');
        x.cut(0, 1);
        x.cut(0, 2);
        x.ask(1);
        x.shout(1, 'd');
        x.send(1);
        due("conflicts behind what is agreed", x.conflicts(), 2);
        due("they are safe", x.isSafe(), 1);
    }

    private static void dueRanks(LogRaft x, int... want) {
        for (int i = 0; i < want.length; i++) {
            due("ranked " + i, x.ranked(i), want[i]);
        }
        due("ranked behind the last", x.ranked(want.length), NONE);
        due("ranked ahead of the first", x.ranked(-1), NONE);
    }

    private static void ranked() {
        where = "promise 30";
        due("nobody", new LogRaft().ranked(0), NONE);
        dueRanks(crew(5, 4, 3), 0, 1, 2);
        LogRaft x = crew(5, 5, 5, 5);
        x.ask(1);
        x.wash(0);
        x.shout(1, 'a');
        x.send(1);
        dueRanks(x, 1, 2, 3, 0);
        x.wash(3);
        x.ask(2);
        dueRanks(x, 1, 2, 3, 0);
        x.cut(1, 2);
        x.ask(2);
        dueRanks(x, 2, 1, 3, 0);
        x.shout(1, 'b');
        due("follows now", x.ranked(0), 2);
        x.back(0);
        x.back(3);
        x.ask(2);
        x.shout(2, 'c');
        dueRanks(x, 2, 3, 1, 0);
    }

    private static void dueOldest(LogRaft x, int... want) {
        for (int i = 0; i < want.length; i++) {
            due("oldest " + i, x.oldest(i), want[i]);
        }
        due("oldest behind the last", x.oldest(want.length), NONE);
        due("oldest ahead of the first", x.oldest(-1), NONE);
    }

    private static void oldest() {
        where = "promise 31";
        due("nobody", new LogRaft().oldest(0), NONE);
        LogRaft x = crew(5, 4, 9, 4);
        dueOldest(x, 1, 3, 0, 2);
        x.wash(1);
        dueOldest(x, 3, 0, 2);
        x.beats(3);
        x.back(1);
        dueOldest(x, 3, 0, 1, 2);
        x.ask(3);
        dueOldest(x, 1, 0, 2);
        x.wash(3);
        x.wash(0);
        x.ask(1);
        due("asks", x.driverOf(1, 0), 1);
        dueOldest(x, 1, 2);
    }

    private static void quietBeats() {
        where = "promise 32";
        due("nobody", new LogRaft().quietBeats(), NOTHING);
        due("one", crew(1, 9).quietBeats(), 1);
        due("nine", crew(9).quietBeats(), 9);
        LogRaft x = crew(4, 6, 8);
        due("the least", x.quietBeats(), 4);
        x.beats(3);
        due("then", x.quietBeats(), 1);
        x.beats(1);
        due("one leads all", x.leader(), 0);
        due("leads all", x.quietBeats(), NOTHING);
        String before = accounts(x);
        x.cut(0, 2);
        due("not reached", x.quietBeats(), 7);
        due("nothing was done", accounts(x).equals(before), false);
        due("beat", x.account(0), 4);
        x.wash(2);
        due("washed", x.quietBeats(), NOTHING);
        x.wash(0);
        due("the leader is washed", x.quietBeats(), 5);
        x.wash(1);
        due("all washed", x.quietBeats(), NOTHING);

        LogRaft y = crew(9, 1, 9);
        y.cut(1, 0);
        y.cut(1, 2);
        y.beats(2);
        y.ask(0);
        y.wash(1);
        y.back(1);
        y.tie(1, 0);
        due("a leader ahead of one of patience 1", y.quietBeats(), 1);
        due("sends not done", y.account(9), 0);
        due("led by none after a greater term", y.leader(), 0);

        LogRaft z = crew(2, 1);
        z.ask(0);
        due("a beat is waited after a sending", z.quietBeats(), 1);
        LogRaft w = crew(1, 2);
        w.ask(0);
        due("two are not waited", w.quietBeats(), NOTHING);
    }

    private static void tell() {
        where = "promise 33";
        LogRaft x = crew(5, 5, 5);
        due("nobody", x.tell(3), NONE);
        due("below", x.tell(-1), NONE);
        due("at first", told(x, 0), "f0:|");
        x.wash(0);
        x.wash(1);
        x.ask(2);
        due("asks", told(x, 2), "c1:|");
        due("nobody", x.tell(3), NONE);
        due("the line stays", writtenOf(x), "c1:|");
        x.back(1);
        x.ask(2);
        x.shout(2, 'x');
        due("leads", told(x, 2), "l2:|x2");
        x.send(2);
        x.shout(2, 'y');
        due("agreed", told(x, 2), "l2:x2|y2");
        x.send(2);
        due("all agreed", told(x, 2), "l2:x2y2|");
        due("the other", told(x, 1), "f2:x2|y2");
        LogRaft y = crew(9);
        for (int i = 0; i < 12; i++) {
            y.wash(0);
            y.back(0);
            y.ask(0);
        }
        y.shout(0, 'k');
        due("more digits", told(y, 0), "l12:|k12");
    }

    private static void tellVotes() {
        where = "promise 34";
        LogRaft x = crew(5, 5, 5, 5);
        due("nobody", x.tellVotes(4), NONE);
        due("below", x.tellVotes(-1), NONE);
        due("nobody voted", toldVotes(x, 0), "-");
        x.cut(1, 2);
        x.ask(2);
        due("three", toldVotes(x, 2), "0,2,3");
        due("none", toldVotes(x, 0), "-");
        due("nobody", x.tellVotes(4), NONE);
        due("the line stays", writtenOf(x), "-");
        x.ask(1);
        due("one", toldVotes(x, 1), "1");
        x.ask(1);
        due("later", toldVotes(x, 1), "0,1,3");
        due("votes of an earlier term", toldVotes(x, 2), "2");
        x.wash(0);
        due("a washed one keeps its vote", toldVotes(x, 1), "0,1,3");
    }

    private static void written() {
        where = "promise 35";
        LogRaft x = sailing();
        due("empty", x.written(0), NONE);
        due("tell", x.tell(0), 8);
        due("the first", x.written(0), 'l');
        due("the last", x.written(7), '|');
        due("behind", x.written(8), NONE);
        due("below", x.written(-1), NONE);
        due("high", x.written(HIGH), NONE);
        due("low", x.written(LOW), NONE);
        x.undo();
        due("stays", writtenOf(x), "l1:a1b1|");
        due("votes", x.tellVotes(0), 5);
        due("in its place", writtenOf(x), "0,1,2");
        x.tellVotes(1);
        due("shorter", writtenOf(x), "-");
    }

    private static void meanTale() {
        where = "promise 36";
        due("nobody", Float.floatToIntBits(new LogRaft().meanTale()), Float.floatToIntBits(0.0f));
        LogRaft x = crew(5, 5, 5);
        due("no lines", Float.floatToIntBits(x.meanTale()), Float.floatToIntBits(0.0f));
        x.ask(0);
        x.shout(0, 'a');
        due("a third", Float.floatToIntBits(x.meanTale()), Float.floatToIntBits(1.0f / 3.0f));
        x.shout(0, 'b');
        x.wash(1);
        x.send(0);
        x.shout(0, 'c');
        due("five thirds", Float.floatToIntBits(x.meanTale()), Float.floatToIntBits(5.0f / 3.0f));
    }

    private static void agreedShare() {
        where = "promise 37";
        due("nobody", Double.doubleToLongBits(new LogRaft().agreedShare()), Double.doubleToLongBits(0.0));
        LogRaft x = crew(5, 5, 5);
        due("no lines", Double.doubleToLongBits(x.agreedShare()), Double.doubleToLongBits(0.0));
        x.ask(0);
        x.shout(0, 'a');
        due("none", Double.doubleToLongBits(x.agreedShare()), Double.doubleToLongBits(0.0));
        x.send(0);
        due("a third", Double.doubleToLongBits(x.agreedShare()), Double.doubleToLongBits(1.0 / 3.0));
        x.send(0);
        due("all", Double.doubleToLongBits(x.agreedShare()), Double.doubleToLongBits(1.0));
        x.shout(0, 'b');
        x.shout(0, 'c');
        x.shout(0, 'd');
        x.shout(0, 'e');
        due("three sevenths", Double.doubleToLongBits(x.agreedShare()), Double.doubleToLongBits(3.0 / 7.0));
    }

    private static void account() {
        where = "promise 38";
        LogRaft x = crew(9, 9, 9);
        due("below", x.account(-1), BAD);
        due("above", x.account(13), BAD);
        due("low", x.account(LOW), BAD);
        due("three drivers", accounts(x), "[0, 3, 3, 0, 0, 0, 0, 0, 0, 0, 0, 0, 3]");
        x.ask(0);
        due("asked", accounts(x), "[0, 3, 3, 0, 1, 1, 1, 0, 0, 0, 3, 0, 4]");
        x.shout(0, 'a');
        x.shout(0, 'b');
        x.cut(0, 1);
        x.cut(0, 2);
        due("shouted", accounts(x), "[0, 3, 3, 2, 1, 1, 1, 2, 0, 0, 3, 0, 8]");
        x.ask(2);
        x.shout(2, 'c');
        x.tie(0, 2);
        x.wash(1);
        type(x, "bea");
        x.beats(3);
        due("beats", accounts(x), "[3, 3, 2, 1, 2, 2, 2, 3, 2, 4, 5, 3, 8]");
        due("refused calls change nothing", x.wash(1), REFUSED);
        due("the same", accounts(x), "[3, 3, 2, 1, 2, 2, 2, 3, 2, 4, 5, 3, 8]");
        x.cut(0, 2);
        x.ask(0);
        x.ask(0);
        due("the greatest term is the first one's", x.account(4), 4);
    }

    /** With five drivers each loop over drivers goes as far as it ever can. */
    private static void fullCrew() {
        where = "promise 38";
        LogRaft x = crew(9, 8, 7, 6, 5);
        due("leads all", x.couldLead(4), 5);
        due("asks all", x.ask(4), 5);
        due("leader", x.leader(), 4);
        x.shout(4, 'a');
        due("sends to all", x.send(4), 5);
        due("agreed", x.agreed() * 10 + x.agreedAgain(), 11);
        due("holders", x.holders(0, 1), 5);
        due("reaches", x.driverOf(0, 8), 4);
        due("conflicts", x.conflicts(), 0);
        due("safe", x.isSafe(), 1);
        dueRanks(x, 0, 1, 2, 3, 4);
        dueOldest(x, 3, 2, 1, 0);
        due("votes", toldVotes(x, 4), "0,1,2,3,4");
        due("quiet", x.quietBeats(), NOTHING);
        due("cut", x.cut(4, 3), 1);
        due("quiet", x.quietBeats(), 6);
        x.cut(4, 2);
        x.cut(4, 1);
        due("cut", x.cut(4, 0), 4);
        due("all but one", x.couldLead(0), 4);
        due("a leader alone", x.send(4), 1);
        due("mean", Float.floatToIntBits(x.meanTale()), Float.floatToIntBits(1.0f));
        due("share", Double.doubleToLongBits(x.agreedShare()), Double.doubleToLongBits(0.2));
        due("accounts", accounts(x), "[0, 5, 5, 4, 1, 1, 1, 1, 0, 2, 5, 0, 8]");
    }

    private static void undo() {
        where = "promise 39";
        LogRaft x = crew(9, 9);
        due("the second", x.undo(), 1);
        due("the first", x.undo(), 0);
        due("none", x.undo(), NOTHING);
        due("nobody", x.account(1), 0);
        x = crew(9, 9, 9);
        x.ask(0);
        x.shout(0, 'a');
        x.send(0);
        x.wash(2);
        x.back(2);
        x.cut(0, 1);
        x.tie(0, 1);
        x.beats(2);
        x.cut(1, 2);
        due("eight at most", x.account(12), 8);
        due("cut", x.undo(), 7);
        due("cut", x.account(3), 0);
        due("beats", x.undo(), 6);
        due("beats", x.account(0), 0);
        due("tie", x.undo(), 5);
        due("tie", x.account(3), 1);
        due("cut", x.undo(), 4);
        due("cut", x.account(3), 0);
        due("back", x.undo(), 3);
        due("back", x.driverOf(2, 7), 0);
        due("wash", x.undo(), 2);
        due("wash", x.driverOf(2, 7), 1);
        due("send", x.undo(), 1);
        due("send", told(x, 1), "f1:|");
        due("sendings", x.account(9), 0);
        due("shout", x.undo(), 0);
        due("shout", told(x, 0), "l1:|");
        due("no more", x.undo(), NOTHING);
        due("leads", x.leader(), 0);
        x.shout(0, 'b');
        x.shout(0, 'C');
        x.shout(2, 'd');
        x.shout(7, 'd');
        due("failed calls are no changes", x.account(12), 1);
        x.send(0);
        x.ask(1);
        due("in the middle", x.undo(), 2);
        x.cut(0, 1);
        due("a new one behind", x.account(12), 3);
        due("ends", x.undo(), 2);
        due("the tale", told(x, 0), "l1:b1|");
        due("one by which nothing is different", x.wash(2), 2);
        x.beats(1);
        x.send(0);
        due("is a change", x.account(12), 5);
        x = crew(9, 9, 9);
        x.ask(0);
        x.shout(0, 'a');
        x.cut(0, 1);
        x.cut(0, 2);
        x.ask(1);
        x.shout(1, 'b');
        x.tie(0, 1);
        String before = accounts(x);
        x.send(1);
        due("lines are cut off", x.account(8), 1);
        x.undo();
        x.cut(0, 1);
        x.undo();
        x.shout(1, 'c');
        x.undo();
        due("accounts as before", x.account(7) * 10 + x.account(8), 20);
        due("but for the changes", accounts(x).equals(before), false);
        due("a tail that was cut off comes back", told(x, 0), "l1:|a1");
        due("the tie", x.undo(), 6);
        due("the shout", x.undo(), 5);
        due("the line shouted", x.account(7), 1);
        due("the asking", x.undo(), 4);
        due("votes are taken back", toldVotes(x, 0), "0,1,2");
        due("vote", x.driverOf(1, 4), 0);
        due("asked", x.driverOf(1, 9), 0);
        due("led", x.driverOf(1, 10), 0);
        due("term", x.account(4), 1);
    }

    private static void save() {
        where = "promise 40";
        LogRaft x = new LogRaft();
        due("at first", x.save(), 0);
        x.driver(1);
        x.beats(3);
        due("later", x.save(), 3);
        due("no change", x.account(12), 2);
        x.beats(2);
        due("restored is the latest", x.restore(), 3);
        due("driver", x.account(1), 1);
        due("the saved one stays as it was", x.driverOf(0, 9), 1);
    }

    private static void restore() {
        where = "promise 41";
        LogRaft x = crew(9, 9, 9);
        due("nothing was saved", x.restore(), NOTHING);
        due("undo is still there", x.account(12), 3);
        x.ask(0);
        x.shout(0, 'a');
        x.cut(1, 2);
        x.save();
        x.beats(2);
        x.tie(1, 2);
        x.wash(0);
        type(x, "be");
        x.ask(0);
        x.tell(0);
        due("restore", x.restore(), 0);
        due("cannot be undone", x.undo(), NOTHING);
        due("accounts", accounts(x), "[0, 3, 3, 1, 1, 1, 1, 1, 0, 0, 3, 2, 0]");
        due("the reason stays", x.reason(0, false), 2);
        due("the line stays", writtenOf(x), "f1:a1|");
        due("tale", told(x, 1), "f1:|");
        x.beats(4);
        x.undo();
        x.clear();
        due("again", x.restore(), 0);
        due("the tale again", told(x, 0), "l1:|a1");
        due("the rope again", x.reaches(1, 2), false);
    }
}
