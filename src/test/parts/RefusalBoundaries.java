import java.util.function.Consumer;
import java.util.function.ToIntFunction;

/** Terms: reasons, changes and codes of calls; and the promise of reason. */
final class RefusalBoundaries extends Sentences {
    static void all() {
        firstThatApplies();
        asManyAsThereCanBe();
        washedAway();
        leadsAlready();
        doesNotLead();
        bothAreOne();
        isSoAlready();
        haveAskedAlready();
        commandIsRefused();
        commandReturnsAnotherCode();
        behindEight();
        successfulCalls();
        nothingIsDifferent();
        latestEight();
        roundAndRound();
        neitherUndoneNorSaved();
        everythingAsItWas();
        readEmptiesAlone();
        firstNamedError();
        reasonDepth();
        noReason();
        noneBehind();
        constants();
    }

    private static void firstThatApplies() {
        sentence(TERMS, "Reasons. Something is refused for the first that applies of the reasons that its method names,"
            + " in the order in which it names them");
        LogRaft x = crewOf(5);
        x.ask(1);
        dueRefused("asked and full", x.driver(9), x, 7, 1);
        shoutAll(x, 1, "abcdefghijkl");
        x.ask(0);
        dueRefused("does not lead and full", x.shout(1, 'a'), x, 4, 2);
        x.wash(1);
        dueRefused("washed away, does not lead and full", x.shout(1, 'a'), x, 2, 1);
        dueRefused("washed away and does not lead", x.send(1), x, 2, 1);
        dueRefused("one and the same, and no rope to tie", x.tie(3, 3), x, 5, 3);
        dueRefused("one and the same, and no rope to cut", x.cut(3, 3), x, 5, 3);
    }

    private static void asManyAsThereCanBe() {
        sentence(TERMS, "1, there are as many as there can be: this number");
        LogRaft x = crewOf(5);
        dueRefused("a sixth driver", x.driver(9), x, 1, 5);
        x.ask(0);
        shoutAll(x, 0, "abcdefghijkl");
        dueRefused("a thirteenth line", x.shout(0, 'm'), x, 1, 12);
    }

    private static void washedAway() {
        sentence(TERMS, "2, the driver is washed away: the driver");
        LogRaft x = crewOf(5);
        x.wash(0);
        x.wash(4);
        dueRefused("ask", x.ask(4), x, 2, 4);
        dueRefused("send", x.send(0), x, 2, 0);
        dueRefused("shout", x.shout(4, 'a'), x, 2, 4);
        dueRefused("wash", x.wash(0), x, 2, 0);
    }

    private static void leadsAlready() {
        sentence(TERMS, "3, the driver leads already: its term");
        LogRaft x = crewOf(5);
        x.ask(0);
        x.ask(1);
        x.ask(4);
        dueRefused("ask", x.ask(4), x, 3, 3);
    }

    private static void doesNotLead() {
        sentence(TERMS, "4, the driver does not lead: the term of the driver");
        LogRaft x = crewOf(3);
        dueRefused("send of one who never asked", x.send(2), x, 4, 0);
        x.cut(0, 1);
        x.cut(0, 2);
        x.ask(0);
        x.ask(0);
        dueRefused("send of one who asks", x.send(0), x, 4, 2);
        dueRefused("shout of one who asks", x.shout(0, 'a'), x, 4, 2);
        x.ask(1);
        dueRefused("shout of a follower", x.shout(2, 'a'), x, 4, 1);
    }

    private static void bothAreOne() {
        sentence(TERMS, "5, both drivers are one: the driver");
        LogRaft x = crewOf(5);
        for (int i = 0; i < 5; i++) {
            dueRefused("cut", x.cut(i, i), x, 5, i);
            dueRefused("tie", x.tie(4 - i, 4 - i), x, 5, 4 - i);
        }
    }

    private static void isSoAlready() {
        sentence(TERMS, "6, it is so already: the driver, or for a rope the greater one of both");
        LogRaft x = crewOf(5);
        dueRefused("back", x.back(0), x, 6, 0);
        dueRefused("back", x.back(4), x, 6, 4);
        dueRefused("a whole rope", x.tie(1, 3), x, 6, 3);
        dueRefused("the other way", x.tie(2, 0), x, 6, 2);
        x.cut(0, 1);
        dueRefused("a cut rope", x.cut(0, 1), x, 6, 1);
        dueRefused("the other way", x.cut(1, 0), x, 6, 1);
    }

    private static void haveAskedAlready() {
        sentence(TERMS, "7, drivers have asked already: how often");
        LogRaft x = crew(9, 9);
        due("nobody asked", x.driver(1), 2);
        x.ask(0);
        dueRefused("once", x.driver(9), x, 7, 1);
        x.cut(0, 1);
        x.beats(20);
        dueRefused("by beats", x.driver(9), x, 7, x.account(5));
        x.clear();
        due("a new raft", x.driver(9), 0);
        x.ask(0);
        x.undo();
        due("the asking was taken back", x.driver(9), 1);
    }

    private static void commandIsRefused() {
        sentence(TERMS, "8, a command of a text is refused: its number, from 0");
        LogRaft x = crewOf(1);
        dueRefused("the first", readText(x, "send 0;beat"), x, 8, 0);
        dueRefused("the second", readText(x, "beat;send 0"), x, 8, 1);
        x.wash(0);
        String eleven = "beat;beat;beat;beat;beat;beat;beat;beat;beat;beat;beat;";
        dueRefused("the twelfth", readText(x, eleven + "ask 0"), x, 8, 11);
    }

    private static void commandReturnsAnotherCode() {
        sentence(TERMS, "9, a command of a text would return another code: its number, from 0.");
        LogRaft x = crewOf(1);
        String[] commands = {"ask 1", "send 9", "shout 1 a", "wash 1", "back 1", "cut 01", "tie 10", "beat 0", "driver 0"};
        for (String command : commands) {
            dueRefused(command, readText(x, command), x, 9, 0);
            dueRefused(command + " behind others", readText(x, "beat;beat;" + command), x, 9, 2);
        }
        String eleven = "beat;beat;beat;beat;beat;beat;beat;beat;beat;beat;beat;";
        dueRefused("the twelfth", readText(x, eleven + "ask 1"), x, 9, 11);
    }

    private static void dueBehind(LogRaft x, String text, int reason, int detail) {
        due(text, readText(x, text), REFUSED);
        due(text + ", behind it", x.reason(1, false), reason);
        due(text + ", the detail behind it", x.reason(1, true), detail);
    }

    private static void behindEight() {
        sentence(TERMS, "Behind 8 stands the reason of the command.");
        LogRaft x = crewOf(5);
        dueBehind(x, "driver 1", 1, 5);
        dueBehind(x, "wash 3;ask 3", 2, 3);
        dueBehind(x, "ask 4;ask 3;ask 3", 3, 2);
        dueBehind(x, "ask 4;send 3", 4, 1);
        dueBehind(x, "cut 22", 5, 2);
        dueBehind(x, "tie 14", 6, 4);
        dueBehind(x, "ask 4;ask 3;driver 1", 7, 2);
        due("behind 9 stands none", readText(x, "ask 7"), REFUSED);
        due("no reason", x.reason(1, false), NOTHING);
        due("no detail", x.reason(1, true), NOTHING);
    }

    private static void dueChanges(LogRaft x, String call, int answer, int changes) {
        due(call + " answers no code", answer >= 0, true);
        due("changes after " + call, x.account(12), changes);
    }

    private static void successfulCalls() {
        sentence(TERMS, "Changes. The changes are the successful calls of driver, ask, send, shout, wash, back, cut, tie, beats and read");
        LogRaft x = new LogRaft();
        dueChanges(x, "driver", x.driver(9), 1);
        dueChanges(x, "ask", x.ask(0), 2);
        dueChanges(x, "send", x.send(0), 3);
        dueChanges(x, "shout", x.shout(0, 'a'), 4);
        dueChanges(x, "wash", x.wash(0), 5);
        dueChanges(x, "back", x.back(0), 6);
        dueChanges(x, "beats", x.beats(1), 7);
        x = crewOf(2);
        dueChanges(x, "cut", x.cut(0, 1), 3);
        dueChanges(x, "tie", x.tie(0, 1), 4);
        dueChanges(x, "read of three commands", readText(x, "beat;cut 01;tie 01"), 5);
        dueChanges(x, "append", x.append('x'), 5);
        dueChanges(x, "save", x.save(), 5);
        dueChanges(x, "couldLeadAgain", x.couldLeadAgain(0), 5);
        dueChanges(x, "quietBeats", x.quietBeats(), 5);
        dueChanges(x, "tell", x.tell(0), 5);
    }

    private static void nothingIsDifferent() {
        sentence(TERMS, "also those by which nothing is different.");
        LogRaft x = sailing();
        due("changes", x.account(12), 8);
        x.undo();
        x.undo();
        String before = numbers(x, 0) + numbers(x, 1) + numbers(x, 2);
        readText(x, "cut 01;tie 01");
        due("no number is another one", numbers(x, 0) + numbers(x, 1) + numbers(x, 2), before);
        due("but it can be undone", x.account(12), 7);
        x.undo();
        due("then", x.account(12), 6);
        LogRaft y = new LogRaft();
        y.beats(1);
        due("a beat without drivers", y.account(12), 1);
    }

    private static void latestEight() {
        sentence(TERMS, "The latest 8 can be undone.");
        LogRaft x = new LogRaft();
        for (int i = 1; i <= 10; i++) {
            x.beats(i);
            due("changes", x.account(12), i < 8 ? i : 8);
        }
        int beat = 55;
        for (int i = 10; i > 2; i--) {
            beat -= i;
            due("undo", x.undo(), i - 3);
            due("beat", x.account(0), beat);
        }
        due("a ninth", x.undo(), NOTHING);
        due("its beats stay", x.account(0), 1 + 2);
    }

    /** The kept states go round: each of them is used again several times. */
    private static void roundAndRound() {
        sentence(39, "Returns the number of changes that can still be undone");
        for (int first = 0; first <= 20; first++) {
            LogRaft x = new LogRaft();
            for (int i = 0; i < first; i++) {
                x.beats(1);
            }
            x.beats(7);
            x.undo();
            x.beats(3);
            x.beats(4);
            x.undo();
            due("the beat after " + first, x.account(0), first + 3);
            x.undo();
            due("the beat after " + first, x.account(0), first);
            int kept = Math.min(first, 6);
            due("changes left", x.account(12), kept);
            for (int i = 1; i <= kept; i++) {
                due("undo", x.undo(), kept - i);
                due("the beat", x.account(0), first - i);
            }
            due("no more", x.undo(), NOTHING);
        }
    }

    private static void neitherUndoneNorSaved() {
        sentence(TERMS, "The input, the fault position, the reasons and the written line are neither undone nor saved, and stay.");
        LogRaft x = sailing();
        x.save();
        x.beats(1);
        readText(x, "beat;?");
        readText(x, "wash 1;wash 1");
        type(x, "bea");
        told(x, 0);
        due("undo", x.undo(), 7);
        dueKept("undo", x);
        due("restore", x.restore(), 0);
        dueKept("restore", x);
        due("input goes on", x.append('t') + x.read(), 5);
        due("of the saved ones, the beat", x.account(0), 1);
    }

    private static void dueKept(String call, LogRaft x) {
        due("input after " + call, x.account(11), 3);
        due("fault after " + call, x.fault(), 5);
        dueReason(call, x, 8, 1);
        due("reason behind it after " + call, x.reason(1, false) * 10 + x.reason(1, true), 21);
        due("line after " + call, writtenOf(x), "l1:a1b1|");
    }

    /** Five drivers, of whom one leads, one asks and one is washed away; with all that can be kept. */
    private static LogRaft rich() {
        LogRaft x = crew(9, 8, 7, 6, 5);
        x.ask(0);
        shoutAll(x, 0, "abc");
        x.send(0);
        x.beats(2);
        x.save();
        cutFrom(x, 2, 0, 1, 3, 4);
        x.ask(2);
        x.ask(2);
        x.cut(1, 4);
        x.wash(3);
        shoutAll(x, 0, "defghijkl");
        readText(x, "beat!");
        x.cut(4, 4);
        x.tell(0);
        type(x, "send 0");
        return x;
    }

    /** All that can be seen of an object, down to what undo and restore bring back. */
    private static String look(LogRaft x) {
        StringBuilder seen = new StringBuilder();
        seen.append(writtenOf(x)).append(accounts(x)).append(x.fault());
        for (int i = 0; i < 5; i++) {
            seen.append(numbers(x, i));
            seen.append(' ').append(x.reaches(i, (i + 1) % 5)).append(x.reaches(i, (i + 2) % 5));
            seen.append(x.ranked(i)).append(x.oldest(i)).append(told(x, i)).append('\n');
        }
        while (x.undo() >= 0) {
            seen.append(x.account(0)).append(x.account(3)).append(x.account(5)).append(x.account(7)).append(' ');
            seen.append(x.account(12)).append(x.driverOf(0, 5)).append(x.driverOf(3, 7)).append('\n');
        }
        seen.append(x.restore()).append(accounts(x)).append(told(x, 0));
        return seen.toString();
    }

    private static void dueUnchanged(String call, int want, ToIntFunction<LogRaft> made) {
        dueUnchanged(call, want, x -> { }, made);
    }

    /** The same is seen of an object with this call, and of another one without it. */
    private static void dueUnchanged(String call, int want, Consumer<LogRaft> ahead, ToIntFunction<LogRaft> made) {
        LogRaft x = rich();
        LogRaft y = rich();
        ahead.accept(x);
        ahead.accept(y);
        due(call, made.applyAsInt(x), want);
        due("what is seen after " + call, look(x), look(y));
    }

    private static void everythingAsItWas() {
        sentence(TERMS, "Codes of calls. A call that returns an error leaves everything as it was");
        unchangedByNumbers();
        unchangedByRefusals();
        unchangedByQuestions();
    }

    private static void unchangedByNumbers() {
        dueUnchanged("append of a bad sign", BAD, x -> x.append((char) 127));
        dueUnchanged("append to a full input", BAD, x -> type(x, " ".repeat(54)), x -> x.append('a'));
        dueUnchanged("driver of patience 0", BAD, x -> x.driver(0));
        dueUnchanged("beats of none", BAD, x -> x.beats(0));
        dueUnchanged("beats of too many", BAD, x -> x.beats(21));
        dueUnchanged("ask of nobody", NONE, x -> x.ask(5));
        dueUnchanged("send of nobody", NONE, x -> x.send(-1));
        dueUnchanged("shout of nobody", NONE, x -> x.shout(5, 'a'));
        dueUnchanged("shout of no letter", BAD, x -> x.shout(0, 'A'));
        dueUnchanged("wash of nobody", NONE, x -> x.wash(5));
        dueUnchanged("back of nobody", NONE, x -> x.back(-1));
        dueUnchanged("cut to nobody", NONE, x -> x.cut(0, 5));
        dueUnchanged("tie from nobody", NONE, x -> x.tie(5, 0));
    }

    private static void unchangedByRefusals() {
        dueUnchanged("driver after askings", REFUSED, x -> x.driver(9));
        dueUnchanged("ask of a washed one", REFUSED, x -> x.ask(3));
        dueUnchanged("ask of a leader", REFUSED, x -> x.ask(0));
        dueUnchanged("send of a washed one", REFUSED, x -> x.send(3));
        dueUnchanged("send of one who asks", REFUSED, x -> x.send(2));
        dueUnchanged("shout of a washed one", REFUSED, x -> x.shout(3, 'a'));
        dueUnchanged("shout of a follower", REFUSED, x -> x.shout(1, 'a'));
        dueUnchanged("shout of a full one", REFUSED, x -> x.shout(0, 'a'));
        dueUnchanged("wash of a washed one", REFUSED, x -> x.wash(3));
        dueUnchanged("back of one aboard", REFUSED, x -> x.back(2));
        dueUnchanged("cut of one", REFUSED, x -> x.cut(2, 2));
        dueUnchanged("cut of a cut rope", REFUSED, x -> x.cut(0, 2));
        dueUnchanged("tie of one", REFUSED, x -> x.tie(2, 2));
        dueUnchanged("tie of a whole rope", REFUSED, x -> x.tie(0, 1));
    }

    private static void unchangedByQuestions() {
        dueUnchanged("reason of depth 2", BAD, x -> x.reason(2, true));
        dueUnchanged("driverOf nobody", NONE, x -> x.driverOf(5, 0));
        dueUnchanged("driverOf nothing", BAD, x -> x.driverOf(0, 11));
        dueUnchanged("lineOf no line", NONE, x -> x.lineOf(0, 13, true));
        dueUnchanged("longer of nobody", NOTHING, x -> x.longer(0, 5));
        dueUnchanged("couldLead of a leader", NOTHING, x -> x.couldLead(0));
        dueUnchanged("couldLeadAgain of a leader", NOTHING, x -> x.couldLeadAgain(0));
        dueUnchanged("couldLeadAgain of a washed one", NOTHING, x -> x.couldLeadAgain(3));
        dueUnchanged("couldLeadAgain of nobody", NONE, x -> x.couldLeadAgain(5));
        dueUnchanged("alike of nobody", NONE, x -> x.alike(5, 0));
        dueUnchanged("holders of no line", NONE, x -> x.holders(1, 0));
        dueUnchanged("ranked at no place", NONE, x -> x.ranked(5));
        dueUnchanged("oldest at no place", NONE, x -> x.oldest(4));
        dueUnchanged("tell of nobody", NONE, x -> x.tell(5));
        dueUnchanged("tellVotes of nobody", NONE, x -> x.tellVotes(-1));
        dueUnchanged("written of no index", NONE, x -> x.written(80));
        dueUnchanged("account of nothing", BAD, x -> x.account(13));
        dueUnchanged("undo of nothing", NOTHING, RefusalBoundaries::undoAll, x -> x.undo());
        LogRaft x = sailing();
        due("restore of nothing", x.restore(), NOTHING);
        due("leaves what can be undone", x.undo(), 7);
    }

    private static void undoAll(LogRaft x) {
        for (int i = 0; i < 8; i++) {
            x.undo();
        }
    }

    private static void readEmptiesAlone() {
        sentence(TERMS, "except that read empties the input, and that reasons and fault positions are kept.");
        String[] texts = {";beat 3;?", ";shout 0 m", ";wash 1;cut 10;wash 3", ";wash 1;beat 9;ask 1", ";beat 4;driver 0"};
        int[] codes = {BAD, REFUSED, REFUSED, REFUSED, REFUSED};
        int[] reasons = {5, 8, 8, 8, 9};
        int[] details = {4, 1, 3, 3, 2};
        int[] faults = {14, 4, 4, 4, 4};
        for (int i = 0; i < texts.length; i++) {
            LogRaft x = rich();
            LogRaft y = rich();
            type(x, texts[i]);
            due("read of send 0" + texts[i], x.read(), codes[i]);
            dueReason(texts[i], x, reasons[i], details[i]);
            due("fault of " + texts[i], x.fault(), faults[i]);
            due("the input", x.account(11), 0);
            type(x, "send 0");
            due("what is seen", look(x).replace("]" + faults[i] + "[", "]["), look(y).replace("]4[", "]["));
        }
    }

    private static void firstNamedError() {
        sentence(TERMS, "If several errors apply, the one that is named first is returned.");
        LogRaft x = crewOf(5);
        x.ask(0);
        due("driver: BAD ahead of REFUSED", x.driver(0), BAD);
        due("shout: NONE ahead of BAD", x.shout(5, 'A'), NONE);
        due("shout: BAD ahead of REFUSED", x.shout(1, 'A'), BAD);
        x.wash(1);
        due("shout: BAD ahead of washed away", x.shout(1, 'A'), BAD);
        due("cut: NONE ahead of REFUSED", x.cut(5, 5), NONE);
        due("tie: NONE ahead of REFUSED", x.tie(-1, -1), NONE);
        due("driverOf: NONE ahead of BAD", x.driverOf(5, 11), NONE);
        due("read: BAD ahead of REFUSED", readText(x, "ask 1;send 9;beat x"), BAD);
        due("couldLead: NONE ahead of NOTHING", x.couldLead(5), NONE);
        due("couldLeadAgain: NONE ahead of NOTHING", x.couldLeadAgain(5), NONE);
        LogRaft y = new LogRaft();
        due("reason: BAD ahead of NOTHING", y.reason(2, false), BAD);
    }

    private static void reasonDepth() {
        sentence(15, "BAD if depth is not from 0 to 1");
        LogRaft x = crewOf(1);
        readText(x, "send 0");
        for (int depth : new int[] {LOW, -256, -1, 2, 3, 256, 65536, HIGH}) {
            due("depth " + depth, x.reason(depth, false), BAD);
            due("detail of depth " + depth, x.reason(depth, true), BAD);
        }
        sentence(15, "`depth`: 0 for the reason, 1 for the one behind it");
        due("depth 0", x.reason(0, false), 8);
        due("depth 1", x.reason(1, false), 4);
        sentence(15, "`isDetail`: true for the detail, false for the reason");
        x = crewOf(3);
        readText(x, "beat;cut 22");
        due("reason and detail", x.reason(0, false) * 10 + x.reason(0, true), 81);
        due("reason and detail behind", x.reason(1, false) * 10 + x.reason(1, true), 52);
    }

    private static void noReason() {
        sentence(15, "NOTHING if nothing was refused");
        LogRaft x = crewOf(1);
        x.ask(5);
        x.driver(0);
        x.beats(0);
        x.account(13);
        x.restore();
        readText(x, "?");
        due("errors of other kinds, the reason", x.reason(0, false), NOTHING);
        due("the detail", x.reason(0, true), NOTHING);
        due("behind it", x.reason(1, false), NOTHING);
        due("its detail", x.reason(1, true), NOTHING);
    }

    private static void noneBehind() {
        sentence(15, "or there is none behind it.");
        LogRaft x = crewOf(1);
        x.cut(0, 0);
        due("a reason of detail 0", x.reason(0, true), 0);
        due("none behind it", x.reason(1, false), NOTHING);
        due("no detail behind it", x.reason(1, true), NOTHING);
        readText(x, "cut 00");
        due("one behind it", x.reason(1, false), 5);
        due("its detail", x.reason(1, true), 0);
        x.send(0);
        due("a later one without one behind it", x.reason(1, false), NOTHING);
        readText(x, "cut 00");
        readText(x, "ask 5");
        due("another code without one behind it", x.reason(1, true), NOTHING);
        sentence(15, "Returns the number");
        due("the number", x.reason(0, false), 9);
    }

    private static void constants() {
        sentence(TERMS, "`NONE = -1`: There is no such number.");
        due("NONE", LogRaft.NONE, -1);
        due("of a driver", new LogRaft().ask(0), -1);
        sentence(TERMS, "`BAD = -2`: A number is out of range, or a text has a fault.");
        due("BAD", LogRaft.BAD, -2);
        due("a number", new LogRaft().driver(10), -2);
        due("a text", new LogRaft().read(), -2);
        sentence(TERMS, "`REFUSED = -3`: It is refused for a reason.");
        due("REFUSED", LogRaft.REFUSED, -3);
        due("for a reason", crewOf(1).send(0), -3);
        sentence(TERMS, "`NOTHING = -4`: There is nothing of this kind.");
        due("NOTHING", LogRaft.NOTHING, -4);
        due("no leader", new LogRaft().leader(), -4);
    }
}
