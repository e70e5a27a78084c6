/** The section "Terms", its second half: histories, and how a program is run over one; each sentence with its edges. */
public final class RunTermsTest extends Sentences {
    // Ends behind its 999th step, with a = 499.
    private static final String STEPS_999 = "@a<499[a=a+1;]";
    private static final String[] EACH_A_STEP = {"b=1;", "b=act 1,1;", "b=timer 1;", "b=wait h;", "b=any h,h;", "b=ended h;",
        "b=sig;", "b=now;", "b=patch 1;", "stop 1;", "?0[|]", "@0[]"};
    // Adds 198 acts, so that with the begin there are 199 events.
    private static final String EVENTS_199 = "@a<198[b=act 1,a;a=a+1;]";

    public static void main(String[] args) {
        roomOfTheHistory();
        commands();
        others();
        decisions();
        over();
        registersAtFirst();
        goesOnWhereItWaits();
        seesWhatIsAhead();
        actAndTimer();
        stop();
        patchInANewDecision();
        patchInAnOldDecision();
        waits();
        waitsForNone();
        waitsForOtherEvents();
        any();
        ended();
        sig();
        now();
        endOfTheProgram();
        mostSteps();
        moreSteps();
        stepsOfOneDecision();
        whatIsAStep();
        stepsOfWaiting();
        differs();
        differsAtAnotherOne();
        differsAtOneTooMany();
        differsAtOneTooFew();
        finish();
    }

    // Histories

    private static void roomOfTheHistory() {
        sentence("A HISTORY: EVENTS 0, 1, .. (at most 200)");
        Desk x = new Desk();
        x.signals(199);
        due("the 200th", true, x.happen(8, 0, -5));
        due("the 201st", false, x.happen(8, 0, -6));
        due("how many", 200, x.total(0));
        due("the first", "8 0 0", x.event(0));
        due("the last", "8 0 -5", x.event(199));
        due("none behind it", THROWS, x.event(200, 0));

        String[] last = {"c=act 7,8;d=sig;", "c=timer 8;d=sig;", "c=patch 7;d=sig;", "stop 8;", ""};
        String[] events = {"1 7 8", "2 0 8", "3 7 0", "4 0 8", "4 0 0"};
        for (int i = 0; i < last.length; i++) {
            x = Desk.with(EVENTS_199 + last[i]);
            due("the 200th is a command: " + last[i], 199, x.decide(1));
            due("how many: " + last[i], 200, x.total(0));
            due("the last: " + last[i], events[i], x.event(199));
            x = Desk.with(EVENTS_199 + "c=act 1,1;" + last[i]);
            due("the 201st is a command: " + last[i], "5 at -1", x.refusal());
            due("none is added: " + last[i], 0, x.total(0));
        }
    }

    private static void commands() {
        sentence("Of the program (COMMANDS): 1 ACT (REF the NUMBER, VALUE X), 2 TIMER (REF 0, VALUE X), 3 MARK (REF the NUMBER, VALUE 0),"
                + " 4 STOP (REF 0, VALUE X).");
        due("with the least", "0 0 0, 1 0 -2147483648, 2 0 -2147483648, 3 0 0, 4 0 -2147483648",
                Desk.decided("h=32768*65536;a=act 0,h;b=timer h;c=patch 0;stop h;").events());
        due("with the most", "0 0 0, 1 999999 2147483647, 2 0 2147483647, 3 999999 0, 4 0 2147483647",
                Desk.decided("h=32768*65536-1;a=act 999999,h;b=timer h;c=patch 999999;stop h;").events());
        due("with 0 and with <", "0 0 0, 1 1 0, 2 0 1, 4 0 0", Desk.decided("a=act 1,2<1;b=timer 1<2;stop 0;").events());
        due("X is worked out ahead of r", "0 0 0, 1 1 5, 2 0 1, 4 0 0", Desk.decided("a=5;a=act 1,a;a=timer a;").events());
    }

    private static void others() {
        sentence("Others: 0 BEGIN (REF 0, VALUE a time), 5 DONE (REF the EVENT that is its ACT, VALUE what came), 6 FAILED (REF an ACT),"
                + " 7 FIRED (REF a TIMER), 8 SIGNAL (REF 0, VALUE).");
        Desk x = Desk.with("a=act 1,1;b=act 2,2;c=timer 3;d=sig;e=sig;");
        x.decide(LEAST);
        x.happen(5, 1, LEAST);
        x.happen(6, 2, 0);
        x.happen(7, 3, 0);
        x.happen(8, 0, MOST);
        x.decide(MOST);
        due("each kind", "0 0 -2147483648, 1 1 1, 1 2 2, 2 0 3, 5 1 -2147483648, 6 2 0, 7 3 0, 8 0 2147483647, 0 0 2147483647", x.events());
    }

    private static void decisions() {
        sentence("A DECISION is a BEGIN with the COMMANDS behind it, up to the next of the others.");
        Desk x = Desk.with("a=sig;b=act 1,1;c=sig;");
        due("one without a command", 0, x.decide(1));
        due("one side by side with it", 0, x.decide(2));
        x.happen(8, 0, 5);
        due("one with a command", 1, x.decide(3));
        due("one behind its command", 0, x.decide(4));
        due("events", "0 0 1, 0 0 2, 8 0 5, 0 0 3, 1 1 1, 0 0 4", x.events());
        due("decisions", 4, x.total(2));
        x.crash();
        due("each is told from the others", 0, x.decide(5));
    }

    private static void over() {
        sentence("An ACT is OVER by a DONE or FAILED, a TIMER by a FIRED, once.");
        int[][] pairs = {{5, 5}, {5, 6}, {6, 5}, {6, 6}};
        for (int[] pair : pairs) {
            Desk x = Desk.decided("a=act 1,1;b=act 1,1;c=wait b;");
            due("first " + pair[0], true, x.happen(pair[0], 1, 0));
            due("then " + pair[1], false, x.happen(pair[1], 1, 0));
            due("another act", true, x.happen(pair[1], 2, 0));
            x.decide(1);
            due("not behind a decision either", false, x.happen(pair[1], 1, 0));
        }
        Desk x = Desk.decided("a=timer 1;b=timer 1;c=sig;");
        due("a timer", true, x.happen(7, 1, 0));
        due("a timer again", false, x.happen(7, 1, 0));
        due("another timer", true, x.happen(7, 2, 0));
        x = Desk.decided("a=act 1,1;b=timer 1;c=sig;");
        due("a timer by a DONE", false, x.happen(5, 2, 0));
        due("a timer by a FAILED", false, x.happen(6, 2, 0));
        due("an act by a FIRED", false, x.happen(7, 1, 0));
    }

    // How a program is run

    private static void registersAtFirst() {
        sentence("THE PROGRAM IS RUN over a HISTORY, REGISTERS 0 at first");
        String text = "a=a+1;b=b+1;c=c+1;d=d+1;e=e+1;f=f+1;g=g+1;h=h+1;@1[h=h+1;a=sig;]";
        Desk x = Desk.decided(text);
        due("at first", "1 1 1 1 1 1 1 2", x.registers());
        x.crash();
        x.decide(1);
        due("from the beginning", "1 1 1 1 1 1 1 2", x.registers());
        x.happen(8, 0, 9);
        x.program(text);
        x.decide(2);
        due("with a new program", "9 1 1 1 1 1 1 3", x.registers());
        x.clear();
        x.decide(3);
        due("over a new history", "1 1 1 1 1 1 1 2", x.registers());
    }

    private static void goesOnWhereItWaits() {
        sentence("in each it goes on where it waits (at first from its beginning) till it waits again, or has stopped");
        Desk x = Desk.with("a=1;?1[@b<2[c=sig;b=b+1;]|]d=act 1,c;e=wait d;stop e;");
        due("till the first wait", 0, x.decide(1));
        due("nothing has come", 0, x.decide(2));
        due("it waits there still", "1 0 0 0 0 0 0 0", x.registers());
        x.happen(8, 0, 7);
        due("till the same one again", 0, x.decide(3));
        due("a loop's turn", "1 1 7 0 0 0 0 0", x.registers());
        x.happen(8, 0, 8);
        due("till another", 1, x.decide(4));
        due("behind the loop", "1 2 8 6 0 0 0 0", x.registers());
        x.happen(5, 6, 3);
        due("till it has stopped", 1, x.decide(5));
        due("all events", "0 0 1, 0 0 2, 8 0 7, 0 0 3, 8 0 8, 0 0 4, 1 1 8, 5 6 3, 0 0 5, 4 0 3", x.events());
    }

    private static void seesWhatIsAhead() {
        sentence("it sees the others' EVENTS ahead of that BEGIN.");
        Desk x = Desk.with("a=act 1,1;b=ended a;c=sig;d=ended a;e=any a,a;f=sig;");
        x.happen(8, 0, 4);
        x.decide(1);
        due("a signal just ahead of it; the act is not over", "2 0 4 0 0 0 0 0", x.registers());
        x.happen(5, 2, 6);
        due("a DONE just ahead of it", 0, x.decide(2));
        due("it sees the DONE", "2 0 4 0 1 0 0 0", x.registers());
        x.happen(8, 0, 9);
        x.crash();
        due("run again, it sees no more than it did", 1, x.decide(3));
        due("what came later comes later", "2 0 4 0 1 9 0 0", x.registers());

        x = Desk.with("a=sig;b=sig;");
        x.decide(1);
        x.happen(8, 0, 5);
        x.decide(2);
        x.happen(8, 0, 6);
        x.crash();
        // If the second decision saw the signal behind it, it would stop there, and differ.
        due("run again, a signal is seen where it was seen", 1, x.decide(3));
    }

    private static void actAndTimer() {
        sentence("act, timer: a COMMAND; r becomes its EVENT's number.");
        Desk x = Desk.with("a=act 1,1;b=timer 1;c=act 1,1;d=sig;e=timer 1;f=sig;");
        due("commands", 3, x.decide(1));
        x.happen(8, 0, 0);
        due("a command behind others", 1, x.decide(2));
        due("numbers", "1 2 3 0 6 0 0 0", x.registers());
        x = Desk.with(EVENTS_199 + "c=timer 1;d=sig;");
        x.decide(1);
        due("the last of 200", 199, x.register(2));
    }

    private static void stop() {
        sentence("stop: a COMMAND; it has stopped then.");
        Desk x = Desk.with("stop 4;a=1;b=act 1,1;");
        due("one command", 1, x.decide(1));
        due("nothing behind it is done", "0 0 1, 4 0 4; 0 0 0 0 0 0 0 0; 2 1 1 1 1 0", x.seen());
        due("no decision more", "4 at -1", x.refusal());
        x = Desk.with("@1[?1[stop 1;|]a=1;]");
        due("within blocks", 1, x.decide(1));
        due("at once", 0, x.register(0));
    }

    private static void patchInANewDecision() {
        sentence("patch: if the DECISION is the last one and not RUN yet");
        Desk x = Desk.with("a=patch 0;b=patch 999999;c=patch 0;d=sig;");
        due("a command each", 3, x.decide(1));
        due("marks", "0 0 1, 3 0 0, 3 999999 0, 3 0 0", x.events());
        due("each is 1", "1 1 1 0 0 0 0 0", x.registers());
        x = Desk.decided("d=sig;");
        x.program("a=patch 1;d=sig;b=patch 1;e=sig;");
        x.happen(8, 0, 5);
        due("the last one was RUN, the next was not", 1, x.decide(2));
        due("0 in the one, 1 in the other", "0 1 0 5 0 0 0 0", x.registers());
    }

    private static void patchInAnOldDecision() {
        sentence("or a MARK with this NUMBER is the next COMMAND of it in the HISTORY: a COMMAND, r is 1; else r is 0, and none.");
        String marked = "a=patch 1;b=act 2,2;c=sig;";
        due("it is the next", "1 2 0 0 0 0 0 0", behindOld(marked, marked));
        due("another number's is the next", "0 1 2 0 0 0 0 0", behindOld(marked, "a=patch 2;b=patch 1;c=act 2,2;d=sig;"));
        due("the same was the next already", "1 0 2 0 0 0 0 0", behindOld(marked, "a=patch 1;b=patch 1;c=act 2,2;d=sig;"));
        String markedLater = "b=act 2,2;a=patch 1;c=sig;";
        due("behind another command it is the next", "1 1 0 0 0 0 0 0", behindOld(markedLater, markedLater));
        due("it comes later", "0 1 1 0 0 0 0 0", behindOld(markedLater, "a=patch 1;b=act 2,2;c=patch 1;d=sig;"));
        due("there is no command", "0 0 0 0 0 0 0 0", behindOld("c=sig;", "a=9;a=patch 1;c=sig;"));
        due("there is no command more", "0 1 0 0 0 0 0 0", behindOld("a=act 1,1;c=sig;", "b=act 1,1;a=9;a=patch 1;c=sig;"));
        due("two of one number", "1 1 0 0 0 0 0 0", behindOld("a=patch 1;a=patch 1;c=sig;", "a=patch 1;b=patch 1;d=9;d=patch 1;c=sig;"));

        Desk x = Desk.with("a=sig;b=patch 1;c=sig;");
        x.decide(1);
        x.happen(8, 0, 5);
        x.decide(2);
        x.program("d=patch 1;a=sig;b=patch 1;c=sig;");
        due("the next DECISION's is not its own", 0, x.decide(3));
        due("0, then 1", "5 1 0 0 0 0 0 0", x.registers());
        x = Desk.decided("a=patch 1;c=sig;");
        x.program("c=sig;");
        due("a mark that none wants", "2 at 1", x.refusal());
        x.program("a=patch 2;c=sig;");
        due("a mark that another number's patch does not want", "2 at 1", x.refusal());
    }

    private static void waits() {
        sentence("wait: waits till the EVENT that s tells is OVER: r is the VALUE of DONE (of FAILED -1, of FIRED 0);");
        int[] values = {0, 5, -1, -2, LEAST, MOST};
        for (int value : values) {
            Desk x = Desk.decided("a=act 1,1;b=9;b=wait a;");
            due("not over", 0, x.decide(1));
            due("r stays", 9, x.register(1));
            x.happen(5, 1, value);
            due("over", 1, x.decide(2));
            due("DONE", value, x.register(1));
        }
        Desk x = Desk.decided("a=act 1,1;b=timer 7;c=9;d=9;c=wait a;d=wait b;c=wait a;");
        x.happen(7, 2, 0);
        due("another one is over", 0, x.decide(1));
        x.happen(6, 1, 0);
        due("both are over", 1, x.decide(2));
        due("FAILED, FIRED", "1 2 -1 0 0 0 0 0", x.registers());
        x = Desk.decided("a=act 1,1;a=wait a;stop a;");
        x.happen(5, 1, 77);
        x.decide(1);
        due("r and s are one register", 77, x.register(0));
    }

    private static void waitsForNone() {
        sentence("at once, with -2, if s tells no ACT or TIMER (ahead of there).");
        // Event 0 is a signal, 1 the begin, 2 an act; 3 will be the place of the act behind the wait.
        String[] none = {"0", "1", "3", "4", "200", "999999", "-1", "32768*65536", "32768*65536-1"};
        for (String s : none) {
            Desk x = waitingFor(s);
            due("commands, s = " + s, 2, x.decide(1));
            due("r, s = " + s, -2, x.register(1));
            x.crash();
            due("run again, s = " + s, 0, x.decide(2));
            due("r again, s = " + s, -2, x.register(1));
        }
        Desk x = waitingFor("2");
        due("an act just ahead", 1, x.decide(1));
        due("it waits", 0, x.register(1));
    }

    private static Desk waitingFor(String s) {
        Desk x = Desk.with("h=sig;g=act 5,5;a=" + s + ";b=wait a;c=act 1,1;d=sig;");
        x.happen(8, 0, 9);
        return x;
    }

    private static void waitsForOtherEvents() {
        sentence("if s tells no ACT or TIMER (ahead of there).");
        Desk x = Desk.decided("a=act 1,1;b=timer 1;c=act 2,2;d=patch 1;d=sig;e=4;@e<12[f=wait e;g=g+(f<-1);e=e+1;]f=wait b;");
        x.happen(5, 1, 1);
        x.happen(6, 3, 0);
        x.happen(7, 2, 0);
        x.happen(8, 0, 1);
        // Told are the mark, the four of the others, the begin, and two that are not there yet.
        due("none of them is an ACT or TIMER", 1, x.decide(1));
        due("-2 each time", 8, x.register(6));
        due("the TIMER is one", 0, x.register(5));
    }

    private static void any() {
        sentence("any: till s or t is so; r is 1, if s is, else 2 (one that tells none is so).");
        // a is open, b has failed, c has fired, g was done, h tells none.
        String[] pairs = {"a,a", "a,b", "b,a", "b,c", "a,c", "c,a", "a,g", "g,a", "a,h", "h,a", "h,h", "b,h", "h,b"};
        int[] answers = {0, 2, 1, 1, 2, 1, 2, 1, 2, 1, 1, 1, 1};
        for (int i = 0; i < pairs.length; i++) {
            Desk x = Desk.decided("a=act 1,1;b=act 2,2;c=timer 3;g=act 4,4;d=sig;e=any " + pairs[i] + ";stop e;");
            x.happen(6, 2, 0);
            x.happen(7, 3, 0);
            x.happen(5, 4, 0);
            x.happen(8, 0, 1);
            due("commands, any " + pairs[i], answers[i] == 0 ? 0 : 1, x.decide(1));
            due("any " + pairs[i], answers[i], x.register(4));
        }
        Desk x = Desk.decided("a=act 1,1;b=timer 2;c=any a,b;stop c;");
        due("neither", 0, x.decide(1));
        x.happen(7, 2, 0);
        x.happen(5, 1, 0);
        due("both, the second one sooner", 1, x.decide(2));
        due("the first counts", 1, x.register(2));
        due("one that comes later tells none", "1 3 2 0 0 0 0 0",
                Desk.decided("a=act 1,1;b=3;c=any a,b;d=act 1,1;d=act 1,1;d=0;").registers());
    }

    private static void ended() {
        sentence("ended: 1 if it is so, else 0.");
        Desk x = Desk.with("a=act 1,1;b=timer 2;c=ended a;d=ended b;e=ended h;g=3;g=ended g;f=sig;c=ended a;d=ended b;f=sig;");
        due("it does not wait", 2, x.decide(0));
        due("open, open, none, none yet", "1 2 0 0 1 0 1 0", x.registers());
        x.happen(6, 1, 0);
        x.happen(8, 0, 4);
        x.decide(1);
        due("over, open", "1 2 1 0 1 4 1 0", x.registers());
        x.happen(7, 2, 0);
        x.crash();
        x.decide(2);
        due("run again it is as it was", "1 2 1 0 1 4 1 0", x.registers());
    }

    private static void sig() {
        sentence("sig: waits till there is a SIGNAL more than were taken; r is the VALUE of the first one.");
        Desk x = Desk.with("a=sig;b=sig;c=sig;d=sig;");
        due("none", 0, x.decide(1));
        x.happen(8, 0, LEAST);
        due("one", 0, x.decide(2));
        due("one is not enough for two", "-2147483648 0 0 0 0 0 0 0", x.registers());
        due("none more", 0, x.decide(3));
        x.happen(8, 0, 33);
        x.happen(8, 0, -22);
        due("two", 0, x.decide(4));
        due("in their order", "-2147483648 33 -22 0 0 0 0 0", x.registers());
        x.happen(8, 0, 1);
        x.happen(8, 0, 2);
        due("one more than is wanted", 1, x.decide(5));
        due("it is not taken", 4, x.total(5));
        due("the first one", 1, x.register(3));

        x = Desk.with("@1[a=sig;]");
        x.signals(199);
        due("as many as a history has room for", 0, x.decide(1));
        due("all are taken", 199, x.total(5));
        due("the last value", 198, x.register(0));
    }

    private static void now() {
        sentence("now: the time of the BEGIN.");
        Desk x = Desk.with("a=now;b=now;c=sig;d=now;e=sig;");
        x.decide(LEAST);
        x.happen(8, 0, 1);
        x.crash();
        x.decide(MOST);
        due("each BEGIN's own", "-2147483648 -2147483648 1 2147483647 0 0 0 0", x.registers());
        x = Desk.with("a=sig;b=now;");
        x.decide(5);
        x.happen(8, 0, 1);
        x.decide(-3);
        due("the BEGIN it goes on in, which may be less", -3, x.register(1));
    }

    private static void endOfTheProgram() {
        sentence("The end of the PROGRAM is as stop 0.");
        Desk x = Desk.with("");
        due("of no statements", 1, x.decide(5));
        due("its command", "0 0 5, 4 0 0", x.events());
        due("it has stopped", 1, x.total(3));
        due("no decision more", "4 at -1", x.refusal());
        x.program("stop 0;");
        due("it is the same as stop 0", "4 at -1", x.refusal());
        x.program("stop 1;");
        due("not as stop 1", "2 at 1", x.refusal());
        due("behind blocks", "0 0 0, 4 0 0", Desk.decided("?1[@0[]|]").events());
    }

    // Steps

    private static void mostSteps() {
        sentence("At most 1000 STEPS in a DECISION");
        for (String statement : EACH_A_STEP) {
            Desk x = Desk.with(STEPS_999 + statement);
            due("as the 1000th " + statement, "good", x.refusal());
            due("steps with " + statement, 1000, x.total(4));
            x.crash();
            due("run again with " + statement, false, x.refusal().startsWith("3"));
        }
    }

    private static void moreSteps() {
        sentence("More: it is STUCK.");
        for (String statement : EACH_A_STEP) {
            Desk x = Desk.with(STEPS_999 + "c=1;" + statement);
            due("as the 1001st " + statement, "3 at -1", x.refusal());
            due("nothing is added for " + statement, 0, x.total(0));
        }
        due("for ever", "3 at -1", Desk.with("@1[]").refusal());
        due("for ever, with a command that has room", "3 at -1", Desk.with("a=act 1,1;@1[b=b+1;]").refusal());
    }

    private static void stepsOfOneDecision() {
        sentence("1000 STEPS in a DECISION");
        Desk x = Desk.with("@1[a=sig;@b<400[b=b+1;]b=0;]");
        due("till the first wait", 0, x.decide(1));
        due("steps till there", 2, x.total(4));
        for (int i = 0; i < 3; i++) {
            x.happen(8, 0, i);
            due("it is not stuck", 0, x.decide(i));
            due("each decision has its own", 805, x.total(4));
        }
        x.crash();
        due("from the beginning each has its own, too", 0, x.decide(9));
        due("looked at, and no more", 1, x.total(4));
        x.happen(8, 0, 1);
        x.happen(8, 0, 1);
        due("twice as much in one", "3 at -1", x.refusal());
        due("the steps are those of the latest good one", 1, x.total(4));
    }

    private static void whatIsAStep() {
        sentence("each STATEMENT but @, each time that X of @ is worked out, is one");
        due("one statement", 1, steps("a=1;"));
        due("each sort", 10, steps("a=1;b=act 1,1;c=timer 1;d=wait h;e=any h,h;f=ended h;f=now;f=patch 1;?0[|]stop 1;"));
        due("? and the first ones", 2, steps("?1[a=1;|a=2;b=2;]"));
        due("? and the second ones", 3, steps("?0[a=1;|a=2;b=2;]"));
        due("@ that is not gone through", 1, steps("@0[a=1;]"));
        due("@ three times, and once more", 7, steps("@a<3[a=a+1;]"));
        due("@ that is empty", 4, steps("a=1;@a<0[]b=1;@b<1[]"));
        due("@ within @", 3 + 2 * (1 + 3 + 2 + 1), steps("@a<2[c=0;@c<2[c=c+1;]a=a+1;]"));
    }

    private static void stepsOfWaiting() {
        sentence("(wait, any and sig each time that they are looked at; the end of the PROGRAM is none).");
        String[] waits = {"b=wait a;", "b=any a,a;", "b=sig;"};
        for (String wait : waits) {
            Desk x = Desk.decided("a=act 1,1;" + wait);
            due("it waits at " + wait, 2, x.total(4));
            x.decide(1);
            due("it looks again at " + wait, 1, x.total(4));
            x.happen(5, 1, 5);
            x.happen(8, 0, 6);
            x.decide(2);
            due("it goes on from " + wait, 1, x.total(4));
        }
        due("wait at once", 1, steps("a=wait h;"));
        due("any at once", 1, steps("a=any h,h;"));
        due("the end alone", 0, steps(""));
        due("the end behind 1000", 1000, steps(STEPS_999 + "b=1;"));
    }

    // DIFFERS

    private static void differs() {
        sentence("It DIFFERS, if in a DECISION that was RUN the COMMANDS are not those in the HISTORY");
        Desk x = oldHistory();
        x.program("h=act 1,1;g=1+1;g=timer g;f=patch 3;f=patch 3;e=wait h;d=act 4,4;c=wait d;stop 8;");
        due("other statements with the same commands", 0, x.decide(3));
        due("registers of the new one", "0 0 0 7 5 0 2 1", x.registers());
        x.program("a=act 1,1;b=timer 2;c=patch 3;d=wait a;e=act 4,4;f=wait b;");
        x.happen(7, 2, 0);
        due("what it wants in a new DECISION is free", 1, x.decide(4));
    }

    private static void differsAtAnotherOne() {
        sentence("at the EVENT that is another one");
        Desk x = oldHistory();
        differsAt(x, 1, "a=timer 1;", "a=act 2,1;", "a=act 1,2;", "stop 1;", "");
        differsAt(x, 2, "a=act 1,1;b=timer 3;", "a=act 1,1;b=act 0,2;", "a=act 1,1;");
        differsAt(x, 3, "a=act 1,1;b=timer 2;c=act 3,0;", "a=act 1,1;b=timer 2;stop 0;", "a=act 1,1;b=timer 2;c=patch 4;d=patch 5;");
        differsAt(x, 7, "a=act 1,1;b=timer 2;c=patch 3;d=wait a;e=act 4,5;", "a=act 1,1;b=timer 2;c=patch 3;d=wait a;",
                "a=act 1,1;b=timer 2;c=patch 3;d=wait a;e=act 4,d;");
        x = Desk.decided("stop 7;");
        differsAt(x, 1, "stop 8;", "", "a=timer 7;");
    }

    private static void differsAtOneTooMany() {
        sentence("or is one too many in the HISTORY (the first that it does not want)");
        Desk x = oldHistory();
        differsAt(x, 1, "a=sig;", "a=patch 1;a=sig;");
        differsAt(x, 2, "a=act 1,1;b=wait a;");
        differsAt(x, 3, "a=act 1,1;b=timer 2;d=wait a;", "a=act 1,1;b=timer 2;c=patch 4;d=wait a;");
        differsAt(x, 7, "a=act 1,1;b=timer 2;c=patch 3;d=wait b;");
        x = Desk.decided("stop 0;");
        differsAt(x, 1, "a=sig;");
        x = Desk.with(EVENTS_199 + "b=act 1,1;c=sig;");
        x.decide(1);
        differsAt(x, 199, EVENTS_199 + "c=sig;");
    }

    private static void differsAtOneTooFew() {
        sentence("or would be the place of one too few (the EVENT behind the DECISION's last one).");
        Desk x = oldHistory();
        differsAt(x, 4, "a=act 1,1;b=timer 2;c=patch 3;", "a=act 1,1;b=timer 2;c=patch 3;d=timer 1;", "a=act 1,1;b=timer 2;c=patch 3;stop 1;");
        differsAt(x, 8, "a=act 1,1;b=timer 2;c=patch 3;d=wait a;e=act 4,4;", "a=act 1,1;b=timer 2;c=patch 3;d=wait a;e=act 4,4;e=act 4,4;");
        x = Desk.decided("a=sig;");
        differsAt(x, 1, "", "a=act 1,1;");
        x = Desk.decided("a=sig;");
        x.decide(1);
        differsAt(x, 1, "", "b=timer 1;a=sig;");
        x = Desk.with(EVENTS_199 + "b=act 1,1;c=sig;");
        x.decide(1);
        differsAt(x, 200, EVENTS_199 + "b=act 1,1;", EVENTS_199 + "b=act 1,1;c=timer 1;");
    }

    /** Events 1 to 3 and 7 are the commands: 0 0 1, 1 1 1, 2 0 2, 3 3 0, 8 0 1, 5 1 5, 0 0 2, 1 4 4. */
    private static Desk oldHistory() {
        Desk x = Desk.with("a=act 1,1;b=timer 2;c=patch 3;d=wait a;e=act 4,4;f=wait e;stop 7;");
        x.decide(1);
        x.happen(8, 0, 1);
        x.happen(5, 1, 5);
        x.decide(2);
        return x;
    }

    private static void differsAt(Desk x, int place, String... texts) {
        for (String text : texts) {
            x.program(text);
            due("refused for " + text, "2 at " + place, x.refusal());
        }
    }

    // Helpers

    /** The registers of a second program behind a decision of its own, the first decision being the first program's. */
    private static String behindOld(String first, String second) {
        Desk x = Desk.decided(first);
        x.program(second);
        x.decide(0);
        return x.registers();
    }

    private static long steps(String text) {
        return Desk.decided(text).total(4);
    }
}
