import java.util.function.Consumer;
import java.util.function.Supplier;

/** The first section and the promises, from the first to the last; each sentence with ordinary inputs, the edges that it names, and wrong inputs. */
public final class PromiseTest extends Sentences {
    public static void main(String[] args) {
        goOnFromHistoriesAlone();
        eachDecisionAdds();
        doneAgain();
        marks();
        lastCall();
        newObject();
        objectsApart();
        lowestBytes();
        refusedBytes();
        refusedNumberOfBytes();
        fullTape();
        programTakesTheTape();
        programCounts();
        historyStays();
        programWithAFault();
        latestFault();
        decision();
        decisionAddsToTheHistory();
        noProgramFirst();
        differsOrStuckBeforeStopped();
        differsOrStuckWhatComesFirst();
        stoppedBeforeNoRoom();
        stuckOrNoRoomWhatComesFirst();
        refusedDecisionLeavesNoTrace();
        refused();
        differs();
        happenings();
        refusedKinds();
        refusedRefs();
        refusedValues();
        refsThatAreOver();
        noRoomForOthers();
        refusedHappeningLeavesNoTrace();
        crash();
        nothingSeenChanges();
        clear();
        events();
        noSuchEvents();
        registers();
        noSuchRegisters();
        totalsOfTheHistory();
        totalOfStops();
        totalOfSteps();
        totalOfSignals();
        totalsAsTold();
        otherTotals();
        finish();
    }

    // What it is, and promise 1

    private static void goOnFromHistoriesAlone() {
        sentence("Programs that wait for what others do, and go on from their histories alone");
        String text = "@1[a=act 1,c;b=timer 9;d=any a,b;?d<2[e=wait a;|e=-7;]f=sig;g=now;?f[c=c+e*g;|stop c;]]";
        Desk straight = Desk.with(text);
        Desk forgetful = Desk.with(text);
        int[][] others = {{8, 0, 1}, {5, 2, 3}, {7, 7, 0}, {8, 0, 2}, {6, 12, 0}, {8, 0, 0}};
        for (int[] other : others) {
            due("straight on, " + other[0], true, straight.happen(other[0], other[1], other[2]));
            due("forgetful, " + other[0], true, forgetful.happen(other[0], other[1], other[2]));
            forgetful.crash();
            due("as many commands", straight.decide(other[0]), forgetful.decide(other[0]));
            due("all that is seen", straight.seen(), forgetful.seen());
        }
        due("both have stopped", "4 at -1, 4 at -1", straight.refusal() + ", " + forgetful.refusal());
    }

    private static void eachDecisionAdds() {
        sentence("each decision adds what the program wants;");
        Desk x = Desk.with("a=act 4,6;b=wait a;c=timer b;d=patch 3;e=wait c;stop 8;");
        due("an act", 1, x.decide(1));
        due("still waiting", 0, x.decide(2));
        x.happen(5, 1, 70);
        due("a timer and a mark", 2, x.decide(3));
        x.happen(7, 5, 0);
        due("a stop", 1, x.decide(4));
        due("all of it", "0 0 1, 1 4 6, 0 0 2, 5 1 70, 0 0 3, 2 0 70, 3 3 0, 7 5 0, 0 0 4, 4 0 8", x.events());
    }

    private static void doneAgain() {
        sentence("done again from the beginning it must want the same, or it is told where it doesn't;");
        Desk x = Desk.decided("a=act 1,1;b=act 2,2;c=wait a;d=act 3,3;e=wait d;");
        x.happen(5, 1, 5);
        x.decide(1);
        x.program("b=act 1,1;d=act 2,2;a=wait b;f=act 3,a-2;e=wait f;");
        due("the same in other words", "good", x.refusal());
        x.program("a=act 1,1;b=act 2,3;c=wait a;d=act 3,3;e=wait d;");
        due("another in the first decision", "2 at 2", x.refusal());
        x.program("a=act 1,1;b=act 2,2;c=wait a;d=act 3,c;e=wait d;");
        due("another in the second decision", "2 at 5", x.refusal());
        x.program("a=act 1,1;c=wait a;d=act 3,3;e=wait d;");
        due("one less", "2 at 2", x.refusal());
        x.program("a=act 1,1;b=act 2,2;c=wait a;d=act 3,3;d=act 3,3;e=wait d;");
        due("one more", "2 at 6", x.refusal());
    }

    private static void marks() {
        sentence("marks let new programs go new ways on old histories.");
        String patched = "c=patch 9;?c[a=act 2,5;|a=act 1,5;]b=wait a;?c[|d=patch 8;]stop b+d;";
        Desk x = Desk.decided("a=act 1,5;b=wait a;stop b;");
        x.program("a=act 2,5;b=wait a;stop b;");
        due("no mark", "2 at 1", x.refusal());
        x.program(patched);
        due("the old way", 0, x.decide(1));
        x.happen(5, 1, 7);
        due("the new way from here", 2, x.decide(2));
        due("the old history", "0 0 0, 1 1 5, 0 0 1, 5 1 7, 0 0 2, 3 8 0, 4 0 8", x.events());
        x.clear();
        due("the new way from the beginning", 2, x.decide(3));
        due("the new history", "0 0 3, 3 9 0, 1 2 5", x.events());
        x.crash();
        due("the new way again", 0, x.decide(4));
        x.program("a=act 1,5;b=wait a;stop b;");
        due("the old program knows no mark", "2 at 1", x.refusal());
    }

    private static void lastCall() {
        sentence("An object is used for at most 512 calls after it has been made");
        Desk x = Desk.with("@1[a=sig;b=b+a;]");
        for (int i = 0; i < 100; i++) {
            x.happen(8, 0, i);
            x.crash();
            x.decide(i);
        }
        due("200 events", 200, x.total(0));
        while (x.calls() < Desk.MOST_CALLS - 3) {
            x.crash();
        }
        due("the 510th call", THROWS, x.decide(0));
        due("the 511th call", 5, x.refused());
        due("the 512th call", 4950, x.register(1));
        due("all calls were made", Desk.MOST_CALLS, x.calls());
    }

    private static void newObject() {
        sentence("No PROGRAM, no EVENTS.");
        Desk x = new Desk();
        due("totals", "0 0 0 0 0 0", x.totals());
        due("registers", "0 0 0 0 0 0 0 0", x.registers());
        due("no fault", NONE, x.fault());
        due("nothing was refused", 0, x.refused());
        due("nothing differs", NONE, x.differs());
        due("no event", THROWS, x.event(0, 0));
        due("no act that could be done", false, x.happen(5, 0, 0));
        due("no program", "1 at -1", x.refusal());
        due("nothing on the tape", 0, x.program());
    }

    private static void objectsApart() {
        sentence("No PROGRAM, no EVENTS.");
        Desk x = Desk.decided("a=act 1,1;b=wait a;");
        x.write("stop");
        Desk y = new Desk();
        due("a second object", "; 0 0 0 0 0 0 0 0; 0 0 0 0 0 0", y.seen());
        due("its program", "1 at -1", y.refusal());
        due("its tape", 0, y.program());
        due("the first one's act", true, x.happen(5, 1, 4));
        due("the first one's tape", 1, x.program(" 1;"));
    }

    // Promise 2

    private static void lowestBytes() {
        sentence("The n (1 .. 8) lowest bytes of word, the highest first, go to the TAPE: true;");
        String text = "a=12345;";
        long word = 0x613d31323334353bL;
        for (int n = 1; n <= 8; n++) {
            Desk x = new Desk();
            x.write(text.substring(0, 8 - n));
            due("the lowest " + n, true, x.type(word, n));
            due("the program of the lowest " + n, 1, x.program());
            x.decide(0);
            due("the value of the lowest " + n, 12345, x.register(0));
        }
        Desk x = new Desk();
        due("bytes above the lowest are free", true, x.type(0xff000a7f613d313bL, 4));
        due("they are not on the tape", 1, x.program());
        due("a word below 0", true, x.type(0x80613d313b2020L | 1L << 63, 6));
        due("it is the same", 1, x.program());
        due("the least and the most byte", true, x.type(0x207e, 2));
        due("126 is there", 1, x.faultOf(""));
    }

    private static void refusedBytes() {
        sentence("false, changing nothing, for another n, a byte that is not 32 .. 126");
        for (int n = 1; n <= 8; n++) {
            for (int at = 0; at < n; at++) {
                Desk x = new Desk();
                x.write("a=1");
                for (int bad : new int[] {0, 31, 127, 128, 255}) {
                    long word = 0x3b3b3b3b3b3b3b3bL & ~(255L << 8 * at) | (long) bad << 8 * at;
                    due("byte " + bad + " at " + at + " of " + n, false, x.type(word, n));
                }
                due("the tape is as it was", 1, x.program(";"));
            }
        }
    }

    private static void refusedNumberOfBytes() {
        sentence("false, changing nothing, for another n");
        Desk x = new Desk();
        x.write("a=1");
        for (int n : new int[] {0, 9, -1, 16, 64, 257, -8, LEAST, MOST}) {
            due("n " + n, false, x.type(0x3b3b3b3b3b3b3b3bL, n));
        }
        due("the tape is as it was", 1, x.program(";"));
    }

    private static void fullTape() {
        sentence("or if it would have more than 400.");
        for (int n = 1; n <= 8; n++) {
            Desk x = new Desk();
            x.write("a=1;" + " ".repeat(397 - n));
            due("one too many with " + n, false, x.type(0x3b3b3b3b3b3b3b3bL, n));
            due("the tape is as it was", 1, x.program());
            x.write("a=1;" + " ".repeat(396 - n));
            due("just enough with " + n, true, x.type(0x2020202020202020L, n));
            due("one more", false, x.type(' ', 1));
            due("400 characters", 1, x.program());
            due("room again", true, x.type(' ', 1));
        }
    }

    // Promises 3 and 4

    private static void programTakesTheTape() {
        sentence("The TAPE (which is empty then in any case) becomes the PROGRAM");
        Desk x = new Desk();
        x.write("stop 5;");
        due("a good one", 1, x.program());
        due("the tape is empty", 0, x.program());
        x.decide(0);
        due("the latest is the program", "0 0 0, 4 0 0", x.events());
        x.write("stop 5; stop");
        due("a fault", THROWS, x.program());
        due("the tape is empty, too", 0, x.program());
        x.write(" ".repeat(400));
        x.program();
        due("room for 400 behind a good one", NONE, x.faultOf(" ".repeat(400)));
        due("a fault of 400", 0, x.faultOf("]".repeat(400)));
        due("room for 400 behind a fault", NONE, x.faultOf(" ".repeat(400)));
    }

    private static void programCounts() {
        sentence("how many STATEMENTS.");
        due("none", 0, new Desk().program(""));
        due("one", 1, new Desk().program("a=1;"));
        due("each sort", 12, new Desk().program("a=1;b=act 1,2;c=timer 3;d=wait b;e=any b,c;f=ended b;g=sig;h=now;a=patch 1;?a[|]@0[]stop 1;"));
        due("within blocks", 7, new Desk().program("?1[a=1;b=1;|c=1;@0[d=1;]]stop 0;"));
        due("a tape full of statements", 100, new Desk().program("a=1;".repeat(100)));
        due("a tape full of loops", 100, new Desk().program("@0[]".repeat(100)));
        due("a tape full of choices", 80, new Desk().program("?1[|]".repeat(80)));
        due("a loop's steps", 100, Desk.decided("@0[]".repeat(100)).total(4));
        due("a choice's steps", 80, Desk.decided("?1[|]".repeat(80)).total(4));
    }

    private static void historyStays() {
        sentence("(the HISTORY stays)");
        Desk x = Desk.decided("a=act 1,1;b=wait a;");
        x.happen(8, 0, 5);
        String seen = x.seen();
        x.program("c=act 1,1;d=wait c;stop 3;");
        due("all that is seen stays", seen, x.seen());
        due("the act stays open", true, x.happen(5, 1, 9));
        due("the new program goes on", 1, x.decide(2));
        due("with its own registers", "0 0 1 9 0 0 0 0", x.registers());
    }

    private static void programWithAFault() {
        sentence("IllegalArgumentException: it has a FAULT (all stays as it is).");
        Supplier<Desk> made = () -> Desk.decided("a=act 1,1;b=wait a;c=sig;stop b+c;");
        Consumer<Desk> after = x -> {
            x.happen(5, 1, 7);
            x.happen(8, 0, 8);
            x.decide(1);
        };
        for (String text : new String[] {"a", "#", "stop 9;;", "a=act 2,2;@1[", "a=timer 1;".repeat(39) + "a=1"}) {
            leavesNoTrace("a fault: " + text, made, x -> {
                x.write(text);
                due(text, THROWS, x.program());
            }, after);
        }
        Desk x = new Desk();
        due("a fault ahead of any program", 1, x.faultOf("a"));
        due("there is none still", "1 at -1", x.refusal());
    }

    private static void latestFault() {
        sentence("The place of the FAULT of the latest program(); NONE if it was good, or there was none.");
        Desk x = new Desk();
        due("there was none", NONE, x.fault());
        x.write("a=;");
        due("typing is no program()", NONE, x.fault());
        x.program();
        due("a fault", 2, x.fault());
        x.write("stop 1;");
        x.decide(0);
        x.happen(8, 0, 1);
        x.crash();
        x.clear();
        due("it stays till the next program()", 2, x.fault());
        x.program();
        due("a good one", NONE, x.fault());
        due("the least place", 0, x.faultOf("]"));
        due("the most", 400, x.faultOf("a" + " ".repeat(399)));
        due("another place", 1, x.faultOf("a"));
    }

    // Promise 5

    private static void decision() {
        sentence("A DECISION: a BEGIN at a time, and the COMMANDS that the PROGRAM, RUN over the HISTORY with it, adds: how many.");
        for (int time : new int[] {0, 1, -1, LEAST, MOST}) {
            Desk x = Desk.with("a=sig;");
            due("none", 0, x.decide(time));
            due("the BEGIN alone", "0 0 " + time, x.events());
        }
        Desk x = Desk.with("a=act 9,1;b=timer 2;c=patch 3;d=wait a;stop d;");
        due("three", 3, x.decide(1));
        x.happen(5, 1, 4);
        due("one", 1, x.decide(2));
        due("all events", "0 0 1, 1 9 1, 2 0 2, 3 3 0, 5 1 4, 0 0 2, 4 0 4", x.events());
        due("the most", 199, Desk.with("@a<199[b=act 1,a;a=a+1;]c=sig;").decide(1));
    }

    private static void decisionAddsToTheHistory() {
        sentence("RUN over the HISTORY with it, adds: how many.");
        Desk x = Desk.with("a=sig;b=act 1,a;c=sig;");
        x.happen(8, 0, 3);
        due("over a history without a decision", 1, x.decide(1));
        due("behind its events", "8 0 3, 0 0 1, 1 1 3", x.events());
        x = Desk.with("a=sig;");
        for (int i = 0; i < 200; i++) {
            due("decision " + i, 0, x.decide(i));
        }
        due("200 decisions", 200, x.total(2));
        due("the 201st", "5 at -1", x.refusal());
    }

    private static void noProgramFirst() {
        sentence("the first of these: there is no PROGRAM;");
        Desk x = new Desk();
        due("a new object", "1 at -1", x.refusal());
        x.signals(200);
        due("no room either", "1 at -1", x.refusal());
        x.clear();
        x.crash();
        due("an empty history", "1 at -1", x.refusal());
        x.program("");
        due("an empty program is one", "good", x.refusal());
    }

    private static void differsOrStuckBeforeStopped() {
        sentence("it DIFFERS, or is STUCK, in what was RUN (what comes first); it had stopped;");
        Desk x = Desk.decided("a=act 1,1;stop 2;");
        due("it had stopped", "4 at -1", x.refusal());
        x.program("a=act 1,1;stop 3;");
        due("it had, but it DIFFERS", "2 at 2", x.refusal());
        x.program("a=act 1,1;@1[]");
        due("it had, but it is STUCK", "3 at -1", x.refusal());
        x.program("b=act 1,1;stop 1+1;");
        due("another program with the same commands had stopped", "4 at -1", x.refusal());
        x.crash();
        due("behind a crash it had, too", "4 at -1", x.refusal());
        x.happen(5, 1, 1);
        due("whatever comes", "4 at -1", x.refusal());
    }

    private static void differsOrStuckWhatComesFirst() {
        sentence("it DIFFERS, or is STUCK, in what was RUN (what comes first)");
        Desk x = Desk.decided("a=act 1,1;b=sig;c=act 2,2;d=sig;");
        x.happen(8, 0, 1);
        x.decide(1);
        String[] texts = {"a=act 2,1;@1[]", "@1[]a=act 2,1;", "a=act 1,1;@1[]", "a=act 1,1;a=act 1,1;@1[]", "a=act 1,1;b=sig;@1[]",
            "a=act 1,1;b=sig;c=act 3,3;@1[]", "a=act 1,1;c=timer 1;b=sig;@1[]", "@a<499[a=a+1;]b=1;a=act 2,2;", "@a<499[a=a+1;]a=act 2,2;",
            "@a<499[a=a+1;]a=act 1,1;", "@a<499[a=a+1;]b=sig;", "@a<499[a=a+1;]b=1;b=sig;", "@a<499[a=a+1;]b=1;"};
        String[] refusals = {"2 at 1", "3 at -1", "3 at -1", "2 at 2", "3 at -1",
            "2 at 4", "2 at 2", "3 at -1", "2 at 1",
            "2 at 2", "2 at 1", "3 at -1", "2 at 1"};
        for (int i = 0; i < texts.length; i++) {
            x.program(texts[i]);
            due(texts[i], refusals[i], x.refusal());
        }
        x.program("a=act 1,1;b=sig;c=act 2,2;@b[d=sig;b=d;@d<0[]]");
        x.happen(8, 0, -1);
        due("in what was RUN it is not, in this DECISION it is", "3 at -1", x.refusal());
    }

    private static void stoppedBeforeNoRoom() {
        sentence("it had stopped; in this DECISION it is STUCK, or the HISTORY would have more than 200 EVENTS");
        Desk x = Desk.with("@a<198[b=act 1,a;a=a+1;]");
        due("a stop is the 200th", 199, x.decide(1));
        due("it had stopped, and there is no room", "4 at -1", x.refusal());
        x = Desk.with("a=act 1,1;b=sig;");
        x.decide(1);
        x.signals(198);
        x.program("a=act 2,1;b=sig;");
        due("it DIFFERS, and there is no room", "2 at 1", x.refusal());
        x.program("a=act 1,1;@1[]");
        due("it is STUCK in what was RUN, and there is no room", "3 at -1", x.refusal());
        x.program("a=act 1,1;b=sig;@1[]");
        due("there is no room for the BEGIN in which it would be STUCK", "5 at -1", x.refusal());
    }

    private static void stuckOrNoRoomWhatComesFirst() {
        sentence("in this DECISION it is STUCK, or the HISTORY would have more than 200 EVENTS (what comes first).");
        String[] texts = {"@1[]", "@1[a=act 1,1;]", "@1[a=patch 1;]", "@a<199[b=act 1,a;a=a+1;]@1[]", "@a<200[b=act 1,a;a=a+1;]@1[]",
            "@a<199[b=act 1,a;a=a+1;]", "@a<199[b=act 1,a;a=a+1;]stop 1;", "@a<199[b=act 1,a;a=a+1;]c=timer 1;",
            // The 200th act would be the 201st event: as the 1000th step there is no room for it, the 1001st is not taken.
            "@a<299[a=a+1;]c=1;@1[b=act 1,1;]", "@a<300[a=a+1;]@1[b=act 1,1;]"};
        String[] refusals = {"3 at -1", "5 at -1", "5 at -1", "3 at -1", "5 at -1",
            "5 at -1", "5 at -1", "5 at -1",
            "5 at -1", "3 at -1"};
        for (int i = 0; i < texts.length; i++) {
            due(texts[i], refusals[i], Desk.with(texts[i]).refusal());
        }
        Desk x = Desk.with("a=sig;");
        x.signals(200);
        due("a BEGIN as the 201st", "5 at -1", x.refusal());
        x = Desk.with("a=sig;b=b+1;stop 1;");
        x.signals(199);
        due("a BEGIN as the 200th, a command as the 201st", "5 at -1", x.refusal());
        x.program("@1[a=sig;]");
        due("a BEGIN as the 200th", "good", x.refusal());
    }

    private static void refusedDecisionLeavesNoTrace() {
        sentence("IllegalStateException, changing nothing");
        Consumer<Desk> refused = x -> due("it is refused", THROWS, x.decide(0));
        leavesNoTrace("no program", () -> {
            Desk x = new Desk();
            x.signals(2);
            x.write("a=si");
            return x;
        }, refused, x -> {
            x.program("g;b=sig;");
            x.decide(1);
        });
        String text = "a=act 1,1;b=wait a;c=timer b;d=wait c;";
        Consumer<Desk> goOn = x -> {
            x.program(text);
            x.happen(5, 1, 6);
            x.decide(1);
        };
        for (String other : new String[] {"a=timer 1;", "a=act 1,1;", "@1[]", "a=act 1,1;h=1;@1[]"}) {
            leavesNoTrace(other, () -> {
                Desk x = Desk.decided(text);
                x.program(other);
                return x;
            }, refused, goOn);
        }
        leavesNoTrace("stopped", () -> Desk.decided("a=act 1,1;stop a;"), refused, x -> x.happen(6, 1, 0));
        // For a time of 0 it is stuck behind a command, or finds no room; for another it is good.
        String[] forTimes = {"a=sig;b=act 1,1;c=patch 1;d=now;@d<1[e=e+1;]f=sig;", "a=sig;d=now;@d<1[e=act 1,e;]f=sig;"};
        for (String forTime : forTimes) {
            leavesNoTrace(forTime, () -> {
                Desk x = Desk.decided(forTime);
                x.signals(2);
                return x;
            }, refused, x -> x.decide(1));
            Desk x = Desk.decided(forTime);
            x.happen(8, 0, 1);
            x.decide(0);
            due("the act was not added", false, x.happen(5, 3, 0));
            due("it takes place again", false, x.decide(1) == THROWS);
        }
    }

    // Promises 6 and 7

    private static void refused() {
        sentence("What the latest decide() was refused for: 0 it was not, 1 no PROGRAM, 2 it DIFFERS, 3 STUCK, 4 stopped, 5 no room.");
        Desk x = new Desk();
        due("there was none", 0, x.refused());
        due("no PROGRAM", "1 at -1", x.refusal());
        x.program("a=act 1,1;b=wait a;");
        due("it stays for a new program", 1, x.refused());
        x.decide(0);
        due("it was not", 0, x.refused());
        x.program("a=act 2,1;");
        due("it DIFFERS", "2 at 1", x.refusal());
        x.program("@1[]");
        due("STUCK", "3 at -1", x.refusal());
        x.clear();
        due("it stays behind clear()", 3, x.refused());
        due("STUCK in the new one", "3 at -1", x.refusal());
        x.program("");
        x.decide(0);
        due("stopped", "4 at -1", x.refusal());
        x.crash();
        due("it stays behind crash()", 4, x.refused());
        x.clear();
        x.program("@1[a=act 1,1;]");
        due("no room", "5 at -1", x.refusal());
        x.program("");
        due("good again", "good", x.refusal());
        due("it was not, again", 0, x.refused());
    }

    private static void differs() {
        sentence("The EVENT where it DIFFERS, of the latest decide() (NONE if it was not refused for that).");
        Desk x = new Desk();
        due("there was none", NONE, x.differs());
        due("no PROGRAM", "1 at -1", x.refusal());
        String text = "a=act 1,1;b=timer 2;c=wait a;";
        String another = "a=act 1,1;b=timer 3;c=wait a;";
        x.program(text);
        x.decide(0);
        x.program(another);
        due("it DIFFERS", "2 at 2", x.refusal());
        x.program("a=timer 1;");
        due("it stays till the next decide()", 2, x.differs());
        due("elsewhere", "2 at 1", x.refusal());
        x.crash();
        x.happen(5, 1, 1);
        x.clear();
        due("it stays behind the other calls", 1, x.differs());
        x.program(text);
        x.decide(0);
        due("it was not refused", NONE, x.differs());
        String[] texts = {"@1[]", "a=act 1,1;b=timer 2;@1[]"};
        for (String stuck : texts) {
            x.program(another);
            due("it DIFFERS again", "2 at 2", x.refusal());
            x.program(stuck);
            due("it was refused for STUCK", "3 at -1", x.refusal());
        }
    }

    // Promise 8

    private static void happenings() {
        sentence("An EVENT of the others: kind 5 to 8, with its REF and VALUE (of 6 and 7 VALUE 0, of 8 REF 0): true;");
        Desk x = new Desk();
        due("a SIGNAL without a program", true, x.happen(8, 0, MOST));
        x.program("a=act 1,1;b=timer 1;c=act 1,1;d=act 1,1;e=sig;f=sig;");
        x.decide(0);
        due("DONE", true, x.happen(5, 2, LEAST));
        due("FAILED", true, x.happen(6, 4, 0));
        due("FIRED", true, x.happen(7, 3, 0));
        due("DONE with 0", true, x.happen(5, 5, 0));
        due("SIGNAL", true, x.happen(8, 0, LEAST));
        due("events", "8 0 2147483647, 0 0 0, 1 1 1, 2 0 1, 1 1 1, 1 1 1, 5 2 -2147483648, 6 4 0, 7 3 0, 5 5 0, 8 0 -2147483648", x.events());
        x.decide(0);
        due("behind the stop", true, x.happen(8, 0, 1));
    }

    private static void refusedKinds() {
        sentence("false, changing nothing, for another kind");
        Desk x = Desk.decided("a=act 1,1;b=timer 1;c=wait a;");
        for (int kind : new int[] {0, 1, 2, 3, 4, 9, 10, -1, -8, 256 + 8, LEAST, MOST}) {
            for (int ref = 0; ref <= 2; ref++) {
                due("kind " + kind + " of " + ref, false, x.happen(kind, ref, 0));
            }
        }
        due("nothing has changed", "0 0 0, 1 1 1, 2 0 1", x.events());
    }

    private static void refusedRefs() {
        sentence("false, changing nothing, for another kind, REF or VALUE");
        Desk x = Desk.decided("a=act 1,1;b=timer 1;c=patch 1;c=act 1,1;d=wait c;");
        x.happen(8, 0, 1);
        x.happen(5, 4, 1);
        x.decide(0);
        // The events: BEGIN, ACT, TIMER, MARK, ACT that is OVER, SIGNAL, DONE, BEGIN, STOP, and none more.
        for (int ref : new int[] {-1, 0, 1, 2, 3, 4, 5, 6, 7, 8, 9, 199, 200, 256 + 1, LEAST, MOST}) {
            if (ref != 1) {
                due("DONE of " + ref, false, x.happen(5, ref, 0));
                due("FAILED of " + ref, false, x.happen(6, ref, 0));
            }
            if (ref != 2) {
                due("FIRED of " + ref, false, x.happen(7, ref, 0));
            }
            if (ref != 0) {
                due("SIGNAL with REF " + ref, false, x.happen(8, ref, 0));
            }
        }
        due("nothing has changed", 9, x.total(0));
        due("the ACT is open still", true, x.happen(6, 1, 0));
        due("the TIMER, too", true, x.happen(7, 2, 0));
    }

    private static void refusedValues() {
        sentence("(of 6 and 7 VALUE 0, of 8 REF 0): true; false, changing nothing, for another kind, REF or VALUE");
        Desk x = Desk.decided("a=act 1,1;b=timer 1;c=wait a;");
        for (int value : new int[] {1, -1, LEAST, MOST}) {
            due("FAILED with " + value, false, x.happen(6, 1, value));
            due("FIRED with " + value, false, x.happen(7, 2, value));
        }
        due("FAILED with 0", true, x.happen(6, 1, 0));
        due("FIRED with 0", true, x.happen(7, 2, 0));
    }

    private static void refsThatAreOver() {
        sentence("a REF that is OVER");
        Desk x = Desk.decided("a=act 1,1;b=act 1,1;c=timer 1;d=wait a;");
        x.happen(5, 1, 5);
        x.happen(6, 2, 0);
        x.happen(7, 3, 0);
        due("DONE of what is DONE", false, x.happen(5, 1, 5));
        due("DONE of what is DONE, with another VALUE", false, x.happen(5, 1, 6));
        due("FAILED of what is DONE", false, x.happen(6, 1, 0));
        due("DONE of what FAILED", false, x.happen(5, 2, 0));
        due("FAILED of what FAILED", false, x.happen(6, 2, 0));
        due("FIRED of what FIRED", false, x.happen(7, 3, 0));
        x.crash();
        due("behind a crash", false, x.happen(5, 1, 5));
        x.decide(0);
        due("what came first counts", 5, x.register(3));
        x.clear();
        x.decide(0);
        due("in a new history it is open", true, x.happen(5, 1, 8));
    }

    private static void noRoomForOthers() {
        sentence("or if there are 200 EVENTS.");
        Desk x = Desk.decided("a=act 1,1;b=timer 1;c=act 1,1;d=wait a;");
        x.signals(195);
        due("the 200th", true, x.happen(5, 1, 1));
        due("a DONE as the 201st", false, x.happen(5, 3, 1));
        due("a FAILED as the 201st", false, x.happen(6, 3, 0));
        due("a FIRED as the 201st", false, x.happen(7, 2, 0));
        due("a SIGNAL as the 201st", false, x.happen(8, 0, 0));
        due("200", 200, x.total(0));
        x.clear();
        due("room again", true, x.happen(8, 0, 0));
    }

    private static void refusedHappeningLeavesNoTrace() {
        sentence("false, changing nothing, for another kind, REF or VALUE, a REF that is OVER");
        int[][] calls = {{4, 0, 0}, {9, 0, 0}, {5, 0, 7}, {5, 2, 7}, {5, 3, 7}, {6, 1, 7}, {7, 2, 7}, {8, 1, 7}, {5, -1, 7}, {5, 99, 7}};
        for (int[] call : calls) {
            leavesNoTrace("happen " + call[0] + " " + call[1] + " " + call[2], () -> {
                Desk x = Desk.decided("a=act 1,1;b=timer 1;c=act 1,1;d=wait c;e=any a,b;f=sig;");
                x.happen(5, 3, 4);
                return x;
            }, x -> due("it is refused", false, x.happen(call[0], call[1], call[2])), x -> {
                x.decide(1);
                x.happen(5, 1, 5);
                x.decide(2);
            });
        }
    }

    // Promises 9 and 10

    private static void crash() {
        sentence("All is forgotten but PROGRAM, HISTORY and TAPE: what is RUN next is RUN from the beginning.");
        Desk x = Desk.with("a=act 1,1;b=wait a;@1[c=sig;d=d+c;]");
        x.crash();
        due("ahead of the first decision", 1, x.decide(1));
        x.crash();
        x.happen(5, 1, 8);
        x.happen(8, 0, 9);
        due("behind the first", 0, x.decide(2));
        x.happen(8, 0, 10);
        x.write("stop 1");
        x.crash();
        x.crash();
        due("twice", 0, x.decide(3));
        due("nothing counts twice", "1 8 10 19 0 0 0 0", x.registers());
        due("signals", 2, x.total(5));
        due("the TAPE is there", 1, x.program(";"));
        x.crash();
        due("the new PROGRAM is there", "2 at 1", x.refusal());
    }

    private static void nothingSeenChanges() {
        sentence("(Nothing that is seen changes.)");
        Desk x = new Desk();
        sameBehindCrash("a new object", x);
        x.faultOf("a");
        x.refusal();
        sameBehindCrash("a fault, no PROGRAM", x);
        x.program("a=act 1,1;b=sig;stop b;");
        x.decide(1);
        x.happen(8, 0, 4);
        sameBehindCrash("it waits", x);
        x.program("a=timer 1;");
        x.refusal();
        sameBehindCrash("it DIFFERS", x);
        x.program("a=act 1,1;b=sig;@1[]");
        x.refusal();
        sameBehindCrash("it is STUCK", x);
        x.program("a=act 1,1;b=sig;stop b;");
        x.decide(2);
        sameBehindCrash("it has stopped", x);
        x.clear();
        sameBehindCrash("an empty history", x);
    }

    private static void sameBehindCrash(String when, Desk x) {
        String seen = x.seen() + "; " + x.fault() + " " + x.refused() + " " + x.differs();
        x.crash();
        due(when, seen, x.seen() + "; " + x.fault() + " " + x.refused() + " " + x.differs());
    }

    private static void clear() {
        sentence("The HISTORY has no EVENTS any more (the PROGRAM stays).");
        Desk x = new Desk();
        x.clear();
        due("a new object", "; 0 0 0 0 0 0 0 0; 0 0 0 0 0 0", x.seen());
        x.program("a=act 1,1;b=sig;c=wait a;");
        x.happen(8, 0, 5);
        x.decide(1);
        x.happen(5, 2, 6);
        x.decide(2);
        due("it has stopped", 1, x.total(3));
        x.write("stop ");
        x.clear();
        x.clear();
        due("nothing is left", "; 0 0 0 0 0 0 0 0; 0 0 0 0 0 0", x.seen());
        due("no event", THROWS, x.event(0, 0));
        due("the old act is gone", false, x.happen(5, 2, 1));
        due("the program stays", 1, x.decide(3));
        due("from its beginning, without the old signal", "0 0 3, 1 1 1; 1 0 0 0 0 0 0 0; 2 1 1 0 2 0", x.seen());
        x.happen(8, 0, 7);
        due("it waits for the new act", 0, x.decide(4));
        due("the new signal", 7, x.register(1));
        due("the new act", true, x.happen(5, 1, 8));
        due("the tape stays", 1, x.program("1;"));
        x.clear();
        x.signals(200);
        x.clear();
        due("behind 200 events", "good", x.refusal());
        due("the new program", "0 0 0, 4 0 1", x.events());
    }

    // Promises 11 to 13

    private static void events() {
        sentence("Of EVENT i, what 0: its KIND, 1: its REF, 2: its VALUE.");
        Desk x = Desk.with("a=act 12,34;b=wait a;");
        x.decide(56);
        due("kind", 1, x.event(1, 0));
        due("ref", 12, x.event(1, 1));
        due("value", 34, x.event(1, 2));
        due("the first", "0 0 56", x.event(0));
        x.signals(198);
        due("the last of 200", "8 0 197", x.event(199));
    }

    private static void noSuchEvents() {
        sentence("NoSuchElementException: there is none such, or another what.");
        Desk x = new Desk();
        due("a new object", THROWS, x.event(0, 0));
        x.program("a=act 12,34;b=wait a;");
        x.decide(56);
        for (int i : new int[] {-1, 2, 3, 199, 200, LEAST, MOST}) {
            for (int what = 0; what <= 2; what++) {
                due("event " + i + ", what " + what, THROWS, x.event(i, what));
            }
        }
        for (int what : new int[] {-1, 3, 4, LEAST, MOST}) {
            due("event 0, what " + what, THROWS, x.event(0, what));
            due("event 1, what " + what, THROWS, x.event(1, what));
            due("event 2, what " + what, THROWS, x.event(2, what));
        }
        x.clear();
        due("an event that was", THROWS, x.event(0, 0));
        x.signals(200);
        due("event 199", 8, x.event(199, 0));
        due("event 200", THROWS, x.event(200, 0));
    }

    private static void registers() {
        sentence("REGISTER r (0 a .. 7 h) as it is behind the latest good decide() of this HISTORY (0 without one).");
        Desk x = Desk.with("a=1;b=2;c=3;d=4;e=5;f=6;g=7;h=8;a=sig;h=0;@a<5[a=0;]b=sig;");
        due("without one", "0 0 0 0 0 0 0 0", x.registers());
        x.decide(1);
        due("each", "1 2 3 4 5 6 7 8", x.registers());
        x.happen(8, 0, 3);
        due("behind a happening", "1 2 3 4 5 6 7 8", x.registers());
        due("stuck", "3 at -1", x.refusal());
        due("behind a refused one", "1 2 3 4 5 6 7 8", x.registers());
        x.program("a=sig;b=sig;");
        due("behind a new program", "1 2 3 4 5 6 7 8", x.registers());
        x.decide(2);
        due("behind the next good one", "3 0 0 0 0 0 0 0", x.registers());
        x.clear();
        due("of a new history", "0 0 0 0 0 0 0 0", x.registers());
        x.program("a=1;@1[]");
        due("stuck in the new one", "3 at -1", x.refusal());
        due("without a good one", "0 0 0 0 0 0 0 0", x.registers());
        due("the least", LEAST, Desk.decided("h=32768*65536;").register(7));
    }

    private static void noSuchRegisters() {
        sentence("NoSuchElementException: there is none such.");
        Desk x = Desk.decided("a=1;h=8;");
        for (int r : new int[] {-1, 8, 9, 97, LEAST, MOST}) {
            due("register " + r, THROWS, x.register(r));
            due("register " + r + " of a new object", THROWS, new Desk().register(r));
        }
        due("the first", 1, x.register(0));
        due("the last", 8, x.register(7));
    }

    private static void totalsOfTheHistory() {
        sentence("What 0: EVENTS, 1: COMMANDS, 2: DECISIONS");
        Desk x = Desk.with("a=sig;b=act 1,1;c=timer 1;d=patch 1;e=sig;stop 1;");
        x.signals(2);
        due("ahead of a decision", "2 0 0 0 0 0", x.totals());
        x.decide(1);
        due("each command counts", "7 4 1 1 6 2", x.totals());
        x.happen(5, 3, 1);
        x.happen(7, 4, 0);
        due("others are no commands", "9 4 1 1 6 2", x.totals());
        x = Desk.with("a=sig;");
        x.decide(1);
        x.decide(1);
        due("decisions without commands", "2 0 2 0 1 0", x.totals());
    }

    private static void totalOfStops() {
        sentence("3: 1 if it has stopped, else 0");
        Desk x = Desk.with("a=sig;");
        due("without a decision", 0, x.total(3));
        x.decide(1);
        due("it waits", 0, x.total(3));
        x.happen(8, 0, 1);
        due("it could go on", 0, x.total(3));
        x.decide(2);
        due("it has stopped at its end", 1, x.total(3));
        due("by a stop", 1, Desk.decided("stop 0;").total(3));
    }

    private static void totalOfSteps() {
        sentence("4: STEPS of the latest good decide()'s DECISION (0 without one)");
        Desk x = Desk.with("a=1;b=1;c=sig;@d<498[d=d+1;]e=1;g=sig;");
        due("without one", 0, x.total(4));
        x.decide(1);
        due("the first one's", 3, x.total(4));
        x.happen(8, 0, 1);
        x.crash();
        x.decide(2);
        due("the latest one's alone, and the most", 1000, x.total(4));
        x.decide(3);
        due("the least of one that waits", 1, x.total(4));
        due("the least of all", 0, Desk.decided("").total(4));
    }

    private static void totalOfSignals() {
        sentence("5: SIGNALS that it has taken by then.");
        Desk x = Desk.with("@1[a=sig;b=sig;]");
        x.happen(8, 0, 1);
        due("without a decision", 0, x.total(5));
        x.decide(1);
        due("one", 1, x.total(5));
        x.happen(8, 0, 1);
        due("one more is not taken yet", 1, x.total(5));
        x.decide(2);
        due("all of both decisions", 2, x.total(5));
        x.signals(190);
        x.decide(3);
        due("many", 192, x.total(5));
        x = Desk.with("a=sig;");
        x.signals(5);
        x.decide(1);
        due("only those it wanted", 1, x.total(5));
    }

    private static void totalsAsTold() {
        sentence("(3 to 5 of this HISTORY, as told by the latest good decide().)");
        Desk x = Desk.with("a=sig;b=1;");
        x.happen(8, 0, 1);
        x.happen(8, 0, 1);
        due("without one", "2 0 0 0 0 0", x.totals());
        x.decide(1);
        due("it has stopped, in two steps, with one signal", "4 1 1 1 2 1", x.totals());
        x.happen(8, 0, 1);
        due("behind a happening", "5 1 1 1 2 1", x.totals());
        due("refused", "4 at -1", x.refusal());
        due("behind a refused one", "5 1 1 1 2 1", x.totals());
        x.program("a=sig;b=sig;c=sig;d=sig;");
        due("behind a new program", "5 1 1 1 2 1", x.totals());
        due("it DIFFERS", "2 at 3", x.refusal());
        due("behind one that DIFFERS", "5 1 1 1 2 1", x.totals());
        x.clear();
        due("of a new history", "0 0 0 0 0 0", x.totals());
        x.decide(1);
        due("it waits", "1 0 1 0 1 0", x.totals());
        x.signals(3);
        x.decide(2);
        due("it goes on", "5 0 2 0 4 3", x.totals());
    }

    private static void otherTotals() {
        sentence("NONE for another what.");
        Desk x = Desk.decided("a=1;");
        for (int what : new int[] {-1, 6, 7, LEAST, MOST}) {
            due("total " + what, NONE, x.total(what));
            due("total " + what + " of a new object", NONE, new Desk().total(what));
        }
    }

    // Helpers

    /** Two desks that were made alike, of which only one has had the refused call: nothing tells them apart. */
    private static void leavesNoTrace(String what, Supplier<Desk> made, Consumer<Desk> refused, Consumer<Desk> after) {
        Desk with = made.get();
        Desk without = made.get();
        refused.accept(with);
        due("at once, " + what, without.seen(), with.seen());
        after.accept(with);
        after.accept(without);
        due("afterwards, " + what, without.seen(), with.seen());
    }
}
