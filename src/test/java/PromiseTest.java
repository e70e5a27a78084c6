import java.util.NoSuchElementException;

/** Each promise of the document, with ordinary inputs, the edges that it names, and wrong inputs. */
public final class PromiseTest {
    private static final int NONE = ReplayDesk.NONE;
    private static int wrong = 0;
    private static String part = "";

    public static void main(String[] args) {
        newObject();
        typing();
        typingUpToTheEnd();
        programs();
        tokens();
        faults();
        faultsOfDepth();
        everyRoomIsEnough();
        arithmetic();
        commands();
        waiting();
        waitingForNothing();
        any();
        ended();
        signals();
        now();
        blocks();
        steps();
        stuckInTheOld();
        patches();
        differing();
        differingAndStuck();
        noRoom();
        refusals();
        happenings();
        crashes();
        clearing();
        events();
        registers();
        totals();
        System.out.println(wrong == 0 ? "all promises hold" : wrong + " answers are not as due");
        if (wrong != 0) {
            System.exit(1);
        }
    }

    // Promise 1

    private static void newObject() {
        part = "1 new object";
        ReplayDesk x = new ReplayDesk();
        for (int what = 0; what <= 5; what++) {
            due("total " + what, 0, x.total(what));
        }
        for (int r = 0; r < 8; r++) {
            due("register " + r, 0, x.register(r));
        }
        due("fault", NONE, x.fault());
        due("refused", 0, x.refused());
        due("differs", NONE, x.differs());
        due("event", true, hasNoEvent(x, 0, 0));
        refuse(x, 1, NONE);
        due("events after a refusal", 0, x.total(0));
        due("the tape is empty", 0, x.program());
    }

    // Promise 2

    private static void typing() {
        part = "2 type";
        ReplayDesk x = new ReplayDesk();
        due("n 0", false, x.type('a', 0));
        due("n 9", false, x.type('a', 9));
        due("n -1", false, x.type('a', -1));
        due("least n", false, x.type('a', Integer.MIN_VALUE));
        due("most n", false, x.type('a', Integer.MAX_VALUE));
        due("byte 31", false, x.type(31, 1));
        due("byte 127", false, x.type(127, 1));
        due("byte 128", false, x.type(128, 1));
        due("byte 255", false, x.type(-1L, 8));
        due("byte 0 ahead", false, x.type('a', 2));
        due("a bad byte in the middle", false, x.type(0x610a62, 3));
        due("a bad byte at the end", false, x.type(0x61620a, 3));
        due("a bad highest byte", false, x.type(0x8061616161616161L, 8));
        due("nothing was typed", 0, x.program());
        due("bytes above n don't count", true, x.type(0x00ff0a613d313bL, 4));
        due("highest first", 1, x.program());
        due("eight", true, x.type(0x2020613d31323320L, 8));
        due("one", true, x.type(';', 1));
        due("two calls", 1, x.program());
        due("edges 32 and 126", true, x.type(0x207e, 2));
        due("126 is no token", 1, faultOf(x, ""));
    }

    private static void typingUpToTheEnd() {
        part = "2 type, 400";
        ReplayDesk x = new ReplayDesk();
        type(x, " ".repeat(393));
        due("8 are too many", false, x.type(0x2020202020202020L, 8));
        due("7 are not", true, x.type(0x20202020202020L, 7));
        due("401", false, x.type(' ', 1));
        due("blanks alone", 0, x.program());
        due("the tape is empty again", true, x.type('a', 1));
        due("all 400", 400, faultOf(x, "=1" + " ".repeat(397)));
    }

    // Promises 3 and 4

    private static void programs() {
        part = "3 program";
        ReplayDesk x = new ReplayDesk();
        due("each statement", 12, program(x, "a=1;b=act 1,2;c=timer 3;d=wait b;e=any b,c;f=ended b;g=sig;h=now;a=patch 1;"
                + "?a[|]@0[]stop 1;"));
        due("within blocks", 7, program(x, "?1[a=1;b=1;|c=1;@0[d=1;]]stop 0;"));
        due("none", 0, program(x, ""));
        due("good", NONE, x.fault());
        due("fault", 2, faultOf(x, "a=;"));
        due("the fault stays", 2, x.fault());
        due("the tape is empty behind a fault", 0, x.program());
        due("the fault is gone", NONE, x.fault());

        program(x, "stop 5;");
        faultOf(x, "stop 6; stop");
        due("the old program stays behind a fault", 1, x.decide(1));
        due("its stop", "4 0 5", event(x, 1));

        x = new ReplayDesk();
        program(x, "a=act 1,1;b=wait a;");
        x.decide(1);
        program(x, "c=act 1,1;d=wait c;stop 3;");
        due("the history stays", 2, x.total(0));
        due("registers stay", 1, x.register(0));
        due("totals stay", 2, x.total(4));
        x.happen(5, 1, 9);
        due("the new program goes on", 1, x.decide(2));
        due("the new program's registers", 9, x.register(3));
        due("the old one's are gone", 0, x.register(0));
    }

    private static void tokens() {
        part = "terms, tokens";
        ReplayDesk x = new ReplayDesk();
        due("no blanks", 3, program(x, "a=act1,5;b=any a,h;c=patch7;"));
        due("blanks everywhere", 2, program(x, "  a  =  ( 1 <  2 )  *  - 3 ;  ?  a  [  |  ]  "));
        due("six digits", 1, program(x, "a=999999;"));
        due("seven digits", 2, faultOf(x, "a=0000001;"));
        due("a blank parts numbers", 4, faultOf(x, "a=1 2;"));
        due("a blank parts names", 4, faultOf(x, "a=a ct 1,2;"));
        due("a blank parts a word", 2, faultOf(x, "a=ti mer 1;"));
        due("register h", 1, program(x, "h=h;"));
        due("i is no register", 2, faultOf(x, "h=i;"));
        due("names are whole", 2, faultOf(x, "a=nowa;"));
        due("capitals", 0, faultOf(x, "A=1;"));
        due("a word is no factor", 4, faultOf(x, "a=1+now;"));
        due("stop is no value", 2, faultOf(x, "a=stop 1;"));
        due("other signs", 3, faultOf(x, "a=1/2;"));
        due("other signs ahead", 2, faultOf(x, "a=>1;"));
        due("a digit ends a name", 3, faultOf(x, "a=h1;"));
        due("a name ends a number", 3, faultOf(x, "a=1h;"));
    }

    private static void faults() {
        part = "4 fault";
        String[] texts = {"a", "a ", "a=", "a=1", ";", "=", "1", "]", "|", "a=1;]", "a=1;|", "?", "?1", "?1[", "?1[]", "?1[|", "?1[||]",
            "?1[|]]", "?1[|];", "?[|]", "@", "@1", "@1[", "@1[|]", "@1[];", "@[]", "stop", "stop ;", "stop 1", "stop a=1;", "wait a;",
            "act 1,2;", "a=act", "a=act 1", "a=act 1,", "a=act a,1;", "a=act 1 1;", "a=act 1,1 1;", "a=act 1+1,1;", "a=timer",
            "a=timer;", "a=wait;", "a=wait 1;", "a=wait a+1;", "a=any a;", "a=any a,;", "a=any a,1;", "a=any 1,a;", "a=any a,b,c;",
            "a=ended;", "a=ended 1;", "a=sig 1;", "a=sig", "a=now 1;", "a=now", "a=patch;", "a=patch a;", "a=patch 1+1;", "a=1<2<3;",
            "a=(1<2)<3;", "a=1+;", "a=*1;", "a=+1;", "a=1*;", "a=1**2;", "a=1--2;", "a=1-;", "a=();", "a=(1;", "a=1);", "a=((1);",
            "a=1,2;", "a==1;", "a=b=1;", "a=1 # ; $", "a=1;; #"};
        int[] places = {1, 2, 2, 3, 0, 0, 0, 0, 0, 4, 4, 1, 2, 3, 3, 4, 4,
            5, 5, 1, 1, 2, 3, 3, 4, 1, 4, 5, 6, 6, 0,
            0, 5, 7, 8, 6, 8, 10, 7, 7,
            7, 6, 7, 8, 7, 8, 8, 6, 9,
            7, 8, 6, 5, 6, 5, 7, 8, 9, 5,
            NONE, 4, 2, 2, 4, 4, NONE, 4, 3, 4, 3, 6,
            3, 2, 3, 4, 4};
        due("as many places as texts", texts.length, places.length);
        for (int i = 0; i < texts.length && i < places.length; i++) {
            due("fault of " + texts[i], places[i], faultOf(new ReplayDesk(), texts[i]));
        }
    }

    private static void faultsOfDepth() {
        part = "4 fault, ten others";
        ReplayDesk x = new ReplayDesk();
        due("ten (", NONE, faultOf(x, "a=" + "(".repeat(10) + "1" + ")".repeat(10) + ";"));
        due("eleven (", 12, faultOf(x, "a=" + "(".repeat(11) + "1" + ")".repeat(11) + ";"));
        due("ten -", NONE, faultOf(x, "a=" + "-".repeat(10) + "1;"));
        due("eleven -", 12, faultOf(x, "a=" + "-".repeat(11) + "1;"));
        due("mixed", 12, faultOf(x, "a=-(-(-(-(-(-1)))));"));
        due("ten @", NONE, faultOf(x, "@1[".repeat(10) + "]".repeat(10)));
        due("eleven @", 30, faultOf(x, "@1[".repeat(11) + "]".repeat(11)));
        due("ten ?", NONE, faultOf(x, "?1[".repeat(10) + "|]".repeat(10)));
        due("eleven ?", 30, faultOf(x, "?1[".repeat(11) + "|]".repeat(11)));
        due("ten ? in the second blocks", NONE, faultOf(x, "?1[|".repeat(10) + "]".repeat(10)));
        due("eleven ? in the second blocks", 40, faultOf(x, "?1[|".repeat(11) + "]".repeat(11)));
        due("( within ten @", 32, faultOf(x, "@1[".repeat(10) + "a=(1);" + "]".repeat(10)));
        due("- within ten @", 37, faultOf(x, "@1[".repeat(10) + "stop 1*-1;" + "]".repeat(10)));
        due("a - between terms is not within", NONE, faultOf(x, "@1[".repeat(10) + "a=1-1-1;" + "]".repeat(10)));
        due("what stands in its X is within ?", 10, faultOf(x, "?" + "-".repeat(10) + "1[|]"));
        due("nine in its X", NONE, faultOf(x, "?" + "-".repeat(9) + "1[|]"));
        due("one behind another is not within", NONE, faultOf(x, "a=(1)+(1)+(1)+(1)+(1)+(1)+(1)+(1)+(1)+(1)+(1)+(-1);"));
        due("blocks behind another are not within", NONE, faultOf(x, "@0[]".repeat(12)));
    }

    private static void everyRoomIsEnough() {
        part = "3 program, 400 characters";
        ReplayDesk x = new ReplayDesk();
        due("100 loops", 100, program(x, "@0[]".repeat(100)));
        due("100 loops end", 1, x.decide(1));
        due("100 loops' steps", 100, x.total(4));
        x = new ReplayDesk();
        due("80 choices", 80, program(x, "?1[|]".repeat(80)));
        due("80 choices end", 1, x.decide(1));
        x = new ReplayDesk();
        due("a long sum", 1, program(x, "a=1" + "+1".repeat(198) + ";"));
        x.decide(1);
        due("the long sum's value", 199, x.register(0));
        x = new ReplayDesk();
        due("all half done", 1, program(x, "a=" + "0<0+1*(".repeat(10) + "0<0+1*1" + ")".repeat(10) + ";"));
        x.decide(1);
        due("the value of all half done", 1, x.register(0));
        x = new ReplayDesk();
        program(x, "a=" + "1+2*(".repeat(10) + "1" + ")".repeat(10) + ";");
        x.decide(1);
        due("a deep value", 2047, x.register(0));
    }

    // Terms: X

    private static void arithmetic() {
        part = "terms, X";
        due("from the left", 5, value("10-3-2"));
        due("* ahead of +", 14, value("2+3*4"));
        due("* ahead of -", -10, value("2-3*4"));
        due("( )", 20, value("(2+3)*4"));
        due("- factor", -6, value("-2*3"));
        due("- -", 2, value("--2"));
        due("behind a sign", 5, value("3--2"));
        due("< 1", 1, value("1<2"));
        due("< 0", 0, value("2<2"));
        due("< is last", 1, value("1+1<1+2"));
        due("< of negatives", 1, value("-3<-2"));
        due("( < )", 3, value("(1<2)+2"));
        due("wrapping *", 999999 * 999999, value("999999*999999"));
        due("wrapping +", 999999 * 2147 + 999999 * 2147, value("999999*2147+999999*2147"));
        due("- of the least", Integer.MIN_VALUE, value("-(32768*65536)"));
        due("< does not wrap", 1, value("(32768*65536)<1"));
        due("leading zeros", 10, value("000010"));
    }

    // Promise 5, and how a program is run

    private static void commands() {
        part = "5 decide, commands";
        ReplayDesk x = new ReplayDesk();
        program(x, "a=3;a=act 999999,a*2;b=timer a-5;c=act 0,0;d=patch 7;stop a+b;");
        due("how many", 5, x.decide(-77));
        due("begin", "0 0 -77", event(x, 0));
        due("act", "1 999999 6", event(x, 1));
        due("timer", "2 0 -4", event(x, 2));
        due("second act", "1 0 0", event(x, 3));
        due("mark", "3 7 0", event(x, 4));
        due("stop", "4 0 3", event(x, 5));
        due("events", 6, x.total(0));
        due("registers", "1 2 3 1 0 0 0 0", registers(x));
        due("stopped", 1, x.total(3));

        x = new ReplayDesk();
        program(x, "");
        due("the end is as stop 0", 1, x.decide(5));
        due("the end's stop", "4 0 0", event(x, 1));
        due("the end's steps", 0, x.total(4));
        due("the end has stopped", 1, x.total(3));
        refuse(x, 4, NONE);

        x = new ReplayDesk();
        program(x, "stop 4;a=act 1,1;");
        due("nothing behind stop", 1, x.decide(1));
    }

    private static void waiting() {
        part = "5 decide, wait";
        ReplayDesk x = new ReplayDesk();
        program(x, "a=act 1,1;b=act 2,2;c=timer 3;d=wait a;e=wait b;f=wait c;stop d;");
        due("three commands", 3, x.decide(1));
        due("it waits", 0, x.decide(2));
        due("begin only", "0 0 2", event(x, 4));
        due("done", true, x.happen(5, 1, 123));
        due("failed", true, x.happen(6, 2, 0));
        due("it waits for the timer", 0, x.decide(3));
        due("values so far", "1 2 3 123 -1 0 0 0", registers(x));
        due("fired", true, x.happen(7, 3, 0));
        due("on to the stop", 1, x.decide(4));
        due("all values", "1 2 3 123 -1 0 0 0", registers(x));
        due("fired is 0", 0, x.register(5));

        x = new ReplayDesk();
        program(x, "a=act 1,1;b=wait a;c=act 2,b;d=wait c;e=wait a;");
        x.decide(1);
        x.happen(5, 1, -2147483648);
        due("one more", 1, x.decide(2));
        due("the value goes on", "1 2 -2147483648", event(x, 4));
        x.happen(5, 4, 6);
        due("the end", 1, x.decide(3));
        due("what is over stays over", Integer.MIN_VALUE, x.register(4));
        due("the second value", 6, x.register(3));
    }

    private static void waitingForNothing() {
        part = "5 decide, wait for none";
        ReplayDesk x = new ReplayDesk();
        program(x, "a=0;b=wait a;a=-1;c=wait a;a=999999;d=wait a;a=patch 1;e=wait a;g=1000*1000*1000;f=wait g;a=sig;");
        due("mark alone", 1, x.decide(1));
        due("all -2", "1 -2 -2 -2 -2 -2 1000000000 0", registers(x));

        x = new ReplayDesk();
        program(x, "a=2;b=wait a;c=act 1,1;d=act 2,2;e=wait d;");
        due("an act that comes later is none", 2, x.decide(1));
        due("b", -2, x.register(1));
        x.happen(5, 2, 50);
        x.crash();
        due("and stays none when it is run again", 1, x.decide(2));
        due("b again", -2, x.register(1));
        due("e", 50, x.register(4));

        x = new ReplayDesk();
        program(x, "a=sig;b=1;c=wait b;d=act 1,1;e=wait d;f=3;g=wait f;");
        x.happen(8, 0, 9);
        x.decide(1);
        due("a place that is the next command's", "9 1 -2 2 0 0 0 0", registers(x));
        x.happen(6, 2, 0);
        x.decide(2);
        due("a FAILED is no act", "9 1 -2 2 -1 3 -2 0", registers(x));
    }

    private static void any() {
        part = "5 decide, any";
        ReplayDesk x = new ReplayDesk();
        program(x, "a=act 1,1;b=timer 2;c=any a,b;d=any b,a;stop c*10+d;");
        x.decide(1);
        x.happen(7, 2, 0);
        x.decide(2);
        due("the second, then the first", 2, x.register(2));
        due("the other way round", 1, x.register(3));
        x = new ReplayDesk();
        program(x, "a=act 1,1;b=timer 2;c=any a,b;stop c;");
        x.decide(1);
        due("neither", 0, x.decide(2));
        x.happen(7, 2, 0);
        x.happen(5, 1, 0);
        x.decide(3);
        due("both", 1, x.register(2));
        x = new ReplayDesk();
        program(x, "a=act 1,1;c=any a,b;d=any b,a;e=any h,h;");
        x.decide(1);
        due("one that tells none is so", "1 0 2 1 1 0 0 0", registers(x));
    }

    private static void ended() {
        part = "5 decide, ended";
        ReplayDesk x = new ReplayDesk();
        program(x, "a=act 1,1;b=timer 2;c=ended a;d=ended b;e=ended h;f=sig;c=ended a;d=ended b;f=sig;");
        x.decide(1);
        due("none is so", "1 2 0 0 1 0 0 0", registers(x));
        x.happen(6, 1, 0);
        x.happen(8, 0, 4);
        x.decide(2);
        due("the act failed", "1 2 1 0 1 4 0 0", registers(x));
        x.happen(7, 2, 0);
        x.crash();
        x.decide(3);
        due("run again it was not so yet", "1 2 1 0 1 4 0 0", registers(x));
    }

    private static void signals() {
        part = "5 decide, sig";
        ReplayDesk x = new ReplayDesk();
        program(x, "a=sig;b=sig;c=sig;stop 0;");
        x.happen(8, 0, 11);
        due("a signal ahead of the first begin", 0, x.decide(1));
        due("taken", 1, x.total(5));
        due("its value", "11 0 0 0 0 0 0 0", registers(x));
        due("none more", 0, x.decide(2));
        due("still one", 1, x.total(5));
        x.happen(8, 0, -22);
        x.happen(8, 0, 33);
        x.happen(8, 0, 44);
        x.crash();
        due("in their order", 1, x.decide(3));
        due("their values", "11 -22 33 0 0 0 0 0", registers(x));
        due("three", 3, x.total(5));
    }

    private static void now() {
        part = "5 decide, now";
        ReplayDesk x = new ReplayDesk();
        program(x, "a=now;b=sig;c=now;");
        x.decide(Integer.MAX_VALUE);
        x.happen(8, 0, 1);
        x.crash();
        x.decide(Integer.MIN_VALUE);
        due("each begin's time", "2147483647 1 -2147483648 0 0 0 0 0", registers(x));
    }

    private static void blocks() {
        part = "5 decide, blocks";
        due("not 0", "1 0", registersOf("?7[a=1;|a=2;b=2;]"));
        due("negative", "1 0", registersOf("?-1[a=1;|a=2;b=2;]"));
        due("0", "2 2", registersOf("?0[a=1;|a=2;b=2;]"));
        due("empty first", "0 5", registersOf("?1[|a=2;]b=5;"));
        due("empty second", "0 5", registersOf("?0[a=2;|]b=5;"));
        due("a loop", "5 32", registersOf("b=1;@a<5[a=a+1;b=b*2;]"));
        due("a loop that is never gone through", "0 3", registersOf("@a[a=9;]b=3;"));
        due("loops within", "4 20", registersOf("@a<4[a=a+1;c=0;@c<5[c=c+1;b=b+1;]]"));
        due("choices within", "1 7", registersOf("?1[?0[|?1[a=1;|a=2;]]|a=3;]b=7;"));
        due("a choice at a loop's end", "6 3", registersOf("@a<6[a=a+1;?a<4[b=b+1;|]]"));
        due("stop within", "3 0", registersOf("@1[a=a+1;?2<a[stop 1;b=9;|]]"));

        ReplayDesk x = new ReplayDesk();
        program(x, "@1[a=act 1,b;b=wait a;c=c+1;]");
        x.decide(1);
        for (int i = 0; i < 5; i++) {
            x.happen(5, 1 + 3 * i, 10 + i);
            due("one act a turn", 1, x.decide(2 + i));
        }
        due("waits within a loop", "16 14 5 0 0 0 0 0", registers(x));
    }

    private static void steps() {
        part = "5 decide, steps";
        due("each statement", 4, stepsOf("a=1;b=1;a=ended b;a=now;"));
        due("?", 2, stepsOf("?1[a=1;|a=2;b=2;]"));
        due("@ each time", 7, stepsOf("@a<3[a=a+1;]"));
        due("stop", 1, stepsOf("stop 1;"));
        due("the end is none", 0, stepsOf(""));
        due("patch", 1, stepsOf("a=patch 1;"));
        due("wait at once", 1, stepsOf("a=wait b;"));
        due("waits", 2, stepsOf("a=1;b=sig;c=1;"));
        due("1000", 1000, stepsOf("@a<499[a=a+1;]b=1;"));

        ReplayDesk x = new ReplayDesk();
        program(x, "@a<499[a=a+1;]b=1;c=1;");
        refuse(x, 3, NONE);
        due("nothing has changed", 0, x.total(0));
        due("nothing is told", "0 0 0 0 0 0 0 0", registers(x));
        program(x, "@a<499[a=a+1;]b=1;b=sig;");
        refuse(x, 3, NONE);
        program(x, "@a<499[a=a+1;]b=1;stop 1;");
        refuse(x, 3, NONE);
        program(x, "@a<499[a=a+1;]stop 1;");
        due("the stop is the 1000th", 1, x.decide(1));
        due("1000 steps", 1000, x.total(4));

        x = new ReplayDesk();
        program(x, "a=sig;b=now;@b<5[c=c+1;]d=sig;");
        x.decide(1);
        x.happen(8, 0, 7);
        due("stuck for this time", true, isRefused(x));
        due("not for another", 0, x.decide(9));
        due("as if it had not been stuck", "7 9 0 0 0 0 0 0", registers(x));
        due("nothing taken twice", "3 0 2 0 4 1", totals(x));

        x = new ReplayDesk();
        program(x, "@1[a=sig;@b<400[b=b+1;]b=0;]");
        due("steps of each decision", 0, x.decide(1));
        due("two", 2, x.total(4));
        for (int i = 0; i < 3; i++) {
            x.happen(8, 0, i);
            x.decide(i);
            due("about 800 each", 805, x.total(4));
        }
        x.happen(8, 0, 1);
        x.happen(8, 0, 1);
        refuse(x, 3, NONE);
        due("the steps before", 805, x.total(4));
        due("the events of the others stay", 9, x.total(0));
    }

    private static void stuckInTheOld() {
        part = "5 decide, stuck in what was run";
        ReplayDesk x = new ReplayDesk();
        program(x, "a=sig;b=sig;stop 3;");
        x.decide(1);
        program(x, "@1[]");
        refuse(x, 3, NONE);
        program(x, "a=sig;@1[]");
        due("stuck later only", 0, x.decide(2));
        x.happen(8, 0, 1);
        refuse(x, 3, NONE);
        program(x, "a=sig;stop 3;");
        due("another program goes on", 1, x.decide(3));
        program(x, "a=sig;@1[]");
        refuse(x, 3, NONE);
    }

    private static void patches() {
        part = "5 decide, patch";
        ReplayDesk x = new ReplayDesk();
        program(x, "a=act 1,1;b=wait a;c=act 2,2;d=wait c;");
        x.decide(1);
        x.happen(5, 1, 5);
        // The old history has no mark, so the new program goes the old way there.
        program(x, "e=patch 9;?e[a=act 7,7;|a=act 1,1;]b=wait a;f=patch 8;?f[c=act 3,3;|c=act 2,2;]d=wait c;");
        due("mark and act", 2, x.decide(2));
        due("the old way", 0, x.register(4));
        due("the new way", 1, x.register(5));
        due("the mark", "3 8 0", event(x, 4));
        due("the new act", "1 3 3", event(x, 5));
        x.crash();
        due("run again", 0, x.decide(3));
        due("the old way again", 0, x.register(4));
        due("the new way again", 1, x.register(5));
        program(x, "a=act 1,1;b=wait a;c=act 2,2;d=wait c;");
        refuse(x, 2, 4);
        program(x, "a=act 1,1;b=wait a;f=patch 7;?f[c=act 3,3;|c=act 2,2;]d=wait c;");
        refuse(x, 2, 4);
        program(x, "a=act 1,1;b=wait a;g=patch 7;f=patch 8;g=g*10+f;c=act 3,3;d=wait c;");
        due("another number's patch is 0", 0, x.decide(4));
        due("g", 1, x.register(6));

        x = new ReplayDesk();
        program(x, "a=patch 1;b=patch 1;c=sig;");
        due("each patch its mark", 2, x.decide(1));
        program(x, "a=patch 1;b=patch 1;d=patch 1;c=sig;");
        due("one patch more", 0, x.decide(2));
        due("is 0", "1 1 0 0 0 0 0 0", registers(x));
        program(x, "a=patch 1;c=sig;");
        refuse(x, 2, 2);

        x = new ReplayDesk();
        program(x, "a=sig;b=patch 1;c=sig;");
        x.decide(1);
        x.happen(8, 0, 1);
        x.decide(2);
        // The next decision's mark is not the next command of this one.
        program(x, "d=patch 1;a=sig;b=patch 1;c=sig;");
        due("a mark of a later decision", 0, x.decide(3));
        due("d is 0, b is 1", "1 1 0 0 0 0 0 0", registers(x));
    }

    // Promises 6 and 7

    private static void differing() {
        part = "7 differs";
        ReplayDesk x = new ReplayDesk();
        program(x, "a=act 1,1;b=timer 2;c=patch 3;d=wait a;e=act 4,4;f=wait e;stop 7;");
        x.decide(1);
        x.happen(8, 0, 1);
        x.happen(5, 1, 5);
        x.decide(2);
        due("eight events", 8, x.total(0));
        String[] texts = {"a=act 2,1;", "a=act 1,2;", "a=timer 1;", "stop 1;", "", "a=sig;", "a=act 1,1;", "a=act 1,1;b=timer 3;",
            "a=act 1,1;b=timer 2;c=patch 4;d=wait a;", "a=act 1,1;b=timer 2;d=wait a;", "a=act 1,1;b=timer 2;c=patch 3;",
            "a=act 1,1;b=timer 2;c=patch 3;e=act 4,4;d=wait a;", "a=act 1,1;b=timer 2;c=patch 3;d=wait a;",
            "a=act 1,1;b=timer 2;c=patch 3;d=wait a;e=act 4,5;f=wait e;", "a=act 1,1;b=timer 2;c=patch 3;d=wait b;e=act 4,4;",
            "a=act 1,1;b=timer 2;c=patch 3;d=wait a;e=act 4,4;e=act 4,4;f=wait e;",
            "a=act 1,1;b=timer 2;c=patch 3;d=wait a;e=act 4,4;stop 7;"};
        int[] places = {1, 1, 1, 1, 1, 1, 2, 2, 3, 3, 4, 4, 7, 7, 7, 8, 8};
        due("as many places as texts", texts.length, places.length);
        for (int i = 0; i < texts.length && i < places.length; i++) {
            program(x, texts[i]);
            due("refused " + texts[i], true, isRefused(x));
            due("refused for " + texts[i], 2, x.refused());
            due("differs " + texts[i], places[i], x.differs());
        }
        due("nothing has changed", 8, x.total(0));
        due("registers as told", "1 2 1 5 7 0 0 0", registers(x));
        program(x, "h=act 1,1;g=timer 2;f=patch 3;e=wait h;d=act 4,4;c=wait d;stop 7;");
        due("other registers don't differ", 0, x.decide(3));
        due("differs is NONE", NONE, x.differs());
        x.happen(5, 7, 6);
        due("stop", 1, x.decide(4));
        program(x, "h=act 1,1;g=timer 2;f=patch 3;e=wait h;d=act 4,4;c=wait d;stop 8;");
        refuse(x, 2, 11);
        program(x, "h=act 1,1;g=timer 2;f=patch 3;e=wait h;d=act 4,4;c=wait d;a=sig;");
        refuse(x, 2, 11);
        program(x, "h=act 1,1;g=timer 2;f=patch 3;e=wait h;d=act 4,4;c=wait d;stop 3+4;");
        refuse(x, 4, NONE);
    }

    private static void differingAndStuck() {
        part = "5 decide, what comes first";
        ReplayDesk x = new ReplayDesk();
        program(x, "a=act 1,1;b=wait a;");
        x.decide(1);
        program(x, "a=act 2,1;@1[]");
        refuse(x, 2, 1);
        program(x, "@1[]a=act 2,1;");
        refuse(x, 3, NONE);
        program(x, "a=act 1,1;@1[]");
        refuse(x, 3, NONE);
        program(x, "a=act 1,1;a=act 1,1;@1[]");
        refuse(x, 2, 2);
        program(x, "@a<499[a=a+1;]b=1;a=act 2,2;");
        refuse(x, 3, NONE);
        program(x, "@a<499[a=a+1;]a=act 2,2;");
        refuse(x, 2, 1);
        program(x, "@a<499[a=a+1;]a=act 1,1;");
        refuse(x, 2, 2);
        program(x, "@a<499[a=a+1;]b=sig;");
        refuse(x, 2, 1);
    }

    private static void noRoom() {
        part = "5 decide, no room";
        ReplayDesk x = new ReplayDesk();
        program(x, "@1[a=act 1,1;]");
        refuse(x, 5, NONE);
        due("nothing has changed", 0, x.total(0));
        program(x, "@a<199[b=act 1,a;a=a+1;]c=sig;");
        due("199 commands", 199, x.decide(1));
        due("200 events", 200, x.total(0));
        due("the last", "1 1 198", event(x, 199));
        due("no more of the others", false, x.happen(8, 0, 1));
        due("nor a done", false, x.happen(5, 1, 1));
        refuse(x, 5, NONE);
        x.crash();
        refuse(x, 5, NONE);
        program(x, "@1[]");
        refuse(x, 3, NONE);
        program(x, "a=act 2,2;");
        refuse(x, 2, 1);

        x = new ReplayDesk();
        program(x, "@a<198[b=act 1,a;a=a+1;]");
        due("the end's stop is the last", 199, x.decide(1));
        refuse(x, 4, NONE);
        due("stopped ahead of no room", 200, x.total(0));

        x = new ReplayDesk();
        program(x, "@a<199[b=act 1,a;a=a+1;]");
        refuse(x, 5, NONE);
        program(x, "@a<199[b=act 1,a;a=a+1;]stop 1;");
        refuse(x, 5, NONE);
        program(x, "@a<199[b=act 1,a;a=a+1;]c=patch 1;");
        refuse(x, 5, NONE);
        program(x, "@a<199[b=act 1,a;a=a+1;]@1[]");
        refuse(x, 3, NONE);
        program(x, "@a<200[b=act 1,a;a=a+1;]@1[]");
        refuse(x, 5, NONE);

        x = new ReplayDesk();
        program(x, "a=sig;");
        for (int i = 0; i < 200; i++) {
            x.decide(i);
        }
        due("200 decisions", 200, x.total(2));
        refuse(x, 5, NONE);
        x.clear();
        due("room again", 0, x.decide(1));
    }

    private static void refusals() {
        part = "6 refused";
        ReplayDesk x = new ReplayDesk();
        refuse(x, 1, NONE);
        faultOf(x, "a");
        refuse(x, 1, NONE);
        program(x, "a=act 1,1;b=wait a;");
        due("a new program changes nothing in it", 1, x.refused());
        x.decide(1);
        due("good", 0, x.refused());
        program(x, "a=act 2,1;");
        refuse(x, 2, 1);
        x.crash();
        due("a crash changes nothing in it", 2, x.refused());
        due("nor in differs", 1, x.differs());
        x.happen(5, 1, 1);
        x.clear();
        due("clear changes nothing in it", 2, x.refused());
        due("nor in differs there", 1, x.differs());
        due("good again", 2, x.decide(1));
        due("refused 0", 0, x.refused());
        due("differs NONE", NONE, x.differs());
        refuse(x, 4, NONE);
        due("the registers stay", 1, x.register(0));
    }

    // Promise 8

    private static void happenings() {
        part = "8 happen";
        ReplayDesk x = new ReplayDesk();
        due("a signal without a program", true, x.happen(8, 0, 5));
        due("a ref of a signal", false, x.happen(8, 1, 5));
        due("a done of nothing", false, x.happen(5, 0, 5));
        program(x, "a=act 1,1;b=timer 1;c=act 2,2;d=patch 1;e=wait c;");
        x.decide(1);
        for (int kind = -1; kind <= 9; kind++) {
            if (kind < 5 || kind > 8) {
                due("kind " + kind, false, x.happen(kind, 2, 0));
                due("kind " + kind + ", ref 0", false, x.happen(kind, 0, 0));
            }
        }
        due("least kind", false, x.happen(Integer.MIN_VALUE, 2, 0));
        int[] noActs = {-1, 0, 1, 3, 5, 6, 200, Integer.MIN_VALUE, Integer.MAX_VALUE};
        for (int ref : noActs) {
            due("done of " + ref, false, x.happen(5, ref, 0));
            due("failed of " + ref, false, x.happen(6, ref, 0));
            due("fired of " + ref, ref == 3, x.happen(7, ref, 0));
        }
        due("fired of an act", false, x.happen(7, 2, 0));
        due("fired again", false, x.happen(7, 3, 0));
        due("failed with a value", false, x.happen(6, 2, 1));
        due("failed", true, x.happen(6, 2, 0));
        due("done behind failed", false, x.happen(5, 2, 0));
        due("failed again", false, x.happen(6, 2, 0));
        due("done", true, x.happen(5, 4, Integer.MIN_VALUE));
        due("failed behind done", false, x.happen(6, 4, 0));
        due("a stop is no act", 1, x.decide(2));
        due("done of a stop", false, x.happen(5, 10, 0));
        due("a signal behind the stop", true, x.happen(8, 0, Integer.MAX_VALUE));
        due("events", "8 0 5|0 0 1|1 1 1|2 0 1|1 2 2|3 1 0|7 3 0|6 2 0|5 4 -2147483648|0 0 2|4 0 0|8 0 2147483647|", allEvents(x));

        x = new ReplayDesk();
        program(x, "a=timer 1;b=wait a;");
        x.decide(1);
        due("fired with a value", false, x.happen(7, 1, 1));
        due("fired", true, x.happen(7, 1, 0));
        for (int i = 3; i < 200; i++) {
            due("signal " + i, true, x.happen(8, 0, i));
        }
        due("the 201st", false, x.happen(8, 0, 0));
        due("200", 200, x.total(0));
    }

    // Promise 9

    private static void crashes() {
        part = "9 crash";
        ReplayDesk x = new ReplayDesk();
        x.crash();
        program(x, "a=act 1,1;b=wait a;c=sig;d=sig;");
        x.decide(1);
        x.happen(5, 1, 8);
        x.happen(8, 0, 9);
        x.decide(2);
        type(x, "stop 1");
        String seen = allEvents(x) + registers(x) + totals(x);
        x.crash();
        due("nothing that is seen changes", seen, allEvents(x) + registers(x) + totals(x));
        x.happen(8, 0, 10);
        due("it goes on", 1, x.decide(3));
        due("registers", "1 8 9 10 0 0 0 0", registers(x));
        due("the tape was not forgotten", 1, program(x, ";"));
        x = new ReplayDesk();
        faultOf(x, "a");
        x.crash();
        due("the fault is seen still", 1, x.fault());
    }

    // Promise 10

    private static void clearing() {
        part = "10 clear";
        ReplayDesk x = new ReplayDesk();
        program(x, "a=act 1,1;b=sig;c=wait a;");
        x.happen(8, 0, 5);
        x.decide(1);
        x.happen(5, 2, 6);
        x.decide(2);
        type(x, "stop ");
        x.clear();
        due("totals", "0 0 0 0 0 0", totals(x));
        due("registers", "0 0 0 0 0 0 0 0", registers(x));
        due("no event", true, hasNoEvent(x, 0, 0));
        due("the old act is gone", false, x.happen(5, 2, 1));
        due("the program stays", 1, x.decide(3));
        due("from its beginning", "0 0 3|1 1 1|", allEvents(x));
        due("the old signal is gone", 0, x.total(5));
        x.happen(8, 0, 7);
        due("it waits for the new act", 0, x.decide(4));
        due("the new signal", 7, x.register(1));
        due("the act is not over", true, x.happen(5, 1, 8));
        due("then it is", 1, x.decide(5));
        due("the tape stays", 1, program(x, "1;"));
        x.clear();
        x.clear();
        due("again", 1, x.decide(1));
        due("stop", "4 0 1", event(x, 1));
    }

    // Promise 11

    private static void events() {
        part = "11 event";
        ReplayDesk x = new ReplayDesk();
        program(x, "a=act 12,34;b=wait a;");
        x.decide(56);
        due("kind", 1, x.event(1, 0));
        due("ref", 12, x.event(1, 1));
        due("value", 34, x.event(1, 2));
        int[] places = {-1, 2, 199, 200, Integer.MIN_VALUE, Integer.MAX_VALUE};
        for (int i : places) {
            due("no event " + i, true, hasNoEvent(x, i, 0));
        }
        due("what -1", true, hasNoEvent(x, 0, -1));
        due("what 3", true, hasNoEvent(x, 0, 3));
        due("least what", true, hasNoEvent(x, 0, Integer.MIN_VALUE));
    }

    // Promise 12

    private static void registers() {
        part = "12 register";
        ReplayDesk x = new ReplayDesk();
        program(x, "a=1;b=2;c=3;d=4;e=5;f=6;g=7;h=8;a=sig;@1[a=8;]");
        x.decide(1);
        due("each", "1 2 3 4 5 6 7 8", registers(x));
        int[] places = {-1, 8, Integer.MIN_VALUE, Integer.MAX_VALUE};
        for (int r : places) {
            due("no register " + r, true, hasNoRegister(x, r));
        }
        x.happen(8, 0, 99);
        refuse(x, 3, NONE);
        due("behind a refusal", "1 2 3 4 5 6 7 8", registers(x));
    }

    // Promise 13

    private static void totals() {
        part = "13 total";
        ReplayDesk x = new ReplayDesk();
        program(x, "a=sig;b=act 1,1;c=timer 1;d=patch 1;e=sig;");
        x.happen(8, 0, 1);
        x.happen(8, 0, 2);
        due("events ahead of a decision", "2 0 0 0 0 0", totals(x));
        x.decide(1);
        due("all", "7 4 1 1 5 2", totals(x));
        x.happen(8, 0, 3);
        due("behind the decision", "8 4 1 1 5 2", totals(x));
        program(x, "a=1;");
        due("with a new program", "8 4 1 1 5 2", totals(x));
        refuse(x, 2, 3);
        due("behind a refusal", "8 4 1 1 5 2", totals(x));
        int[] others = {-1, 6, Integer.MIN_VALUE, Integer.MAX_VALUE};
        for (int what : others) {
            due("total " + what, NONE, x.total(what));
        }
    }

    // Helpers

    private static void type(ReplayDesk x, String text) {
        for (int from = 0; from < text.length(); from += 8) {
            int to = Math.min(from + 8, text.length());
            long word = 0;
            for (int i = from; i < to; i++) {
                word = word << 8 | text.charAt(i);
            }
            due("type " + text, true, x.type(word, to - from));
        }
    }

    private static int program(ReplayDesk x, String text) {
        type(x, text);
        try {
            return x.program();
        } catch (IllegalArgumentException e) {
            due("fault of " + text, NONE, x.fault());
            return -99;
        }
    }

    private static int faultOf(ReplayDesk x, String text) {
        type(x, text);
        boolean thrown = false;
        try {
            x.program();
        } catch (IllegalArgumentException e) {
            thrown = true;
        }
        due("program() throws for " + text, x.fault() != NONE, thrown);
        return x.fault();
    }

    private static boolean isRefused(ReplayDesk x) {
        try {
            x.decide(0);
            return false;
        } catch (IllegalStateException e) {
            return true;
        }
    }

    private static void refuse(ReplayDesk x, int refused, int differs) {
        // Not every event is looked at: no object is to be used for more than 512 calls.
        String seen = lastEvent(x) + registers(x) + totals(x);
        for (int i = 0; i < 2; i++) {
            due("decide is refused", true, isRefused(x));
            due("refused", refused, x.refused());
            due("differs", differs, x.differs());
        }
        due("a refusal changes nothing", seen, lastEvent(x) + registers(x) + totals(x));
    }

    private static ReplayDesk decided(String text) {
        ReplayDesk x = new ReplayDesk();
        program(x, text);
        x.decide(0);
        return x;
    }

    private static int value(String text) {
        return decided("a=" + text + ";").register(0);
    }

    private static int stepsOf(String text) {
        return decided(text).total(4);
    }

    private static String registersOf(String text) {
        ReplayDesk x = decided(text);
        return x.register(0) + " " + x.register(1);
    }

    private static String event(ReplayDesk x, int i) {
        return x.event(i, 0) + " " + x.event(i, 1) + " " + x.event(i, 2);
    }

    private static String lastEvent(ReplayDesk x) {
        int size = x.total(0);
        return size == 0 ? "none" : event(x, size - 1);
    }

    private static String allEvents(ReplayDesk x) {
        StringBuilder all = new StringBuilder();
        for (int i = 0; i < x.total(0); i++) {
            all.append(event(x, i)).append('|');
        }
        return all.toString();
    }

    private static String registers(ReplayDesk x) {
        StringBuilder all = new StringBuilder();
        for (int r = 0; r < 8; r++) {
            all.append(r == 0 ? "" : " ").append(x.register(r));
        }
        return all.toString();
    }

    private static String totals(ReplayDesk x) {
        StringBuilder all = new StringBuilder();
        for (int what = 0; what < 6; what++) {
            all.append(what == 0 ? "" : " ").append(x.total(what));
        }
        return all.toString();
    }

    private static boolean hasNoEvent(ReplayDesk x, int i, int what) {
        try {
            x.event(i, what);
            return false;
        } catch (NoSuchElementException e) {
            return true;
        }
    }

    private static boolean hasNoRegister(ReplayDesk x, int r) {
        try {
            x.register(r);
            return false;
        } catch (NoSuchElementException e) {
            return true;
        }
    }

    private static void due(String what, Object want, Object got) {
        if (!want.equals(got)) {
            wrong++;
            System.out.println(part + ": " + what + " answered " + got + ", due is " + want);
        }
    }
}
