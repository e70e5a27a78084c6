/** The section "Terms", its first half: the tape, its tokens, programs, X, and the FAULT; each sentence with its edges. */
public final class ProgramTermsTest extends Sentences {
    private static final String SIGNS = ";=+-*<()?[]|,@";
    private static final String[] WORDS = {"act", "timer", "any", "ended", "sig", "now", "patch", "stop", "wait"};
    // One of each sort, with a blank between any two tokens.
    private static final String[] STATEMENTS = {"a = ( 1 + b ) * - 3 < 4 ;", "a = act 1 , b ;", "a = timer b ;", "a = wait b ;",
        "a = any b , c ;", "a = ended b ;", "a = sig ;", "a = now ;", "a = patch 1 ;", "stop b ;", "? b [ a = 1 ; | a = 2 ; ]",
        "@ b [ a = 1 ; ]"};

    public static void main(String[] args) {
        roomOfTheTape();
        charactersOfTheTape();
        blanksPart();
        blanksBetween();
        names();
        registers();
        words();
        numbers();
        signs();
        semicolons();
        sortsOfStatements();
        choices();
        loops();
        comparisons();
        partsAndTerms();
        fromTheLeft();
        factors();
        wrapping();
        lessGives();
        firstFault();
        faultThatIsNoToken();
        tapeThatEndsTooEarly();
        tenOthers();
        tenMixedOthers();
        withinAndBehind();
        finish();
    }

    // The tape and its tokens

    private static void roomOfTheTape() {
        sentence("THE TAPE has at most 400 characters");
        Desk x = new Desk();
        x.write(" ".repeat(399));
        due("the 400th", true, x.type(';', 1));
        due("the 401st", false, x.type(';', 1));
        due("the 400th can be read", 399, x.faultOf(""));
        due("400 characters of a program", 100, x.program("a=1;".repeat(100)));
        due("one statement of 400", 1, x.program("a=1" + "+1".repeat(198) + ";"));
        x.decide(0);
        due("all of it was read", 199, x.register(0));
    }

    private static void charactersOfTheTape() {
        sentence("400 characters, 32 .. 126");
        Desk x = new Desk();
        for (int sign = 0; sign < 256; sign++) {
            due("character " + sign, sign >= 32 && sign <= 126, x.type(sign, 1));
        }
    }

    private static void blanksPart() {
        sentence("blanks part TOKENS");
        due("a number", 4, fault("a=1 2;"));
        due("a register's row", 4, fault("a=b c;"));
        due("a word", 2, fault("a=n ow;"));
        due("a word that begins with a register", 4, fault("a=a ct 1,1;"));
        due("stop", 0, fault("st op 1;"));
        due("letters and digits part themselves", NONE, fault("a=act1,1;stop(1);b=patch2;"));
        due("letters need a blank", 2, fault("a=waitb;"));
    }

    private static void blanksBetween() {
        sentence("and may stand anywhere between them");
        String[] tokens = {"a", "=", "(", "1", "<", "2", ")", "*", "-", "b", "+", "3", ";", "c", "=", "act", "7", ",", "a", "-", "1", ";",
            "?", "c", "[", "d", "=", "any", "c", ",", "a", ";", "|", "e", "=", "sig", ";", "]", "@", "0", "[", "stop", "1", ";", "]"};
        String outcome = "0 0 0, 1 7 2, 4 0 0; 3 0 1 2 0 0 0 0; 3 2 1 1 5 0";
        // Two names side by side are one without a blank.
        String tight = String.join("", tokens).replace("anyc", "any c");
        for (String text : new String[] {tight, String.join(" ", tokens), " " + String.join("  ", tokens) + "   "}) {
            Desk x = new Desk();
            due("statements of " + text, 7, x.program(text));
            x.decide(0);
            due("what comes of " + text, outcome, x.seen());
        }
        due("blanks alone", 0, new Desk().program("   "));
        due("a tape full of blanks", 0, new Desk().program(" ".repeat(400)));
    }

    private static void names() {
        sentence("NAMES (small letters;");
        for (char capital = 'A'; capital <= 'Z'; capital++) {
            due("capital " + capital, 0, fault(capital + "=1;"));
        }
        for (char letter = 'a'; letter <= 'z'; letter++) {
            due("a name that ends with " + letter, 0, fault("a" + letter + "=1;"));
            due("a name that begins with " + letter, 0, fault(letter + "a=1;"));
        }
        due("a capital word", 2, fault("a=NOW;"));
        due("a capital within a word", 2, fault("a=nOw;"));
        due("a capital behind a register", 1, fault("aB=1;"));
        due("a digit within a name", 1, fault("a1=1;"));
        due("a name of many letters", 0, fault("abcdefgh=1;"));
    }

    private static void registers() {
        sentence("a .. h are REGISTERS;");
        for (char letter = 'a'; letter <= 'z'; letter++) {
            due(letter + " is set", letter <= 'h' ? NONE : 0, fault(letter + "=1;"));
            due(letter + " is read", letter <= 'h' ? NONE : 2, fault("a=" + letter + ";"));
            due(letter + " is waited for", letter <= 'h' ? NONE : 7, fault("a=wait " + letter + ";"));
        }
        due("a register twice", 0, fault("aa=1;"));
        due("two registers", 2, fault("a=gh;"));
    }

    private static void words() {
        sentence("act timer any ended sig now patch stop wait are WORDS)");
        due("each word", 9, new Desk().program("a=act 1,1;b=timer 1;c=any a,b;d=ended a;e=sig;f=now;g=patch 1;h=wait a;stop 1;"));
        for (String word : WORDS) {
            due(word + " is no register", word.equals("stop") ? 4 : 0, fault(word + "=1;"));
            due(word + " is no factor", 4, fault("a=1+" + word + ";"));
            due(word + " with a letter more", 2, fault("a=" + word + "s 1,1;"));
            due(word + " with a letter ahead", 2, fault("a=x" + word + " 1,1;"));
            due(word + " with a letter less", 2, fault("a=" + word.substring(0, word.length() - 1) + " 1,1;"));
            for (int i = 0; i < word.length(); i++) {
                String another = word.substring(0, i) + "x" + word.substring(i + 1);
                due(another + " is no word", 2, fault("a=" + another + " 1,1;"));
            }
        }
    }

    private static void numbers() {
        sentence("NUMBERS (1 to 6 digits)");
        due("one digit", 9, value("9"));
        due("0", 0, value("0"));
        due("six digits", 999999, value("999999"));
        due("zeros ahead count as digits", 1, value("000001"));
        due("seven digits", 2, fault("a=1000000;"));
        due("seven zeros", 2, fault("a=0000000;"));
        due("twenty digits", 2, fault("a=18446744073709551617;"));
        due("seven digits further on", 4, fault("a=1+1234567;"));
        due("seven digits of an act", 6, fault("a=act 1234567,1;"));
        due("seven digits of a patch", 8, fault("a=patch 1234567;"));
        due("no digit of an act", 6, fault("a=act ,1;"));
        due("six digits of an act and a patch", "0 0 0, 1 999999 1, 3 999999 0, 4 0 0",
                Desk.decided("a=act 999999,1;b=patch 999999;").events());
        due("no digit of them but 0", "0 0 0, 1 0 1, 3 0 0, 4 0 0", Desk.decided("a=act 0,1;b=patch 000000;").events());
    }

    private static void signs() {
        sentence("SIGNS ; = + - * < ( ) ? [ ] | , @");
        due("each sign", 5, new Desk().program("a=act 1,(1+2-3)*4<5;?1[b=1;|]@0[stop 1;]"));
        for (char sign = '!'; sign <= '~'; sign++) {
            boolean isOther = !Character.isLetterOrDigit(sign) && SIGNS.indexOf(sign) < 0;
            if (isOther) {
                due(sign + " as a statement", 4, fault("a=1;" + sign));
                due(sign + " as a factor", 2, fault("a=" + sign + "1;"));
                due(sign + " between factors", 3, fault("a=1" + sign + "2;"));
            }
        }
    }

    // Programs

    private static void semicolons() {
        sentence("A PROGRAM: STATEMENTS, each but the last two sorts with ; behind it");
        due("no statement at all", 0, new Desk().program(""));
        due("one", 1, new Desk().program("a=1;"));
        due("each but the last two", 4, new Desk().program("a=1;stop 1;?1[|]@0[]"));
        due("none behind the last", 3, fault("a=1"));
        due("none between two", 4, fault("a=1 b=1;"));
        due("none behind stop", 6, fault("stop 1"));
        due("none ahead of |", 6, fault("?1[a=1|]"));
        due("none ahead of ]", 6, fault("@1[a=1]"));
        due("one alone", 0, fault(";"));
        due("two", 4, fault("a=1;;"));
        due("one behind ?", 5, fault("?1[|];"));
        due("one behind @", 4, fault("@1[];"));
        due("one in an empty block", 3, fault("@1[;]"));
    }

    private static void sortsOfStatements() {
        sentence("r = X; r = act NUMBER, X; r = timer X; r = wait s; r = any s, t; r = ended s; r = sig; r = now; r = patch NUMBER;"
                + " stop X;");
        for (String statement : STATEMENTS) {
            due(statement, NONE, fault(statement));
            for (int at = 0; at < statement.length(); at++) {
                if (at == 0 || statement.charAt(at - 1) == ' ') {
                    String ahead = statement.substring(0, at);
                    due(ahead + "#", at, fault(ahead + "#" + statement.substring(at)));
                }
            }
        }
        faultsAt("a=act a,1;", 6, "a=act 1 1;", 8, "a=act 1,;", 8, "a=act 1,1 1;", 10, "a=act 1+1,1;", 7, "a=act -1,1;", 6, "a=act (1),1;", 6);
        faultsAt("a=timer;", 7, "a=timer ,1;", 8, "a=timer 1,1;", 9);
        faultsAt("a=wait;", 6, "a=wait 1;", 7, "a=wait b+1;", 8, "a=wait (b);", 7, "wait b;", 0);
        faultsAt("a=any b;", 7, "a=any b,;", 8, "a=any b,1;", 8, "a=any 1,b;", 6, "a=any b c;", 8, "a=any b,c,d;", 9);
        faultsAt("a=ended;", 7, "a=ended 1;", 8, "a=ended b,c;", 9, "a=sig 1;", 6, "a=sig b;", 6, "a=now 1;", 6, "a=now+1;", 5);
        faultsAt("a=patch;", 7, "a=patch a;", 8, "a=patch 1+1;", 9, "a=patch -1;", 8);
        faultsAt("stop;", 4, "stop a=1;", 6, "a=stop 1;", 2, "stop sig;", 5, "1=a;", 0, "a==1;", 2, "a=b=1;", 3, "a;", 1, "a 1;", 2);
    }

    private static void choices() {
        sentence("? X [ STATEMENTS | STATEMENTS ] (the first ones, if X is not 0)");
        due("1", "1 0", twoRegisters("?1[a=1;|b=1;]"));
        due("0", "0 1", twoRegisters("?0[a=1;|b=1;]"));
        due("less than 0", "1 0", twoRegisters("?-1[a=1;|b=1;]"));
        due("the least int", "1 0", twoRegisters("?32768*65536[a=1;|b=1;]"));
        due("an X that wraps to 0", "0 1", twoRegisters("?65536*65536[a=1;|b=1;]"));
        due("all of the first ones", "2 0", twoRegisters("?1[a=1;a=a+1;|b=1;b=b+1;]"));
        due("all of the second ones", "0 2", twoRegisters("?0[a=1;a=a+1;|b=1;b=b+1;]"));
        due("no first ones", "0 5", twoRegisters("?1[|a=1;]b=5;"));
        due("no second ones", "0 5", twoRegisters("?0[a=1;|]b=5;"));
        due("neither", "0 5", twoRegisters("?1[|]?0[|]b=5;"));
        due("one within another", "1 7", twoRegisters("?1[?0[|?1[a=1;|a=2;]]|a=3;]b=7;"));
        faultsAt("?", 1, "?1", 2, "?1[", 3, "?1[]", 3, "?1[|", 4, "?1[||]", 4, "?1[|]]", 5, "?[|]", 1, "?1|]", 2, "?1[a=1;]", 7, "|", 0);
    }

    private static void loops() {
        sentence("@ X [ STATEMENTS ] (again and again, as long as X, worked out anew each time, is not 0)");
        due("not once", "0 3", twoRegisters("@0[a=1;]b=3;"));
        due("once", "1 3", twoRegisters("@a<1[a=a+1;]b=3;"));
        due("five times", "5 32", twoRegisters("b=1;@a<5[a=a+1;b=b*2;]"));
        due("as long as it is less than 0", "0 4", twoRegisters("a=-4;@a[a=a+1;b=b+1;]"));
        due("with the least int", "0 1", twoRegisters("a=32768*65536;@a[a=a*2;b=b+1;]"));
        due("one within another", "4 20", twoRegisters("@a<4[a=a+1;c=0;@c<5[c=c+1;b=b+1;]]"));
        due("a stop within", "3 0", twoRegisters("@1[a=a+1;?2<a[stop 1;b=9;|]]"));
        due("an empty one", "0 3", twoRegisters("@0[]b=3;"));
        faultsAt("@", 1, "@1", 2, "@1[", 3, "@1[|]", 3, "@[]", 1, "@1]", 2, "@1[]]", 4, "]", 0, "a=1;]", 4);
    }

    // X

    private static void comparisons() {
        sentence("X: parts with < between two of them, or one");
        due("one part", 3, value("3"));
        due("two parts", 1, value("1+1<1+2"));
        due("three parts", 5, fault("a=1<2<3;"));
        due("three, with a ( )", 1, value("(3<2)<1"));
        due("nothing ahead of it", 2, fault("a=<1;"));
        due("nothing behind it", 4, fault("a=1<;"));
        due("two signs", 4, fault("a=1<<2;"));
    }

    private static void partsAndTerms() {
        sentence("a part: terms with + or - ; a term: factors with *");
        due("one term of one factor", 7, value("7"));
        due("* ahead of +", 14, value("2+3*4"));
        due("* ahead of -", -10, value("2-3*4"));
        due("* on both sides", 26, value("2*3+4*5"));
        due("+ and - ahead of <", 0, value("3-1<1+1"));
        faultsAt("a=+1;", 2, "a=*1;", 2, "a=1+;", 4, "a=1-;", 4, "a=1*;", 4, "a=1++2;", 4, "a=1**2;", 4, "a=1-*2;", 4, "a=1*+2;", 4);
    }

    private static void fromTheLeft() {
        sentence("each row from the left");
        due("- -", 5, value("10-3-2"));
        due("- +", 9, value("10-3+2"));
        due("+ -", 11, value("10+3-2"));
        due("a long row", -3, value("0-1+2-3+4-5"));
        due("*", 24, value("2*3*4"));
    }

    private static void factors() {
        sentence("a factor: NUMBER, REGISTER, - factor, ( X )");
        due("a register", 4, register("b=4;a=b;"));
        due("- ahead of *", -6, value("-2*3"));
        due("- behind *", -6, value("2*-3"));
        due("- -", 2, value("--2"));
        due("- behind -", 5, value("3--2"));
        due("- of a register", -4, register("b=4;a=-b;"));
        due("- of ( )", -3, value("-(1+2)"));
        due("( )", 20, value("(2+3)*4"));
        due("( ) with <", 3, value("(1<2)+2"));
        due("( ) within ( )", 1, value("((1))"));
        faultsAt("a=();", 3, "a=(1;", 4, "a=1);", 3, "a=((1);", 6, "a=-;", 3, "a=(1 2);", 5, "a=1(2);", 3, "a=(1,2);", 4, "a=;", 2);
    }

    private static void wrapping() {
        sentence("Ints, wrapping;");
        String most = "(32767*65536+65535)";
        String least = "(32768*65536)";
        due("the most", MOST, value(most));
        due("the least", LEAST, value(least));
        due("the most + 1", LEAST, value(most + "+1"));
        due("the least - 1", MOST, value(least + "-1"));
        due("- of the least", LEAST, value("-" + least));
        due("- of the most", -MOST, value("-" + most));
        due("the least * -1", LEAST, value(least + "*-1"));
        due("the most * the most", 1, value(most + "*" + most));
        due("the least + the least", 0, value(least + "+" + least));
        due("a product", -729379967, value("999999*999999"));
        due("a product that wraps to 0", 0, value("65536*65536"));
    }

    private static void lessGives() {
        sentence("< gives 1 or 0.");
        due("less", 1, value("1<2"));
        due("the same", 0, value("2<2"));
        due("more", 0, value("3<2"));
        due("less than 0", 1, value("-3<-2"));
        due("the least and the most", 1, value("32768*65536<32767*65536+65535"));
        due("the most and the least", 0, value("32767*65536+65535<32768*65536"));
        due("the least and 1", 1, value("32768*65536<1"));
        due("what wrapped is less", 1, value("32767*65536+65535+1<0"));
    }

    // FAULT

    private static void firstFault() {
        sentence("FAULT: the first TOKEN that can't stand there");
        due("at the tape's first character", 0, fault("=1;"));
        due("behind blanks", 3, fault("   =1;"));
        due("the first of two", 2, fault("a=;b=;"));
        due("the first of two sorts", 4, fault("a=1;; #"));
        due("not what opened, but what is not closed", 4, fault("a=(1;b=1;"));
        due("a word's first character", 2, fault("a=stop 1;"));
        due("a number's first character", 4, fault("a=1 234567;"));
        due("at the tape's last character", 399, fault(" ".repeat(399) + "]"));
        due("in a block", 7, fault("@1[a=1;;]"));
    }

    private static void faultThatIsNoToken() {
        sentence("(or is none: its first character;");
        due("another sign", 2, fault("a=#;"));
        due("another sign where nothing could stand", 4, fault("a=1 #;"));
        due("a name that is none", 0, fault("foo=1;"));
        due("a name that is none, further on", 6, fault("a=1 + wat;"));
        due("a number that is too long", 3, fault("a= 1234567;"));
        due("a fault ahead of it is first", 2, fault("a=;#"));
        due("at the tape's last character", 399, fault("a=1;" + " ".repeat(395) + "~"));
    }

    private static void tapeThatEndsTooEarly() {
        sentence("the TAPE's length, if it ends too early;");
        due("behind one character", 1, fault("a"));
        due("behind =", 2, fault("a="));
        due("behind blanks", 6, fault("a=1   "));
        due("a block that is open", 7, fault("@1[a=1;"));
        due("a full tape", 400, fault("a=1" + " ".repeat(397)));
        due("a full tape of loops", 400, fault("@0[]".repeat(99) + "@0[ "));
        for (String statement : STATEMENTS) {
            for (int end = statement.indexOf(' '); end > 0; end = statement.indexOf(' ', end + 1)) {
                due("cut off: " + statement.substring(0, end), end, fault(statement.substring(0, end)));
            }
        }
    }

    private static void tenOthers() {
        sentence("a ( - ? @ within ten others of these).");
        due("ten (", NONE, fault("a=" + "(".repeat(10) + "1" + ")".repeat(10) + ";"));
        due("eleven (", 12, fault("a=" + "(".repeat(11) + "1" + ")".repeat(11) + ";"));
        due("ten -", NONE, fault("a=" + "-".repeat(10) + "1;"));
        due("eleven -", 12, fault("a=" + "-".repeat(11) + "1;"));
        due("ten @", NONE, fault("@1[".repeat(10) + "]".repeat(10)));
        due("eleven @", 30, fault("@1[".repeat(11) + "]".repeat(11)));
        due("ten ?", NONE, fault("?1[".repeat(10) + "|]".repeat(10)));
        due("eleven ?", 30, fault("?1[".repeat(11) + "|]".repeat(11)));
        due("ten ? in the second ones", NONE, fault("?1[|".repeat(10) + "]".repeat(10)));
        due("eleven ? in the second ones", 40, fault("?1[|".repeat(11) + "]".repeat(11)));
        due("a hundred (", 12, fault("a=" + "(".repeat(100)));
        due("a tape full of -", 12, fault("a=" + "-".repeat(398)));
        due("a tape full of @", 30, fault("@1[".repeat(133)));
        due("ten ( can be worked out", 2047, value("1+2*(".repeat(10) + "1" + ")".repeat(10)));
        due("ten ( with all half done", 1, value("0<0+1*(".repeat(10) + "0<0+1*1" + ")".repeat(10)));
        due("ten - can be worked out", 1, value("-".repeat(10) + "1"));
    }

    private static void tenMixedOthers() {
        sentence("a ( - ? @ within ten others of these).");
        due("( and -", NONE, fault("a=-(-(-(-(-(1)))));"));
        due("a - within ten ( and -", 12, fault("a=-(-(-(-(-(-1)))));"));
        due("a ( within ten ( and -", 12, fault("a=(-(-(-(-(-((1)))))));"));
        String[] inner = {"a=(1);", "a=-1;", "?1[|]", "@1[]"};
        int[] places = {2, 2, 0, 0};
        for (int i = 0; i < inner.length; i++) {
            due("within nine: " + inner[i], NONE, fault("@1[?1[".repeat(4) + "@1[" + inner[i] + "]" + "|]]".repeat(4)));
            due("within ten: " + inner[i], 30 + places[i], fault("@1[?1[".repeat(5) + inner[i] + "|]]".repeat(5)));
        }
        due("within five @ and five (", 22, fault("@1[".repeat(5) + "a=" + "(".repeat(6) + "1" + ")".repeat(6) + ";" + "]".repeat(5)));
        due("within five @ and four (", NONE, fault("@1[".repeat(5) + "a=" + "(".repeat(5) + "1" + ")".repeat(5) + ";" + "]".repeat(5)));
        due("in the X of an act", 40, fault("@1[".repeat(10) + "a=act 1,1-(1);" + "]".repeat(10)));
    }

    private static void withinAndBehind() {
        sentence("a ( - ? @ within ten others of these).");
        due("what stands in its X is within a ?", 10, fault("?" + "-".repeat(10) + "1[|]"));
        due("nine in its X", NONE, fault("?" + "-".repeat(9) + "1[|]"));
        due("what stands in its X is within a @", 10, fault("@" + "(".repeat(10) + "0" + ")".repeat(10) + "[]"));
        due("nine in the X of a @", NONE, fault("@" + "(".repeat(9) + "0" + ")".repeat(9) + "[]"));
        due("a - between two terms has nothing within", NONE, fault("a=" + "1-".repeat(20) + "1;"));
        due("a - between two terms is not within", NONE, fault("@1[".repeat(10) + "a=1-1-1;" + "]".repeat(10)));
        due("one ( behind another", NONE, fault("a=" + "(1)+".repeat(20) + "(1);"));
        due("one - behind another", NONE, fault("a=" + "-1*".repeat(20) + "-1;"));
        due("one ? behind another", NONE, fault("?1[|]".repeat(80)));
        due("one @ behind another", NONE, fault("@0[]".repeat(100)));
        due("one behind ten others", NONE, fault("@0[".repeat(10) + "]".repeat(10) + "@0[" + "?0[|]]"));
    }

    // Helpers

    private static int fault(String text) {
        return new Desk().faultOf(text);
    }

    private static void faultsAt(Object... textsAndPlaces) {
        for (int i = 0; i + 1 < textsAndPlaces.length; i += 2) {
            String text = (String) textsAndPlaces[i];
            due(text, (Integer) textsAndPlaces[i + 1], fault(text));
        }
    }

    private static long register(String text) {
        return Desk.decided(text).register(0);
    }

    private static long value(String x) {
        return register("a=" + x + ";");
    }

    private static String twoRegisters(String text) {
        Desk x = Desk.decided(text);
        return x.register(0) + " " + x.register(1);
    }
}
