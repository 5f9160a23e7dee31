/** Paragraphs of 'Terms' on texts, tokens, depths and faults, at their edges. */
public final class TextEdgeTest {
    private static final Edge EDGE = new Edge("TextEdgeTest");
    private static final String TEXT = "THE TEXT";
    private static final String FUNCTIONS = "A TEXT is one FUNCTION or more";
    private static final String STATEMENTS = "var NAME ;";
    private static final String SUMS = "SUMS are none";
    private static final String DEEPER = "A BLOCK, SUM, COND";
    private static final String NAME_30 = "abcdefghijklmnopqrstuvwxyzABC9";
    /** The tokens with which a SUM begins, and those that stand between its parts. */
    private static final String SUM = "x 1 - ( any";
    private static final String SIGNS = "+ - * / %";
    /** All forms of statements, with a blank between any two tokens. */
    private static final String ALL_FORMS = "fun f ( a , b ) { return a + b ; } fun m ( ) { var x ; var y = any ; var t [ 3 ] ; x = 1 ; "
        + "t [ x ] = y ; x = f ( x , 2 ) ; f ( any ( - 1 , 2 ) , - ( x ) ) ; if ( x < 1 ) { } if ( x <= 1 && y > 2 ) { x = 2 ; } "
        + "else { } while ( ! [ x >= 3 || y == 4 ] ) { x = x * 2 / 3 % 4 ; } assert ( x != 5 ) ; }";

    public static void main(String[] args) {
        blanks();
        remarks();
        endsOfRemarks();
        firstBytesOfNames();
        otherBytesOfNames();
        longNames();
        words();
        greatNumbers();
        zeros();
        lettersBehindNumbers();
        signs();
        longestTokens();
        tokensThatTheEndCuts();
        functions();
        blocks();
        parameters();
        formsOfVar();
        sumsOfCalls();
        limits();
        tests();
        sixtyDeepSums();
        sixtyDeepConds();
        sixtyDeepBlocks();
        nothingDeeper();
        depthOfTheExample();
        valuesThatWaitAtEachDepth();
        functionsThatGoOn();
        statementsThatGoOn();
        sumsThatGoOn();
        condsThatGoOn();
        faultAtATokenOfAnyDepth();
        faultAtTheEnd();
        faultAtABadByte();
        faultAtTheFirst();
        EDGE.finish();
    }

    private static boolean isBlank(int b) {
        return b == 9 || b == 10 || b == 13 || b == 32;
    }

    private static boolean isLetter(int b) {
        return b >= 'a' && b <= 'z' || b >= 'A' && b <= 'Z' || b == '_';
    }

    private static boolean isDigit(int b) {
        return b >= '0' && b <= '9';
    }

    private static void blanks() {
        EDGE.terms(TEXT, "BLANKS are the bytes 9, 10, 13, 32, and remarks");
        for (int b = 0; b < 256; b++) {
            String text = "fun" + (char) b + "m(){}";
            if (isBlank(b)) {
                EDGE.right(text);
                EDGE.right((char) b + "fun m(){}" + (char) b);
            } else {
                // with a letter or a digit there it is a NAME, with which no text begins
                EDGE.faulty(text, isLetter(b) || isDigit(b) ? 0 : 3);
            }
        }
    }

    private static void remarks() {
        EDGE.terms(TEXT, "remarks: from // up to the next byte 10 or the end.");
        EDGE.right("fun//\nm(){}");
        EDGE.right("//\nfun m(){}");
        EDGE.right("fun m(){//}\n}");
        EDGE.right("fun m(){var x=6//2;\n;}");
        EDGE.right("fun m(){}// $ \u0000 \u00FF { // {");
        EDGE.right("fun m(){}//");
        EDGE.right("fun m(){}///");
        EDGE.fault("fun m(){}@/");
        EDGE.fault("fun m(){}@/ /");
        EDGE.fault("fun m(){}@/\n/");
        EDGE.fault("fun m(){}@/* */");
        EDGE.fault("@fu//\nn m(){}");
        EDGE.right("fun m(){var x=6/\n2;}");
        EDGE.fault("fun m(){var x=6/ @/2;}");
    }

    private static void endsOfRemarks() {
        EDGE.terms(TEXT, "from // up to the next byte 10 or the end");
        for (int b = 0; b < 256; b++) {
            // the NAME is a, unless the remark ends before x: then it is x, and no text goes on with a
            String text = "fun//" + (char) b + " x\na(){}";
            if (b == 10) {
                EDGE.faulty(text, 9);
            } else {
                EDGE.right(text);
            }
        }
    }

    private static void firstBytesOfNames() {
        EDGE.terms(TEXT, "NAMEs (a letter or _, then letters, digits, _; at most 30 bytes)");
        for (int b = 0; b < 256; b++) {
            String text = "fun " + (char) b + "(){}";
            if (isLetter(b)) {
                EDGE.right(text);
            } else {
                EDGE.faulty(text, isBlank(b) ? 5 : 4);
            }
        }
    }

    private static void otherBytesOfNames() {
        EDGE.terms(TEXT, "NAMEs (a letter or _, then letters, digits, _; at most 30 bytes)");
        for (int b = 0; b < 256; b++) {
            String text = "fun a" + (char) b + "(){}";
            if (isLetter(b) || isDigit(b) || isBlank(b)) {
                EDGE.right(text);
            } else {
                EDGE.faulty(text, b == '(' ? 6 : 5);
            }
        }
        EDGE.right("fun m(){var " + "_".repeat(30) + ";var Z9;var z9;var _9=Z9+z9;}");
    }

    private static void longNames() {
        EDGE.terms(TEXT, "at most 30 bytes");
        EDGE.right("fun " + NAME_30 + "(" + "){}");
        EDGE.right("fun f(" + NAME_30 + "){}fun m(){f(1);}");
        EDGE.right("fun m(){var " + NAME_30 + "=1;" + NAME_30 + "=" + NAME_30 + "+1;}");
        EDGE.right("fun " + NAME_30 + "(){}fun m(){" + NAME_30 + "();}");
        EDGE.fault("fun @" + NAME_30 + "x(){}");
        EDGE.fault("fun @" + NAME_30 + "_(){}");
        EDGE.fault("fun @" + NAME_30 + "0(){}");
        EDGE.fault("fun f(@" + NAME_30 + "x){}fun m(){}");
        EDGE.fault("fun m(){var @" + NAME_30 + "x;}");
        EDGE.fault("fun m(){@" + NAME_30 + "x=1;}");
        EDGE.fault("fun m(){var x=@" + NAME_30 + "x;}");
        EDGE.fault("@" + "f".repeat(31));
        EDGE.fault("fun @" + "m".repeat(1000) + "(){}");
        EDGE.fault("fun m(){return @" + "return".repeat(6) + ";}");
        // all thirty bytes count
        EDGE.mistaken(1, "fun m(){var " + NAME_30 + ";@" + NAME_30.replace('9', '8') + "=1;}");
        EDGE.right("fun m(){var " + NAME_30 + ";var " + NAME_30.replace('9', '8') + ";}");
    }

    private static void words() {
        EDGE.terms(TEXT, "but fun, var, if, else, while, assert, return and any are WORDS");
        for (String word : new String[] {"fun", "var", "if", "else", "while", "assert", "return", "any"}) {
            EDGE.fault("fun @" + word + "(){}");
            EDGE.fault("fun f(@" + word + "){}fun m(){}");
            EDGE.fault("fun m(){var @" + word + ";}");
            EDGE.right("fun " + word + "_(){}");
            EDGE.right("fun " + word + "0(){}");
            EDGE.right("fun _" + word + "(){}");
            EDGE.right("fun " + word.substring(0, word.length() - 1) + "(){}");
            EDGE.right("fun " + word.toUpperCase() + "(){}");
            EDGE.right("fun " + word.substring(0, 1).toUpperCase() + word.substring(1) + "(){}");
        }
    }

    private static void greatNumbers() {
        EDGE.terms(TEXT, "NUMBERs (all the digits that stand there: up to 2147483647");
        EDGE.right("fun m(){var x=2147483647;}");
        EDGE.right("fun m(){var x=any(-2147483647,2147483647);}");
        String[] great = {"2147483648", "2147483650", "3000000000", "4294967295", "4294967296", "4294967297", "9999999999",
            "10000000000", "9223372036854775807", "9223372036854775808", "18446744073709551616", "18446744073709551617",
            "99999999999999999999999999999999999999999"};
        for (String number : great) {
            EDGE.fault("fun m(){var x=@" + number + ";}");
            EDGE.fault("fun m(){var x=-@" + number + ";}");
            EDGE.fault("fun m(){var x=any(@" + number + ",0);}");
            EDGE.fault("fun m(){var x=any(0,@" + number + ");}");
            EDGE.fault("fun m(){var x=any(-@" + number + ",0);}");
            EDGE.fault("fun m(){var t[@" + number + "];}");
        }
    }

    private static void zeros() {
        EDGE.terms(TEXT, "0 in front for 0 alone");
        EDGE.right("fun m(){var x=0;var y=10;var z=any(0,0);}");
        for (String number : new String[] {"00", "01", "09", "000", "0123", "02147483647"}) {
            EDGE.fault("fun m(){var x=@" + number + ";}");
            EDGE.fault("fun m(){var t[@" + number + "];}");
            EDGE.fault("fun m(){var x=any(@" + number + ",5);}");
        }
    }

    private static void lettersBehindNumbers() {
        EDGE.terms(TEXT, "no letter or _ behind");
        for (int b = 0; b < 256; b++) {
            // no text goes on with a NUMBER there, so that the fault lies at it if it is one
            String text = "fun m(){var x=1" + (char) b + "5;}";
            boolean digit = isDigit(b);
            if (digit || b == '+' || b == '-' || b == '*' || b == '/' || b == '%') {
                EDGE.right(text);
            } else if (isLetter(b)) {
                EDGE.faulty(text, 14);
            } else {
                EDGE.faulty(text, isBlank(b) || b == ';' ? 16 : 15);
            }
        }
        EDGE.fault("fun m(){var x=@0x;}");
        EDGE.fault("fun m(){var x=@2147483647_;}");
        EDGE.fault("fun m(){if(1<@2while){}}");
    }

    private static void signs() {
        EDGE.terms(TEXT, "and the SIGNS ( ) { } [ ] , ; = + - * / % < <= > >= == != && || !");
        EDGE.right("fun f(a,b){return a;}fun m(){var t[2];var x=1+2-3*4/5%6;x=f(t[0],-x);assert(1<2&&1<=2||1>2||1>=2||1==2||![1!=2]);}");
        String all = "(){}[],;=+-*/%<>!";
        for (int b = 0; b < 256; b++) {
            if (!isLetter(b) && !isDigit(b) && !isBlank(b) && all.indexOf(b) < 0) {
                EDGE.faulty("fun m(){var x=1;x=x" + (char) b + "1;}", 19);
                EDGE.faulty("fun m(){var x=1;if(x" + (char) b + "1){}}", 20);
                EDGE.faulty("fun m()" + (char) b + "{}", 7);
                EDGE.faulty("fun m(){}" + (char) b, 9);
            }
        }
    }

    private static void longestTokens() {
        EDGE.terms(TEXT, "TOKENS are the longest that can be read at a place");
        EDGE.fault("fun m(){varx@;}");
        EDGE.fault("fun m(){x@==1;}");
        EDGE.fault("fun m(){x = @= 1;}");
        EDGE.fault("fun m(){if(1< @=2){}}");
        EDGE.fault("fun m(){if(1> @=2){}}");
        EDGE.fault("fun m(){if(1@= =2){}}");
        EDGE.fault("fun m(){if(1@! =2){}}");
        EDGE.fault("fun m(){if(1<=@=2){}}");
        EDGE.fault("fun m(){if(1>=@=2){}}");
        EDGE.fault("fun m(){if(1==@=2){}}");
        EDGE.fault("fun m(){if(1!=@=2){}}");
        EDGE.fault("fun m(){if(1==@>2){}}");
        EDGE.fault("fun m(){if(1@=>2){}}");
        EDGE.fault("fun m(){if(1<@>2){}}");
        EDGE.fault("fun m(){if(1<2&&@&3<4){}}");
        EDGE.fault("fun m(){if(1<2||@|3<4){}}");
        EDGE.fault("fun m(){if(1<2@& &3<4){}}");
        EDGE.fault("fun m(){if(1<2@| |3<4){}}");
        EDGE.fault("fun m(){if(1<2@&|3<4){}}");
        EDGE.fault("fun m(){if(1<2||@||3<4){}}");
        EDGE.right("fun m(){if(1<=-2&&!1!=-1||!!1==2){}}");
        EDGE.right("fun m(){var x=1--1;x=1- -1;}");
    }

    private static void cut(String text, int n, int place) {
        EDGE.fresh();
        EDGE.desk.feed(text);
        EDGE.due("end(" + n + ") of " + text, EDGE.desk.end(n), 1);
        EDGE.due("told(1) of end(" + n + ") of " + text, EDGE.desk.told(1), place);
    }

    /** What stands behind the text is no part of its last token. */
    private static void tokensThatTheEndCuts() {
        EDGE.promise(3, "The first n bytes are a text");
        cut("fun m(){}//", 10, 9);
        cut("fun mmm", 5, 5);
        cut("fun " + NAME_30 + "x", 34, 34);
        cut("fun " + NAME_30 + "x", 35, 4);
        cut("fun m(){x=21474836470", 20, 20);
        cut("fun m(){x=21474836470", 21, 10);
        cut("fun m(){x=00", 11, 11);
        cut("fun m(){x=00", 12, 10);
        cut("fun m(){x=1a", 11, 11);
        cut("fun m(){x=1a", 12, 10);
        cut("fun m(){if(1<=", 13, 13);
        cut("fun m(){if(1<=", 14, 14);
        cut("fun m(){if(1!=", 13, 12);
        cut("fun m(){if(1!=", 14, 14);
        cut("fun m(){if(1==", 13, 12);
        cut("fun m(){if(1==", 14, 14);
        cut("fun m(){if(1<2&&", 15, 14);
        cut("fun m(){if(1<2&&", 16, 16);
        cut("fun m(){if(1<2||", 15, 14);
        cut("fun m(){if(1<2||", 16, 16);
        cut("fun m(){while", 12, 12);
        cut("fun m(){while(", 13, 13);
    }

    private static void functions() {
        EDGE.terms(FUNCTIONS, "A TEXT is one FUNCTION or more: fun NAME ( ) BLOCK, or fun NAME ( NAMES ) BLOCK");
        EDGE.faulty("", 0);
        EDGE.faulty(" \t\r\n", 4);
        EDGE.faulty("// fun m(){}", 12);
        EDGE.right("fun m(){}");
        EDGE.right("fun f(){}fun m(){}");
        EDGE.right("fun f(){}".repeat(1000) + "fun m(){}");
        EDGE.fault("fun m(){}@;");
        EDGE.fault("fun m(){}@}");
        EDGE.fault("fun m(){}@{}");
        EDGE.fault("fun m(){}@m");
        EDGE.fault("@m(){}");
        EDGE.fault("fun @(){}");
        EDGE.fault("fun m@{}");
        EDGE.fault("fun m()@");
    }

    private static void blocks() {
        EDGE.terms(FUNCTIONS, "A BLOCK is { and } with STATEMENTs between, none or more");
        EDGE.right("fun m(){}");
        EDGE.right("fun m(){var x;}");
        EDGE.right("fun m(){var x;x=1;}");
        EDGE.right("fun m(){if(1<2){}else{}while(2<1){}}");
        EDGE.fault("fun m(){@;}");
        EDGE.fault("fun m(){var x;@;}");
        EDGE.fault("fun m(){@{}}");
        EDGE.fault("fun m()@var x;");
        EDGE.fault("fun m(){if(1<2)@;}");
        EDGE.fault("fun m(){if(1<2){}else@;}");
        EDGE.fault("fun m(){while(1<2)@;}");
        EDGE.fault("fun m(){if(1<2){}@;}");
    }

    private static void parameters() {
        EDGE.terms(FUNCTIONS, "NAMES being NAMEs with , between");
        EDGE.right("fun f(a){}fun g(a,b){}fun m(){f(1);g(1,2);}");
        EDGE.right("fun f(a,b,c,d,e,f,g,h,i,j,k,l){}fun m(){f(1,2,3,4,5,6,7,8,9,10,11,12);}");
        EDGE.right("fun f(" + "a,".repeat(4000) + "a){}fun m(){}");
        EDGE.fault("fun f(@,){}");
        EDGE.fault("fun f(a,@){}");
        EDGE.fault("fun f(@,a){}");
        EDGE.fault("fun f(a,@,b){}");
        EDGE.fault("fun f(a @b){}");
        EDGE.fault("fun f(a@;b){}");
        EDGE.fault("fun f(@1){}");
        EDGE.fault("fun f(a@=1){}");
    }

    private static void formsOfVar() {
        EDGE.terms(STATEMENTS, "var NAME ;      var NAME = SUM ;      var NAME [ NUMBER ] ;");
        EDGE.right("fun m(){var x;var y=1;var t[1];}");
        EDGE.fault("fun m(){var t[@];}");
        EDGE.fault("fun m(){var t[@-1];}");
        EDGE.fault("fun m(){var t[1@+1];}");
        EDGE.fault("fun m(){var t[1]@=1;}");
        EDGE.fault("fun m(){var x=@;}");
        EDGE.fault("fun m(){var x@,y;}");
        EDGE.fault("fun m(){var x@(1);}");
        EDGE.fault("fun m(){var x=f@();}");
        EDGE.terms(STATEMENTS, "return SUM ;");
        EDGE.fault("fun f(){return@;}");
        EDGE.fault("fun f(){return x@(1);}");
    }

    private static void sumsOfCalls() {
        EDGE.terms(SUMS, "SUMS are none, or SUMs with , between.");
        EDGE.right("fun f(){}fun g(a){}fun h(a,b){}fun m(){f();g(1);h(1,2);}");
        EDGE.fault("fun m(){f(@,);}");
        EDGE.fault("fun m(){f(1,@);}");
        EDGE.fault("fun m(){f(@,1);}");
        EDGE.fault("fun m(){f(1 @2);}");
        EDGE.fault("fun m(){f(1@;2);}");
        EDGE.fault("fun m(){f(1@<2);}");
        EDGE.fault("fun m(){f()@+1;}");
        EDGE.fault("fun m(){f(g@());}");
    }

    private static void limits() {
        EDGE.terms(SUMS, "any, or any ( LIMIT , LIMIT ), a LIMIT being NUMBER or - NUMBER");
        EDGE.right("fun m(){var x=any;x=any(0,0);x=any(-1,-1);x=any(- 2147483647,2147483647);x=any+any(1,2)*any;}");
        EDGE.fault("fun m(){var x=any(@);}");
        EDGE.fault("fun m(){var x=any(1@);}");
        EDGE.fault("fun m(){var x=any(1,@);}");
        EDGE.fault("fun m(){var x=any(1,2@,3);}");
        EDGE.fault("fun m(){var x=any(-@-1,2);}");
        EDGE.fault("fun m(){var x=any(@+1,2);}");
        EDGE.fault("fun m(){var x=any(@x,2);}");
        EDGE.fault("fun m(){var x=any(@(1),2);}");
        EDGE.fault("fun m(){var x=any(1@+1,2);}");
        EDGE.fault("fun m(){var x=any@[1];}");
    }

    private static void tests() {
        EDGE.terms(SUMS, "A COND is BOTHs with || between, a BOTH is TESTs with && between, a TEST is ! TEST, [ COND ], or "
            + "SUM RELATION SUM");
        EDGE.right("fun m(){assert(1<2);assert(1<2&&1<2);assert(1<2||1<2);assert(!1<2);assert([1<2]);assert(![!1<2||[1<2]]);}");
        EDGE.fault("fun m(){assert(@);}");
        EDGE.fault("fun m(){assert(1@);}");
        EDGE.fault("fun m(){assert(1<@);}");
        EDGE.fault("fun m(){assert(@<1);}");
        EDGE.fault("fun m(){assert(1<2@<3);}");
        EDGE.fault("fun m(){assert(1<2&&@);}");
        EDGE.fault("fun m(){assert(1<2||@);}");
        EDGE.fault("fun m(){assert(@&&1<2);}");
        EDGE.fault("fun m(){assert(!@);}");
        EDGE.fault("fun m(){assert([@]);}");
        EDGE.fault("fun m(){assert([1<2@);}");
        EDGE.fault("fun m(){assert([1<2]@<3);}");
        EDGE.fault("fun m(){assert((1@<2));}");
        EDGE.fault("fun m(){assert([1@]<2);}");
        EDGE.fault("fun m(){assert(1@=2);}");
    }

    private static String times(String text, int count) {
        return text.repeat(count);
    }

    private static void sixtyDeepSums() {
        EDGE.terms(DEEPER, "none may lie more than 60 deep");
        // the function's BLOCK is 1 deep, the SUM behind = 2, and each bracket, place and - makes one more
        EDGE.right("fun m(){var x=" + times("(", 58) + "1" + times(")", 58) + ";}");
        EDGE.fault("fun m(){var x=" + times("(", 59) + "@1" + times(")", 59) + ";}");
        EDGE.fault("fun m(){var x=" + times("(", 59) + "@(" + times(")", 60) + ";}");
        EDGE.right("fun m(){var t[1];t[0]=" + times("t[", 58) + "0" + times("]", 58) + ";}");
        EDGE.fault("fun m(){var t[1];t[0]=" + times("t[", 59) + "@0" + times("]", 59) + ";}");
        EDGE.right("fun m(){var t[1];t[" + times("t[", 58) + "0" + times("]", 58) + "]=1;}");
        EDGE.fault("fun m(){var t[1];t[" + times("t[", 59) + "@0" + times("]", 59) + "]=1;}");
        EDGE.right("fun m(){var x;x=" + times("-", 58) + "1;}");
        EDGE.fault("fun m(){var x;x=" + times("-", 59) + "@1;}");
        EDGE.fault("fun m(){var x;x=" + times("-", 59) + "@-1;}");
        EDGE.right("fun f(a){}fun m(){f(" + times("-", 58) + "1);}");
        EDGE.fault("fun f(a){}fun m(){f(" + times("-", 59) + "@1);}");
        EDGE.right("fun f(){return " + times("(", 58) + "1" + times(")", 58) + ";}fun m(){}");
        EDGE.fault("fun f(){return " + times("(", 59) + "@1" + times(")", 59) + ";}fun m(){}");
        EDGE.right("fun m(){var x=" + times("-(", 29) + "1" + times(")", 29) + ";}");
        EDGE.fault("fun m(){var x=" + times("-(", 29) + "-@1" + times(")", 29) + ";}");
        EDGE.fault("fun m(){var x=" + times("-(", 29) + "(@1)" + times(")", 29) + ";}");
        // it is there that it is deep, whatever stands beside it
        EDGE.right("fun m(){var x=1" + times("+" + times("(", 58) + "1" + times(")", 58), 9) + ";}");
        EDGE.fault("fun m(){var x=1" + times("+" + times("(", 58) + "1" + times(")", 58), 9) + "+" + times("(", 59) + "@1;}");
    }

    private static void sixtyDeepConds() {
        EDGE.terms(DEEPER, "none may lie more than 60 deep");
        // the COND is 2 deep, and its SUMs are one deeper than the innermost COND or TEST behind !
        EDGE.right("fun m(){assert(" + times("[", 57) + "1<2" + times("]", 57) + ");}");
        EDGE.fault("fun m(){assert(" + times("[", 58) + "@1<2" + times("]", 58) + ");}");
        EDGE.fault("fun m(){assert(" + times("[", 59) + "@1<2" + times("]", 59) + ");}");
        EDGE.fault("fun m(){assert(" + times("[", 59) + "@[1<2" + times("]", 60) + ");}");
        EDGE.right("fun m(){assert(" + times("!", 57) + "1<2);}");
        EDGE.fault("fun m(){assert(" + times("!", 58) + "@1<2);}");
        EDGE.fault("fun m(){assert(" + times("!", 58) + "[@1<2]);}");
        EDGE.fault("fun m(){assert(" + times("!", 59) + "@[1<2]);}");
        EDGE.fault("fun m(){assert(" + times("!", 59) + "@!1<2);}");
        EDGE.right("fun m(){assert(" + times("![", 28) + "!1<2" + times("]", 28) + ");}");
        EDGE.fault("fun m(){assert(" + times("![", 29) + "@1<2" + times("]", 29) + ");}");
        EDGE.right("fun m(){assert(1<" + times("-", 57) + "2);}");
        EDGE.fault("fun m(){assert(1<" + times("-", 58) + "@2);}");
        EDGE.right("fun m(){while(1<2&&1<" + times("(", 57) + "2" + times(")", 57) + "){}}");
        EDGE.fault("fun m(){while(1<2&&1<" + times("(", 58) + "@2" + times(")", 58) + "){}}");
        EDGE.right("fun m(){if(1<2||" + times("!", 57) + "1<2){}}");
        EDGE.fault("fun m(){if(1<2||" + times("!", 58) + "@1<2){}}");
    }

    /** A BLOCK that is 59 deep is the deepest one: the next one would have a COND that is 60 deep, and SUMs that are 61. */
    private static void sixtyDeepBlocks() {
        EDGE.terms(DEEPER, "none may lie more than 60 deep");
        for (String opening : new String[] {"if(1<2){", "while(2<1){", "if(1<2){}else{"}) {
            String deep = "fun f(){}fun g(a){return a;}fun m(){var x;var t[1];" + times(opening, 58);
            String shut = times("}", 59);
            EDGE.right(deep + shut);
            EDGE.right(deep + "x=1;x=x;t[0]=1;var y;var z=1;var u[1];f();g(1);x=g(x);" + shut);
            EDGE.fault(deep + "if(@1<2){}" + shut);
            EDGE.fault(deep + "while(@1<2){}" + shut);
            EDGE.fault(deep + "assert(@1<2);" + shut);
            EDGE.fault(deep + "assert(!@1<2);" + shut);
            EDGE.fault(deep + "assert([@1<2]);" + shut);
            EDGE.fault(deep + "x=t[@0];" + shut);
            EDGE.fault(deep + "t[t[@0]]=1;" + shut);
            EDGE.fault(deep + "x=g(-@1);" + shut);
            EDGE.fault(deep + "g((@1));" + shut);
            EDGE.fault(deep + "var z=-@1;" + shut);
            String less = "fun m(){var x;" + times(opening, 57);
            EDGE.right(less + "assert(1<2);if(1<2){x=1;}else{x=x;}x=-1;while(1<2){}" + times("}", 58));
            EDGE.fault(less + "assert(!@1<2);" + times("}", 58));
            EDGE.fault(less + "if(1<2){x=-@1;}" + times("}", 58));
        }
        EDGE.terms(DEEPER, "(behind = a NAME begins a SUM unless ( comes behind it)");
        String deep = "fun f(){return 1;}fun m(){var x;" + times("if(1<2){", 58);
        EDGE.right(deep + "x=f();x=x;" + times("}", 59));
        EDGE.fault(deep + "x=f(@" + times("}", 59));
    }

    private static void nothingDeeper() {
        EDGE.terms(DEEPER, "A BLOCK, SUM, COND, FACTOR behind -, or TEST behind ! lies one DEEPER than the innermost one of these "
            + "in which it lies, and 1 deep in none");
        String open = times("(", 58);
        String shut = times(")", 58);
        EDGE.right("fun m(){var x=" + open + "any(-1,-1)+any*2/3%4-5" + shut + ";}");
        EDGE.right("fun m(){var x=" + times("1+", 500) + "1;}");
        EDGE.right("fun m(){var x=" + times("2*", 500) + "0;}");
        EDGE.right("fun m(){var x=" + times("-1+", 500) + "(1);}");
        EDGE.right("fun m(){assert(" + times("1<2&&", 500) + "1<2);}");
        EDGE.right("fun m(){assert(" + times("!1<2||[1<2]&&", 300) + "1<2);}");
        EDGE.right("fun m(){" + times("if(1<2){}else{}", 100) + times("while(1<2){}", 100) + "}");
        EDGE.right(times("fun f(){" + times("if(1<2){", 57) + times("}", 58), 15) + "fun m(){f();}");
    }

    private static void depthOfTheExample() {
        EDGE.terms(DEEPER, "(fun f() { x = -(y); } : 4 deep, at y)");
        EDGE.right("fun m(){var x;var y;" + times("if(1<2){", 56) + "x = -(y);" + times("}", 57));
        EDGE.fault("fun m(){var x;var y;" + times("if(1<2){", 57) + "x = -(@y);" + times("}", 58));
        EDGE.fault("fun m(){var x;var y;" + times("if(1<2){", 58) + "x = -@(y);" + times("}", 59));
    }

    /** What waits for its second part at each depth is no more than there is room for. */
    private static void valuesThatWaitAtEachDepth() {
        EDGE.terms(DEEPER, "none may lie more than 60 deep");
        EDGE.program("fun m(){var t[1];var x=" + times("1+2*(", 58) + "0" + times(")", 58) + ";x=x;}");
        EDGE.due("alarms: it is more than any int", EDGE.desk.point(1, 2), 1);
        EDGE.program("fun m(){var x=" + times("1+0*(", 58) + "5" + times(")", 58) + ";x=x;}");
        EDGE.known(1, "x in 1..1");
        EDGE.due("run(1)", EDGE.desk.run(1), 16);
        EDGE.due("value(0)", EDGE.desk.value(0), 1);
        EDGE.program("fun m(){var t[9];var x=" + times("1+0*t[", 58) + "5" + times("]", 58) + ";x=x;}");
        EDGE.known(2, "x in 1..1, t[] in 0..0");
        EDGE.due("run(2)", EDGE.desk.run(2), 16);
        EDGE.due("value(0)", EDGE.desk.value(0), 1);
        EDGE.program("fun m(){var x=any(0,9);assert(" + times("x<0||x<9&&[", 57) + "x<5" + times("]", 57) + ");x=x;}");
        EDGE.known(2, "x in 0..4");
        EDGE.due("alarms", EDGE.desk.point(1, 2), 8);
        EDGE.due("run(2000)", EDGE.desk.run(2000), 0);
        EDGE.program("fun m(){var x=any(0,9);assert(" + times("x<0||x<9&&!!", 28) + "x<5);x=x;}");
        EDGE.known(2, "x in 0..4");
        EDGE.program("fun m(){var x=any(0,9);assert(x<" + times("x*0+(", 57) + "5" + times(")", 57) + ");x=x;}");
        EDGE.due("run(2000)", EDGE.desk.run(2000), 0);
    }

    /** Behind the beginning of a text: it goes on with those tokens, and with no others. */
    private static void goesOn(String beginning, String tokens) {
        String[] all = ("fun var if else while assert return any x 1 ( ) { } [ ] , ; = + - * / % < <= > >= == != && || !").split(" ");
        for (String token : all) {
            String text = beginning + " " + token;
            if ((" " + tokens + " ").contains(" " + token + " ")) {
                EDGE.faulty(text, text.length());
            } else {
                EDGE.faulty(text, beginning.length() + 1);
            }
        }
    }

    private static void functionsThatGoOn() {
        EDGE.terms(FUNCTIONS, "A TEXT is one FUNCTION or more: fun NAME ( ) BLOCK, or fun NAME ( NAMES ) BLOCK, NAMES being NAMEs with , "
            + "between.");
        goesOn("", "fun");
        goesOn("fun", "x");
        goesOn("fun m", "(");
        goesOn("fun m (", "x )");
        goesOn("fun m ( )", "{");
        goesOn("fun m ( a", ", )");
        goesOn("fun m ( a ,", "x");
        goesOn("fun m ( a , b", ", )");
        goesOn("fun m ( a )", "{");
        goesOn("fun f ( ) { } fun", "x");
    }

    private static void statementsThatGoOn() {
        EDGE.terms(STATEMENTS, "var NAME ;      var NAME = SUM ;      var NAME [ NUMBER ] ;      NAME = SUM ;      NAME [ SUM ] = SUM ;      "
            + "NAME = NAME ( SUMS ) ;      NAME ( SUMS ) ;      if ( COND ) BLOCK      if ( COND ) BLOCK else BLOCK      "
            + "while ( COND ) BLOCK      assert ( COND ) ;      return SUM ;");
        String statements = "var x if while assert return }";
        goesOn("fun m ( ) { if ( 1 < 2 ) {", statements);
        goesOn("fun m ( ) { while ( 1 < 2 ) { if ( 1 < 2 ) { }", statements + " else");
        goesOn("fun m ( ) { if ( 1 < 2 ) { } else", "{");
        goesOn("fun m ( ) { while ( 1 < 2 ) { if ( 1 < 2 ) { } else { }", statements);
        goesOn("fun m ( ) { while ( 1 < 2 ) { while ( 1 < 2 ) { }", statements);
        goesOn("fun m ( ) { while ( 1 < 2 ) { x = 1 ;", statements);
        goesOn("fun m ( ) { var", "x");
        goesOn("fun m ( ) { var y", "; = [");
        goesOn("fun m ( ) { var y =", SUM);
        goesOn("fun m ( ) { var y = z", SIGNS + " [ ;");
        goesOn("fun m ( ) { var y [", "1");
        goesOn("fun m ( ) { var y [ 2", "]");
        goesOn("fun m ( ) { var y [ 2 ]", ";");
        goesOn("fun m ( ) { y", "= [ (");
        goesOn("fun m ( ) { y =", SUM);
        goesOn("fun m ( ) { y = z", SIGNS + " [ ( ;");
        goesOn("fun m ( ) { y = f (", SUM + " )");
        goesOn("fun m ( ) { y = f ( )", ";");
        goesOn("fun m ( ) { f (", SUM + " )");
        goesOn("fun m ( ) { f ( 2 , 3 )", ";");
        goesOn("fun m ( ) { t [", SUM);
        goesOn("fun m ( ) { t [ 2", SIGNS + " ]");
        goesOn("fun m ( ) { t [ 2 ]", "=");
        goesOn("fun m ( ) { t [ 2 ] =", SUM);
        goesOn("fun m ( ) { t [ 2 ] = f", SIGNS + " [ ;");
        goesOn("fun m ( ) { return", SUM);
        goesOn("fun m ( ) { return z", SIGNS + " [ ;");
    }

    private static void sumsThatGoOn() {
        EDGE.terms(SUMS, "SUMS are none, or SUMs with , between. A SUM is TERMs with + or - between, from the left on; a TERM is FACTORs with "
            + "*, / or % between, from the left on; a FACTOR is NUMBER, NAME, NAME [ SUM ], - FACTOR, ( SUM ), any, or any ( LIMIT , LIMIT ), "
            + "a LIMIT being NUMBER or - NUMBER.");
        goesOn("fun m ( ) { y = f ( z", SIGNS + " [ , )");
        goesOn("fun m ( ) { y = f ( z ,", SUM);
        goesOn("fun m ( ) { f ( 2", SIGNS + " , )");
        goesOn("fun m ( ) { y = 2", SIGNS + " ;");
        goesOn("fun m ( ) { y = 2 +", SUM);
        goesOn("fun m ( ) { y = 2 -", SUM);
        goesOn("fun m ( ) { y = 2 *", SUM);
        goesOn("fun m ( ) { y = 2 /", SUM);
        goesOn("fun m ( ) { y = 2 %", SUM);
        goesOn("fun m ( ) { y = z [", SUM);
        goesOn("fun m ( ) { y = z [ 2", SIGNS + " ]");
        goesOn("fun m ( ) { y = z [ 2 ]", SIGNS + " ;");
        goesOn("fun m ( ) { y = -", SUM);
        goesOn("fun m ( ) { y = - z", SIGNS + " [ ;");
        goesOn("fun m ( ) { y = (", SUM);
        goesOn("fun m ( ) { y = ( z", SIGNS + " [ )");
        goesOn("fun m ( ) { y = ( z )", SIGNS + " ;");
        goesOn("fun m ( ) { y = any", SIGNS + " ( ;");
        goesOn("fun m ( ) { y = any (", "1 -");
        goesOn("fun m ( ) { y = any ( -", "1");
        goesOn("fun m ( ) { y = any ( - 2", ",");
        goesOn("fun m ( ) { y = any ( 2 ,", "1 -");
        goesOn("fun m ( ) { y = any ( 2 , -", "1");
        goesOn("fun m ( ) { y = any ( 2 , 3", ")");
        goesOn("fun m ( ) { y = any ( 2 , 3 )", SIGNS + " ;");
    }

    private static void condsThatGoOn() {
        EDGE.terms(SUMS, "A COND is BOTHs with || between, a BOTH is TESTs with && between, a TEST is ! TEST, [ COND ], or SUM RELATION SUM, a "
            + "RELATION being one of < <= > >= == !=");
        String test = SUM + " ! [";
        String relations = "< <= > >= == !=";
        for (String statement : new String[] {"if", "while", "assert"}) {
            String cond = "fun m ( ) { " + statement;
            goesOn(cond, "(");
            goesOn(cond + " (", test);
            goesOn(cond + " ( !", test);
            goesOn(cond + " ( [", test);
            goesOn(cond + " ( z", SIGNS + " [ " + relations);
            goesOn(cond + " ( ( z", SIGNS + " [ )");
            goesOn(cond + " ( 2", SIGNS + " " + relations);
            for (String relation : relations.split(" ")) {
                goesOn(cond + " ( 2 " + relation, SUM);
            }
            goesOn(cond + " ( 2 < 3", SIGNS + " && || )");
            goesOn(cond + " ( [ 2 < 3", SIGNS + " && || ]");
            goesOn(cond + " ( [ 2 < 3 ]", "&& || )");
            goesOn(cond + " ( 2 < 3 &&", test);
            goesOn(cond + " ( 2 < 3 ||", test);
            goesOn(cond + " ( 2 < 3 )", statement.equals("assert") ? ";" : "{");
        }
    }

    private static void faultAtATokenOfAnyDepth() {
        EDGE.terms(DEEPER, "a token with which no text, of any depth, goes on; the first token of something that is 61 deep");
        // the sign that would open what is too deep is no fault itself, but what comes behind it is
        String sum = "fun m(){var x=" + times("(", 58);
        EDGE.fault(sum + "-@1");
        EDGE.fault(sum + "- // remark\n @1");
        EDGE.fault(sum + "(@)");
        EDGE.fault(sum + "t[@]");
        EDGE.fault(sum + "-@;");
        EDGE.faulty(sum + "-", 73);
        EDGE.faulty(sum + "- ", 74);
        EDGE.fault(sum + "-@$");
        EDGE.fault(sum + "1@(");
        EDGE.fault(sum + "1-@;");
    }

    private static void faultAtTheEnd() {
        EDGE.terms(DEEPER, "the end of the text (as many bytes as it has, whatever blanks come before)");
        int behindFirst = ALL_FORMS.indexOf(" fun m");
        for (int n = 0; n < ALL_FORMS.length(); n++) {
            if (ALL_FORMS.charAt(n) == ' ' && n != behindFirst) {
                String text = ALL_FORMS.substring(0, n);
                EDGE.faulty(text, n);
                EDGE.faulty(text + "  ", n + 2);
                EDGE.faulty(text + "\t\n\r", n + 3);
                EDGE.faulty(text + "// x", n + 4);
                EDGE.faulty(text + "//\n", n + 3);
            }
        }
        EDGE.right(ALL_FORMS);
        EDGE.right(ALL_FORMS + "  ");
        EDGE.mistaken(7, "fun @" + ALL_FORMS.substring(4, behindFirst));
    }

    private static void faultAtABadByte() {
        EDGE.terms(DEEPER, "a byte at which there is no token (that of a NAME or NUMBER that is too long or too great, too)");
        String[] bad = {"$", "\u0000", "\u00FF", "&", "|", "\"", "2147483648", "00", "0a", "a".repeat(31)};
        for (int n = 0; n <= ALL_FORMS.length(); n++) {
            if (n == ALL_FORMS.length() || ALL_FORMS.charAt(n) == ' ') {
                for (String token : bad) {
                    EDGE.faulty(ALL_FORMS.substring(0, n) + " " + token + ALL_FORMS.substring(n), n + 1);
                }
            }
        }
    }

    private static void faultAtTheFirst() {
        EDGE.terms(DEEPER, "THE FAULT lies at the first one of these");
        EDGE.fault("fun m(){@; $}");
        EDGE.fault("fun m(){@$ ;}");
        EDGE.fault("fun m(){@; var x=" + times("(", 59) + "1;}");
        EDGE.fault("fun m(){var x=" + times("(", 59) + "@1 ; $ ;}");
        EDGE.fault("fun m(){var x=@$" + times("(", 59) + "1;}");
        EDGE.fault("fun m(){x @2147483648 ;");
        EDGE.fault("fun m(){x @; 2147483648");
        // what stands nowhere else but in functions that are never called is looked at for its tokens too
        EDGE.fault("fun f(){x@;}fun m(){}");
        EDGE.fault("fun f(){x=" + times("-", 59) + "@1;}fun m(){}");
    }
}
