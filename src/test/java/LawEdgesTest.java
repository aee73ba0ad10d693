/** Part III of the document, sentence by sentence where one names a boundary: the tape, TOKENS, CLAUSES, FAULTS, FORCES, THE TEXT. */
final class LawEdgesTest extends Check {
    public static void main(String[] args) {
        tapes();
        highestFirst();
        texts();
        tapeBehindText();
        longestText();
        blanks();
        words();
        numbers();
        signs();
        otherBytes();
        clauses();
        keys();
        numbersOfClauses();
        askingAndSumming();
        fromTheLeft();
        division();
        greatest();
        names();
        bothSides();
        faultOfTheEnd();
        faultAtTheFirstToken();
        leastOfOne();
        open();
        openAgain();
        openInOneWithFault();
        second();
        latestFault();
        forces();
        forceOfMonths();
        theText();
        withoutText();
        why();
        keysInOrder();
        whole();
        there();
        conclude();
    }

    private static void tapes() {
        promise = "Twenty bytes come behind the tape; the tape has its first n bytes alone";
        RingsUnder x = new RingsUnder();
        due("nothing is there", x.end(0), 0);
        due("nor more", x.end(1), NONE);
        for (int i = 1; i <= 15; i++) {
            due("feed", x.feed(0, 0, 0, 0, 0), 20 * i);
        }
        due("above 300", x.feed(0, 0, 0, 0, 0), NONE);
        due("300", x.about(13), 300);
        due("all", x.end(300), 300);
        due("one more than there are", x.end(301), NONE);
        due("below", x.end(-1), NONE);
        due("300", x.about(13), 300);
        due("one less", x.end(299), 299);
        due("319 would be", x.feed(0, 0, 0, 0, 0), NONE);
        due("none come", x.about(13), 299);
        due("those that went are gone", x.end(300), NONE);
        due("281", x.end(281), 281);
        due("301 would be", x.feed(0, 0, 0, 0, 0), NONE);
        due("280", x.end(280), 280);
        due("300 are", x.feed(0, 0, 0, 0, 0), 300);
        due("nothing", x.end(0), 0);
        due("nothing", x.about(13), 0);
        due("twenty", x.feed(-1, SMALL, BIG, 0, 1), 20);
    }

    private static void highestFirst() {
        promise = "the highest of a first";
        RingsUnder x = new RingsUnder();
        x.feed(0x66697820, 0x3132333b, 0x80ffff80, 0, 0);
        x.end(8);
        due("fix 123;", x.text(), 0);
        x.force(0, 0, 0);
        due("fix", x.says(0, 2), 123);
        x.feed(0x66697820, 0x3132333b, 0x80ffff80, 0, 0);
        x.end(9);
        due("byte 128 is no token", x.text(), NONE);
        due("its place", x.fault(0) * 100 + x.fault(1), 108);
        x.feed(0x20202020, 0x66697820, 0x31373b20, 0x0a20200a, 0x2020200a);
        due("blanks around it", x.text(), 1);
        x.feed(0x63636363, 0x6f756e63, 0x696c2037, 0x3b202020, 0x20202020);
        due("the first byte counts", x.text(), NONE);
        due("its place", x.fault(0) * 100 + x.fault(1), 100);
    }

    private static void texts() {
        promise = "TEXTS 0 .. 9";
        RingsUnder x = new RingsUnder();
        for (int i = 0; i < 10; i++) {
            due("no force of it yet", x.force(i, 0, 0), NONE);
            due("text", read(x, "council " + i + ";"), i);
            due("force", x.force(i, i, i), i);
        }
        due("the 11th", read(x, "council 99;"), NONE);
        due("ten", x.about(6), 10);
        due("force of the 11th", x.force(10, 0, 0), NONE);
        for (int i = 0; i < 10; i++) {
            due("says", x.says(i, 0), i);
        }
        x.back();
        due("of an image without", read(x, "council 55;"), 0);
    }

    private static void tapeBehindText() {
        promise = "The tape (empty then) is a TEXT; NONE: it has a FAULT; or (the tape stays) there are 10";
        RingsUnder x = new RingsUnder();
        due("an empty tape is one", x.text(), 0);
        due("without a fault", x.fault(0), 0);
        due("nor a place", x.fault(1), NONE);
        due("a good one", read(x, "fix 1;"), 1);
        due("empty then", x.about(13), 0);
        due("a bad one", read(x, "fix 600;"), NONE);
        due("empty then", x.about(13), 0);
        due("its place", x.fault(0) * 10 + x.fault(1), 24);
        for (int i = 2; i < 10; i++) {
            due("empty ones", x.text(), i);
        }
        due("none behind ten", x.text(), NONE);
        due("a good one", read(x, "fix 1;"), NONE);
        due("stays", x.about(13), 6);
        due("again", x.text(), NONE);
        due("stays", x.about(13), 6);
        due("can be shortened", x.end(3), 3);
        due("or fed", x.feed(0, 0, 0, 0, 0), 23);
        due("the latest that was read was good", x.fault(0), 0);
        x.back();
        due("the tape is no part of an image", x.about(13), 23);
        x.end(0);
        due("the first again", x.text(), 0);
    }

    private static void longestText() {
        promise = "TEXTS, each of up to 300 bytes";
        RingsUnder x = high();
        x.person(2, 30, 3, 0, 0);
        tape(x, "people age" + " ".repeat(285) + "=30 ;");
        due("bytes", x.about(13), 300);
        due("text", x.text(), 0);
        x.force(0, 0, 0);
        due("people", x.is(0, 0, 0), 1);
        RingsUnder y = high();
        y.person(0, 0, 0, 0, 0);
        due("text", read(y, "people " + "1+".repeat(143) + "1=144;"), 0);
        y.force(0, 0, 0);
        due("144", y.is(0, 0, 0), 1);
        faulty("may 1=1" + " ".repeat(293), 1, 300);
        faulty("may 1=1" + " ".repeat(292) + ";", 0, NONE);
        faulty(" ".repeat(299) + "?", 1, 299);
        faulty(" ".repeat(300), 0, NONE);
        faulty("a".repeat(300), 1, 0);
        faulty(" ".repeat(298) + "ma", 1, 298);
        faulty(" ".repeat(297) + "may", 1, 300);
        faulty("may 1" + " ".repeat(294) + "<", 1, 300);
        faulty("fix " + "0".repeat(293) + "599;", 1, 300);
        faulty("fix " + "0".repeat(292) + "599;", 0, NONE);
        faulty("fix " + "9".repeat(295) + ";", 2, 4);
        faulty("(".repeat(300), 1, 0);
        faulty("may " + "(".repeat(296), 3, 12);
        faulty("may " + "not ".repeat(74), 3, 36);
        faulty("may " + "-".repeat(296), 3, 12);
    }

    private static void blanks() {
        promise = "TOKENS, blanks (32, 10) aside";
        faulty("\n\n may\nage\n<\n1\n;\n", 0, NONE);
        faulty("may age<1;\r", 1, 10);
        faulty("may\tage<1;", 1, 3);
        faulty("may age<1;\u0000", 1, 10);
        faulty("may age<1;\u001f", 1, 10);
        faulty("may age<1;\u000b", 1, 10);
        faulty("may age<1;\u00a0", 1, 10);
        faulty("mayage<1;", 1, 0);
        faulty("may 1 2<1;", 1, 6);
        faulty("may a ge<1;", 1, 4);
        faulty("may age< =1;", 1, 9);
    }

    private static void words() {
        promise = "letters a .. z, A .. Z one behind the other (one TOKEN)";
        faulty("may ages<1;", 1, 4);
        faulty("may ag<1;", 1, 4);
        faulty("may a<1;", 1, 4);
        faulty("may AGE<1;", 1, 4);
        faulty("may agE<1;", 1, 4);
        faulty("MAY age<1;", 1, 0);
        faulty("may`age<1;", 1, 3);
        faulty("may{age<1;", 1, 3);
        faulty("may@age<1;", 1, 3);
        faulty("may[age<1;", 1, 3);
        faulty("may age<1and kin<1;", 0, NONE);
        faulty("may age<1 andkin<1;", 1, 10);
        faulty("may not1=1;", 0, NONE);
        faulty("may notage=1;", 1, 4);
        faulty("fix1;", 0, NONE);
        faulty("fix 1x;", 1, 5);
        String[] inner = {"age", "kin", "craft", "place", "month", "under"};
        for (String name : inner) {
            faulty("may " + name + "=1;", 0, NONE);
            faulty("order " + name + ";", 0, NONE);
            faulty(name + ";", 1, 0);
        }
        String[] outer = {"lasts", "people", "may", "vote", "order", "heir", "council", "fix", "leave", "or", "and", "not"};
        for (String word : outer) {
            faulty("may 1=" + word + ";", 1, 6);
            faulty("order " + word + ";", 1, 6);
            faulty("fix " + word + ";", 1, 4);
        }
    }

    private static void numbers() {
        promise = "digits likewise (NUMBERS, 0 .. 9999)";
        faulty("may 0=9999;", 0, NONE);
        faulty("may 10000=0;", 2, 4);
        faulty("may 0=10000;", 2, 6);
        faulty("may 00010=0009999;", 0, NONE);
        faulty("may 0010000=0;", 2, 4);
        faulty("may 4294967296=0;", 2, 4);
        faulty("may 18446744073709551616=0;", 2, 4);
        faulty("may 65536=0;", 2, 4);
        faulty("may 1.5=0;", 1, 5);
        so("0009999=9999", true);
        so("00=0", true);
        so("9999-9998=1", true);
    }

    private static void signs() {
        promise = "<= >= < > = # + - * / ( ) , ; (the longest)";
        so("30<=30 and 30>=30", true);
        so("age<=-1", false);
        so("age>=-1", true);
        so("age>-1 and age#-30", true);
        faulty("may age<=1;", 0, NONE);
        faulty("may age>=1;", 0, NONE);
        faulty("may age<==1;", 1, 9);
        faulty("may age>==1;", 1, 9);
        faulty("may age==1;", 1, 8);
        faulty("may age=>1;", 1, 8);
        faulty("may age<>1;", 1, 8);
        faulty("may age##1;", 1, 8);
        faulty("may age!=1;", 1, 7);
        faulty("may age#=1;", 1, 8);
        faulty("may age**1=1;", 1, 8);
        faulty("may age<1;;", 1, 10);
        faulty("may age,1;", 1, 7);
        faulty("may age<1,", 1, 9);
    }

    private static void otherBytes() {
        promise = "1 it can't stand there, or is none";
        String others = "!\"$%&'.:?@[\\]^_`{|}~\u007f\u0080\u00e9\u00ff\u0001\t";
        for (int i = 0; i < others.length(); i++) {
            faulty("may age" + others.charAt(i) + "<1;", 1, 7);
            faulty(others.charAt(i) + "", 1, 0);
        }
    }

    private static void clauses() {
        promise = "{CLAUSE}, 20 at most; 5 the 21st CLAUSE (at its first TOKEN)";
        String one = "vote 1=1;";
        faulty("", 0, NONE);
        faulty(one, 0, NONE);
        faulty(one.repeat(19), 0, NONE);
        faulty(one.repeat(20), 0, NONE);
        faulty(one.repeat(20) + " \n", 0, NONE);
        faulty(one.repeat(21), 5, 180);
        faulty(one.repeat(20) + " lasts", 5, 181);
        faulty(one.repeat(20) + "order ?", 5, 180);
        faulty(one.repeat(20) + "fix 600;", 5, 180);
        faulty(one.repeat(19) + "fix 600;", 2, 175);
        faulty(one.repeat(20) + "or", 1, 180);
        faulty(one.repeat(20) + "7", 1, 180);
        faulty("fix 1;leave 1;council 1;order age;heir age;" + "may 1=1;".repeat(15), 0, NONE);
        faulty("fix 1;leave 1;council 1;order age;heir age;" + "may 1=1;".repeat(15) + "people", 5, 43 + 120);
        faulty("fix 1;leave 1;council 1;order age;heir age;" + "may 1=1;".repeat(15) + "heir", 4, 43 + 120);
    }

    private static void keys() {
        promise = "KEY: a NAME, or - and a NAME; 4 at most; 5 the 5th KEY (at its first TOKEN)";
        for (String sort : new String[] {"order", "heir "}) {
            faulty(sort + " age;", 0, NONE);
            faulty(sort + " -age;", 0, NONE);
            faulty(sort + " age,-kin,craft,-place;", 0, NONE);
            faulty(sort + " age,age,age,age;", 0, NONE);
            faulty(sort + " age,-kin,craft,-place,month;", 5, 27 + 1);
            faulty(sort + " age,-kin,craft,-place,-month;", 5, 27 + 1);
            faulty(sort + " age,-kin,craft,-place,-;", 5, 27 + 1);
            faulty(sort + " age,-kin,craft,-place,;", 1, 27 + 1);
            faulty(sort + " age,-kin,craft,-place,(", 1, 27 + 1);
            faulty(sort + " age,-kin,craft,-place,", 1, 27 + 1);
            faulty(sort + " age,-kin,craft,-place", 1, 26 + 1);
            faulty(sort + " ;", 1, 6);
            faulty(sort + " -;", 1, 7);
            faulty(sort + " - -age;", 1, 8);
            faulty(sort + " -7;", 1, 7);
            faulty(sort + " age+kin;", 1, 9);
            faulty(sort + " age-kin;", 1, 9);
            faulty(sort + " age kin;", 1, 10);
            faulty(sort + " (age);", 1, 6);
            faulty(sort + " ,age;", 1, 6);
            faulty(sort + " age,,kin;", 1, 10);
            faulty(sort + " age)kin;", 1, 9);
        }
    }

    private static void numbersOfClauses() {
        promise = "council NUMBER ; (0 .. 100) or fix NUMBER ; (0 .. 599) or leave NUMBER ; (0 .. 1000)";
        int[] most = {100, 1000, 599};
        String[] sorts = {"council", "leave  ", "fix    "};
        for (int i = 0; i < 3; i++) {
            for (int v : new int[] {0, 1, most[i]}) {
                RingsUnder x = new RingsUnder();
                due("text", read(x, sorts[i] + " " + v + ";"), 0);
                x.force(0, 0, 0);
                due(sorts[i] + v, x.says(0, i), v);
            }
            faulty(sorts[i] + " " + (most[i] + 1) + ";", 2, 8);
            faulty(sorts[i] + " 9999;", 2, 8);
            faulty(sorts[i] + " 10000;", 2, 8);
            faulty(sorts[i] + " 4294967296;", 2, 8);
            faulty(sorts[i] + " 00000" + most[i] + ";", 0, NONE);
            faulty(sorts[i] + " -1;", 1, 8);
            faulty(sorts[i] + " ;", 1, 8);
            faulty(sorts[i] + " (1);", 1, 8);
            faulty(sorts[i] + " age;", 1, 8);
            faulty(sorts[i] + " 1+1;", 1, 9);
            faulty(sorts[i] + " 1,", 1, 9);
            faulty(sorts[i] + " 1", 1, 9);
            faulty(sorts[i] + " ", 1, 8);
        }
    }

    private static void askingAndSumming() {
        promise = "EITHER: BOTH {or BOTH}. BOTH: ASK {and ASK}. ASK: not ASK, or SUM one of < <= > >= = # SUM";
        faulty("may;", 1, 3);
        faulty("may 1;", 1, 5);
        faulty("may 1<;", 1, 6);
        faulty("may <1;", 1, 4);
        faulty("may 1<2<3;", 1, 7);
        faulty("may 1<2=1;", 1, 7);
        faulty("may 1<2 or;", 1, 10);
        faulty("may or 1<2;", 1, 4);
        faulty("may 1<2 and or 1<2;", 1, 12);
        faulty("may 1<2 and not;", 1, 15);
        faulty("may 1<2 not 1<2;", 1, 8);
        faulty("may not;", 1, 7);
        faulty("may (1<2);", 1, 6);
        faulty("may (1)<2;", 0, NONE);
        faulty("may ()<2;", 1, 5);
        faulty("may (1<2;", 1, 6);
        faulty("may (1;", 1, 6);
        faulty("may 1)<2;", 1, 5);
        faulty("may (1,<2;", 1, 6);
        faulty("may 1<2);", 1, 7);
        faulty("may (1+2 and 3)<2;", 1, 9);
        faulty("may (1+2 3)<2;", 1, 9);
        faulty("may (not 1)<2;", 1, 5);
        faulty("may 1+<2;", 1, 6);
        faulty("may +1<2;", 1, 4);
        faulty("may 1*/2<2;", 1, 6);
        faulty("may 1*-2<2;", 0, NONE);
        faulty("may 1--2<2;", 0, NONE);
        faulty("may 1-+2<2;", 1, 6);
        faulty("may -(1)<2;", 0, NONE);
        faulty("may 1 age<2;", 1, 6);
        faulty("may age 1<2;", 1, 8);
        faulty("may 1<2 may 1<2;", 1, 8);
        faulty("may 1<2 ,", 1, 8);
        faulty("may order<2;", 1, 4);
        so("not 30<age", true);
        so("not not 30<age", false);
        so("not 1=2 or 1=1 and 1=2", true);
        so("1=1 or 1=1 and 1=2", true);
        so("not 1=1 and 1=2", false);
        so("1=2 and 1=1 or 1=2", false);
        so("1=2 or not 1=1 or 1=1", true);
        so("2<3 and 3<=3 and 4>3 and 3>=3 and 3=3 and 2#3", true);
        so("3<3 or 4<=3 or 3>3 or 2>=3 or 2=3 or 3#3", false);
    }

    private static void fromTheLeft() {
        promise = "From the left";
        so("10-5-3=2", true);
        so("100/10/5=2", true);
        so("100/10*5=50", true);
        so("7*10/3=23", true);
        so("10/3*7=21", true);
        so("2-3+4=3", true);
        so("2+3*4-5=9", true);
        so("2*(3+4)*5=70", true);
        so("-2*3=-6", true);
        so("-2+3=1", true);
        so("-(2+3)=-5", true);
        so("- - 2=2", true);
        so("10-(5-3)=8", true);
        so("1-1*5=-4", true);
    }

    private static void division() {
        promise = "/ cuts towards 0, by 0 it is 0";
        so("7/2=3", true);
        so("-7/2=-3", true);
        so("7/-2=-3", true);
        so("-7/-2=3", true);
        so("1/2=0", true);
        so("-1/2=0", true);
        so("7/0=0", true);
        so("-7/0=0", true);
        so("0/0=0", true);
        so("7/(3-3)=0", true);
        so("7/0+1=1", true);
        so("9999*9999*9999*9999/-1=-1000*1000*1000", true);
    }

    private static void greatest() {
        promise = "what is above 1000000000 (below the same less) is that, at each step";
        so("1000*1000*1000=1000*1000*1000+0", true);
        so("1000*1000*1000+1=1000*1000*1000", true);
        so("1000*1000*999+1000*1000=1000*1000*1000", true);
        so("1000*1000*1000-1=1000*1000*999+9999*100+99+1", false);
        so("1000*1000*1000-1<1000*1000*1000", true);
        so("-1000*1000*1000-1=-1000*1000*1000", true);
        so("-1000*1000*1000+1>-1000*1000*1000", true);
        so("9999*9999*11-9999*9999*11=0", true);
        so("9999*9999*11=9999*9999*12", true);
        so("9999*9999*10<9999*9999*11", true);
        so("9999*9999*9999*9999*9999*9999=1000*1000*1000", true);
        so("9999*9999*9999*-9999=-1000*1000*1000", true);
        so("(9999*9999*11+5)/5=200*1000*1000", true);
        so("9999*9999*11*9999*9999/1000=1000*1000", true);
        so("9999*9999*11+9999*9999*11+9999*9999*11=1000*1000*1000", true);
        so("-9999*9999*11-9999*9999*11-9999*9999*11=-1000*1000*1000", true);
        so("0-(-1000*1000*1000-1)=1000*1000*1000", true);
        so("9999*9999*9999*0=0", true);
        so("1000*1000*1000*(-1000*1000*1000)=-1000*1000*1000", true);
    }

    private static void names() {
        promise = "NAMES: age kin craft place month under (of a PERSON: .. the clock, 0)";
        RingsUnder x = high();
        x.ring();
        x.lot(0);
        x.lot(0);
        x.lot(0);
        x.lot(0);
        x.lot(1);
        x.person(9, 99, 7, 1, 0);
        int text = read(x, "people age=99 and kin=9 and craft=7 and under=0;may place=1;may place=104;may place=200;may place=300;vote month=599;"
            + "vote month=0;");
        x.force(text, 0, 599);
        due("people", x.is(0, 0, 5), 1);
        due("month 599", x.is(2, 0, 599), 1);
        due("month 598", x.is(2, 0, 598), 0);
        due("month 0", x.is(2, 0, 0), 1);
        int[] to = {104, 200};
        due("ring 1", x.why(1, 0, 5), 1);
        for (int i = 0; i < to.length; i++) {
            due("go", x.go(0, to[i]), true);
            due("place " + to[i], x.why(1, 0, 5), 2 + i);
        }
        x.death(0);
        due("dead", x.why(1, 0, 5), 4);
        due("the clock of council", x.council(1), 0);
        RingsUnder y = high();
        y.person(0, 0, 0, 0, 0);
        y.force(read(y, "vote month=2;"), 0, 599);
        y.choose(0, 1);
        for (int m = 0; m < 4; m++) {
            due("council in month " + m, y.council(1), m == 2 ? 1 : 0);
            y.months(1, 0);
        }
    }

    private static void bothSides() {
        promise = "or and and look at both sides always";
        so("1=1 or 1/0=0", true);
        so("1=2 and 1/0=0", false);
        so("1/0=0 and 1=1 or 7/0=7", true);
        faulty("may 1=1 or;", 1, 10);
        faulty("may 1=2 and 10000=1;", 2, 12);
    }

    private static void faultOfTheEnd() {
        promise = "of the end at the length";
        faulty("may", 1, 3);
        faulty("may ", 1, 4);
        faulty("may 1", 1, 5);
        faulty("may 1=", 1, 6);
        faulty("may 1=1", 1, 7);
        faulty("may 1=1\n\n", 1, 9);
        faulty("may (1", 1, 6);
        faulty("may not", 1, 7);
        faulty("order", 1, 5);
        faulty("order -", 1, 7);
        faulty("order age", 1, 9);
        faulty("order age,", 1, 10);
        faulty("fix", 1, 3);
        faulty("fix 5", 1, 5);
        faulty("fix 5  ", 1, 7);
        faulty("may 1=1;fix 5;leave", 1, 19);
    }

    private static void faultAtTheFirstToken() {
        promise = "FAULTS, the first as TOKENS are come to, at the TOKEN's first byte";
        faulty("may 10000=10000;", 2, 4);
        faulty("may ? 10000=1;", 1, 4);
        faulty("may 10000 ?", 2, 4);
        faulty("fix 1;may 1=2 fix 1;", 1, 14);
        faulty("fix 1;may 10000=2;fix 1;", 2, 10);
        faulty("fix 1;fix 600;", 4, 6);
        faulty("  fix   777  ;", 2, 8);
        faulty("may   older=1;", 1, 6);
        faulty("may 1   <=   <= 1;", 1, 13);
        faulty("order age,kin,craft,place,under; order age;", 5, 26);
        faulty("order age; heir age; order age,kin,craft,place,under;", 4, 21);
        faulty("may ---------10000=1;", 3, 12);
        faulty("may --------10000=1;", 2, 12);
    }

    private static void leastOfOne() {
        promise = "of one TOKEN the least";
        faulty("may 1 10000<1;", 1, 6);
        faulty("10000", 1, 0);
        faulty("order 10000;", 1, 6);
        faulty("fix 5 10000", 1, 6);
        faulty("may (((((((( ;", 1, 13);
        faulty("may 1=1 not not not not not not not not not 1=1;", 1, 8);
        faulty("may ((((((((not", 1, 12);
        faulty("may ((((((((+", 1, 12);
        faulty("fix 1;" + "may 1=1;".repeat(19) + "fix 1;", 4, 158);
        faulty("fix 1;" + "may 1=1;".repeat(19) + "leave 1;", 5, 158);
        faulty("order age,kin,craft,place,1", 1, 26);
    }

    private static void open() {
        promise = "3 the 9th of ( not and - (of one ONE) that are open around one another (at it)";
        faulty("may " + "(".repeat(8) + "1" + ")".repeat(8) + "=1;", 0, NONE);
        faulty("may " + "(".repeat(9) + "1" + ")".repeat(9) + "=1;", 3, 12);
        faulty("may 1=" + "(".repeat(8) + "1" + ")".repeat(8) + ";", 0, NONE);
        faulty("may 1=" + "(".repeat(9) + "1" + ")".repeat(9) + ";", 3, 14);
        faulty("may " + "-".repeat(8) + "1=1;", 0, NONE);
        faulty("may " + "-".repeat(9) + "1=1;", 3, 12);
        faulty("may " + "not ".repeat(8) + "1=1;", 0, NONE);
        faulty("may " + "not ".repeat(9) + "1=1;", 3, 36);
        faulty("may not not not -(-(-(1)))=1;", 3, 21);
        faulty("may not not -(-(-(1)))=1;", 0, NONE);
        faulty("may not not -(-(-(-1)))=1;", 3, 18);
        faulty("may not not -(-(-((1))))=1;", 3, 18);
        faulty("may " + "not ".repeat(8) + "-1=1;", 3, 36);
        faulty("may " + "not ".repeat(8) + "(1)=1;", 3, 36);
        faulty("may " + "not ".repeat(8) + "1=(1);", 3, 38);
        faulty("may " + "not ".repeat(8) + "1=-1;", 3, 38);
        faulty("may " + "not ".repeat(8) + "1-1=1-1;", 0, NONE);
        faulty("may 1" + "-1".repeat(20) + "=1;", 0, NONE);
        so("-".repeat(8) + "30=age", true);
        so("(".repeat(8) + "30" + ")".repeat(8) + "=age", true);
        so("not ".repeat(8) + "30=age", true);
        so("not ".repeat(7) + "30=age", false);
    }

    private static void openAgain() {
        promise = "open around one another: what is closed counts no more";
        faulty("may ((((((((1))))))))+((((((((1))))))))=1;", 0, NONE);
        faulty("may ((((((((1)+(1))))))))=1;", 0, NONE);
        faulty("may (((((((((1)+1))))))))=1;", 3, 12);
        faulty("may ((((((((1+(1)))))))))=1;", 3, 14);
        faulty("may (((((((-1+-1)))))))=1;", 0, NONE);
        faulty("may ((((((((-1))))))))=1;", 3, 12);
        faulty("may ((((((((1-1))))))))=1;", 0, NONE);
        faulty("may ((((((((1--1))))))))=1;", 3, 14);
        faulty("may --------1---------1=1;", 0, NONE);
        faulty("may --------1----------1=1;", 3, 22);
        faulty("may -------(1)-1=1;", 0, NONE);
        faulty("may -------(-1)=1;", 3, 12);
        faulty("may -------(1)*(1)=1;", 0, NONE);
        faulty("may " + "not ".repeat(8) + "1=1 and " + "not ".repeat(8) + "1=1 or " + "not ".repeat(8) + "1=1;", 0, NONE);
        faulty("may not not 1=1 and ((((((((1))))))))=1;", 0, NONE);
        faulty("may not not 1=1 or --------1=1;", 0, NONE);
        faulty("may not not 1=1;may " + "not ".repeat(8) + "1=1;", 0, NONE);
        faulty("may not not 1=1;may " + "not ".repeat(9) + "1=1;", 3, 16 + 36);
        faulty("order -age,-kin,-craft,-place;may --------1=1;", 0, NONE);
    }

    private static void openInOneWithFault() {
        promise = "what was open in a TEXT with a FAULT isn't in the next";
        String[] bad = {"may ((((((((1 ?", "may not not not not not not not not ?", "may --------?", "may not -(2*(3+-(4/", "may 1*2+3*-",
            "may not 1=1 and not 1+2*3", "order age,kin,craft,place,", "may (((((((((1"};
        String[] good = {"people ((((((((30))))))))=age;", "people not not not not not not not not 30=age;", "people --------30=age;",
            "people 30=age;", "people 2+3*4=14 and age=30;", "order age,kin,craft,place;people 1=1;"};
        for (String b : bad) {
            RingsUnder x = high();
            x.person(2, 30, 3, 0, 0);
            for (int i = 0; i < good.length; i++) {
                due(b, read(x, b), NONE);
                due(good[i] + " behind " + b, read(x, good[i]), i);
                x.force(i, 0, 0);
                due("is it so", x.is(0, 0, 0), 1);
            }
        }
    }

    private static void second() {
        promise = "4 order, heir, council, fix, leave for the second time (at it)";
        String[] once = {"order age;", "heir age;", "council 1;", "fix 1;", "leave 1;"};
        for (String a : once) {
            faulty(a + a, 4, a.length());
            faulty(a + "may 1=1; " + a, 4, a.length() + 9);
            for (String b : once) {
                if (!a.equals(b)) {
                    faulty(a + b, 0, NONE);
                    faulty(a + b + a, 4, a.length() + b.length());
                }
            }
        }
        String[] often = {"lasts 1=1;", "people 1=1;", "may 1=1;", "vote 1=1;"};
        for (String a : often) {
            faulty(a.repeat(20), 0, NONE);
        }
    }

    private static void latestFault() {
        promise = "Of the latest TEXT that was read: 0 its FAULT (0 without), 1 its place (NONE without)";
        RingsUnder x = new RingsUnder();
        due("ahead of any", x.fault(0), NONE);
        due("ahead of any", x.fault(1), NONE);
        x.text();
        due("of an empty one", x.fault(0), 0);
        due("of an empty one", x.fault(1), NONE);
        due("bad", read(x, "fix 999;"), NONE);
        due("its fault", x.fault(0), 2);
        due("its place", x.fault(1), 4);
        x.image();
        due("bad", read(x, "?"), NONE);
        due("its fault", x.fault(0), 1);
        due("its place", x.fault(1), 0);
        x.back();
        due("is no part of an image", x.fault(0), 1);
        due("good", read(x, "fix 9;"), 1);
        due("its fault", x.fault(0), 0);
        due("its place", x.fault(1), NONE);
        due("2", x.fault(2), NONE);
        due("-1", x.fault(-1), NONE);
    }

    private static void forces() {
        promise = "FORCE (30 at most): a TEXT from a MONTH to one (both; not ahead of the clock)";
        RingsUnder x = new RingsUnder();
        due("no text", x.force(0, 0, 599), NONE);
        x.text();
        due("one text", x.force(1, 0, 599), NONE);
        due("from behind to", x.force(0, 1, 0), NONE);
        due("one month", x.force(0, 0, 0), 0);
        due("all months", x.force(0, 0, 599), 1);
        due("the last", x.force(0, 599, 599), 2);
        due("beyond", x.force(0, 599, 600), NONE);
        due("below", x.force(0, -1, 5), NONE);
        x.months(5, 0);
        due("ahead of the clock", x.force(0, 4, 4), NONE);
        due("from ahead of the clock on", x.force(0, 4, 599), NONE);
        due("at the clock", x.force(0, 5, 5), 3);
        for (int i = 4; i < 30; i++) {
            due("force", x.force(0, 5 + i, 599), i);
        }
        due("the 31st", x.force(0, 5, 599), NONE);
        due("thirty", x.about(7), 30);
        x.back();
        due("of an image without", x.about(7), 0);
        x.text();
        due("at month 0 again", x.force(0, 0, 0), 0);
    }

    private static void forceOfMonths() {
        promise = "a FORCE from a MONTH to one (both)";
        RingsUnder x = new RingsUnder();
        x.force(read(x, "council 7; leave 8; fix 9;"), 10, 12);
        int[] months = {0, 9, 10, 11, 12, 13, 599};
        for (int m : months) {
            boolean in = m >= 10 && m <= 12;
            due("council in " + m, x.says(m, 0), in ? 7 : 50);
            due("leave in " + m, x.says(m, 1), in ? 8 : 10);
            due("fix in " + m, x.says(m, 2), in ? 9 : NONE);
        }
    }

    private static void theText() {
        promise = "THE TEXT: of FORCES that hold then, whose TEXT has such a CLAUSE, the one told latest";
        RingsUnder x = high();
        x.person(0, 20, 0, 0, 0);
        int a = read(x, "people age<0; council 1;");
        int b = read(x, "people age<50;");
        int c = read(x, "vote age<0;");
        x.force(b, 0, 9);
        x.force(a, 3, 6);
        x.force(c, 0, 599);
        x.force(b, 5, 5);
        int[] people = {1, 1, 1, 0, 0, 1, 0, 1};
        for (int m = 0; m < people.length; m++) {
            due("people in " + m, x.is(0, 0, m), people[m]);
            due("council in " + m, x.says(m, 0), m >= 3 && m <= 6 ? 1 : 50);
            due("vote in " + m, x.is(2, 0, m), 0);
            due("may in " + m, x.is(1, 0, m), 1);
        }
        due("behind all of them", x.is(0, 0, 10), 1);
        x.force(a, 0, 599);
        due("told again, latest by its force", x.is(0, 0, 5), 0);
    }

    private static void withoutText() {
        promise = "without such a TEXT: lasts not so, the others so for all; COUNCIL without 50, LEAVE without 10, FIX without none";
        RingsUnder x = high();
        x.person(0, 20, 0, 0, 0);
        x.text();
        x.force(0, 0, 599);
        for (int m : new int[] {0, 1, 599}) {
            for (int what = 0; what < 3; what++) {
                due("is " + what, x.is(what, 0, m), 1);
                due("why " + what, x.why(what, 0, m), NONE);
            }
            due("council", x.says(m, 0), 50);
            due("leave", x.says(m, 1), 10);
            due("fix", x.says(m, 2), NONE);
        }
    }

    private static void why() {
        promise = "The first CLAUSE (from 0, among all of THE TEXT) by which that is so";
        RingsUnder x = high();
        x.person(0, 20, 0, 0, 0);
        x.person(0, 90, 0, 0, 0);
        String text = "vote age=1;".repeat(8) + "may age>50;" + "vote age=1;".repeat(10) + "vote age>50;";
        x.force(read(x, text), 0, 0);
        due("the last of twenty", x.why(2, 1, 0), 19);
        due("the ninth", x.why(1, 1, 0), 8);
        due("by none", x.why(2, 0, 0), NONE);
        due("people has none", x.why(0, 1, 0), NONE);
        due("so all the same", x.is(0, 1, 0), 1);
        x.force(read(x, "vote age=20;vote 1=1;"), 0, 0);
        due("the first", x.why(2, 0, 0), 0);
        due("the second", x.why(2, 1, 0), 1);
        x.force(read(x, "people under=0;order age;heir kin;council 9;"), 0, 0);
        due("under is 0", x.why(0, 0, 0), 0);
        for (int what = 3; what < 9; what++) {
            due("why " + what, x.why(what, 0, 0), NONE);
            due("is " + what, x.is(what, 0, 0), NONE);
        }
        due("lasts is no matter of persons", x.why(-1, 0, 0), NONE);
    }

    private static void keysInOrder() {
        promise = "order: KEYS one behind the other, the least first (with -: the greatest), then by numbers; without: by numbers";
        int[][] persons = {{0, 30, 5}, {1, 20, 5}, {2, 30, 4}, {3, 99, 0}, {4, 0, 7}};
        String[] laws = {"", "order age;", "order -age;", "order age,craft;", "order -craft,-age;", "order under,month,place,-kin;",
            "order -craft,age,kin,kin;", "may 1=1;order month;heir -kin;", "order under;heir -age,-kin;"};
        int[][] due = {{0, 1, 2, 3, 4}, {4, 1, 0, 2, 3}, {3, 0, 2, 1, 4}, {4, 1, 2, 0, 3}, {4, 0, 1, 2, 3}, {4, 3, 2, 1, 0}, {4, 1, 0, 2, 3},
            {0, 1, 2, 3, 4}, {0, 1, 2, 3, 4}};
        for (int i = 0; i < laws.length; i++) {
            RingsUnder x = high();
            x.lot(60);
            for (int[] p : persons) {
                x.person(p[0], p[1], p[2], 0, 0);
            }
            enact(x, laws[i]);
            x.sail(1, 0);
            for (int turn = 0; turn < 5; turn++) {
                x.months(1, 0);
                due(laws[i] + " turn " + turn, x.personOf(due[i][turn], 7), turn);
            }
        }
    }

    private static void whole() {
        promise = "WHOLE, if 100 times how many of them are THERE is COUNCIL times all of them or more";
        int[][] rows = {{0, 0, 0}, {1, 0, 2}, {1, 1, 0}, {33, 1, 0}, {34, 1, 2}, {34, 2, 0}, {66, 2, 0}, {67, 2, 2}, {67, 3, 0}, {100, 2, 2},
            {100, 3, 0}};
        for (int[] r : rows) {
            RingsUnder x = high();
            for (int p = 0; p < 3; p++) {
                x.person(0, 0, 0, 0, 0);
            }
            enact(x, "council " + r[0] + ";");
            due("council " + r[0] + ", there " + r[1] + " of 3", x.council((1L << r[1]) - 1), r[2]);
        }
        RingsUnder y = high();
        due("of nobody", y.council(0), 0);
        enact(y, "council 100;");
        due("all of nobody", y.council(0), 0);
        due("one of nobody", y.council(1), NONE);
    }

    private static void there() {
        promise = "of PERSONS not DEAD for whom people and vote are so those who are THERE (a set) have VOTES";
        RingsUnder x = high();
        for (int p = 0; p < 40; p++) {
            x.person(p % 10, 60 + p % 4, 0, 0, 0);
            x.choose(p, p % 2);
        }
        long all = (1L << 40) - 1;
        due("twenty and twenty", x.council(all), 0);
        due("one less against", x.council(all - 1), 1);
        due("one less for", x.council(all - 2), 0);
        due("twenty of forty", x.council(all >> 20), 0);
        due("nineteen of forty", x.council(all >> 21), 2);
        due("the last alone", x.council(1L << 39), 2);
        due("bit 40", x.council(1L << 40), NONE);
        due("bit 63", x.council(SMALL), NONE);
        due("all bits", x.council(-1L), NONE);
        x.death(0);
        due("a dead one against", x.council(all), 1);
        enact(x, "people age#61; vote age#63; council 100;");
        due("even ones are there, all against", x.council(all), 0);
        x.choose(2, 1);
        due("whoever isn't of them may miss", x.council(all & ~0xAL), 0);
        enact(x, "vote age=63;");
        due("those of 63 for", x.council(all), 1);
        due("one of them misses", x.council(all & ~(1L << 3)), 2);
    }
}
