/** Texts with the fault that is due: where the sign ^ stands (it is taken out), or none. */
public final class FaultsTest {
    private static final Due due = new Due();
    private static final String CAVE = "cave drops 2;";
    private static final String TWO = CAVE + "pair gap 5;pair gap 3;";

    public static void main(String[] args) {
        tokens();
        lines();
        leads();
        laws();
        depths();
        leastKinds();
        due.end("FaultsTest");
    }

    private static void at(int kind, String marked) {
        due.faultAt(kind, marked);
    }

    private static void whole(int lines, String text) {
        due.whole(lines, text);
    }

    private static void tokens() {
        whole(1, "cave drops 0;");
        whole(1, "cave drops 4;");
        whole(1, " \n cave\ndrops  004 \n ; \n");
        whole(2, "cave drops2;pair gap5;");
        whole(2, "cave drops 2;pair gap 5chalk 3chalk 4;");
        whole(2, "cave drops 2;grows:2*3+4-5*(6-met)*if[dry=1]then 1else 2end;");
        at(1, "^Cave drops 2;");
        at(1, "cave^\tdrops 2;");
        at(1, "cave^\rdrops 2;");
        at(1, "cave drops 2^,");
        at(1, "cave drops ^\u00b2;");
        at(1, "cave drops 2;^\u0000");
        at(1, "cave drops 2;^\u00ff");
        at(1, "cave drops ^0002;");
        at(1, "cave drops ^12345678901234567890;");
        at(1, "cave ^_drops 2;");
        at(2, "^cavedrops 2;");
        at(2, CAVE + "^zzz;");
        at(2, CAVE + "^aaa;");
        at(1, CAVE + "^`;");
        at(1, CAVE + "^{;");
        at(1, CAVE + "^/;");
        at(2, "cave drops 2 ^2;");
        at(2, "^");
        at(2, "   ^");
        at(2, "cave^");
        at(2, "cave ^");
        at(2, "cave drops^");
        at(2, "cave drops 2  \n^");
        at(2, "cave drops 2;pair gap 3^");
    }

    private static void lines() {
        whole(7, CAVE + "pair gap 0;pair gap 9 chalk 0 chalk 9;dry 0;dry 10;grows:1;falls:1=1;");
        at(2, "^pair gap 1;");
        at(2, "^; cave drops 2;");
        at(2, "^3");
        at(2, "cave ^3;");
        at(2, "cave ^pair");
        at(2, "cave drops ^;");
        at(2, "cave drops ^met;");
        at(3, "cave drops ^5;");
        at(3, "cave drops ^999;");
        at(2, CAVE + "^;");
        at(2, CAVE + "^cave drops 2;");
        at(2, CAVE + "^gap 3;");
        at(2, CAVE + "^chalk 3;");
        at(2, CAVE + "^stone;");
        at(2, CAVE + "^12;");
        at(2, CAVE + "pair ^5;");
        at(2, CAVE + "pair gap ^;");
        at(2, CAVE + "pair gap 5 ^6;");
        at(2, CAVE + "pair gap 5 ^gap 6;");
        at(2, CAVE + "pair gap 5 chalk ^;");
        at(2, CAVE + "pair gap 5 chalk 3 ^3;");
        at(3, CAVE + "pair gap ^10;");
        at(3, CAVE + "pair gap 9 chalk ^10;");
        at(3, CAVE + "pair gap 9 chalk 3 chalk ^11;");
        at(2, CAVE + "dry^;");
        at(2, CAVE + "dry ^met;");
        at(3, CAVE + "dry ^11;");
        at(3, CAVE + "dry 3;dry ^100;");
        at(2, CAVE + "dry 3 ^4;");
        at(2, CAVE + "dry ^: 3;");
        whole(5, CAVE + "pair gap 1;pair gap 1;pair gap 1;pair gap 1;");
        at(4, CAVE + "pair gap 1;pair gap 1;pair gap 1;pair gap 1;^pair gap 1;");
        at(4, CAVE + "pair gap 1;pair gap 1;pair gap 1;pair gap 1;dry 1;^pair 77;");
    }

    private static void leads() {
        whole(5, TWO + "lead 1 1;lead 0 2;");
        whole(5, TWO + "lead 2 0;dry 3;");
        whole(3, "cave drops 0;pair gap 1;lead 0;");
        at(2, CAVE + "^lead 2;");
        at(2, CAVE + "dry 1;^lead;");
        at(2, TWO + "lead 1 1;^pair gap 1;");
        at(2, TWO + "lead 1 1;dry 2;^pair gap 1;");
        at(2, TWO + "lead^;");
        at(2, TWO + "lead 1^;");
        at(2, TWO + "lead 2 ^;");
        at(2, TWO + "lead 1 1 ^0;");
        at(2, TWO + "lead 0 ^met;");
        at(3, TWO + "lead ^3 0;");
        at(3, TWO + "lead ^999");
        at(3, TWO + "lead 2 ^1;");
        at(3, TWO + "lead 1 ^0;");
        at(3, TWO + "lead 0 ^1 1;");
        at(3, TWO + "lead 1 1;lead 0 ^0;");
        at(3, CAVE + "pair gap 3;lead ^1;");
        at(1, TWO + "lead ^1000 1;");
        at(1, TWO + "lead 1 ^#;");
    }

    private static void laws() {
        whole(2, CAVE + "grows: pair+chalk*drops-gap+met*dry;");
        whole(2, CAVE + "falls: met*dry=gaps or widest>999 and not 1<2;");
        whole(2, CAVE + "grows: if met=1 or dry<1 and gap>pair then (chalk) else ((drops)) end;");
        whole(2, CAVE + "falls: if gaps=1 then 1 else 2 end = 2;");
        whole(2, CAVE + "falls: (gaps)*2 > widest+1;");
        whole(2, CAVE + "falls: [[1=1] and [1=2]] or not [not 1=1];");
        at(2, CAVE + "grows ^1;");
        at(2, CAVE + "grows: ^gaps;");
        at(2, CAVE + "grows: ^widest;");
        at(2, CAVE + "falls: ^gap=1;");
        at(2, CAVE + "falls: ^pair=1;");
        at(2, CAVE + "falls: ^chalk=1;");
        at(2, CAVE + "falls: ^drops=1;");
        at(2, CAVE + "grows: ^;");
        at(2, CAVE + "grows: ^-1;");
        at(2, CAVE + "grows: 1 ^2;");
        at(2, CAVE + "grows: 1+^;");
        at(2, CAVE + "grows: 1*^+2;");
        at(2, CAVE + "grows: (1^;");
        at(2, CAVE + "grows: (^);");
        at(2, CAVE + "grows: 1^);");
        at(2, CAVE + "grows: 1 ^= 1;");
        at(2, CAVE + "grows: ^[1=1];");
        at(2, CAVE + "grows: ^not 1;");
        at(2, CAVE + "grows: if 1 ^then 2 else 3 end;");
        at(2, CAVE + "grows: if 1=1 ^2 else 3 end;");
        at(2, CAVE + "grows: if 1=1 then 2 ^end;");
        at(2, CAVE + "grows: if 1=1 then 2 else 3^;");
        at(2, CAVE + "grows: if 1=1 then 2 else 3 end ^end;");
        at(2, CAVE + "grows: if 1=1 then ^gaps else 3 end;");
        at(2, CAVE + "falls: 1^;");
        at(2, CAVE + "falls: 1=1 ^=1;");
        at(2, CAVE + "falls: 1=1 ^:1=1;");
        at(2, CAVE + "falls: (1^=1);");
        at(2, CAVE + "falls: [1=1^;");
        at(2, CAVE + "falls: [1^];");
        at(2, CAVE + "falls: not^;");
        at(2, CAVE + "falls: 1=1 and^;");
        at(2, CAVE + "falls: 1=1 or ^or 1=1;");
        at(2, CAVE + "falls: 1=1 ^not 1=1;");
        at(2, CAVE + "falls: 1=^<1;");
        at(1, CAVE + "falls: 1=^!1;");
        at(1, CAVE + "grows: 1+^1000;");
        whole(2, CAVE + "grows: 999;");
    }

    private static void depths() {
        whole(2, CAVE + "grows: ((((((1))))));");
        at(4, CAVE + "grows: ((((((^(1)))))));");
        whole(2, CAVE + "falls: not not not not not not 1=1;");
        at(4, CAVE + "falls: not not not not not not ^not 1=1;");
        whole(2, CAVE + "falls: [[[[[[1=1]]]]]];");
        at(4, CAVE + "falls: [[[[[[^[1=1]]]]]]];");
        whole(2, CAVE + "falls: not [ not [ not (1)=1 ] ];");
        whole(2, CAVE + "falls: not [ not [ not [1=1] or not (1)=2 ] and not [ not [1=1] ] ];");
        at(4, CAVE + "falls: not [ not [ not (^(1))=2 ] ];");
        at(4, CAVE + "falls: not [ not [ not [ 1=^(1) ] ] ];");
        whole(2, CAVE + "grows: ((((if (1)=1 then (1) else (1) end))));");
        whole(2, CAVE + "grows: ((((if not 1=1 then if 1=1 then 1 else 2 end else if 1=1 then 1 else 2 end end))));");
        // What has been left no longer counts.
        whole(2, CAVE + "grows: (((1)))+(((1)))*((((((1))))))-((((((1))))));");
        whole(2, CAVE + "falls: not 1=1 and not 1=1 and not 1=1 or not 1=1 or not 1=1 and not 1=1 or not 1=1;");
        String six = "if 1=1 then if 1=1 then if 1=1 then if 1=1 then if 1=1 then %s else 1 end else 1 end else 1 end else 1 end else 1 end";
        whole(2, CAVE + "grows: " + String.format(six, "if 1=1 then 2 else 3 end") + ";");
        at(4, CAVE + "grows: " + String.format(six, "if ^(1)=1 then 2 else 3 end") + ";");
        at(4, CAVE + "grows: " + String.format(six, "if 1=1 then ^if 1=1 then 1 else 2 end else 3 end") + ";");
        at(4, CAVE + "grows: " + String.format(six, "if 1=1 then 1 else ^(2) end") + ";");
        at(4, CAVE + "grows: " + String.format(six, "if ^not 1=1 then 1 else 2 end") + ";");
        at(4, CAVE + "grows: " + String.format(six, "if ^[1=1] then 1 else 2 end") + ";");
    }

    /** Of one token the least kind is the fault. */
    private static void leastKinds() {
        String four = CAVE + "pair gap 1;pair gap 1;pair gap 1;pair gap 1;";
        at(2, four + "lead 2 0 0 0;^pair gap 1;");
        at(2, CAVE + "^11;");
        at(2, TWO + "lead 1 1 ^99;");
        at(2, CAVE + "grows: ((((((^[1=1");
        at(2, CAVE + "grows: ((((((1 ^(");
        at(1, CAVE + "pair gap ^1234;");
        // The first along the text, whatever comes behind it.
        at(3, CAVE + "pair gap ^10; # 1234 (");
        at(4, CAVE + "grows: ((((((^(#");
        at(2, CAVE + "grows: 1 ^1 #");
    }
}
