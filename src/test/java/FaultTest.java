/** Promises 3 and 4: each kind of FAULT with its place, and texts that have none. */
public final class FaultTest {
    private static final String TWO = "thought a worth 1 part 0;thought b worth 2 part 1;";
    private static final String PEOPLE = TWO + "tenant p plain;tenant q simple;";

    public static void main(String[] args) {
        misplaced();
        unknown();
        again();
        unfit();
        tooMany();
        nested();
        laws();
        words();
        years();
        stays();
        Check.finish();
    }

    private static void fault(String text, int kind, int place) {
        TithedThoughts t = Check.told(PEOPLE + "tithe 7;");
        Check.due("abbey " + text, Check.abbey(t, text), kind == 0 ? 0 : kind + 16 * place);
        Check.due("tithe behind " + text, t.count(2) == 7 ? 1 : 0, kind == 0 ? 0 : 1);
    }

    /** The fault is at the first sign of the last place where this piece stands. */
    private static void faultAt(String text, int kind, String piece) {
        fault(text, kind, text.lastIndexOf(piece));
    }

    private static void fine(String text) {
        fault(text, 0, 0);
    }

    private static void misplaced() {
        fine("");
        fine(" \n ");
        fault(";", 1, 0);
        fault("worth", 1, 0);
        fault("think a b;", 1, 0);
        fault("12", 1, 0);
        fault("a", 1, 0);
        fault("thought", 1, 7);
        fault("thought   ", 1, 10);
        fault("thought\n\n", 1, 9);
        fault("thought ; worth 1 part 0;", 1, 8);
        fault("thought 5 worth 1 part 0;", 1, 8);
        fault("thought worth worth 1 part 0;", 1, 8);
        for (String word : Model.RESERVED) {
            fault("thought " + word + " worth 1 part 0;", 1, 8);
            fault("tenant " + word + " plain;", 1, 7);
        }
        fault("thought a 1", 1, 10);
        fault("thought a worth a", 1, 16);
        fault("thought a worth part", 1, 16);
        fault("thought a worth 1 worth", 1, 18);
        fault("thought a worth 1 part ;", 1, 23);
        fault("thought a worth 1 part 0", 1, 24);
        fault("thought a worth 1 part 0 thought", 1, 25);
        faultAt(TWO + "follows a;", 1, ";");
        faultAt(TWO + "follows ;", 1, ";");
        faultAt(TWO + "follows plain a;", 1, "plain");
        faultAt(TWO + "follows a not;", 1, "not");
        fault(TWO + "follows a b", 1, TWO.length() + 11);
        faultAt(TWO + "follows a b b;", 1, "b;");
        fault("tenant p;", 1, 8);
        fault("tenant p king;", 1, 9);
        fault("tenant p rich;", 1, 9);
        fault("tenant p plain plain;", 1, 15);
        fault("tithe ;", 1, 6);
        fault("tithe -3;", 1, 6);
        fault("tithe 3", 1, 7);
        fault("tithe 3 3;", 1, 8);
        fault("runs x;", 1, 5);
        fault("engine (1);", 1, 7);
        fault("Tithe 3;", 1, 0);
        fault("tithe 3;;", 1, 8);
        fault("tithe 3; tithe", 3, 9);
        fault("tithe 3; !", 1, 9);
    }

    private static void unknown() {
        faultAt(TWO + "follows c a;", 2, "c");
        faultAt(TWO + "follows a c;", 2, "c");
        faultAt("thought a worth 1 part 0;follows a b;thought b worth 1 part 0;", 2, "b;t");
        faultAt("follows a a;", 2, "a a");
        faultAt(PEOPLE + "follows p a;", 2, "p a");
        faultAt(PEOPLE + "follows a p;", 2, "p;");
        faultAt(PEOPLE + "follows counted a;", 2, "counted");
    }

    private static void again() {
        faultAt(TWO + "thought a worth", 3, "a worth");
        faultAt(PEOPLE + "thought p worth", 3, "p worth");
        faultAt(PEOPLE + "tenant q plain;", 3, "q plain");
        faultAt(PEOPLE + "tenant a plain;", 3, "a plain");
        faultAt(TWO + "follows a b;follows a b;", 3, "b;");
        faultAt(TWO + "follows a a;follows b a;follows a b;follows a a;", 3, "a;");
        fine(TWO + "follows a b;follows b a;follows a a;follows b b;");
        fault("tithe 3;tithe 3;", 3, 8);
        fault("runs 3;runs 3;", 3, 7);
        fault("engine 3;engine 3;", 3, 9);
        fault("gains 3;gains 3;", 3, 8);
        fault("back 3;back 3;", 3, 7);
        fine("tithe 3;runs 3;engine 3;gains 3;back 3;");
        fault("tithe 3;tithe 99;", 3, 8);
    }

    private static void unfit() {
        fine("thought a worth 0 part 0;thought b worth 20 part 6;thought c worth 0020 part 0006;");
        fault("thought a worth 21 part 0;", 4, 16);
        fault("thought a worth 9999 part 7;", 4, 16);
        fault("thought a worth 20 part 7;", 4, 24);
        fine("tithe 2;");
        fine("tithe 12;");
        fault("tithe 1;", 4, 6);
        fault("tithe 13;", 4, 6);
        fine("runs 0;");
        fine("runs 20;");
        fault("runs 21;", 4, 5);
        fine("engine 1;");
        fine("engine 6;");
        fault("engine 0;", 4, 7);
        fault("engine 7;", 4, 7);
        fault("engine 0", 4, 7);
    }

    private static String thoughts(int many) {
        StringBuilder s = new StringBuilder();
        for (int i = 0; i < many; i++) {
            s.append("thought t").append((char) ('a' + i)).append(" worth 1 part 1;");
        }
        return s.toString();
    }

    private static String tenants(int many) {
        StringBuilder s = new StringBuilder();
        for (int i = 0; i < many; i++) {
            s.append("tenant k").append((char) ('a' + i)).append(" plain;");
        }
        return s.toString();
    }

    private static void tooMany() {
        fine(thoughts(8) + tenants(5));
        faultAt(thoughts(9), 5, "thought");
        faultAt(thoughts(8) + "thought", 5, "thought");
        faultAt(thoughts(8) + "thought ta worth 99", 5, "thought");
        faultAt(tenants(6), 5, "tenant");
        faultAt(tenants(5) + "tenant", 5, "tenant");
    }

    private static void nested() {
        fine("gains ((((1))));");
        fault("gains (((((1)))));", 5, 11);
        fault("gains ((((((1))))));", 5, 11);
        fine("gains not not not not 1;");
        fault("gains not not not not not 1;", 5, 26);
        fault("gains not not not not not not 1;", 5, 26);
        fault("gains not(not(not rich));", 5, 18);
        fine("gains not(not(rich));");
        fault("gains not(not((rich)));", 5, 15);
        fault("gains (((((;", 1, 11);
        fault("gains (((((", 1, 11);
        fault("gains (((((x", 1, 11);
        fault("gains ((((1+(2))));", 5, 13);
        fine("back ((((1+2)*3)<4)=5)+((((1))));");
    }

    private static void laws() {
        fine("gains 0;");
        fine("gains 9999;");
        fine("gains counted+rich-piece*barn;");
        fine("gains 1<2 and 3=4 or not 5;");
        fine("gains not(1)and(2)or(3);");
        fault("gains ;", 1, 6);
        fault("gains worth;", 1, 6);
        fault("gains a;", 1, 6);
        fault("gains 1", 1, 7);
        fault("gains 1 2;", 1, 8);
        fault("gains 1<2<3;", 1, 9);
        fault("gains 1=2<3;", 1, 9);
        fine("gains (1=2)<3;");
        fault("gains -1;", 1, 6);
        fault("gains 1+;", 1, 8);
        fault("gains 1+-1;", 1, 8);
        fault("gains *1;", 1, 6);
        fault("gains 1 not 2;", 1, 8);
        fault("gains 1 and;", 1, 11);
        fault("gains and 1;", 1, 6);
        fault("gains (1;", 1, 8);
        fault("gains 1);", 1, 7);
        fault("gains ();", 1, 7);
        fault("gains 1;;", 1, 8);
        fault("gains 10000;", 1, 6);
        fault("back 1>2;", 1, 6);
        fault("back rich rich;", 1, 10);
        fault("back", 1, 4);
    }

    private static void words() {
        fine("thought abcdefgh worth 1 part 1;");
        fault("thought abcdefghi worth 1 part 1;", 1, 8);
        fine("thought a worth 3part 1;tithe 0003;");
        fine("thought a worth3part1;tithe3;gains1;");
        fine("thought a worth 3\npart\n1 ;tenant b plain ; ");
        fault("tithe 00003;", 1, 6);
        fine("thought counted worth 1 part 1;thought rich worth 1 part 1;thought piece worth 1 part 1;"
            + "tenant barn plain;follows rich counted;gains rich;");
        fault("thoughts a worth 1 part 1;", 1, 0);
        fault("thoughta worth 1 part 1;", 1, 0);
        fault("thought a_b worth 1 part 1;", 1, 9);
        fault("thought a1 worth 1 part 1;", 1, 9);
    }

    private static void yearsFault(String text, int kind, int place) {
        TithedThoughts t = Check.told(PEOPLE);
        Check.due("years", Check.years(t, "gate p;gate q;"), 0);
        Check.due("years " + text, Check.years(t, text), kind == 0 ? 0 : kind + 16 * place);
        if (kind != 0) {
            Check.due("lines behind " + text, t.count(8), 2);
        }
    }

    private static void years() {
        yearsFault("", 0, 0);
        yearsFault("think p a;gate q;pool p b;", 0, 0);
        yearsFault("think q b ;\n gate p;", 0, 0);
        yearsFault("rest;", 1, 0);
        yearsFault("thought a worth 1 part 1;", 1, 0);
        yearsFault("think", 1, 5);
        yearsFault("think ;", 1, 6);
        yearsFault("think 1 a;", 1, 6);
        yearsFault("think and a;", 1, 6);
        yearsFault("think x a;", 2, 6);
        yearsFault("think a a;", 2, 6);
        yearsFault("think p p;", 2, 8);
        yearsFault("think p x;", 2, 8);
        yearsFault("think p;", 1, 7);
        yearsFault("think p gate;", 1, 8);
        yearsFault("think p a", 1, 9);
        yearsFault("think p a b;", 1, 10);
        yearsFault("gate a;", 2, 5);
        yearsFault("gate p a;", 1, 7);
        yearsFault("gate 1;", 1, 5);
        yearsFault("pool a a;", 2, 5);
        yearsFault("pool p q;", 2, 7);
        yearsFault("pool;", 1, 4);
        yearsFault("gate p;;", 1, 7);
        String forty = "gate p;".repeat(40);
        yearsFault(forty, 0, 0);
        yearsFault(forty + "gate p;", 5, 280);
        yearsFault(forty + " think", 5, 281);
        yearsFault(forty + "pool x", 5, 280);
        yearsFault(forty + "rest", 1, 280);
        yearsFault(forty + ";", 1, 280);
        TithedThoughts t = Check.told(PEOPLE);
        Check.due("forty", Check.years(t, forty), 0);
        Check.due("lines", t.count(8), 40);
        Check.due("none", Check.years(t, " "), 0);
        Check.due("no lines", t.count(8), 0);
    }

    /** A FAULT leaves all as it is; an ABBEY without one begins anew. */
    private static void stays() {
        TithedThoughts t = Check.told(PEOPLE + "tithe 2;gains 5;");
        t.think(0, 0);
        t.guess(1, true);
        t.mark(2, false);
        Check.due("years", Check.years(t, "gate p;"), 0);
        Check.due("fault", Check.abbey(t, "thought z worth 9 part 3;tithe 5;gains 6;back 7;tenant"), 1 + 16 * 54);
        Check.due("thoughts stay", t.count(0), 2);
        Check.due("worth stays", t.thought(0, 0), 1);
        Check.due("gained stays", t.tenant(0, 3), 5);
        Check.due("years stay", t.count(8), 1);
        Check.due("guesses stay", t.count(9), 1);
        Check.due("undo stays", t.count(10), 1);
        Check.yes("the mark stays", t.mark(2, true));
        t.gate(0);
        Check.due("law stays", t.think(0, 0), -2);
        Check.due("gained by the law", t.tenant(0, 3), 10);
        Check.due("anew", Check.abbey(t, TWO + "tenant p plain;"), 0);
        int[] counts = {2, 1, 10, 10, 3, 0, 0, 0, 0, 0, 0, 0};
        for (int i = 0; i < counts.length; i++) {
            Check.due("anew: count " + i, t.count(i), counts[i]);
        }
        Check.due("anew: last", t.tenant(0, 1), -1);
        Check.due("anew: counted", t.tenant(0, 2), 0);
        Check.due("anew: gained", t.tenant(0, 3), 0);
        Check.due("anew: keeps", t.keeps(0, 0), 0);
        Check.no("anew: undo", t.undo());
        Check.no("anew: mark", t.mark(2, true));
        Check.due("anew: follows", t.thought(0, 2), 0);
        Check.due("anew: think", t.think(0, 1), -2);
        Check.due("anew: rich is gained", t.tenant(0, 3), 2);
        Check.due("settings", Check.abbey(t, "tithe 5;runs 6;engine 4;"), 0);
        Check.due("empty", t.abbey(), 0);
        Check.due("tithe as at first", t.count(2), 10);
        Check.due("runs as at first", t.count(3), 10);
        Check.due("engine as at first", t.count(4), 3);
        longLaws(t);
    }

    /** As many laws as one likes, one behind another, each as long as the tape can be. */
    private static void longLaws(TithedThoughts t) {
        for (int i = 1; i <= 4; i++) {
            String text = "thought a worth 1 part 1;tenant p plain;gains " + "1+".repeat(450) + "1-" + (451 - i) + ";";
            Check.due("long law", Check.abbey(t, text), 0);
            t.think(0, 0);
            Check.due("gained by a long law", t.tenant(0, 3), i);
        }
    }
}
