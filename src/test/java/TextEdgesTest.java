import java.util.ArrayList;
import java.util.List;

/**
 * The text of a town at its edges: which token may stand where, the least and the most of each number,
 * every byte, none, one and as many items as there may be, and what a fault leaves as it was.
 */
public final class TextEdgesTest extends Whole {
    private static final String[] TOKENS = {"hole", "bath", "crack", "joint", "duck", "seam", "in", "size", "cold",
        "hot", "rung", "street", "traffic", "let", "budget", "men", ";", "0", "x", "?"};
    private static final String ITEMS = "hole bath crack joint duck seam street budget men";

    public static void main(String[] args) {
        whatMayStandWhere();
        whereItMayEnd();
        numbers();
        longNumbers();
        everyByte();
        everyLetterMore();
        blanks();
        itemsInNumber();
        theNinth();
        wholeTapes();
        firstFault();
        whatAnItemSets();
        laterItems();
        faultsLeaveAll();
        end();
    }

    /** That just these tokens may stand behind a text; the others are a fault at their own place. */
    private static void next(String text, String may) {
        List<String> these = List.of(may.split(" "));
        for (String token : TOKENS) {
            String all = text + " " + token;
            int place = text.length() + 1;
            int got = told(all);
            boolean stands = got > 0 || got < -1 - place;
            due("28: '" + token + "' stands behind '" + text + "'", stands ? 1 : 0, these.contains(token) ? 1 : 0);
            if (!these.contains(token)) {
                due("28: '" + all + "'", got, -1 - place);
            }
        }
    }

    private static void whatMayStandWhere() {
        next("", ITEMS);
        for (String kind : List.of("hole", "bath", "crack", "joint", "duck", "seam")) {
            next(kind, "in size cold hot rung ;");
        }
        next("hole in", "0");
        next("hole in 3", "size cold hot rung ;");
        next("hole size", "0");
        next("hole size 3", "cold hot rung ;");
        next("hole in 3 size", "0");
        next("hole in 3 size 3", "cold hot rung ;");
        next("hole cold", "rung ;");
        next("hole hot", "rung ;");
        next("hole in 3 cold", "rung ;");
        next("hole size 3 hot", "rung ;");
        next("hole rung", ";");
        next("hole in 3 size 3 hot rung", ";");
        next("street", "0");
        next("street 3", "traffic let ;");
        next("street 3 traffic", "0");
        next("street 3 traffic 3", "let ;");
        next("street 3 let", ";");
        next("street 3 traffic 3 let", ";");
        next("budget", "0");
        next("budget 3", ";");
        next("men", "0");
        next("men 3", ";");
        next("hole ;", ITEMS);
        next("street 3 ;", ITEMS);
        next("budget 3 ;", ITEMS);
        next("men 3 ;", ITEMS);
    }

    private static void whereItMayEnd() {
        for (String text : List.of("hole", "hole in 3", "hole size 3", "hole in 3 size 3", "hole cold", "hole hot",
            "hole rung", "duck in 0 size 0 cold rung", "street 3", "street 3 traffic 3", "street 3 let",
            "street 3 traffic 3 let", "budget 3", "men 3")) {
            due("28: '" + text + "'", told(text), 1);
            due("28: '" + text + " '", told(text + " "), 1);
            due("28: '" + text + ";'", told(text + ";"), -1 - text.length() - 1);
            due("28: '" + text + " ; '", told(text + " ; "), -1 - text.length() - 3);
            due("28: '" + text + "' twice", told(text + ";" + text), 2);
        }
        for (String text : List.of("", "hole in", "hole size", "hole in 3 size", "street", "street 3 traffic", "budget",
            "men", "men 3;hole in")) {
            due("28: '" + text + "'", told(text), -1 - text.length());
            due("28: '" + text + " '", told(text + " "), -1 - text.length() - 1);
            due("28: '" + text + "   '", told(text + "   "), -1 - text.length() - 3);
        }
    }

    /** The numbers from 0 to a most behind a text; then what stands there is asked. */
    private static void number(String text, int most) {
        due("28: " + text + " 0", told(text + " 0"), 1);
        due("28: " + text + " " + most, told(text + " " + most), 1);
        int fault = -1 - text.length() - 1;
        due("28: " + text + " " + (most + 1), told(text + " " + (most + 1)), fault);
        due("28: " + text + " 00" + most, told(text + " 00" + most), 1);
        due("28: " + text + " 00" + (most + 1), told(text + " 00" + (most + 1)), fault);
        due("28: " + text + " 9999", told(text + " 9999"), most == 9999 ? 1 : fault);
        for (String far : List.of("10000", "65536", "99999", "2147483647", "2147483648", "4294967295", "4294967296",
            "4294967297", "9223372036854775807", "9223372036854775808", "18446744073709551616",
            "18446744073709551617", "340282366920938463463374607431768211456", "9".repeat(80))) {
            due("28: " + text + " " + far, told(text + " " + far), fault);
            due("28: " + text + " " + far + ";", told(text + " " + far + ";"), fault);
        }
        due("28: " + text + " -1", told(text + " -1"), fault);
        due("28: " + text + " +1", told(text + " +1"), fault);
        due("28: " + text + " and the end", told(text), -1 - text.length());
    }

    private static void numbers() {
        number("hole in", 5);
        number("seam in", 5);
        number("hole size", 99);
        number("duck in 5 size", 99);
        number("street", 5);
        number("street 5 traffic", 99);
        number("budget", 9999);
        number("men", 6);
        HoleFills x = new HoleFills();
        told(x, "hole in 0 size 0;hole in 5 size 99;street 0 traffic 0;street 5 traffic 99;budget 9999;men 6");
        int[][] due = {{0, 0}, {5, 99}};
        for (int h = 0; h < 2; h++) {
            due("28: in", x.of(h, 1), due[h][0]);
            due("28: size", x.of(h, 2), due[h][1]);
        }
        due("28: traffic 0", x.streetOf(0, 0), 0);
        due("28: traffic 99", x.streetOf(5, 0), 99);
        due("28: budget 9999", x.now(1), 9999);
        due("28: men 6", x.now(3), 6);
        told(x, "budget 0;men 0");
        due("28: budget 0", x.now(1), 0);
        due("28: men 0", x.now(3), 0);
    }

    private static void longNumbers() {
        HoleFills x = new HoleFills();
        due("28: 109 noughts and 9999", told(x, "budget " + "0".repeat(109) + "9999"), 1);
        due("28: 109 noughts and 9999", x.now(1), 9999);
        due("28: 113 noughts", told(x, "budget " + "0".repeat(113)), 1);
        due("28: 113 noughts", x.now(1), 0);
        due("28: 108 noughts and 10000", told(x, "budget " + "0".repeat(108) + "10000"), -8);
        due("28: 113 nines", told(x, "budget " + "9".repeat(113)), -8);
        due("28: two numbers", told(x, "budget 1 2"), -10);
    }

    private static void everyByte() {
        for (int b = 0; b < 256; b++) {
            String sign = String.valueOf((char) b);
            boolean letter = b >= 'a' && b <= 'z';
            boolean digit = b >= '0' && b <= '9';
            due("28: byte " + b + " alone", told(sign), b == ' ' ? -2 : -1);
            int between = b == ' ' ? 1 : letter ? -1 : b == ';' ? -6 : -5;
            due("28: byte " + b + " behind hole", told("hole" + sign + "in 3"), between);
            int before = b == ' ' ? 1 : -1;
            due("28: byte " + b + " ahead of hole", told(sign + "hole"), before);
            int last = b == ' ' || digit ? 1 : b == ';' ? -10 : -9;
            due("28: byte " + b + " behind a number", told("budget 7" + sign), last);
        }
    }

    /** A word with a letter more, or one less, is another word. */
    private static void everyLetterMore() {
        for (String word : ITEMS.split(" ")) {
            due("28: " + word + "s", told(word + "s 3"), -1);
            due("28: s" + word, told("s" + word + " 3"), -1);
            due("28: less", told(word.substring(1) + " 3"), -1);
            due("28: less", told(word.substring(0, word.length() - 1) + " 3"), -1);
            due("28: great letters", told(word.toUpperCase(java.util.Locale.ROOT) + " 3"), -1);
        }
        for (String word : List.of("in 3", "size 3", "cold", "hot", "rung")) {
            due("28: hole x" + word, told("hole x" + word), -6);
            due("28: hole less", told("hole " + word.substring(1)), -6);
            due("28: hole" + word, told("hole" + word), -1);
        }
        for (String word : List.of("traffic 3", "let")) {
            due("28: street 3 x" + word, told("street 3 x" + word), -10);
            due("28: street 3 less", told("street 3 " + word.substring(1)), -10);
            due("28: street 3" + word, told("street 3" + word), 1);
        }
    }

    private static void blanks() {
        due("28: none", told("street3traffic4let;men2;crack in1size2hot rung"), 3);
        due("28: one at each place", told(" street 3 traffic 4 let ; men 2 ; crack in 1 size 2 hot rung "), 3);
        due("28: many", told("   street   3   traffic   4   let   ;   men   2   ;   crack   in   1   "), 3);
        due("28: within a word", told("ho le"), -1);
        due("28: within a number", told("men 0 3"), -7);
        due("28: one alone", told(" "), -2);
        due("28: 120 alone", told(" ".repeat(120)), -121);
        due("28: 116 and a hole", told(" ".repeat(116) + "hole"), 1);
        due("28: a hole and 116", told("hole" + " ".repeat(116)), 1);
    }

    private static void itemsInNumber() {
        HoleFills x = new HoleFills();
        due("28: one", told(x, "men 2"), 1);
        for (int items = 1; items <= 24; items++) {
            String all = "men0;".repeat(items - 1) + "men6";
            due("28: " + items, told(x, all), items);
            due("28: the last one's", x.now(3), 6);
        }
        for (int holes = 1; holes <= 8; holes++) {
            x = new HoleFills();
            due("28: holes", told(x, "seam;".repeat(holes - 1) + "duck"), holes);
            due("28: holes", x.count(0), holes);
            due("28: the last one's kind", x.of(holes - 1, 0), DUCK);
        }
    }

    private static void theNinth() {
        for (int had = 0; had <= 8; had++) {
            for (String kind : List.of("hole", "bath", "crack", "joint", "duck", "seam")) {
                HoleFills x = new HoleFills();
                for (int h = 0; h < had; h++) {
                    x.hole(0, 0);
                }
                String more = "seam;".repeat(8 - had);
                due("28: a ninth, " + kind, told(x, more + kind), -1 - more.length());
                due("28: a ninth, " + kind, told(x, more + kind + " in 9"), -1 - more.length());
                due("28: none of them came", x.count(0), had);
                due("28: no finding", x.status(-1), 0);
            }
        }
        HoleFills x = new HoleFills();
        due("28: eight, and others", told(x, "men 4;" + "hole;".repeat(8) + "men 3;budget 9;street 1 let"), 12);
        due("28: an earlier fault", told(x, "men 7;hole"), -5);
        due("28: others still", told(x, "street 2 let"), 1);
        due("28: another word is no ninth", told(x, "men 2;holes"), -7);
        due("36: none kept", x.undo(), NONE);
    }

    private static void wholeTapes() {
        String items = "bath in 5 size 99 hot rung;crack in 4 size 10 cold;joint in 3;duck size 7 hot;seam rung;"
            + "street 5 traffic 1 let;men 3";
        String blanks = " ".repeat(120 - items.length());
        HoleFills x = new HoleFills();
        due("28: blanks to the end", told(x, items + blanks), 7);
        due("28: five holes", x.count(0), 5);
        due("28: the last item's", x.now(3), 3);
        x = new HoleFills();
        due("28: blanks ahead", told(x, blanks + items), 7);
        due("28: the last item's", x.now(3), 3);

        x = new HoleFills();
        feed(x, items + blanks.substring(1));
        due("26: 119 bytes", x.count(1), 119);
        due("26: one more", x.feed(';', 1), 120);
        due("28: the last byte is read", x.text(), -1 - 120);
        due("28: nothing came", x.count(0), 0);
        feed(x, items + blanks.substring(2));
        due("26: 118 bytes", x.count(1), 118);
        due("26: not one of three", x.feed(0x3B3B3B, 3), FULL);
        due("26: nor of four", x.feed(0x3B3B3B3B, 4), FULL);
        due("28: without them", x.text(), 7);
        x = new HoleFills();
        due("28: the 120th byte counts", told(x, " ".repeat(112) + "budget 5"), 1);
        due("28: the 120th byte counts", x.now(1), 5);
    }

    private static void firstFault() {
        due("28: the first of three", told("men 7;hole in 9;?"), -5);
        due("28: a byte ahead of a ninth", told("?" + "hole;".repeat(9)), -1);
        due("28: a word, not what is behind it", told("hole holes ?"), -6);
        due("28: a sign ahead of all", told(";hole"), -1);
        due("28: two signs", told("hole; ;hole"), -7);
        due("28: the 120th byte", told("men 0;".repeat(19) + "men 0?"), -120);
        due("28: the 119th byte", told("men 0;".repeat(19) + "men 7 "), -119);
    }

    private static String hole(HoleFills x, int hole) {
        StringBuilder b = new StringBuilder();
        for (int what = 0; what <= 5; what++) {
            b.append(x.of(hole, what)).append(' ');
        }
        return b.toString().trim();
    }

    private static void whatAnItemSets() {
        String[] kinds = {"hole", "bath", "crack", "joint", "duck", "seam"};
        for (int kind = 0; kind < 6; kind++) {
            HoleFills x = new HoleFills();
            told(x, kinds[kind] + ";" + kinds[kind] + " in 5;" + kinds[kind] + " size 0;" + kinds[kind] + " cold");
            told(x, kinds[kind] + " hot;" + kinds[kind] + " rung;" + kinds[kind] + " in 1 size 99 hot rung");
            due("28: alone", hole(x, 0), kind + " 0 5 0 0 0");
            due("28: in", hole(x, 1), kind + " 5 5 0 0 0");
            due("28: size", hole(x, 2), kind + " 0 0 0 0 0");
            due("28: cold", hole(x, 3), kind + " 0 5 1 0 0");
            due("28: hot", hole(x, 4), kind + " 0 5 2 0 0");
            due("28: rung", hole(x, 5), kind + " 0 5 0 0 1");
            due("28: all", hole(x, 6), kind + " 1 99 2 0 1");
            due("28: seven", x.count(0), 7);
            due("28: it costs nothing", x.now(5), 0);
            due("28: it costs nothing", x.now(1), 500);
        }
        HoleFills x = new HoleFills();
        for (int street = 0; street < 6; street++) {
            told(x, "street " + street + " let");
            due("28: its traffic stays", x.streetOf(street, 0), 20);
            due("28: it is let go", x.streetOf(street, 1), 1);
            told(x, "street " + street + " traffic " + (90 + street));
            due("28: its traffic", x.streetOf(street, 0), 90 + street);
            due("28: it is let go no more", x.streetOf(street, 1), 0);
            told(x, "street " + street + " let;street " + street);
            due("28: its traffic stays", x.streetOf(street, 0), 90 + street);
            due("28: nor now", x.streetOf(street, 1), 0);
        }
        told(x, "budget 77;men 4");
        due("28: the budget alone", x.now(2), 500);
        due("28: not the yearly one", x.now(1), 77);
        due("28: men", x.now(3), 4);
        due("28: no week went", x.now(0), 0);
    }

    private static void laterItems() {
        HoleFills x = new HoleFills();
        due("28: twice", told(x, "budget 1;budget 2;men 1;men 2;street 0 let;street 0 traffic 9"), 6);
        due("28: the later", x.now(1), 2);
        due("28: the later", x.now(3), 2);
        due("28: the later", x.streetOf(0, 0), 9);
        due("28: the later", x.streetOf(0, 1), 0);
        x = new HoleFills();
        x.hole(DUCK, 2);
        due("28: to what there is", told(x, "bath"), 1);
        due("28: to what there is", x.count(0), 2);
        due("28: to what there is", hole(x, 0), "4 2 5 0 0 0");
        due("28: to what there is", hole(x, 1), "1 0 5 0 0 0");
        x.image();
        told(x, "bath;men 5");
        due("36: a text is undone", x.undo(), 2);
        due("36: a text is undone", x.now(3), 1);
        // A hole that an undo took away leaves nothing to the next one.
        told(x, "bath in 5 size 9 hot rung");
        x.set(2, 4, 9);
        x.undo();
        told(x, "seam");
        due("28: as a new one", hole(x, 2), "5 0 5 0 0 0");
    }

    private static HoleFills emptyTape() {
        HoleFills x = townOf(5);
        x.wipe();
        return x;
    }

    private static void faultsLeaveAll() {
        List<String> faults = new ArrayList<>(List.of("", " ", "?", ";"));
        String items = "men 3;budget 9;street 1 traffic 3 let;hole in 2 size 9 cold rung";
        for (String end : List.of(";", " x", ";hole in", ";hole in 6", ";hole size 100", ";street 6", ";men 7",
            ";budget 10000", ";street 2 traffic 100", ";street 2 traffic", ";hole;hole;hole")) {
            faults.add(items + end);
        }
        for (String fault : faults) {
            HoleFills x = emptyTape();
            due("28: '" + fault + "'", told(x, fault) < 0 ? 1 : 0, 1);
            due("28: '" + fault + "' empties the tape", x.count(1), 0);
            due("28: '" + fault + "' is no finding", findings(x), "0 0 0 0 0 0 0 0");
            due("28: '" + fault + "' leaves", all(x), all(emptyTape()));
        }
        HoleFills x = emptyTape();
        due("28: a fault, and nothing then", told(x, "men"), -4);
        due("28: a fault, and nothing then", x.text(), -1);
        due("28: and a text", told(x, "men 1"), 1);
        due("28: and nothing then", x.text(), -1);
        due("28: and nothing then", x.wipe(), 0);
    }
}
