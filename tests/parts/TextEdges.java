/** Boundary cases of texts: what "Terms" says of them, and promises 1 to 4. */
final class TextEdges {
    private TextEdges() { }

    private static void told(String text, int lines) {
        SnowKeeps s = new SnowKeeps();
        Edge.is(lines, Kit.tell(s, text));
        Edge.is(0, s.fault(0));
        Edge.is(-1, s.fault(1));
    }

    private static void fault(String text, int kind, int place) {
        SnowKeeps s = new SnowKeeps();
        Edge.is(-10 - kind, Kit.tell(s, text));
        Edge.is(kind, s.fault(0));
        Edge.is(place, s.fault(1));
    }

    static void run() {
        places();
        paths();
        walkers();
        storms();
        wolvesAndKeep();
        tokens();
        faults();
        leastFaults();
        newObject();
        feed();
        plain();
        plainBegins();
        fault();
    }

    private static void term(String words, String name, Edge.Case body) {
        Edge.edge(Edge.TERMS, words, name, body);
    }

    private static void places() {
        String most = "THE PLAIN is a TEXT of at most 600 bytes";
        term(most, "all of 600 bytes are read", () -> {
            SnowKeeps s = new SnowKeeps();
            Edge.is(2, Kit.tell(s, "places 2;" + " ".repeat(584) + "keep 7;"));
            Edge.is(7, s.count(4));
        });
        term(most, "the last of 600 bytes is missing", () -> fault("places 2;" + " ".repeat(585) + "keep 7", 2, 600));
        String without = "(without one: no PLACES, KEEP 20)";
        term(without, "no places", () -> Edge.is(0, new SnowKeeps().count(1)));
        term(without, "not even place 0", () -> Edge.refuses(Edge.NO_SUCH, SnowKeeps::new, s -> s.seen(0, true)));
        term(without, "KEEP is 20", () -> Edge.is(20, new SnowKeeps().count(4)));
        term(without, "guides may use 20 prints", () -> Edge.is(10, new SnowKeeps().homes(1, 0)));
        String bounds = "places: 1 to 10 PLACES, 0, 1 ..";
        term(bounds, "0 are too few", () -> fault("places 0;", 3, 7));
        term(bounds, "1 is enough, it is place 0", () -> {
            SnowKeeps s = Kit.of("places 1;walker 0;");
            Edge.is(1, s.count(1));
            Edge.is(0, s.distance(0, 0));
        });
        term(bounds, "of 1 there is no place 1", () -> Edge.refuses(Edge.NO_SUCH, () -> Kit.of("places 1;"), s -> s.distance(0, 1)));
        term(bounds, "10 are the most, the last is place 9", () -> {
            SnowKeeps s = Kit.of("places 10;path 9 0;walker 9;");
            Edge.is(10, s.count(1));
            Edge.is(1, s.distance(0, 9));
            Edge.is(9, s.walker(0, 0));
        });
        term(bounds, "of 10 there is no place 10", () -> Edge.refuses(Edge.NO_SUCH, () -> Kit.of("places 10;"), s -> s.distance(10, 0)));
        term(bounds, "11 are too many", () -> fault("places 11;", 3, 7));
        term(bounds, "999 are too many", () -> fault("places 999;", 3, 7));
        term("places N ; { LINE ; }", "no lines behind the places", () -> told("places 3;", 1));
        term("places N ; { LINE ; }", "places 3 without its sign", () -> fault("places 3", 2, 8));
        term("places N ; { LINE ; }", "no empty line", () -> fault("places 3;;", 2, 9));
    }

    private static void paths() {
        String unlike = "path: two unlike PLACES, no PATH between both being told";
        term(unlike, "the same place twice", () -> fault("places 2;path 1 1;", 3, 16));
        term(unlike, "the same path again", () -> fault("places 3;path 0 1;path 0 1;", 3, 25));
        term(unlike, "the same path the other way", () -> fault("places 3;path 0 1;path 1 0;", 3, 25));
        term(unlike, "another path from each of both", () -> told("places 3;path 0 1;path 1 2;path 2 0;", 4));
        term(unlike, "the last place of them", () -> told("places 3;path 2 0;path 1 2;", 3));
        term(unlike, "no such first place", () -> fault("places 3;path 3 0;", 3, 14));
        term(unlike, "no such second place", () -> fault("places 3;path 0 3;", 3, 16));
        String many = "numbered from 0 on as they come, 16 at most";
        term(many, "16 are told, the last is number 15", () -> {
            SnowKeeps s = Kit.of(Kit.sixteenPaths());
            Edge.is(16, s.count(2));
            Edge.is(0, s.path(0, 0));
            Edge.is(1, s.path(0, 1));
            Edge.is(3, s.path(15, 0));
            Edge.is(4, s.path(15, 1));
        });
        term(many, "no path 16", () -> Edge.refuses(Edge.NO_SUCH, () -> Kit.of(Kit.sixteenPaths()), s -> s.path(16, 0)));
        term(many, "a 17th", () -> fault(Kit.sixteenPaths() + "path 3 5;", 4, Kit.sixteenPaths().length()));
    }

    private static void walkers() {
        String four = "path: two unlike PLACES, no PATH between both being told; numbered from 0 on as they come, 16 at most. "
            + "walker: where WALKERS stand, numbered from 0 on, 4 at most";
        String text = "places 6;walker 5;walker 0;walker 3;walker 5;";
        term(four, "4 are told, the last is number 3", () -> {
            SnowKeeps s = Kit.of(text);
            Edge.is(4, s.count(3));
            Edge.is(5, s.walker(0, 0));
            Edge.is(3, s.walker(2, 0));
            Edge.is(5, s.walker(3, 0));
        });
        term(four, "no walker 4", () -> Edge.refuses(Edge.NO_SUCH, () -> Kit.of(text), s -> s.walker(4, 0)));
        term(four, "a fifth", () -> fault(text + "walker 0;", 4, text.length()));
        term(four, "none", () -> Edge.is(0, Kit.of("places 2;path 0 1;").count(3)));
        term(four, "the last place", () -> told("places 6;walker 5;", 2));
        term(four, "no such place", () -> fault("places 6;walker 6;", 3, 16));
        String beat = "BEAT: 1 to 8 PLACES (none without)";
        term(beat, "0 are too few", () -> fault("places 2;walker 0 beat;", 2, 22));
        term(beat, "1 is enough", () -> {
            SnowKeeps s = Kit.of("places 2;path 0 1;walker 0 beat 1;");
            Edge.is(1, s.beat(0, 0));
            Edge.is(1, s.rounds(1));
        });
        term(beat, "8 are the most", () -> {
            SnowKeeps s = Kit.of("places 5;walker 0 beat 1 2 3 4 3 2 1 4;");
            Edge.is(4, s.beat(0, 7));
            Edge.is(1, s.beat(0, 6));
        });
        term(beat, "9 are too many", () -> fault("places 2;walker 0 beat 0 1 0 1 0 1 0 1 0;", 4, 39));
        term(beat, "none without: no turn of it", () -> Edge.is(0, Kit.of("places 2;path 0 1;walker 0;").rounds(60)));
        term(beat, "a walker's last beat place may be the last place", () -> told("places 3;walker 0 beat 2;", 2));
        term(beat, "no such place in a beat", () -> fault("places 3;walker 0 beat 3;", 3, 23));
        term(beat, "each walker of four has its own 8", () -> {
            SnowKeeps s = Kit.of("places 9;walker 0 beat 0 0 0 0 0 0 0 1;walker 0 beat 2;walker 0 beat 3 3 3 3 3 3 3 4;"
                + "walker 0 beat 5 5 5 5 5 5 5 6;");
            Edge.is(1, s.beat(0, 7));
            Edge.is(2, s.beat(1, 0));
            Edge.is(4, s.beat(2, 7));
            Edge.is(6, s.beat(3, 7));
        });
    }

    private static void storms() {
        String first = "storm: behind each so many STEPS of all (1 to 99)";
        term(first, "0 is too few", () -> fault("places 1;storm 0 1;", 3, 15));
        term(first, "1: behind each step", () -> {
            SnowKeeps s = Kit.of(Kit.PAIR + "storm 1 1;");
            Edge.is(0, s.step(0, 1));
            Edge.is(0, s.step(0, 0));
        });
        term(first, "99: not behind the 98th, behind the 99th", () -> {
            SnowKeeps s = Kit.of(Kit.PAIR + "keep 60;storm 99 60;");
            Kit.toAndFro(s, 98);
            Edge.is(60, s.count(5));
            Edge.is(0, s.step(0, 1));
            Edge.is(1, s.step(0, 0));
        });
        term(first, "100 is too many", () -> fault("places 1;storm 100 1;", 3, 15));
        String second = "so many eldest PRINTS go (0 to 60; no storms without)";
        term(second, "0: none goes", () -> {
            SnowKeeps s = Kit.of(Kit.PAIR + "storm 1 0;");
            Edge.is(1, s.step(0, 1));
            Edge.is(2, s.step(0, 0));
            Edge.is(1, s.count(8));
        });
        term(second, "1: the eldest alone", () -> {
            SnowKeeps s = Kit.toAndFro(Kit.of(Kit.PAIR + "storm 3 1;"), 3);
            Edge.is(2, s.count(5));
            Edge.is(1, s.print(0, 0));
        });
        term(second, "60: all of 60 go", () -> {
            SnowKeeps s = Kit.toAndFro(Kit.of(Kit.PAIR + "keep 60;storm 60 60;"), 59);
            Edge.is(59, s.count(5));
            Edge.is(0, s.step(0, 0));
        });
        term(second, "59 of 60 leave one", () -> Edge.is(1, Kit.toAndFro(Kit.of(Kit.PAIR + "keep 60;storm 60 59;"), 60).count(5)));
        term(second, "61 is too many", () -> fault("places 1;storm 1 61;", 3, 17));
        term(second, "no storms without", () -> {
            SnowKeeps s = Kit.of(Kit.PAIR + "keep 60;");
            Edge.is(0, s.count(8));
            Edge.is(60, Kit.toAndFro(s, 100).count(5));
        });
        term(second, "one number is too few", () -> fault("places 1;storm 1;", 2, 16));
        term("later ones strike. keep", "a later storm strikes", () -> {
            SnowKeeps s = Kit.of(Kit.PAIR + "storm 1 9;storm 3 2;");
            Edge.is(3, s.count(8));
            Edge.is(2, s.count(9));
            Edge.is(1, Kit.toAndFro(s, 3).count(5));
        });
    }

    private static void wolvesAndKeep() {
        String wolves = "wolves: how many PRINTS they remember (1 to 99; 20 without); later ones strike";
        term(wolves, "0 is too few", () -> fault("places 1;wolves 0;", 3, 16));
        term(wolves, "1", () -> Edge.is(1, Kit.toAndFro(Kit.of(Kit.PAIR + "wolves 1;"), 5).wolves()));
        term(wolves, "99 of 99, of 100", () -> {
            SnowKeeps s = Kit.toAndFro(Kit.of(Kit.PAIR + "wolves 99;"), 99);
            Edge.is(99, s.wolves());
            Edge.is(0, s.wolf(0, 0));
            Kit.go(s, 0, 0);
            Edge.is(99, s.wolves());
            Edge.is(1, s.wolf(0, 0));
        });
        term(wolves, "100 is too many", () -> fault("places 1;wolves 100;", 3, 16));
        term(wolves, "20 without: of 20, of 21", () -> {
            SnowKeeps s = Kit.toAndFro(Kit.of(Kit.PAIR), 20);
            Edge.is(20, s.wolves());
            Edge.is(20, s.count(10));
            Kit.go(s, 0, 1);
            Edge.is(20, s.wolves());
        });
        term(wolves, "the last of three strikes", () -> Edge.is(3, Kit.of("places 1;wolves 9;wolves 5;wolves 3;").count(10)));
        String keep = "keep: 1 to 60 PRINTS are kept (later ones strike; 20 without)";
        term(keep, "0 is too few", () -> fault("places 1;keep 0;", 3, 14));
        term(keep, "1", () -> Edge.is(1, Kit.toAndFro(Kit.of(Kit.PAIR + "keep 1;"), 2).count(5)));
        term(keep, "60", () -> Edge.is(60, Kit.toAndFro(Kit.of(Kit.PAIR + "keep 60;"), 61).count(5)));
        term(keep, "61 is too many", () -> fault("places 1;keep 61;", 3, 14));
        term(keep, "20 without: of 20, of 21", () -> {
            SnowKeeps s = Kit.toAndFro(Kit.of(Kit.PAIR), 20);
            Edge.is(20, s.count(5));
            Kit.go(s, 0, 1);
            Edge.is(20, s.count(5));
        });
        term(keep, "the last of three strikes", () -> Edge.is(3, Kit.of("places 1;keep 9;keep 60;keep 3;").count(4)));
    }

    private static void tokens() {
        String long1 = "TOKENS, as long as they go";
        term(long1, "no blanks between unlike tokens", () -> told("places10;path0 1;walker 3beat 4 5;", 3));
        term(long1, "letters on end are one word", () -> fault("places 2;pathx 0 1;", 2, 9));
        term(long1, "digits on end are one number", () -> fault("places 2;path 01;", 2, 16));
        term(long1, "each sign ; is one", () -> fault("places 2;;path 0 1;", 2, 9));
        term(long1, "a part of a word is no word", () -> fault("place 2;", 2, 0));
        term(long1, "the text ends a word that goes on upon the tape", () -> {
            SnowKeeps s = new SnowKeeps();
            Kit.feed(s, "placesx 2;");
            Edge.is(-12, s.plain(6));
            Edge.is(6, s.fault(1));
        });
        term(long1, "the text ends a number that goes on upon the tape", () -> {
            SnowKeeps s = new SnowKeeps();
            Kit.feed(s, "places 0002;");
            Edge.is(-13, s.plain(8));
            Edge.is(7, s.fault(1));
        });
        term(long1, "the 600th byte ends a word", () -> fault("places 2;" + " ".repeat(587) + "path", 2, 600));
        term(long1, "the 600th byte ends a beat", () -> fault("places 2;" + " ".repeat(578) + "walker 0 beat", 2, 600));
        String others = "LINE: path N N | walker N [ beat N { N } ] | keep N | storm N N | wolves N.";
        String[] lines = {"path 0 1;", "walker 0;", "keep 5;", "storm 1 1;", "wolves 5;"};
        for (String line : lines) {
            int blank = line.indexOf(' ');
            String word = line.substring(0, blank);
            String rest = line.substring(blank);
            term(others, word + " is a line", () -> told("places 2;" + line, 2));
            term(others, word + " with another first letter", () -> fault("places 2;x" + word.substring(1) + rest, 2, 9));
            term(others, word + " with another last letter", () -> fault("places 2;" + word.substring(0, blank - 1) + "x" + rest, 2, 9));
            term(others, word + " with a letter more", () -> fault("places 2;" + word + "s" + rest, 2, 9));
            term(others, word + " with a letter fewer", () -> fault("places 2;" + word.substring(0, blank - 1) + rest, 2, 9));
        }
        term(others, "places with another first letter", () -> fault("xlaces 2;", 2, 0));
        term(others, "beat with another first letter", () -> fault("places 2;walker 0 xeat 1;", 2, 18));
        String blanks = "between them blanks (10, 32)";
        term(blanks, "10 and 32, also at both ends", () -> told("\n \nplaces\n 1 \n; \n", 1));
        term(blanks, "9 is none", () -> fault("places\t1;", 1, 6));
        term(blanks, "13 is none", () -> fault("places 1;\r\n", 1, 9));
        term(blanks, "11 is none", () -> fault("places 1;" + (char) 11, 1, 9));
        term(blanks, "31 is none", () -> fault("places 1;" + (char) 31, 1, 9));
        term(blanks, "0 is none", () -> fault("places 1;" + (char) 0, 1, 9));
        term(blanks, "a blank parts a word", () -> fault("pla ces 1;", 2, 0));
        term(blanks, "a blank parts a number", () -> fault("places 1 0;", 2, 9));
        String words = "words (small letters), N (1 to 3 digits), the sign ;.";
        term(words, "a and z are letters", () -> {
            fault("a;", 2, 0);
            fault("z;", 2, 0);
        });
        term(words, "96 is none", () -> fault("`;", 1, 0));
        term(words, "123 is none", () -> fault("{;", 1, 0));
        term(words, "no great letters", () -> fault("Places 1;", 1, 0));
        term(words, "a great letter ends a word", () -> fault("placesZ 1;", 1, 6));
        term(words, "0 to 9 are digits", () -> told("places 9;path 8 7;path 6 5;path 4 3;path 2 1;walker 0;", 6));
        term(words, "47 is none", () -> fault("places /", 1, 7));
        term(words, "58 is none", () -> fault("places :", 1, 7));
        term(words, "60 is no sign", () -> fault("places 1<", 1, 8));
        term(words, "signs above 127", () -> fault("places 1;" + (char) 233, 1, 9));
        term(words, "255", () -> fault((char) 255 + "places 1;", 1, 0));
        term(words, "3 digits", () -> told("places 003;path 000 002;", 2));
        term(words, "2 digits", () -> told("places 03;path 00 02;", 2));
        term(words, "4 digits are none", () -> fault("places 0003;", 1, 7));
    }

    private static void faults() {
        String first = "FAULTS, the first along the text";
        term(first, "a later one of a lesser kind", () -> fault("places 1;keep 0;!", 3, 14));
        term(first, "a later one of the same kind", () -> fault("places 1;keep 0;keep 61;", 3, 14));
        term(first, "17 paths ahead of a bad sign", () -> fault(Kit.sixteenPaths() + "path!", 4, Kit.sixteenPaths().length()));
        String none = "1 no TOKEN begins so (4 digits and more: at their first)";
        term(none, "4 digits", () -> fault("places 1;1000;", 1, 9));
        term(none, "many digits", () -> fault("places 1;keep 00000000000000000000000000001;", 1, 14));
        term(none, "a sign", () -> fault("places 1;keep -1;", 1, 14));
        String cant = "2 it can't stand there (the end: the text's length; places must be told first, and once)";
        term(cant, "the end of an empty text", () -> fault("", 2, 0));
        term(cant, "the end behind blanks", () -> fault(" \n ", 2, 3));
        term(cant, "the end behind a line without its sign", () -> fault("places 1;keep 9  ", 2, 17));
        term(cant, "the end within a line", () -> fault("places 2;path 0", 2, 15));
        term(cant, "places are not told first", () -> fault("keep 5;places 1;", 2, 0));
        term(cant, "places are told twice", () -> fault("places 1;places 1;", 2, 9));
        term(cant, "a number for a word", () -> fault("places 1;5;", 2, 9));
        term(cant, "a word for a number", () -> fault("places 1;keep keep;", 2, 14));
        term(cant, "a sign for a number", () -> fault("places 1;keep ;", 2, 14));
        term(cant, "beat begins no line", () -> fault("places 1;beat 0;", 2, 9));
        term(cant, "one number too many of a path", () -> fault("places 2;path 0 1 0;", 2, 18));
        term(cant, "one number too many of a keep", () -> fault("places 2;keep 1 1;", 2, 16));
        term(cant, "one number too many of a storm", () -> fault("places 2;storm 1 1 1;", 2, 19));
        term(cant, "one number too many of wolves", () -> fault("places 2;wolves 1 1;", 2, 18));
        term(cant, "one number too many of a walker", () -> fault("places 2;walker 0 1;", 2, 18));
        term(cant, "another word behind a walker", () -> fault("places 2;walker 0 beats 1;", 2, 18));
        term(cant, "a word in a beat", () -> fault("places 2;walker 0 beat 1 beat 0;", 2, 25));
        term(cant, "an unknown word", () -> fault("places 2;snow 1;", 2, 9));
        String bounds = "3 N is out of its bounds (the second PLACE of a PATH: also the first one, or one with a PATH between both)";
        term(bounds, "also the first one", () -> fault("places 9;path 8 8;", 3, 16));
        term(bounds, "one with a path between both", () -> fault("places 9;path 8 7;path 8 7", 3, 25));
        term(bounds, "one with a path between both, turned", () -> fault("places 9;path 8 7;path 7 8", 3, 25));
        term(bounds, "a first place that has a path is fine", () -> told("places 9;path 8 7;path 8 6;", 3));
        String many = "4 the first TOKEN of a 17th path, a 5th walker, a 9th PLACE of a BEAT";
        String four = "places 1;walker 0;walker 0;walker 0;walker 0;";
        term(many, "a 17th path", () -> fault(Kit.sixteenPaths() + " path 9 9;", 4, Kit.sixteenPaths().length() + 1));
        term(many, "a 5th walker", () -> fault(four + "\nwalker", 4, four.length() + 1));
        term(many, "a 9th place of a second beat", () -> fault("places 1;walker 0 beat 0;walker 0 beat 0 0 0 0 0 0 0 0 0;", 4, 55));
        term(many, "16 paths and 4 walkers may stand together",
            () -> told(Kit.sixteenPaths() + "walker 0;walker 0;walker 0;walker 0;keep 1;", 22));
    }

    private static void leastFaults() {
        String least = "of one TOKEN the least kind";
        term(least, "1 ahead of 2: a bad sign where nothing of its kind can stand", () -> fault("places 1;!", 1, 9));
        term(least, "1 ahead of 2: 4 digits where a word must stand", () -> fault("places 1;0000", 1, 9));
        term(least, "1 ahead of 3: 4 digits out of bounds", () -> fault("places 9999;", 1, 7));
        term(least, "1 ahead of 4: 4 digits for a 9th place", () -> fault("places 1;walker 0 beat 0 0 0 0 0 0 0 0 0000;", 1, 39));
        term(least, "2 ahead of 3: a great number that can't stand", () -> fault("places 1 999;", 2, 9));
        term(least, "2 ahead of 4: a 17th path that can't stand",
            () -> fault(Kit.sixteenPaths() + "keep 5 path", 2, Kit.sixteenPaths().length() + 7));
        term(least, "2 ahead of 4: a 5th walker that can't stand",
            () -> fault("places 1;walker 0;walker 0;walker 0;walker 0 walker 0;", 2, 45));
        term(least, "3 ahead of 4: a 9th place out of bounds", () -> fault("places 1;walker 0 beat 0 0 0 0 0 0 0 0 1;", 3, 39));
    }

    private static void newObject() {
        String none = "No PLACES; TRAYS are MISSING; an empty tape.";
        Edge.edge(1, none, "nothing of a plain", () -> {
            SnowKeeps s = new SnowKeeps();
            int[] want = {0, 0, 0, 0, 20, 0, 0, 0, 0, 0, 20};
            for (int what = 0; what < want.length; what++) {
                Edge.is(want[what], s.count(what));
            }
            Edge.is(0, s.wolves());
            Edge.is(0, s.starts());
            Edge.is(0, s.bare());
        });
        for (int t = 0; t < 4; t++) {
            int tray = t;
            Edge.edge(1, none, "tray " + t + " is MISSING", () -> Edge.refuses(Edge.STATE, SnowKeeps::new, s -> s.perform(tray)));
        }
        Edge.edge(1, none, "the tape is empty", () -> {
            SnowKeeps s = new SnowKeeps();
            Edge.is(0, s.count(7));
            Edge.is(20, s.feed(0, 0, 0, 0, 0));
        });
        Edge.edge(1, none, "not one byte can be told", () -> Edge.refuses(Edge.ARGUMENT, SnowKeeps::new, s -> s.plain(1)));
        Edge.edge(1, none, "nothing moves", () -> {
            SnowKeeps s = new SnowKeeps();
            Edge.is(-1, s.step(0, 0));
            Edge.is(0, s.rounds(60));
            Edge.is(0, s.noon());
            Edge.is(0, s.storm(0));
        });
        String use = "An object is used for at most 512 calls after it has been made";
        term(use, "the 512th answers", () -> {
            SnowKeeps s = Kit.of(Kit.PAIR + "wolves 99;");
            for (int i = 0; i < 508; i++) {
                Edge.is(Math.min(20, i + 1), s.step(0, 1 - i % 2));
            }
            Edge.is(508, s.count(6));
        });
        term("`NONE = -1`: There is none.", "as it stands in the face", () -> Edge.is(-1, SnowKeeps.NONE));
        term("`SPENT = -1000`: Too many.", "as it stands in the face", () -> Edge.is(-1000, SnowKeeps.SPENT));
        term("public static final int NONE = -1; public static final int SPENT = -1000;", "both of them", () -> {
            Edge.is(-1, new SnowKeeps().count(11));
            Edge.is(-1000, Kit.toAndFro(Kit.of(Kit.PAIR), 15).rows(0));
        });
    }

    private static SnowKeeps full() {
        SnowKeeps s = new SnowKeeps();
        Kit.feed(s, "places 2;" + " ".repeat(571) + "path 0 1;keep 3;wal;");
        return s;
    }

    private static void feed() {
        String high = "Twenty bytes come behind those on the tape, the highest of each int first: how many it has";
        Edge.edge(2, high, "each byte of each int at its place", () -> {
            for (int at = 0; at < 20; at++) {
                SnowKeeps s = new SnowKeeps();
                int[] v = {0x20202020, 0x20202020, 0x20202020, 0x20202020, 0x20202020};
                v[at / 4] ^= (0x20 ^ 0xff) << 24 - 8 * (at % 4);
                s.feed(v[0], v[1], v[2], v[3], v[4]);
                Edge.is(-11, s.plain(20));
                Edge.is(at, s.fault(1));
            }
        });
        Edge.edge(2, high, "behind those on it", () -> {
            SnowKeeps s = new SnowKeeps();
            s.feed(0x20202020, 0x20202020, 0x20202020, 0x20202020, 0x20202020);
            Edge.is(40, s.feed(0x61000000, 0, 0, 0, 0));
            Edge.is(-12, s.plain(40));
            Edge.is(20, s.fault(1));
        });
        String more = "NONE, and nothing changes, if there would be more than 600";
        Edge.edge(2, more, "600 are not more", () -> {
            SnowKeeps s = new SnowKeeps();
            for (int i = 1; i <= 30; i++) {
                Edge.is(20 * i, s.feed(i, i, i, i, i));
            }
        });
        Edge.edge(2, more, "a full tape", () -> {
            SnowKeeps s = full();
            Edge.is(600, s.count(7));
            Edge.is(-1, s.feed(0x20202020, 0x20202020, 0x20202020, 0x20202020, 0x20202020));
            Edge.is(600, s.count(7));
        });
        Edge.edge(2, more, "nothing changes on it", () -> {
            SnowKeeps s = full();
            String before = Kit.look(s);
            Edge.is(-1, s.feed(0, 0, 0, 0, 0));
            Edge.is(-1, s.feed(-1, -1, -1, -1, -1));
            Edge.same(before, Kit.look(s));
            Edge.is(3, s.plain(596));
            Edge.is(3, s.count(4));
        });
        Edge.edge(2, more, "there is room again behind a plain", () -> {
            SnowKeeps s = full();
            s.plain(600);
            Edge.is(20, s.feed(0, 0, 0, 0, 0));
        });
    }

    private static void plain() {
        String first = "The first n bytes of the tape (which is empty then) are THE PLAIN";
        Edge.edge(3, first, "what stands behind them is no part of it", () -> {
            SnowKeeps s = new SnowKeeps();
            Kit.feed(s, "places 2;!!!!");
            Edge.is(1, s.plain(9));
        });
        Edge.edge(3, first, "one byte fewer", () -> {
            SnowKeeps s = new SnowKeeps();
            Kit.feed(s, "places 2;");
            Edge.is(-12, s.plain(8));
            Edge.is(8, s.fault(1));
        });
        Edge.edge(3, first, "what stood behind them is gone, too", () -> {
            SnowKeeps s = new SnowKeeps();
            Kit.feed(s, "places 2;keep 5;");
            Edge.is(1, s.plain(9));
            Edge.is(0, s.count(7));
            Edge.is(1, Kit.tell(s, "places 3;"));
        });
        Edge.edge(3, first, "no bytes", () -> {
            SnowKeeps s = new SnowKeeps();
            Kit.feed(s, "places 2;");
            Edge.is(-12, s.plain(0));
            Edge.is(0, s.fault(1));
            Edge.is(0, s.count(7));
        });
        Edge.edge(3, first, "empty behind a fault, too", () -> {
            SnowKeeps s = new SnowKeeps();
            Kit.feed(s, "places 0;");
            s.plain(20);
            Edge.is(0, s.count(7));
        });
        String wrong = "IllegalArgumentException: n is below 0 or above what it has.";
        Edge.edge(3, wrong, "below 0", () -> Edge.refuses(Edge.ARGUMENT, TextEdges::twenty, s -> s.plain(-1)));
        Edge.edge(3, wrong, "far below 0", () -> Edge.refuses(Edge.ARGUMENT, TextEdges::twenty, s -> s.plain(Integer.MIN_VALUE)));
        Edge.edge(3, wrong, "one above", () -> Edge.refuses(Edge.ARGUMENT, TextEdges::twenty, s -> s.plain(21)));
        Edge.edge(3, wrong, "far above", () -> Edge.refuses(Edge.ARGUMENT, TextEdges::twenty, s -> s.plain(Integer.MAX_VALUE)));
        Edge.edge(3, wrong, "an empty tape", () -> Edge.refuses(Edge.ARGUMENT, Kit::walked, s -> s.plain(1)));
        Edge.edge(3, wrong, "601 of a full one", () -> Edge.refuses(Edge.ARGUMENT, TextEdges::full, s -> s.plain(601)));
        Edge.edge(3, wrong, "just what it has", () -> Edge.is(1, twenty().plain(20)));
        Edge.edge(3, wrong, "the tape stays behind a throw", () -> {
            SnowKeeps s = twenty();
            try {
                s.plain(21);
            } catch (IllegalArgumentException e) {
                Edge.is(20, s.count(7));
            }
            Edge.is(1, s.plain(9));
        });
    }

    private static SnowKeeps twenty() {
        SnowKeeps s = new SnowKeeps();
        Kit.feed(s, "places 2;");
        return s;
    }

    private static void plainBegins() {
        Edge.edge(3, "the snow is fresh", "nothing of the old plain is left", () -> {
            SnowKeeps s = Kit.of(Kit.PAIR + "keep 3;wolves 9;storm 7 1;walker 1;");
            s.rounds(5);
            s.keep(4);
            Edge.is(2, Kit.tell(s, "places 3;walker 2 beat 0 1;"));
            int[] want = {2, 3, 0, 1, 20, 0, 0, 0, 0, 0, 20};
            for (int what = 0; what < want.length; what++) {
                Edge.is(want[what], s.count(what));
            }
            Edge.is(0, s.wolves());
            Edge.is(2, s.walker(0, 0));
            Edge.is(0, s.walker(0, 1));
            Edge.is(0, s.beat(0, -1));
        });
        Edge.edge(3, "the snow is fresh", "the same plain again", () -> {
            SnowKeeps s = Kit.walked();
            Edge.is(8, Kit.tell(s, Kit.RING));
            Edge.is(0, s.count(5));
            Edge.is(0, s.count(6));
            Edge.is(0, s.walker(0, 0));
        });
        Edge.edge(3, "how many LINES (places, too)", "places alone", () -> Edge.is(1, Kit.tell(new SnowKeeps(), "places 1;")));
        Edge.edge(3, "how many LINES (places, too)", "lines that strike others count", () ->
            Edge.is(4, Kit.tell(new SnowKeeps(), "places 1;keep 1;keep 2;keep 1;")));
        String less = "-10 less the FAULT (all else stays)";
        Edge.edge(3, less, "the least and the most", () -> {
            Edge.is(-11, Kit.tell(new SnowKeeps(), "!"));
            Edge.is(-14, Kit.tell(new SnowKeeps(), "places 1;walker 0 beat 0 0 0 0 0 0 0 0 0;"));
        });
        Edge.edge(3, less, "all else stays, also what the text told ahead of the fault", () -> {
            SnowKeeps s = Kit.walked();
            Kit.fill(s, 0, 0, 0, 2);
            s.image(1);
            String before = Kit.lookAtSnow(s);
            Edge.is(-13, Kit.tell(s, "places 2;path 1 0;walker 1;keep 9;storm 1 1;wolves 0;"));
            Edge.same(before, Kit.lookAtSnow(s));
            s.noon();
            s.restore(1);
            Edge.is(5, s.count(5));
        });
        Edge.edge(3, less, "without a plain none comes", () -> {
            SnowKeeps s = new SnowKeeps();
            Kit.tell(s, "places 5;walker 9;");
            Edge.is(0, s.count(1));
            Edge.is(20, s.count(4));
        });
    }

    private static void fault() {
        String latest = "Of the latest plain() that threw nothing, what 0: the FAULT (0 without, and at first), 1: its place (NONE without).";
        Edge.edge(4, latest, "at first", () -> {
            Edge.is(0, new SnowKeeps().fault(0));
            Edge.is(-1, new SnowKeeps().fault(1));
        });
        Edge.edge(4, latest, "without, behind one", () -> {
            SnowKeeps s = new SnowKeeps();
            Kit.tell(s, "places 0;");
            Edge.is(3, s.fault(0));
            Edge.is(7, s.fault(1));
            Kit.tell(s, "places 1;");
            Edge.is(0, s.fault(0));
            Edge.is(-1, s.fault(1));
        });
        Edge.edge(4, latest, "a plain() that throws is none of them", () -> {
            SnowKeeps s = new SnowKeeps();
            Kit.tell(s, "places 0;");
            String before = Kit.look(s);
            try {
                s.plain(1);
                Edge.is(1, 0);
            } catch (IllegalArgumentException e) {
                Edge.same(before, Kit.look(s));
            }
            Edge.is(3, s.fault(0));
            Edge.is(7, s.fault(1));
        });
        Edge.edge(4, latest, "a place 0", () -> {
            SnowKeeps s = new SnowKeeps();
            Kit.tell(s, "x");
            Edge.is(0, s.fault(1));
        });
        Edge.edge(4, "NONE for others.", "just above, just below, far", () -> {
            SnowKeeps s = new SnowKeeps();
            Kit.tell(s, "places 0;");
            Edge.is(-1, s.fault(2));
            Edge.is(-1, s.fault(-1));
            Edge.is(-1, s.fault(Integer.MIN_VALUE));
            Edge.is(-1, s.fault(Integer.MAX_VALUE));
        });
    }
}
