/** Promises 1 to 3: a new object, put, end. */
public final class FileTest {
    public static void main(String[] args) {
        Check check = new Check();
        newObject(check);
        put(check);
        putWrong(check);
        end(check);
        lastCall(check);
        check.end();
    }

    private static void newObject(Check check) {
        Yards x = new Yards();
        for (int yard = 0; yard < 2; yard++) {
            for (int what = 0; what < 4; what++) {
                check.due("yard of a new object", x.yard(yard, what), 0);
            }
            for (int tag = 0; tag < 8; tag++) {
                check.due("tag of a new object", x.tag(yard, tag), 0);
            }
        }
        for (int transfer = 0; transfer < 4; transfer++) {
            for (int what = 0; what < 4; what++) {
                check.due("transfer of a new object", x.transfer(transfer, what), 0);
            }
        }
        check.due("built(0)", x.built(0), ImageYard.NONE);
        check.due("built(1)", x.built(1), 0);
        check.due("built(2)", x.built(2), 0);
        check.due("put(0)", x.put(0), 0);
        check.due("another object's file stays empty", new Yards().put('a'), 1);
        check.due("and so does this one's", x.put(0), 0);
    }

    private static void put(Check check) {
        Yards x = new Yards();
        check.due("put of four", x.put('F' | 'R' << 8 | 'O' << 16 | 'M' << 24), 4);
        check.due("put with 0 between", x.put(' ' | 0 << 8 | 'e' << 16 | 0 << 24), 6);
        check.due("put of the last of four", x.put('m' << 24), 7);
        check.due("put of none", x.put(0), 7);
        check.due("put of three", x.put('p' | 't' << 8 | 'y' << 16), 10);
        check.due("the signs stand in their order", x.build(0, 0), 0);
        check.due("put of the edges", x.put(10 | 32 << 8 | 126 << 16), 13);
        check.due("the line end parts lines", x.build(0, 0), 1);
        check.due("at the line behind it", x.built(0), 1);
    }

    private static void putWrong(Check check) {
        Yards x = new Yards();
        int[] wrong = {1, 9, 11, 13, 31, 127, 128, 255};
        for (int sign : wrong) {
            for (int shift = 0; shift < 32; shift += 8) {
                int four = sign << shift | ('a' << (shift + 8) % 32);
                check.refuses("put of " + sign, Check.ARGUMENT, () -> x.put(four));
            }
        }
        check.due("a call that throws changes nothing", x.put('a'), 1);
        for (int i = 1; i < 597; i += 4) {
            x.put(0x61616161);
        }
        check.due("put up to the end", x.put('a' | 'a' << 16), 599);
        check.refuses("put of a 601st", Check.UNSUPPORTED, () -> x.put('a' | 'a' << 8));
        check.refuses("a wrong sign goes before", Check.ARGUMENT, () -> x.put('a' | 1 << 8));
        check.due("put of the 600th", x.put('a' << 8), 600);
        check.refuses("put of a 601st", Check.UNSUPPORTED, () -> x.put('a'));
        check.due("put of none", x.put(0), 600);
    }

    private static void end(Check check) {
        Yards x = new Yards();
        x.end(0);
        check.refuses("end(1) of an empty file", Check.ARGUMENT, () -> x.end(1));
        Check.write(x, "FROM emptyy");
        check.refuses("end(-1)", Check.ARGUMENT, () -> x.end(-1));
        check.refuses("end(12)", Check.ARGUMENT, () -> x.end(12));
        check.refuses("end of the least", Check.ARGUMENT, () -> x.end(Integer.MIN_VALUE));
        check.refuses("end of the greatest", Check.ARGUMENT, () -> x.end(Integer.MAX_VALUE));
        x.end(11);
        check.due("all signs are there", x.build(0, 0), 1);
        x.end(10);
        check.due("the first ten are there", x.build(0, 0), 0);
        x.end(5);
        check.due("put goes on there", x.put('0'), 6);
        check.due("FROM 0", x.build(0, 1), 0);
        x.end(0);
        check.due("put in an empty file", x.put(0), 0);
    }

    /** "An object is used for at most 512 calls after it has been made": the 512th is answered as all are. */
    private static void lastCall(Check check) {
        ImageYard x = new ImageYard();
        byte[] text = "FROM empty\nCOPY a 1".getBytes(java.nio.charset.StandardCharsets.ISO_8859_1);
        for (byte sign : text) {
            x.put(sign);
        }
        int calls = text.length;
        for (int tag = 0; calls < 508; calls += 2) {
            x.build(calls % 4 / 2, tag);
            x.untag(calls % 4 / 2, tag);
            tag = (tag + 1) % 8;
        }
        while (calls < 511) {
            x.build(0, 0);
            calls++;
        }
        check.due("the 512th call", x.tag(0, 0), Model.digest("M\1" + Model.eight(Model.digest("\2\1a\1\0001")) + "\0"));
        ImageYard y = new ImageYard();
        for (calls = 0; calls < 511; calls++) {
            y.sync(calls % 2);
        }
        check.due("the 512th call", y.put('a'), 1);
    }
}
