/** Each sentence of promise 13, transfer, that names a boundary case. */
public final class Edges13TransferTest {
    public static void main(String[] args) {
        Edges e = new Edges("Edges13TransferTest");
        e.needsAThread(x -> x.transfer(1, 0, 1, 2));
        e.needsAThread(x -> x.transfer(-1, -1, 0, -2));
        itsNumber(e);
        refusedIfHIsNoHandleOfADevice(e);
        refusedIfPlaceIsNot0To255(e);
        refusedIfLengthIsNot1To99(e);
        refusedIfEIsNeitherThatNorMinus1(e);
        askIsNeeded(e);
        changeIsNeeded(e);
        aFilter(e);
        aVolume(e);
        itsLengthBecomes128LessItsPlace(e);
        theFilterComesBeforeTheVolume(e);
        noLayers(e);
        overAtOnceSetsItsObject(e);
        pointersWhileItIsPending(e);
        fullIfAllArePending(e);
        theOrderOfRefusals(e);
        e.end();
    }

    /**
     * Handle 0 is a device of these layers, 1 a note, 2 a gate, 3 the device with ASK alone, 4 the device
     * without ASK, 5 the note with CHANGE alone, 6 the note without CHANGE; 7 is not in use.
     */
    private static ExecutiveDesk device(int layers) {
        ExecutiveDesk x = Checks.desk(3);
        x.create(5, layers, 0);
        x.create(0, 0, 1);
        x.create(1, 0, 2);
        x.open(0, 1);
        x.open(0, 6);
        x.open(1, 2);
        x.open(1, 5);
        return x;
    }

    private static ExecutiveDesk withTransfers(int layers, int n) {
        ExecutiveDesk x = device(layers);
        for (int i = 0; i < n; i++) {
            x.transfer(0, 0, i + 1, 1);
        }
        return x;
    }

    /** How transfer 0 stands, behind these layers. */
    private static int stands(int layers, int place, int length) {
        ExecutiveDesk x = device(layers);
        x.transfer(0, place, length, -1);
        return x.io(0, 0);
    }

    /** The length that transfer 0 has, behind these layers. */
    private static int lengthOf(int layers, int place, int length) {
        ExecutiveDesk x = device(layers);
        x.transfer(0, place, length, -1);
        return x.io(0, 4);
    }

    private static void itsNumber(Edges e) {
        e.sentence("TRANSFERS 0..7 (a new one gets the least number that is not PENDING)");
        e.each("behind", 0, 7, n -> withTransfers(0, n).transfer(0, 0, 1, -1), n -> n);
        for (int i = 1; i < 8; i++) {
            ExecutiveDesk x = withTransfers(0, 8);
            x.cancel(i);
            e.due("the only one that is not", i, x.transfer(0, 0, 1, -1));
            ExecutiveDesk y = withTransfers(0, 8);
            y.cancel(7);
            y.cancel(i);
            e.due("the less of two", i, y.transfer(0, 0, 1, -1));
        }
        ExecutiveDesk x = device(1);
        for (int n = 0; n < 20; n++) {
            e.due("one that is over at once leaves its number", 0, x.transfer(0, 0, 65, -1));
        }
        e.due("twenty are over", 20, x.count(8));
    }

    private static void refusedIfHIsNoHandleOfADevice(Edges e) {
        e.sentence("REFUSED if h is no HANDLE of a DEVICE");
        e.taken("the least", 0, () -> device(0), x -> x.transfer(0, 0, 1, -1));
        e.outside("h", 0, 6, () -> device(0), (x, h) -> x.transfer(h, 0, 1, -1));
        e.outside("h", 0, 7, () -> device(0), (x, h) -> x.transfer(h, 0, 1, -1));
        ExecutiveDesk x = device(0);
        x.open(0, 7);
        e.due("the largest", 0, x.transfer(7, 0, 1, -1));
        for (int n = 0; n < 5; n++) {
            int type = n;
            e.refused("type " + type, ExecutiveDesk.REFUSED, () -> {
                ExecutiveDesk y = Checks.desk(0);
                y.create(type, 0, -1);
                return y;
            }, y -> y.transfer(0, 0, 1, -1));
        }
        e.refused("it was closed", ExecutiveDesk.REFUSED, () -> {
            ExecutiveDesk y = device(0);
            y.close(0);
            return y;
        }, y -> y.transfer(0, 0, 1, -1));
        e.refused("another process's", ExecutiveDesk.REFUSED, () -> {
            ExecutiveDesk y = device(0);
            y.process(0);
            y.thread(1, 7);
            return y;
        }, y -> y.transfer(0, 0, 1, -1));
    }

    private static void refusedIfPlaceIsNot0To255(Edges e) {
        e.sentence("place not 0..255");
        for (int layers = 0; layers < 8; layers++) {
            int n = layers;
            e.inside("layers " + n + ", place", 0, 255, () -> device(n), (x, place) -> x.transfer(0, place, 1, -1), place -> 0);
            e.outside("layers " + n + ", place", 0, 255, () -> device(n), (x, place) -> x.transfer(0, place, 1, -1));
        }
    }

    private static void refusedIfLengthIsNot1To99(Edges e) {
        e.sentence("length not 1..99");
        for (int layers = 0; layers < 8; layers++) {
            int n = layers;
            e.inside("layers " + n + ", length", 1, 99, () -> device(n), (x, length) -> x.transfer(0, 0, length, -1), length -> 0);
            e.outside("layers " + n + ", length", 1, 99, () -> device(n), (x, length) -> x.transfer(0, 0, length, -1));
        }
    }

    private static void refusedIfEIsNeitherThatNorMinus1(Edges e) {
        e.sentence("or e neither that nor -1");
        e.taken("-1", 0, () -> device(0), x -> x.transfer(0, 0, 1, -1));
        e.taken("a note", 0, () -> device(0), x -> x.transfer(0, 0, 1, 1));
        e.taken("a gate", 0, () -> device(0), x -> x.transfer(0, 0, 1, 2));
        e.refused("the device itself", ExecutiveDesk.REFUSED, () -> device(0), x -> x.transfer(0, 0, 1, 0));
        e.outside("e", -1, 6, () -> device(0), (x, h) -> x.transfer(0, 0, 1, h));
        e.outside("e", -1, 7, () -> device(0), (x, h) -> x.transfer(0, 0, 1, h));
        for (int n = 2; n <= 5; n++) {
            int type = n;
            e.refused("type " + type, ExecutiveDesk.REFUSED, () -> {
                ExecutiveDesk x = device(0);
                x.create(type, 0, -1);
                return x;
            }, x -> x.transfer(0, 0, 1, 7));
        }
        ExecutiveDesk x = device(0);
        x.open(2, 7);
        e.due("the largest handle", 0, x.transfer(0, 0, 1, 7));
    }

    private static void askIsNeeded(Edges e) {
        e.sentence("A THREAD begins a TRANSFER of a DEVICE (ASK)");
        for (int n = 1; n <= 7; n++) {
            int rights = n;
            ExecutiveDesk x = device(0);
            x.open(0, rights);
            e.due("rights " + rights, (rights & 1) != 0 ? 0 : ExecutiveDesk.DENIED, x.transfer(7, 0, 1, -1));
        }
        e.refused("without ASK", ExecutiveDesk.DENIED, () -> device(0), x -> x.transfer(4, 0, 1, -1));
        e.refused("without ASK, too long", ExecutiveDesk.DENIED, () -> device(1), x -> x.transfer(4, 0, 65, 1));
    }

    private static void changeIsNeeded(Edges e) {
        e.sentence("with an OBJECT to set, a NOTE or GATE (CHANGE; -1: none): its number");
        for (int n = 1; n <= 7; n++) {
            int rights = n;
            ExecutiveDesk x = device(0);
            x.open(2, rights);
            e.due("rights " + rights, (rights & 2) != 0 ? 0 : ExecutiveDesk.DENIED, x.transfer(3, 0, 1, 7));
        }
        e.refused("without CHANGE", ExecutiveDesk.DENIED, () -> device(0), x -> x.transfer(0, 0, 1, 6));
        e.refused("without CHANGE, too long", ExecutiveDesk.DENIED, () -> device(1), x -> x.transfer(0, 0, 65, 6));
        e.taken("ASK alone and CHANGE alone", 0, () -> device(0), x -> x.transfer(3, 0, 1, 5));
    }

    private static void aFilter(Edges e) {
        e.sentence("a FILTER: with a length above 64 it is over at once, TOO_LONG, with 0");
        for (int layers = 1; layers < 8; layers += 2) {
            int n = layers;
            e.each("layers " + n + ", length", 1, 64, length -> stands(n, 0, length), length -> ExecutiveDesk.PENDING);
            e.each("layers " + n + ", length", 65, 99, length -> stands(n, 0, length), length -> ExecutiveDesk.TOO_LONG);
        }
        ExecutiveDesk x = device(1);
        x.transfer(0, 0, 65, -1);
        e.due("with", 0, x.io(0, 1));
        e.due("it does not stand in the row", 0, x.object(0, 4));
        e.due("one is over", 1, x.count(8));
        e.due("its length is as it was", 65, x.io(0, 4));
    }

    private static void aVolume(Edges e) {
        e.sentence("A VOLUME: with a place of 128 or more it is over at once, BEYOND, with 0");
        for (int n : new int[] {2, 3, 6, 7}) {
            e.each("layers " + n + ", place", 0, 127, place -> stands(n, place, 1), place -> ExecutiveDesk.PENDING);
            e.each("layers " + n + ", place", 128, 255, place -> stands(n, place, 1), place -> ExecutiveDesk.BEYOND);
        }
        ExecutiveDesk x = device(2);
        x.transfer(0, 128, 99, -1);
        e.due("with", 0, x.io(0, 1));
        e.due("it does not stand in the row", 0, x.object(0, 4));
        e.due("one is over", 1, x.count(8));
        e.due("its length is as it was", 99, x.io(0, 4));
    }

    private static void itsLengthBecomes128LessItsPlace(Edges e) {
        e.sentence("else its length becomes 128 less its place, if it is more");
        e.each("99 at place", 0, 127, place -> lengthOf(2, place, 99), place -> Math.min(99, 128 - place));
        e.each("at place 127, length", 1, 99, length -> lengthOf(2, 127, length), length -> 1);
        e.each("at place 64, length", 1, 99, length -> lengthOf(2, 64, length), length -> Math.min(length, 64));
        e.each("1 at place", 0, 127, place -> lengthOf(2, place, 1), place -> 1);
        ExecutiveDesk x = device(2);
        x.transfer(0, 127, 99, -1);
        x.interrupt(0, true);
        e.due("it goes well, with", 1, x.io(0, 1));
    }

    private static void theFilterComesBeforeTheVolume(Edges e) {
        e.sentence("go down through the layers that a DEVICE has: a FILTER");
        e.due("too long and beyond", ExecutiveDesk.TOO_LONG, stands(3, 128, 65));
        e.due("not too long, but beyond", ExecutiveDesk.BEYOND, stands(3, 128, 64));
        e.due("too long, though the volume would have shortened it", ExecutiveDesk.TOO_LONG, stands(3, 127, 65));
        e.due("neither", ExecutiveDesk.PENDING, stands(3, 127, 64));
    }

    private static void noLayers(Edges e) {
        e.sentence("Then it stands in the DEVICE's row, PENDING");
        for (int layers : new int[] {0, 4}) {
            e.due("the longest, at the last place", ExecutiveDesk.PENDING, stands(layers, 255, 99));
            e.due("its length", 99, lengthOf(layers, 255, 99));
        }
        e.each("how many stand in the row:", 0, 8, n -> withTransfers(7, n).object(0, 4), n -> n);
        e.each("the first of", 1, 8, n -> withTransfers(7, n).object(0, 5), n -> 0);
    }

    private static void overAtOnceSetsItsObject(Edges e) {
        e.sentence("When it is over: if it has an OBJECT to set, that becomes SIGNALED");
        for (int h = 1; h <= 2; h++) {
            ExecutiveDesk x = device(3);
            x.transfer(0, 0, 64, h);
            e.due("pending: handle " + h, 0, x.object(h, 4));
            ExecutiveDesk y = device(3);
            y.transfer(0, 0, 65, h);
            e.due("too long: handle " + h, 1, y.object(h, 4));
            ExecutiveDesk z = device(3);
            z.transfer(0, 128, 1, h);
            e.due("beyond: handle " + h, 1, z.object(h, 4));
        }
        ExecutiveDesk x = device(1);
        x.transfer(0, 0, 65, -1);
        e.due("it has none: the note", 0, x.object(1, 4));
        e.due("it has none: the gate", 0, x.object(2, 4));
        ExecutiveDesk y = device(1);
        y.thread(0, 2);
        y.await(1, -1, -1, 0, -1);
        e.due("thread 1 runs", 1, y.count(0));
        y.transfer(0, 0, 65, 1);
        e.due("who waited for it runs", 0, y.count(0));
    }

    private static void pointersWhileItIsPending(Edges e) {
        e.sentence("one for each TRANSFER that is PENDING and is to it, or is to set it");
        e.each("to the device:", 0, 8, n -> withTransfers(0, n).object(0, 3), n -> n);
        e.each("to the note:", 0, 8, n -> withTransfers(0, n).object(1, 3), n -> n);
        ExecutiveDesk x = device(1);
        x.transfer(0, 0, 65, 1);
        e.due("over at once: to the device", 0, x.object(0, 3));
        e.due("over at once: to the note", 0, x.object(1, 3));
    }

    private static void fullIfAllArePending(Edges e) {
        e.sentence("FULL if all are PENDING");
        e.taken("the last one", 7, () -> withTransfers(0, 7), x -> x.transfer(0, 255, 99, 2));
        e.refused("none", ExecutiveDesk.FULL, () -> withTransfers(0, 8), x -> x.transfer(0, 0, 1, -1));
        e.refused("none for one that would be too long", ExecutiveDesk.FULL, () -> withTransfers(3, 8), x -> x.transfer(0, 0, 65, 2));
        e.refused("none for one that would be beyond", ExecutiveDesk.FULL, () -> withTransfers(3, 8), x -> x.transfer(0, 128, 1, 2));
        e.refused("none for another device", ExecutiveDesk.FULL, () -> {
            ExecutiveDesk x = withTransfers(0, 8);
            x.create(5, 0, -1);
            return x;
        }, x -> x.transfer(7, 0, 1, -1));
        ExecutiveDesk x = withTransfers(0, 8);
        x.cancel(0);
        e.due("the first is to be cancelled, but pending", ExecutiveDesk.FULL, x.transfer(0, 0, 1, -1));
        x.interrupt(0, true);
        e.due("it is over", 0, x.transfer(0, 0, 1, -1));
        e.due("full again", ExecutiveDesk.FULL, x.transfer(0, 0, 1, -1));
    }

    private static void theOrderOfRefusals(Edges e) {
        e.sentence("tested in the order: .. REFUSED, DENIED, then what else is named, in that order");
        e.refused("a wrong place without ASK", ExecutiveDesk.REFUSED, () -> device(0), x -> x.transfer(4, 256, 1, -1));
        e.refused("a wrong length without ASK", ExecutiveDesk.REFUSED, () -> device(0), x -> x.transfer(4, 0, 100, -1));
        e.refused("a wrong e without ASK", ExecutiveDesk.REFUSED, () -> device(0), x -> x.transfer(4, 0, 1, 7));
        e.refused("a wrong length, e without CHANGE", ExecutiveDesk.REFUSED, () -> device(0), x -> x.transfer(0, 0, 0, 6));
        e.refused("no device, e without CHANGE", ExecutiveDesk.REFUSED, () -> device(0), x -> x.transfer(1, 0, 1, 6));
        e.refused("no handle, all are pending", ExecutiveDesk.REFUSED, () -> withTransfers(0, 8), x -> x.transfer(7, 0, 1, -1));
        e.refused("a wrong place, all are pending", ExecutiveDesk.REFUSED, () -> withTransfers(0, 8), x -> x.transfer(0, -1, 1, -1));
        e.refused("a wrong length, all are pending", ExecutiveDesk.REFUSED, () -> withTransfers(0, 8), x -> x.transfer(0, 0, 0, -1));
        e.refused("a wrong e, all are pending", ExecutiveDesk.REFUSED, () -> withTransfers(0, 8), x -> x.transfer(0, 0, 1, -2));
        e.refused("without ASK, all are pending", ExecutiveDesk.DENIED, () -> withTransfers(0, 8), x -> x.transfer(4, 0, 1, -1));
        e.refused("without CHANGE, all are pending", ExecutiveDesk.DENIED, () -> withTransfers(0, 8), x -> x.transfer(0, 0, 1, 6));
        e.sentence("HIGH (where said: the LEVEL is 1)");
        ExecutiveDesk x = device(0);
        x.level(1);
        e.due("it is not said here", 0, x.transfer(0, 0, 1, -1));
    }
}
