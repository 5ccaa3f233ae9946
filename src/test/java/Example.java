/** The example of README.md. */
public final class Example {
    public static void main(String[] args) {
        Stevedore terminal = new Stevedore();
        terminal.addStack(3);
        terminal.addStack(2);
        int coaster = terminal.addVessel(5, 3, 4, 2); // arrival, bays, rank, cranes it wants
        int feeder = terminal.addVessel(6, 2, 1, 2);
        int box = terminal.addContainer(coaster, 0, false, 10, 2); // its bay, an import, weight, wish
        int crate = terminal.addContainer(feeder, 1, false, 12, 3);

        System.out.println("delay " + terminal.plan());
        System.out.println("feeder: from " + terminal.startOf(feeder) + " on, at berth " + terminal.placeOf(feeder));
        System.out.println("slots cost " + terminal.giveSlots());
        System.out.println("box: moved at " + terminal.movedAt(box) + ", slot " + terminal.slotOf(box));

        System.out.println(terminal.work(2) + " of " + terminal.events() + " events worked off");
        System.out.println("box: on stack " + terminal.stackOf(box) + ", crate: on stack " + terminal.stackOf(crate));
        System.out.println("left in the end: " + terminal.inTheEnd(3));
        System.out.println(terminal.work(100) + " events worked off, box: state " + terminal.stateOf(box));
    }
}
