public final class SmokeTest { public static void main(String[] a) { if (new DeltaRoad().level(0) != 0) System.exit(1); } }
