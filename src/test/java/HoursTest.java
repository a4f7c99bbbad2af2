public final class HoursTest { public static void main(String[] a) { Check.finish(); } }
