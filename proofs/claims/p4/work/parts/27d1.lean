/-! THE LAW over the evaluator (printed by gen80.py) -/
set_option maxRecDepth 100000 in
def zlawL : List (List (Option (Instr × Nat))) := [[some (.new 7, 3), none, none, some (.dup, 1), some (.invokespecial 9, 3), none, none, some (.astore_n 1, 1), some (.new 10, 3), none, none, some (.dup, 1), some (.invokespecial 12, 3), none, none, some (.astore_n 2, 1)], [some (.iconst 0, 1), some (.istore_n 3, 1), some (.iload_n 3, 1), some (.aload_n 0, 1), some (.arraylength, 1), some (.iconst 5, 1), some (.isub, 1), some (.if_icmp .gt 1171, 3), none, none, some (.aload_n 0, 1), some (.iload_n 3, 1), some (.iaload, 1), some (.bipush 31, 2), none, some (.iand, 1)], [some (.tableswitch 1156 0 29 #[136, 199, 212, 245, 278, 311, 344, 377, 410, 453, 506, 539, 582, 605, 648, 691, 734, 767, 810, 843, 876, 899, 922, 945, 968, 991, 1014, 1057, 1090, 1123], 136)], [], [], [], [], [], [], [], [none, none, none, none, none, none, none, none, some (.aload_n 1, 1), some (.aload_n 0, 1), some (.iload_n 3, 1), some (.iconst 1, 1), some (.iadd, 1), some (.iaload, 1), some (.i2l, 1), some (.bipush 32, 2)], [none, some (.lshl, 1), some (.aload_n 0, 1), some (.iload_n 3, 1), some (.iconst 2, 1), some (.iadd, 1), some (.iaload, 1), some (.i2l, 1), some (.ldc2_w 13, 3), none, none, some (.land, 1), some (.lor, 1), some (.aload_n 0, 1), some (.iload_n 3, 1), some (.iconst 3, 1)], [some (.iadd, 1), some (.iaload, 1), some (.invokevirtual 15, 3), none, none, some (.pop, 1), some (.aload_n 2, 1), some (.aload_n 0, 1), some (.iload_n 3, 1), some (.iconst 1, 1), some (.iadd, 1), some (.iaload, 1), some (.i2l, 1), some (.bipush 32, 2), none, some (.lshl, 1)], [some (.aload_n 0, 1), some (.iload_n 3, 1), some (.iconst 2, 1), some (.iadd, 1), some (.iaload, 1), some (.i2l, 1), some (.ldc2_w 13, 3), none, none, some (.land, 1), some (.lor, 1), some (.aload_n 0, 1), some (.iload_n 3, 1), some (.iconst 3, 1), some (.iadd, 1), some (.iaload, 1)], [some (.invokevirtual 19, 3), none, none, some (.pop, 1), some (.goto 960, 3), none, none, some (.aload_n 1, 1), some (.invokevirtual 20, 3), none, none, some (.pop, 1), some (.aload_n 2, 1), some (.invokevirtual 24, 3)], [some (.pop, 1), some (.goto 947, 3), none, none, some (.aload_n 1, 1), some (.aload_n 0, 1), some (.iload_n 3, 1), some (.iconst 1, 1), some (.iadd, 1), some (.iaload, 1), some (.aload_n 0, 1), some (.iload_n 3, 1), some (.iconst 2, 1), some (.iadd, 1), some (.iaload, 1), some (.invokevirtual 25, 3)], [none, none, some (.aload_n 2, 1), some (.aload_n 0, 1), some (.iload_n 3, 1), some (.iconst 1, 1), some (.iadd, 1), some (.iaload, 1), some (.aload_n 0, 1), some (.iload_n 3, 1), some (.iconst 2, 1), some (.iadd, 1), some (.iaload, 1), some (.invokevirtual 29, 3)], [some (.if_icmp .eq 916, 3), none, none, some (.iconst 0, 1), some (.ireturn, 1), some (.aload_n 1, 1), some (.aload_n 0, 1), some (.iload_n 3, 1), some (.iconst 1, 1), some (.iadd, 1), some (.iaload, 1), some (.aload_n 0, 1), some (.iload_n 3, 1), some (.iconst 2, 1), some (.iadd, 1), some (.iaload, 1)], [some (.invokevirtual 30, 3), none, none, some (.pop, 1), some (.aload_n 2, 1), some (.aload_n 0, 1), some (.iload_n 3, 1), some (.iconst 1, 1), some (.iadd, 1), some (.iaload, 1), some (.aload_n 0, 1), some (.iload_n 3, 1), some (.iconst 2, 1), some (.iadd, 1), some (.iaload, 1), some (.invokevirtual 33, 3)], [none, none, some (.pop, 1), some (.goto 881, 3), none, none, some (.aload_n 1, 1), some (.aload_n 0, 1), some (.iload_n 3, 1), some (.iconst 1, 1), some (.iadd, 1), some (.iaload, 1), some (.aload_n 0, 1), some (.iload_n 3, 1), some (.iconst 2, 1), some (.iadd, 1)], [some (.iaload, 1), some (.invokevirtual 34, 3), none, none, some (.pop, 1), some (.aload_n 2, 1), some (.aload_n 0, 1), some (.iload_n 3, 1), some (.iconst 1, 1), some (.iadd, 1), some (.iaload, 1), some (.aload_n 0, 1), some (.iload_n 3, 1), some (.iconst 2, 1), some (.iadd, 1), some (.iaload, 1)], [some (.invokevirtual 37, 3), none, none, some (.pop, 1), some (.goto 848, 3), none, none, some (.aload_n 1, 1), some (.aload_n 0, 1), some (.iload_n 3, 1), some (.iconst 1, 1), some (.iadd, 1), some (.iaload, 1), some (.aload_n 0, 1), some (.iload_n 3, 1), some (.iconst 2, 1)], [some (.iadd, 1), some (.iaload, 1), some (.invokevirtual 38, 3), none, none, some (.pop, 1), some (.aload_n 2, 1), some (.aload_n 0, 1), some (.iload_n 3, 1), some (.iconst 1, 1), some (.iadd, 1), some (.iaload, 1), some (.aload_n 0, 1), some (.iload_n 3, 1), some (.iconst 2, 1), some (.iadd, 1)], [some (.iaload, 1), some (.invokevirtual 41, 3), none, none, some (.pop, 1), some (.goto 815, 3), none, none, some (.aload_n 1, 1), some (.aload_n 0, 1), some (.iload_n 3, 1), some (.iconst 1, 1), some (.iadd, 1), some (.iaload, 1), some (.aload_n 0, 1), some (.iload_n 3, 1)], [some (.iconst 2, 1), some (.iadd, 1), some (.iaload, 1), some (.invokevirtual 42, 3), none, none, some (.pop, 1), some (.aload_n 2, 1), some (.aload_n 0, 1), some (.iload_n 3, 1), some (.iconst 1, 1), some (.iadd, 1), some (.iaload, 1), some (.aload_n 0, 1), some (.iload_n 3, 1), some (.iconst 2, 1)], [some (.iadd, 1), some (.iaload, 1), some (.invokevirtual 45, 3), none, none, some (.pop, 1), some (.goto 782, 3), none, none, some (.aload_n 1, 1), some (.aload_n 0, 1), some (.iload_n 3, 1), some (.iconst 1, 1), some (.iadd, 1), some (.iaload, 1), some (.aload_n 0, 1)], [some (.iload_n 3, 1), some (.iconst 2, 1), some (.iadd, 1), some (.iaload, 1), some (.invokevirtual 46, 3), none, none, some (.pop, 1), some (.aload_n 2, 1), some (.aload_n 0, 1), some (.iload_n 3, 1), some (.iconst 1, 1), some (.iadd, 1), some (.iaload, 1), some (.aload_n 0, 1), some (.iload_n 3, 1)], [some (.iconst 2, 1), some (.iadd, 1), some (.iaload, 1), some (.invokevirtual 49, 3), none, none, some (.pop, 1), some (.goto 749, 3), none, none, some (.aload_n 1, 1), some (.aload_n 0, 1), some (.iload_n 3, 1), some (.iconst 1, 1), some (.iadd, 1), some (.iaload, 1)], [some (.aload_n 0, 1), some (.iload_n 3, 1), some (.iconst 2, 1), some (.iadd, 1), some (.iaload, 1), some (.aload_n 0, 1), some (.iload_n 3, 1), some (.iconst 3, 1), some (.iadd, 1), some (.iaload, 1), some (.invokevirtual 50, 3), none, none, some (.pop, 1), some (.aload_n 2, 1), some (.aload_n 0, 1)], [some (.iload_n 3, 1), some (.iconst 1, 1), some (.iadd, 1), some (.iaload, 1), some (.aload_n 0, 1), some (.iload_n 3, 1), some (.iconst 2, 1), some (.iadd, 1), some (.iaload, 1), some (.aload_n 0, 1), some (.iload_n 3, 1), some (.iconst 3, 1), some (.iadd, 1), some (.iaload, 1), some (.invokevirtual 54, 3)], [none, some (.pop, 1), some (.goto 706, 3), none, none, some (.aload_n 1, 1), some (.aload_n 0, 1), some (.iload_n 3, 1), some (.iconst 1, 1), some (.iadd, 1), some (.iaload, 1), some (.aload_n 0, 1), some (.iload_n 3, 1), some (.iconst 2, 1), some (.iadd, 1), some (.iaload, 1)], [some (.aload_n 0, 1), some (.iload_n 3, 1), some (.iconst 3, 1), some (.iadd, 1), some (.iaload, 1), some (.aload_n 0, 1), some (.iload_n 3, 1), some (.iconst 4, 1), some (.iadd, 1), some (.iaload, 1), some (.invokevirtual 55, 3), none, none, some (.pop, 1), some (.aload_n 2, 1), some (.aload_n 0, 1)], [some (.iload_n 3, 1), some (.iconst 1, 1), some (.iadd, 1), some (.iaload, 1), some (.aload_n 0, 1), some (.iload_n 3, 1), some (.iconst 2, 1), some (.iadd, 1), some (.iaload, 1), some (.aload_n 0, 1), some (.iload_n 3, 1), some (.iconst 3, 1), some (.iadd, 1), some (.iaload, 1), some (.aload_n 0, 1), some (.iload_n 3, 1)], [some (.iconst 4, 1), some (.iadd, 1), some (.iaload, 1), some (.invokevirtual 59, 3), none, none, some (.pop, 1), some (.goto 653, 3), none, none, some (.aload_n 1, 1), some (.aload_n 0, 1), some (.iload_n 3, 1), some (.iconst 1, 1), some (.iadd, 1), some (.iaload, 1)], [some (.aload_n 0, 1), some (.iload_n 3, 1), some (.iconst 2, 1), some (.iadd, 1), some (.iaload, 1), some (.invokevirtual 60, 3), none, none, some (.pop, 1), some (.aload_n 2, 1), some (.aload_n 0, 1), some (.iload_n 3, 1), some (.iconst 1, 1), some (.iadd, 1), some (.iaload, 1), some (.aload_n 0, 1)], [some (.iload_n 3, 1), some (.iconst 2, 1), some (.iadd, 1), some (.iaload, 1), some (.invokevirtual 63, 3), none, none, some (.pop, 1), some (.goto 620, 3), none, none, some (.aload_n 1, 1), some (.aload_n 0, 1), some (.iload_n 3, 1), some (.iconst 1, 1), some (.iadd, 1)], [some (.iaload, 1), some (.aload_n 0, 1), some (.iload_n 3, 1), some (.iconst 2, 1), some (.iadd, 1), some (.iaload, 1), some (.aload_n 0, 1), some (.iload_n 3, 1), some (.iconst 3, 1), some (.iadd, 1), some (.iaload, 1), some (.invokevirtual 64, 3), none, none, some (.pop, 1), some (.aload_n 2, 1)], [some (.aload_n 0, 1), some (.iload_n 3, 1), some (.iconst 1, 1), some (.iadd, 1), some (.iaload, 1), some (.aload_n 0, 1), some (.iload_n 3, 1), some (.iconst 2, 1), some (.iadd, 1), some (.iaload, 1), some (.aload_n 0, 1), some (.iload_n 3, 1), some (.iconst 3, 1), some (.iadd, 1), some (.iaload, 1), some (.invokevirtual 67, 3)], [none, none, some (.pop, 1), some (.goto 577, 3), none, none, some (.aload_n 1, 1), some (.aload_n 0, 1), some (.iload_n 3, 1), some (.iconst 1, 1), some (.iadd, 1), some (.iaload, 1), some (.invokevirtual 68, 3), none, none, some (.pop, 1)], [some (.aload_n 2, 1), some (.aload_n 0, 1), some (.iload_n 3, 1), some (.iconst 1, 1), some (.iadd, 1), some (.iaload, 1), some (.invokevirtual 72, 3), none, none, some (.pop, 1), some (.goto 554, 3), none, none, some (.aload_n 1, 1), some (.aload_n 0, 1), some (.iload_n 3, 1)], [some (.iconst 1, 1), some (.iadd, 1), some (.iaload, 1), some (.aload_n 0, 1), some (.iload_n 3, 1), some (.iconst 2, 1), some (.iadd, 1), some (.iaload, 1), some (.aload_n 0, 1), some (.iload_n 3, 1), some (.iconst 3, 1), some (.iadd, 1), some (.iaload, 1), some (.invokevirtual 73, 3)], [some (.pop, 1), some (.aload_n 2, 1), some (.aload_n 0, 1), some (.iload_n 3, 1), some (.iconst 1, 1), some (.iadd, 1), some (.iaload, 1), some (.aload_n 0, 1), some (.iload_n 3, 1), some (.iconst 2, 1), some (.iadd, 1), some (.iaload, 1), some (.aload_n 0, 1), some (.iload_n 3, 1), some (.iconst 3, 1), some (.iadd, 1)], [some (.iaload, 1), some (.invokevirtual 76, 3), none, none, some (.pop, 1), some (.goto 511, 3), none, none, some (.aload_n 1, 1), some (.aload_n 0, 1), some (.iload_n 3, 1), some (.iconst 1, 1), some (.iadd, 1), some (.iaload, 1), some (.aload_n 0, 1), some (.iload_n 3, 1)], [some (.iconst 2, 1), some (.iadd, 1), some (.iaload, 1), some (.aload_n 0, 1), some (.iload_n 3, 1), some (.iconst 3, 1), some (.iadd, 1), some (.iaload, 1), some (.invokevirtual 77, 3), none, none, some (.pop, 1), some (.aload_n 2, 1), some (.aload_n 0, 1), some (.iload_n 3, 1), some (.iconst 1, 1)], [some (.iadd, 1), some (.iaload, 1), some (.aload_n 0, 1), some (.iload_n 3, 1), some (.iconst 2, 1), some (.iadd, 1), some (.iaload, 1), some (.aload_n 0, 1), some (.iload_n 3, 1), some (.iconst 3, 1), some (.iadd, 1), some (.iaload, 1), some (.invokevirtual 80, 3), none, none, some (.pop, 1)], [some (.goto 468, 3), none, none, some (.aload_n 1, 1), some (.aload_n 0, 1), some (.iload_n 3, 1), some (.iconst 1, 1), some (.iadd, 1), some (.iaload, 1), some (.aload_n 0, 1), some (.iload_n 3, 1), some (.iconst 2, 1), some (.iadd, 1), some (.iaload, 1), some (.aload_n 0, 1), some (.iload_n 3, 1)], [some (.iconst 3, 1), some (.iadd, 1), some (.iaload, 1), some (.invokevirtual 81, 3), none, none, some (.pop, 1), some (.aload_n 2, 1), some (.aload_n 0, 1), some (.iload_n 3, 1), some (.iconst 1, 1), some (.iadd, 1), some (.iaload, 1), some (.aload_n 0, 1), some (.iload_n 3, 1), some (.iconst 2, 1)], [some (.iadd, 1), some (.iaload, 1), some (.aload_n 0, 1), some (.iload_n 3, 1), some (.iconst 3, 1), some (.iadd, 1), some (.iaload, 1), some (.invokevirtual 84, 3), none, none, some (.pop, 1), some (.goto 425, 3), none, none, some (.aload_n 1, 1), some (.aload_n 0, 1)], [some (.iload_n 3, 1), some (.iconst 1, 1), some (.iadd, 1), some (.iaload, 1), some (.aload_n 0, 1), some (.iload_n 3, 1), some (.iconst 2, 1), some (.iadd, 1), some (.iaload, 1), some (.invokevirtual 85, 3), none, none, some (.pop, 1), some (.aload_n 2, 1), some (.aload_n 0, 1), some (.iload_n 3, 1)], [some (.iconst 1, 1), some (.iadd, 1), some (.iaload, 1), some (.aload_n 0, 1), some (.iload_n 3, 1), some (.iconst 2, 1), some (.iadd, 1), some (.iaload, 1), some (.invokevirtual 88, 3), none, none, some (.pop, 1), some (.goto 392, 3), none, none, some (.aload_n 1, 1)], [some (.aload_n 0, 1), some (.iload_n 3, 1), some (.iconst 1, 1), some (.iadd, 1), some (.iaload, 1), some (.aload_n 0, 1), some (.iload_n 3, 1), some (.iconst 2, 1), some (.iadd, 1), some (.iaload, 1), some (.aload_n 0, 1), some (.iload_n 3, 1), some (.iconst 3, 1), some (.iadd, 1), some (.iaload, 1), some (.invokevirtual 89, 3)], [none, none, some (.pop, 1), some (.aload_n 2, 1), some (.aload_n 0, 1), some (.iload_n 3, 1), some (.iconst 1, 1), some (.iadd, 1), some (.iaload, 1), some (.aload_n 0, 1), some (.iload_n 3, 1), some (.iconst 2, 1), some (.iadd, 1), some (.iaload, 1), some (.aload_n 0, 1), some (.iload_n 3, 1)], [some (.iconst 3, 1), some (.iadd, 1), some (.iaload, 1), some (.invokevirtual 92, 3), none, none, some (.pop, 1), some (.goto 349, 3), none, none, some (.aload_n 1, 1), some (.aload_n 0, 1), some (.iload_n 3, 1), some (.iconst 1, 1), some (.iadd, 1), some (.iaload, 1)], [some (.aload_n 0, 1), some (.iload_n 3, 1), some (.iconst 2, 1), some (.iadd, 1), some (.iaload, 1), some (.invokevirtual 93, 3), none, none, some (.pop, 1), some (.aload_n 2, 1), some (.aload_n 0, 1), some (.iload_n 3, 1), some (.iconst 1, 1), some (.iadd, 1), some (.iaload, 1), some (.aload_n 0, 1)], [some (.iload_n 3, 1), some (.iconst 2, 1), some (.iadd, 1), some (.iaload, 1), some (.invokevirtual 96, 3), none, none, some (.pop, 1), some (.goto 316, 3), none, none, some (.aload_n 1, 1), some (.aload_n 0, 1), some (.iload_n 3, 1), some (.iconst 1, 1), some (.iadd, 1)], [some (.iaload, 1), some (.aload_n 0, 1), some (.iload_n 3, 1), some (.iconst 2, 1), some (.iadd, 1), some (.iaload, 1), some (.invokevirtual 97, 3), none, none, some (.pop, 1), some (.aload_n 2, 1), some (.aload_n 0, 1), some (.iload_n 3, 1), some (.iconst 1, 1), some (.iadd, 1), some (.iaload, 1)], [some (.aload_n 0, 1), some (.iload_n 3, 1), some (.iconst 2, 1), some (.iadd, 1), some (.iaload, 1), some (.invokevirtual 100, 3), none, none, some (.pop, 1), some (.goto 283, 3), none, none, some (.aload_n 1, 1), some (.aload_n 0, 1), some (.iload_n 3, 1), some (.iconst 1, 1)], [some (.iadd, 1), some (.iaload, 1), some (.invokevirtual 101, 3), none, none, some (.pop, 1), some (.aload_n 2, 1), some (.aload_n 0, 1), some (.iload_n 3, 1), some (.iconst 1, 1), some (.iadd, 1), some (.iaload, 1), some (.invokevirtual 104, 3), none, none, some (.pop, 1)], [some (.goto 260, 3), none, none, some (.aload_n 1, 1), some (.aload_n 0, 1), some (.iload_n 3, 1), some (.iconst 1, 1), some (.iadd, 1), some (.iaload, 1), some (.invokevirtual 105, 3), none, none, some (.pop, 1), some (.aload_n 2, 1), some (.aload_n 0, 1), some (.iload_n 3, 1)], [some (.iconst 1, 1), some (.iadd, 1), some (.iaload, 1), some (.invokevirtual 108, 3), none, none, some (.pop, 1), some (.goto 237, 3), none, none, some (.aload_n 1, 1), some (.aload_n 0, 1), some (.iload_n 3, 1), some (.iconst 1, 1), some (.iadd, 1), some (.iaload, 1)], [some (.invokevirtual 109, 3), none, none, some (.pop, 1), some (.aload_n 2, 1), some (.aload_n 0, 1), some (.iload_n 3, 1), some (.iconst 1, 1), some (.iadd, 1), some (.iaload, 1), some (.invokevirtual 112, 3), none, none, some (.pop, 1), some (.goto 214, 3)], [none, some (.aload_n 1, 1), some (.aload_n 0, 1), some (.iload_n 3, 1), some (.iconst 1, 1), some (.iadd, 1), some (.iaload, 1), some (.invokevirtual 113, 3), none, none, some (.pop, 1), some (.aload_n 2, 1), some (.aload_n 0, 1), some (.iload_n 3, 1), some (.iconst 1, 1), some (.iadd, 1)], [some (.iaload, 1), some (.invokevirtual 116, 3), none, none, some (.pop, 1), some (.goto 191, 3), none, none, some (.aload_n 1, 1), some (.aload_n 0, 1), some (.iload_n 3, 1), some (.iconst 1, 1), some (.iadd, 1), some (.iaload, 1), some (.invokevirtual 117, 3)], [none, some (.pop, 1), some (.aload_n 2, 1), some (.aload_n 0, 1), some (.iload_n 3, 1), some (.iconst 1, 1), some (.iadd, 1), some (.iaload, 1), some (.invokevirtual 120, 3), none, none, some (.pop, 1), some (.goto 168, 3), none, none, some (.aload_n 1, 1)], [some (.aload_n 0, 1), some (.iload_n 3, 1), some (.iconst 1, 1), some (.iadd, 1), some (.iaload, 1), some (.invokevirtual 121, 3), none, none, some (.pop, 1), some (.aload_n 2, 1), some (.aload_n 0, 1), some (.iload_n 3, 1), some (.iconst 1, 1), some (.iadd, 1), some (.iaload, 1), some (.invokevirtual 124, 3)], [none, none, some (.pop, 1), some (.goto 145, 3), none, none, some (.aload_n 1, 1), some (.aload_n 0, 1), some (.iload_n 3, 1), some (.iconst 1, 1), some (.iadd, 1), some (.iaload, 1), some (.aload_n 0, 1), some (.iload_n 3, 1), some (.iconst 2, 1), some (.iadd, 1)], [some (.iaload, 1), some (.aload_n 0, 1), some (.iload_n 3, 1), some (.iconst 3, 1), some (.iadd, 1), some (.iaload, 1), some (.invokevirtual 125, 3), none, none, some (.pop, 1), some (.aload_n 2, 1), some (.aload_n 0, 1), some (.iload_n 3, 1), some (.iconst 1, 1), some (.iadd, 1), some (.iaload, 1)], [some (.aload_n 0, 1), some (.iload_n 3, 1), some (.iconst 2, 1), some (.iadd, 1), some (.iaload, 1), some (.aload_n 0, 1), some (.iload_n 3, 1), some (.iconst 3, 1), some (.iadd, 1), some (.iaload, 1), some (.invokevirtual 128, 3), none, none, some (.pop, 1), some (.goto 102, 3)], [none, some (.aload_n 1, 1), some (.aload_n 0, 1), some (.iload_n 3, 1), some (.iconst 1, 1), some (.iadd, 1), some (.iaload, 1), some (.aload_n 0, 1), some (.iload_n 3, 1), some (.iconst 2, 1), some (.iadd, 1), some (.iaload, 1), some (.invokevirtual 129, 3), none, none, some (.pop, 1)], [some (.aload_n 2, 1), some (.aload_n 0, 1), some (.iload_n 3, 1), some (.iconst 1, 1), some (.iadd, 1), some (.iaload, 1), some (.aload_n 0, 1), some (.iload_n 3, 1), some (.iconst 2, 1), some (.iadd, 1), some (.iaload, 1), some (.invokevirtual 132, 3), none, none, some (.pop, 1), some (.goto 69, 3)], [none, none, some (.aload_n 1, 1), some (.aload_n 0, 1), some (.iload_n 3, 1), some (.iconst 1, 1), some (.iadd, 1), some (.iaload, 1), some (.aload_n 0, 1), some (.iload_n 3, 1), some (.iconst 2, 1), some (.iadd, 1), some (.iaload, 1), some (.invokevirtual 133, 3)], [some (.pop, 1), some (.aload_n 2, 1), some (.aload_n 0, 1), some (.iload_n 3, 1), some (.iconst 1, 1), some (.iadd, 1), some (.iaload, 1), some (.aload_n 0, 1), some (.iload_n 3, 1), some (.iconst 2, 1), some (.iadd, 1), some (.iaload, 1), some (.invokevirtual 136, 3), none, none, some (.pop, 1)], [some (.goto 36, 3), none, none, some (.aload_n 1, 1), some (.aload_n 0, 1), some (.iload_n 3, 1), some (.iconst 1, 1), some (.iadd, 1), some (.iaload, 1), some (.aload_n 0, 1), some (.iload_n 3, 1), some (.iconst 2, 1), some (.iadd, 1), some (.iaload, 1), some (.invokevirtual 137, 3)], [none, some (.pop, 1), some (.aload_n 2, 1), some (.aload_n 0, 1), some (.iload_n 3, 1), some (.iconst 1, 1), some (.iadd, 1), some (.iaload, 1), some (.aload_n 0, 1), some (.iload_n 3, 1), some (.iconst 2, 1), some (.iadd, 1), some (.iaload, 1), some (.invokevirtual 141, 3)], [some (.pop, 1), some (.goto 3, 3), none, none, some (.iinc 3 5, 3), none, none, some (.goto (-1173), 3), none, none, some (.iconst 1, 1), some (.ireturn, 1)]]
def zlaw_t : Nat → Option (Instr × Nat) := fun k => zlook 16 zlawL k
def zlaw : zMe := (x, code, 4, ret, 1, 13, 0, fun k => cond (Nat.blt k 1196) (zlaw_t k) none)
set_option maxRecDepth 100000 in
theorem zlaw_dec : ∀ pc x, zlaw.2.2.2.2.2.2.2 pc = some x → decode zlaw.2.1 pc = .ok x := zdecF code zlaw_t [187, 0, 7, 89, 183, 0, 9, 76, 187, 0, 10, 89, 183, 0, 12, 77, 3, 62, 29, 42, 190, 8, 100, 163, 4, 147, 42, 29, 46, 16, 31, 126, 170, 0, 0, 0, 0, 0, 4, 132, 0, 0, 0, 0, 0, 0, 0, 29, 0, 0, 0, 136, 0, 0, 0, 199, 0, 0, 0, 212, 0, 0, 0, 245, 0, 0, 1, 22, 0, 0, 1, 55, 0, 0, 1, 88, 0, 0, 1, 121, 0, 0, 1, 154, 0, 0, 1, 197, 0, 0, 1, 250, 0, 0, 2, 27, 0, 0, 2, 70, 0, 0, 2, 93, 0, 0, 2, 136, 0, 0, 2, 179, 0, 0, 2, 222, 0, 0, 2, 255, 0, 0, 3, 42, 0, 0, 3, 75, 0, 0, 3, 108, 0, 0, 3, 131, 0, 0, 3, 154, 0, 0, 3, 177, 0, 0, 3, 200, 0, 0, 3, 223, 0, 0, 3, 246, 0, 0, 4, 33, 0, 0, 4, 66, 0, 0, 4, 99, 43, 42, 29, 4, 96, 46, 133, 16, 32, 121, 42, 29, 5, 96, 46, 133, 20, 0, 13, 127, 129, 42, 29, 6, 96, 46, 182, 0, 15, 87, 44, 42, 29, 4, 96, 46, 133, 16, 32, 121, 42, 29, 5, 96, 46, 133, 20, 0, 13, 127, 129, 42, 29, 6, 96, 46, 182, 0, 19, 87, 167, 3, 192, 43, 182, 0, 20, 87, 44, 182, 0, 24, 87, 167, 3, 179, 43, 42, 29, 4, 96, 46, 42, 29, 5, 96, 46, 182, 0, 25, 44, 42, 29, 4, 96, 46, 42, 29, 5, 96, 46, 182, 0, 29, 159, 3, 148, 3, 172, 43, 42, 29, 4, 96, 46, 42, 29, 5, 96, 46, 182, 0, 30, 87, 44, 42, 29, 4, 96, 46, 42, 29, 5, 96, 46, 182, 0, 33, 87, 167, 3, 113, 43, 42, 29, 4, 96, 46, 42, 29, 5, 96, 46, 182, 0, 34, 87, 44, 42, 29, 4, 96, 46, 42, 29, 5, 96, 46, 182, 0, 37, 87, 167, 3, 80, 43, 42, 29, 4, 96, 46, 42, 29, 5, 96, 46, 182, 0, 38, 87, 44, 42, 29, 4, 96, 46, 42, 29, 5, 96, 46, 182, 0, 41, 87, 167, 3, 47, 43, 42, 29, 4, 96, 46, 42, 29, 5, 96, 46, 182, 0, 42, 87, 44, 42, 29, 4, 96, 46, 42, 29, 5, 96, 46, 182, 0, 45, 87, 167, 3, 14, 43, 42, 29, 4, 96, 46, 42, 29, 5, 96, 46, 182, 0, 46, 87, 44, 42, 29, 4, 96, 46, 42, 29, 5, 96, 46, 182, 0, 49, 87, 167, 2, 237, 43, 42, 29, 4, 96, 46, 42, 29, 5, 96, 46, 42, 29, 6, 96, 46, 182, 0, 50, 87, 44, 42, 29, 4, 96, 46, 42, 29, 5, 96, 46, 42, 29, 6, 96, 46, 182, 0, 54, 87, 167, 2, 194, 43, 42, 29, 4, 96, 46, 42, 29, 5, 96, 46, 42, 29, 6, 96, 46, 42, 29, 7, 96, 46, 182, 0, 55, 87, 44, 42, 29, 4, 96, 46, 42, 29, 5, 96, 46, 42, 29, 6, 96, 46, 42, 29, 7, 96, 46, 182, 0, 59, 87, 167, 2, 141, 43, 42, 29, 4, 96, 46, 42, 29, 5, 96, 46, 182, 0, 60, 87, 44, 42, 29, 4, 96, 46, 42, 29, 5, 96, 46, 182, 0, 63, 87, 167, 2, 108, 43, 42, 29, 4, 96, 46, 42, 29, 5, 96, 46, 42, 29, 6, 96, 46, 182, 0, 64, 87, 44, 42, 29, 4, 96, 46, 42, 29, 5, 96, 46, 42, 29, 6, 96, 46, 182, 0, 67, 87, 167, 2, 65, 43, 42, 29, 4, 96, 46, 182, 0, 68, 87, 44, 42, 29, 4, 96, 46, 182, 0, 72, 87, 167, 2, 42, 43, 42, 29, 4, 96, 46, 42, 29, 5, 96, 46, 42, 29, 6, 96, 46, 182, 0, 73, 87, 44, 42, 29, 4, 96, 46, 42, 29, 5, 96, 46, 42, 29, 6, 96, 46, 182, 0, 76, 87, 167, 1, 255, 43, 42, 29, 4, 96, 46, 42, 29, 5, 96, 46, 42, 29, 6, 96, 46, 182, 0, 77, 87, 44, 42, 29, 4, 96, 46, 42, 29, 5, 96, 46, 42, 29, 6, 96, 46, 182, 0, 80, 87, 167, 1, 212, 43, 42, 29, 4, 96, 46, 42, 29, 5, 96, 46, 42, 29, 6, 96, 46, 182, 0, 81, 87, 44, 42, 29, 4, 96, 46, 42, 29, 5, 96, 46, 42, 29, 6, 96, 46, 182, 0, 84, 87, 167, 1, 169, 43, 42, 29, 4, 96, 46, 42, 29, 5, 96, 46, 182, 0, 85, 87, 44, 42, 29, 4, 96, 46, 42, 29, 5, 96, 46, 182, 0, 88, 87, 167, 1, 136, 43, 42, 29, 4, 96, 46, 42, 29, 5, 96, 46, 42, 29, 6, 96, 46, 182, 0, 89, 87, 44, 42, 29, 4, 96, 46, 42, 29, 5, 96, 46, 42, 29, 6, 96, 46, 182, 0, 92, 87, 167, 1, 93, 43, 42, 29, 4, 96, 46, 42, 29, 5, 96, 46, 182, 0, 93, 87, 44, 42, 29, 4, 96, 46, 42, 29, 5, 96, 46, 182, 0, 96, 87, 167, 1, 60, 43, 42, 29, 4, 96, 46, 42, 29, 5, 96, 46, 182, 0, 97, 87, 44, 42, 29, 4, 96, 46, 42, 29, 5, 96, 46, 182, 0, 100, 87, 167, 1, 27, 43, 42, 29, 4, 96, 46, 182, 0, 101, 87, 44, 42, 29, 4, 96, 46, 182, 0, 104, 87, 167, 1, 4, 43, 42, 29, 4, 96, 46, 182, 0, 105, 87, 44, 42, 29, 4, 96, 46, 182, 0, 108, 87, 167, 0, 237, 43, 42, 29, 4, 96, 46, 182, 0, 109, 87, 44, 42, 29, 4, 96, 46, 182, 0, 112, 87, 167, 0, 214, 43, 42, 29, 4, 96, 46, 182, 0, 113, 87, 44, 42, 29, 4, 96, 46, 182, 0, 116, 87, 167, 0, 191, 43, 42, 29, 4, 96, 46, 182, 0, 117, 87, 44, 42, 29, 4, 96, 46, 182, 0, 120, 87, 167, 0, 168, 43, 42, 29, 4, 96, 46, 182, 0, 121, 87, 44, 42, 29, 4, 96, 46, 182, 0, 124, 87, 167, 0, 145, 43, 42, 29, 4, 96, 46, 42, 29, 5, 96, 46, 42, 29, 6, 96, 46, 182, 0, 125, 87, 44, 42, 29, 4, 96, 46, 42, 29, 5, 96, 46, 42, 29, 6, 96, 46, 182, 0, 128, 87, 167, 0, 102, 43, 42, 29, 4, 96, 46, 42, 29, 5, 96, 46, 182, 0, 129, 87, 44, 42, 29, 4, 96, 46, 42, 29, 5, 96, 46, 182, 0, 132, 87, 167, 0, 69, 43, 42, 29, 4, 96, 46, 42, 29, 5, 96, 46, 182, 0, 133, 87, 44, 42, 29, 4, 96, 46, 42, 29, 5, 96, 46, 182, 0, 136, 87, 167, 0, 36, 43, 42, 29, 4, 96, 46, 42, 29, 5, 96, 46, 182, 0, 137, 87, 44, 42, 29, 4, 96, 46, 42, 29, 5, 96, 46, 182, 0, 141, 87, 167, 0, 3, 132, 3, 5, 167, 251, 107, 4, 172] 1196 (by decide +kernel) (Nat.le_of_ble_eq_true rfl) (by decide +kernel)
theorem nI_at {i c : Nat} (h : i ≤ 100000) (hc : c ≤ 10) : nI i + Int32.ofInt c = nI (i + c) := by
  have e1 := nI_toInt (n := i) (by omega)
  have e2 := ofI32 (z := (c : Int)) (by omega) (by omega)
  have e3 := nI_toInt (n := i + c) (by omega)
  refine Int32.toInt_inj.mp ?_
  rw [sadd32 (by rw [e1, e2]; exact ⟨by show (-2147483648 : Int) ≤ _; omega, by show _ ≤ (2147483647 : Int); omega⟩), e1, e2, e3]
  omega
theorem zr_scr {X : zX} {mt : Nat → Option zMe} {call : zCall} {r : zMe} {n pc k : Nat} {ls : zL} {rest : List Value} {M : zM} {res : Option (Option Value × zM)} {j : Int32} (htb : r.2.2.2.2.2.2.2 pc = some (.iaload, 1)) (hL : X.1 ≤ 2560) (hj : j = nI k) (hk : k < X.1) (h : zrun X mt call r n (pc + 1) ls (.int (X.2.1 k) :: rest) M = res) : zrun X mt call r (n + 1) pc ls (.int j :: .ref 1000016 :: rest) M = res := by
  have e : j.toNatClampNeg = k := by rw [hj]; exact nI_clamp (by omega)
  have hn : ¬ j < 0 := by rw [hj]; exact nI_pos (by omega)
  refine zr_s1 htb rfl rfl rfl ?_ h
  simp only [zs1, if_true]
  rw [if_neg (by rw [e]; intro q; rcases q with q | q | q; exact hn q; omega; omega), e]
theorem zr_slenX {X : zX} {mt : Nat → Option zMe} {call : zCall} {r : zMe} {n pc : Nat} {ls : zL} {rest : List Value} {M : zM} {res : Option (Option Value × zM)} (htb : r.2.2.2.2.2.2.2 pc = some (.arraylength, 1)) (hX : X.1 ≤ 2560) (h : zrun X mt call r n (pc + 1) ls (.int (Int32.ofNat X.1) :: rest) M = res) : zrun X mt call r (n + 1) pc ls (.ref 1000016 :: rest) M = res := by
  refine zr_s1 htb rfl rfl rfl ?_ h
  simp only [zs1, if_true]
  rw [if_pos (by omega)]
theorem zc_eqs {x : Int32} : zcI .eq x x = true := decide_eq_true rfl
abbrev zls (v : Int32) : zL := [(0, .ref 1000016), (1, .ref 0), (2, .ref 474), (3, .int v)]
theorem law_gt {i L : Nat} (hi : i ≤ 3000) (hL : L ≤ 3000) : zcI .gt (nI i) (Int32.ofNat L - Int32.ofInt 5) = true ↔ L < i + 5 := by
  have e1 := nI_toInt (n := i) (by omega)
  have e2 : (Int32.ofNat L).toInt = L := nI_toInt (n := L) (by omega)
  have e3 := ofI32 (z := 5) (by decide) (by decide)
  have e4 : (Int32.ofNat L - Int32.ofInt 5).toInt = L - 5 := by
    rw [ssub32 (by rw [e2, e3]; exact ⟨by show (-2147483648 : Int) ≤ _; omega, by show _ ≤ (2147483647 : Int); omega⟩), e2, e3]
  show decide (Int32.ofNat L - Int32.ofInt 5 < nI i) = true ↔ _
  rw [decide_eq_true_iff, Int32.lt_iff_toInt_lt, e4, e1]
  omega
theorem law_ret {X : zX} {call : zCall} {M : zM} {v : Int32} {n : Nat} : zrun X zmt call zlaw (n + 2) 1194 (zls v) [] M = some (some (.int 1), M) := by
  refine zr_s0 rfl rfl rfl rfl ?_
  exact zr_retn (v := 1) rfl rfl (by decide)
theorem law_stop {X : zX} {call : zCall} {M : zM} {i : Nat} (hL : X.1 ≤ 2560) (hi : i ≤ 3000) (h : X.1 < i + 5) {n : Nat} : zrun X zmt call zlaw (n + 8) 18 (zls (nI i)) [] M = some (some (.int 1), M) := by
  refine zr_s0 rfl rfl rfl rfl ?_
  refine zr_s0 rfl rfl rfl rfl ?_
  refine zr_slenX rfl hL ?_
  refine zr_s0 rfl rfl rfl rfl ?_
  refine zr_s0 rfl rfl rfl rfl ?_
  refine zr_icmp (t := 1194) rfl rfl (fun _ => ?_) (fun w => Bool.noConfusion (((law_gt hi (by omega)).mpr h).symm.trans w))
  exact law_ret
theorem law_next {X : zX} {call : zCall} {M : zM} {i : Nat} (hi : i ≤ 3000) {res : Option (Option Value × zM)} {n : Nat} (h : zrun X zmt call zlaw n 18 (zls (nI (i + 5))) [] M = res) : zrun X zmt call zlaw (n + 2) 1188 (zls (nI i)) [] M = res := by
  rw [← nI_at (c := 5) (by omega) (by decide)] at h
  refine zr_s0 rfl rfl rfl rfl ?_
  exact zr_s0 rfl rfl rfl rfl h
def zlawS : Instr := .tableswitch 1156 0 29 #[136, 199, 212, 245, 278, 311, 344, 377, 410, 453, 506, 539, 582, 605, 648, 691, 734, 767, 810, 843, 876, 899, 922, 945, 968, 991, 1014, 1057, 1090, 1123]
theorem law_at {X : zX} {call : zCall} {M : zM} {res : Option (Option Value × zM)} {i j T : Nat} (hL : X.1 ≤ 2560) (hi : i + 5 ≤ X.1) (hj : X.2.1 i &&& (Int8.ofInt 31).toInt32 = nI j) (hT : zs0 32 (zls (nI i)) [.int (nI j)] 4 zlawS 136 = some (T, zls (nI i), [])) {n : Nat} (h : zrun X zmt call zlaw n T (zls (nI i)) [] M = res) : zrun X zmt call zlaw (n + 12) 18 (zls (nI i)) [] M = res := by
  refine zr_s0 rfl rfl rfl rfl ?_
  refine zr_s0 rfl rfl rfl rfl ?_
  refine zr_slenX rfl hL ?_
  refine zr_s0 rfl rfl rfl rfl ?_
  refine zr_s0 rfl rfl rfl rfl ?_
  refine zr_icmp (t := 1194) rfl rfl (fun w => absurd ((law_gt (by omega) (by omega)).mp w) (by omega)) (fun _ => ?_)
  refine zr_s0 rfl rfl rfl rfl ?_
  refine zr_s0 rfl rfl rfl rfl ?_
  refine zr_scr rfl hL (k := i) rfl (by omega) ?_
  refine zr_s0 rfl rfl rfl rfl ?_
  refine zr_s0 rfl rfl rfl rfl ?_
  rw [hj]
  exact zr_s0 (i := zlawS) (len := 136) rfl rfl rfl hT h
theorem law_c0 {X : zX} {call : zCall} {M M1 M2 : zM} {r r2 : Int32} {i : Nat} {f0 f1 : List Value} (hL : X.1 ≤ 2560) (hi : i + 5 ≤ X.1) (h0 : zob M 0 = some (.inr (11, f0))) (h474 : zob M1 474 = some (.inr (12, f1))) (h1 : call 254 [.ref 0, .long (((X.2.1 (i + 1)).toInt64 <<< ((Int8.ofInt 32).toInt32.toInt64 &&& 63)) ||| ((X.2.1 (i + 2)).toInt64 &&& Int64.ofNat 4294967295)), .int (X.2.1 (i + 3))] M = some (some (.int r), M1)) (h2 : call 458 [.ref 474, .long (((X.2.1 (i + 1)).toInt64 <<< ((Int8.ofInt 32).toInt32.toInt64 &&& 63)) ||| ((X.2.1 (i + 2)).toInt64 &&& Int64.ofNat 4294967295)), .int (X.2.1 (i + 3))] M1 = some (some (.int r2), M2)) {n : Nat} {res : Option (Option Value × zM)} (h : zrun X zmt call zlaw n 1188 (zls (nI i)) [] M2 = res) : zrun X zmt call zlaw (n + 51) 168 (zls (nI i)) [] M = res := by
  refine zr_s0 rfl rfl rfl rfl ?_
  refine zr_s0 rfl rfl rfl rfl ?_
  refine zr_s0 rfl rfl rfl rfl ?_
  refine zr_s0 rfl rfl rfl rfl ?_
  refine zr_s0 rfl rfl rfl rfl ?_
  refine zr_scr rfl hL (k := i + 1) (nI_at (c := 1) (by omega) (by decide)) (by omega) ?_
  refine zr_s0 rfl rfl rfl rfl ?_
  refine zr_s0 rfl rfl rfl rfl ?_
  refine zr_s0 rfl rfl rfl rfl ?_
  refine zr_s0 rfl rfl rfl rfl ?_
  refine zr_s0 rfl rfl rfl rfl ?_
  refine zr_s0 rfl rfl rfl rfl ?_
  refine zr_s0 rfl rfl rfl rfl ?_
  refine zr_scr rfl hL (k := i + 2) (nI_at (c := 2) (by omega) (by decide)) (by omega) ?_
  refine zr_s0 rfl rfl rfl rfl ?_
  refine zr_s1 rfl rfl rfl rfl rfl ?_
  refine zr_s0 rfl rfl rfl rfl ?_
  refine zr_s0 rfl rfl rfl rfl ?_
  refine zr_s0 rfl rfl rfl rfl ?_
  refine zr_s0 rfl rfl rfl rfl ?_
  refine zr_s0 rfl rfl rfl rfl ?_
  refine zr_s0 rfl rfl rfl rfl ?_
  refine zr_scr rfl hL (k := i + 3) (nI_at (c := 3) (by omega) (by decide)) (by omega) ?_
  refine zr_callV rfl rfl rfl rfl (by decide) h0 rfl ⟨Or.inl rfl, rfl, rfl, rfl, rfl, rfl, Nat.le_of_ble_eq_true rfl⟩ h1 ?_
  refine zr_s0 rfl rfl rfl rfl ?_
  refine zr_s0 rfl rfl rfl rfl ?_
  refine zr_s0 rfl rfl rfl rfl ?_
  refine zr_s0 rfl rfl rfl rfl ?_
  refine zr_s0 rfl rfl rfl rfl ?_
  refine zr_s0 rfl rfl rfl rfl ?_
  refine zr_scr rfl hL (k := i + 1) (nI_at (c := 1) (by omega) (by decide)) (by omega) ?_
  refine zr_s0 rfl rfl rfl rfl ?_
  refine zr_s0 rfl rfl rfl rfl ?_
  refine zr_s0 rfl rfl rfl rfl ?_
  refine zr_s0 rfl rfl rfl rfl ?_
  refine zr_s0 rfl rfl rfl rfl ?_
  refine zr_s0 rfl rfl rfl rfl ?_
  refine zr_s0 rfl rfl rfl rfl ?_
  refine zr_scr rfl hL (k := i + 2) (nI_at (c := 2) (by omega) (by decide)) (by omega) ?_
  refine zr_s0 rfl rfl rfl rfl ?_
  refine zr_s1 rfl rfl rfl rfl rfl ?_
  refine zr_s0 rfl rfl rfl rfl ?_
  refine zr_s0 rfl rfl rfl rfl ?_
  refine zr_s0 rfl rfl rfl rfl ?_
  refine zr_s0 rfl rfl rfl rfl ?_
  refine zr_s0 rfl rfl rfl rfl ?_
  refine zr_s0 rfl rfl rfl rfl ?_
  refine zr_scr rfl hL (k := i + 3) (nI_at (c := 3) (by omega) (by decide)) (by omega) ?_
  refine zr_callV rfl rfl rfl rfl (by decide) h474 rfl ⟨Or.inl rfl, rfl, rfl, rfl, rfl, rfl, Nat.le_of_ble_eq_true rfl⟩ h2 ?_
  refine zr_s0 rfl rfl rfl rfl ?_
  refine zr_s0 rfl rfl rfl rfl ?_
  exact h
theorem law_c1 {X : zX} {call : zCall} {M M1 M2 : zM} {r r2 : Int32} {i : Nat} {f0 f1 : List Value} (hL : X.1 ≤ 2560) (hi : i + 5 ≤ X.1) (h0 : zob M 0 = some (.inr (11, f0))) (h474 : zob M1 474 = some (.inr (12, f1))) (h1 : call 255 [.ref 0] M = some (some (.int r), M1)) (h2 : call 459 [.ref 474] M1 = some (some (.int r2), M2)) {n : Nat} {res : Option (Option Value × zM)} (h : zrun X zmt call zlaw n 1188 (zls (nI i)) [] M2 = res) : zrun X zmt call zlaw (n + 7) 231 (zls (nI i)) [] M = res := by
  refine zr_s0 rfl rfl rfl rfl ?_
  refine zr_callV rfl rfl rfl rfl (by decide) h0 rfl ⟨Or.inl rfl, rfl, rfl, rfl, rfl, rfl, Nat.le_of_ble_eq_true rfl⟩ h1 ?_
  refine zr_s0 rfl rfl rfl rfl ?_
  refine zr_s0 rfl rfl rfl rfl ?_
  refine zr_callV rfl rfl rfl rfl (by decide) h474 rfl ⟨Or.inl rfl, rfl, rfl, rfl, rfl, rfl, Nat.le_of_ble_eq_true rfl⟩ h2 ?_
  refine zr_s0 rfl rfl rfl rfl ?_
  refine zr_s0 rfl rfl rfl rfl ?_
  exact h
theorem law_c2 {X : zX} {call : zCall} {M M1 M2 : zM} {r : Int32} {i : Nat} {f0 f1 : List Value} (hL : X.1 ≤ 2560) (hi : i + 5 ≤ X.1) (h0 : zob M 0 = some (.inr (11, f0))) (h474 : zob M1 474 = some (.inr (12, f1))) (h1 : call 256 [.ref 0, .int (X.2.1 (i + 1)), .int (X.2.1 (i + 2))] M = some (some (.int r), M1)) (h2 : call 462 [.ref 474, .int (X.2.1 (i + 1)), .int (X.2.1 (i + 2))] M1 = some (some (.int r), M2)) {n : Nat} {res : Option (Option Value × zM)} (h : zrun X zmt call zlaw n 1188 (zls (nI i)) [] M2 = res) : zrun X zmt call zlaw (n + 25) 244 (zls (nI i)) [] M = res := by
  refine zr_s0 rfl rfl rfl rfl ?_
  refine zr_s0 rfl rfl rfl rfl ?_
  refine zr_s0 rfl rfl rfl rfl ?_
  refine zr_s0 rfl rfl rfl rfl ?_
  refine zr_s0 rfl rfl rfl rfl ?_
  refine zr_scr rfl hL (k := i + 1) (nI_at (c := 1) (by omega) (by decide)) (by omega) ?_
  refine zr_s0 rfl rfl rfl rfl ?_
  refine zr_s0 rfl rfl rfl rfl ?_
  refine zr_s0 rfl rfl rfl rfl ?_
  refine zr_s0 rfl rfl rfl rfl ?_
  refine zr_scr rfl hL (k := i + 2) (nI_at (c := 2) (by omega) (by decide)) (by omega) ?_
  refine zr_callV rfl rfl rfl rfl (by decide) h0 rfl ⟨Or.inl rfl, rfl, rfl, rfl, rfl, rfl, Nat.le_of_ble_eq_true rfl⟩ h1 ?_
  refine zr_s0 rfl rfl rfl rfl ?_
  refine zr_s0 rfl rfl rfl rfl ?_
  refine zr_s0 rfl rfl rfl rfl ?_
  refine zr_s0 rfl rfl rfl rfl ?_
  refine zr_s0 rfl rfl rfl rfl ?_
  refine zr_scr rfl hL (k := i + 1) (nI_at (c := 1) (by omega) (by decide)) (by omega) ?_
  refine zr_s0 rfl rfl rfl rfl ?_
  refine zr_s0 rfl rfl rfl rfl ?_
  refine zr_s0 rfl rfl rfl rfl ?_
  refine zr_s0 rfl rfl rfl rfl ?_
  refine zr_scr rfl hL (k := i + 2) (nI_at (c := 2) (by omega) (by decide)) (by omega) ?_
  refine zr_callV rfl rfl rfl rfl (by decide) h474 rfl ⟨Or.inl rfl, rfl, rfl, rfl, rfl, rfl, Nat.le_of_ble_eq_true rfl⟩ h2 ?_
  refine zr_icmp (t := 1188) rfl rfl (fun _ => ?_) (fun w => Bool.noConfusion (zc_eqs.symm.trans w))
  exact h
theorem law_c3 {X : zX} {call : zCall} {M M1 M2 : zM} {r r2 : Int32} {i : Nat} {f0 f1 : List Value} (hL : X.1 ≤ 2560) (hi : i + 5 ≤ X.1) (h0 : zob M 0 = some (.inr (11, f0))) (h474 : zob M1 474 = some (.inr (12, f1))) (h1 : call 257 [.ref 0, .int (X.2.1 (i + 1)), .int (X.2.1 (i + 2))] M = some (some (.int r), M1)) (h2 : call 463 [.ref 474, .int (X.2.1 (i + 1)), .int (X.2.1 (i + 2))] M1 = some (some (.int r2), M2)) {n : Nat} {res : Option (Option Value × zM)} (h : zrun X zmt call zlaw n 1188 (zls (nI i)) [] M2 = res) : zrun X zmt call zlaw (n + 27) 277 (zls (nI i)) [] M = res := by
  refine zr_s0 rfl rfl rfl rfl ?_
  refine zr_s0 rfl rfl rfl rfl ?_
  refine zr_s0 rfl rfl rfl rfl ?_
  refine zr_s0 rfl rfl rfl rfl ?_
  refine zr_s0 rfl rfl rfl rfl ?_
  refine zr_scr rfl hL (k := i + 1) (nI_at (c := 1) (by omega) (by decide)) (by omega) ?_
  refine zr_s0 rfl rfl rfl rfl ?_
  refine zr_s0 rfl rfl rfl rfl ?_
  refine zr_s0 rfl rfl rfl rfl ?_
  refine zr_s0 rfl rfl rfl rfl ?_
  refine zr_scr rfl hL (k := i + 2) (nI_at (c := 2) (by omega) (by decide)) (by omega) ?_
  refine zr_callV rfl rfl rfl rfl (by decide) h0 rfl ⟨Or.inl rfl, rfl, rfl, rfl, rfl, rfl, Nat.le_of_ble_eq_true rfl⟩ h1 ?_
  refine zr_s0 rfl rfl rfl rfl ?_
  refine zr_s0 rfl rfl rfl rfl ?_
  refine zr_s0 rfl rfl rfl rfl ?_
  refine zr_s0 rfl rfl rfl rfl ?_
  refine zr_s0 rfl rfl rfl rfl ?_
  refine zr_s0 rfl rfl rfl rfl ?_
  refine zr_scr rfl hL (k := i + 1) (nI_at (c := 1) (by omega) (by decide)) (by omega) ?_
  refine zr_s0 rfl rfl rfl rfl ?_
  refine zr_s0 rfl rfl rfl rfl ?_
  refine zr_s0 rfl rfl rfl rfl ?_
  refine zr_s0 rfl rfl rfl rfl ?_
  refine zr_scr rfl hL (k := i + 2) (nI_at (c := 2) (by omega) (by decide)) (by omega) ?_
  refine zr_callV rfl rfl rfl rfl (by decide) h474 rfl ⟨Or.inl rfl, rfl, rfl, rfl, rfl, rfl, Nat.le_of_ble_eq_true rfl⟩ h2 ?_
  refine zr_s0 rfl rfl rfl rfl ?_
  refine zr_s0 rfl rfl rfl rfl ?_
  exact h
theorem law_c4 {X : zX} {call : zCall} {M M1 M2 : zM} {r r2 : Int32} {i : Nat} {f0 f1 : List Value} (hL : X.1 ≤ 2560) (hi : i + 5 ≤ X.1) (h0 : zob M 0 = some (.inr (11, f0))) (h474 : zob M1 474 = some (.inr (12, f1))) (h1 : call 258 [.ref 0, .int (X.2.1 (i + 1)), .int (X.2.1 (i + 2))] M = some (some (.int r), M1)) (h2 : call 464 [.ref 474, .int (X.2.1 (i + 1)), .int (X.2.1 (i + 2))] M1 = some (some (.int r2), M2)) {n : Nat} {res : Option (Option Value × zM)} (h : zrun X zmt call zlaw n 1188 (zls (nI i)) [] M2 = res) : zrun X zmt call zlaw (n + 27) 310 (zls (nI i)) [] M = res := by
  refine zr_s0 rfl rfl rfl rfl ?_
  refine zr_s0 rfl rfl rfl rfl ?_
  refine zr_s0 rfl rfl rfl rfl ?_
  refine zr_s0 rfl rfl rfl rfl ?_
  refine zr_s0 rfl rfl rfl rfl ?_
  refine zr_scr rfl hL (k := i + 1) (nI_at (c := 1) (by omega) (by decide)) (by omega) ?_
  refine zr_s0 rfl rfl rfl rfl ?_
  refine zr_s0 rfl rfl rfl rfl ?_
  refine zr_s0 rfl rfl rfl rfl ?_
  refine zr_s0 rfl rfl rfl rfl ?_
  refine zr_scr rfl hL (k := i + 2) (nI_at (c := 2) (by omega) (by decide)) (by omega) ?_
  refine zr_callV rfl rfl rfl rfl (by decide) h0 rfl ⟨Or.inl rfl, rfl, rfl, rfl, rfl, rfl, Nat.le_of_ble_eq_true rfl⟩ h1 ?_
  refine zr_s0 rfl rfl rfl rfl ?_
  refine zr_s0 rfl rfl rfl rfl ?_
  refine zr_s0 rfl rfl rfl rfl ?_
  refine zr_s0 rfl rfl rfl rfl ?_
  refine zr_s0 rfl rfl rfl rfl ?_
  refine zr_s0 rfl rfl rfl rfl ?_
  refine zr_scr rfl hL (k := i + 1) (nI_at (c := 1) (by omega) (by decide)) (by omega) ?_
  refine zr_s0 rfl rfl rfl rfl ?_
  refine zr_s0 rfl rfl rfl rfl ?_
  refine zr_s0 rfl rfl rfl rfl ?_
  refine zr_s0 rfl rfl rfl rfl ?_
  refine zr_scr rfl hL (k := i + 2) (nI_at (c := 2) (by omega) (by decide)) (by omega) ?_
  refine zr_callV rfl rfl rfl rfl (by decide) h474 rfl ⟨Or.inl rfl, rfl, rfl, rfl, rfl, rfl, Nat.le_of_ble_eq_true rfl⟩ h2 ?_
  refine zr_s0 rfl rfl rfl rfl ?_
  refine zr_s0 rfl rfl rfl rfl ?_
  exact h
theorem law_c5 {X : zX} {call : zCall} {M M1 M2 : zM} {r r2 : Int32} {i : Nat} {f0 f1 : List Value} (hL : X.1 ≤ 2560) (hi : i + 5 ≤ X.1) (h0 : zob M 0 = some (.inr (11, f0))) (h474 : zob M1 474 = some (.inr (12, f1))) (h1 : call 259 [.ref 0, .int (X.2.1 (i + 1)), .int (X.2.1 (i + 2))] M = some (some (.int r), M1)) (h2 : call 465 [.ref 474, .int (X.2.1 (i + 1)), .int (X.2.1 (i + 2))] M1 = some (some (.int r2), M2)) {n : Nat} {res : Option (Option Value × zM)} (h : zrun X zmt call zlaw n 1188 (zls (nI i)) [] M2 = res) : zrun X zmt call zlaw (n + 27) 343 (zls (nI i)) [] M = res := by
  refine zr_s0 rfl rfl rfl rfl ?_
  refine zr_s0 rfl rfl rfl rfl ?_
  refine zr_s0 rfl rfl rfl rfl ?_
  refine zr_s0 rfl rfl rfl rfl ?_
  refine zr_s0 rfl rfl rfl rfl ?_
  refine zr_scr rfl hL (k := i + 1) (nI_at (c := 1) (by omega) (by decide)) (by omega) ?_
  refine zr_s0 rfl rfl rfl rfl ?_
  refine zr_s0 rfl rfl rfl rfl ?_
  refine zr_s0 rfl rfl rfl rfl ?_
  refine zr_s0 rfl rfl rfl rfl ?_
  refine zr_scr rfl hL (k := i + 2) (nI_at (c := 2) (by omega) (by decide)) (by omega) ?_
  refine zr_callV rfl rfl rfl rfl (by decide) h0 rfl ⟨Or.inl rfl, rfl, rfl, rfl, rfl, rfl, Nat.le_of_ble_eq_true rfl⟩ h1 ?_
  refine zr_s0 rfl rfl rfl rfl ?_
  refine zr_s0 rfl rfl rfl rfl ?_
  refine zr_s0 rfl rfl rfl rfl ?_
  refine zr_s0 rfl rfl rfl rfl ?_
  refine zr_s0 rfl rfl rfl rfl ?_
  refine zr_s0 rfl rfl rfl rfl ?_
  refine zr_scr rfl hL (k := i + 1) (nI_at (c := 1) (by omega) (by decide)) (by omega) ?_
  refine zr_s0 rfl rfl rfl rfl ?_
  refine zr_s0 rfl rfl rfl rfl ?_
  refine zr_s0 rfl rfl rfl rfl ?_
  refine zr_s0 rfl rfl rfl rfl ?_
  refine zr_scr rfl hL (k := i + 2) (nI_at (c := 2) (by omega) (by decide)) (by omega) ?_
  refine zr_callV rfl rfl rfl rfl (by decide) h474 rfl ⟨Or.inl rfl, rfl, rfl, rfl, rfl, rfl, Nat.le_of_ble_eq_true rfl⟩ h2 ?_
  refine zr_s0 rfl rfl rfl rfl ?_
  refine zr_s0 rfl rfl rfl rfl ?_
  exact h
theorem law_c6 {X : zX} {call : zCall} {M M1 M2 : zM} {r r2 : Int32} {i : Nat} {f0 f1 : List Value} (hL : X.1 ≤ 2560) (hi : i + 5 ≤ X.1) (h0 : zob M 0 = some (.inr (11, f0))) (h474 : zob M1 474 = some (.inr (12, f1))) (h1 : call 260 [.ref 0, .int (X.2.1 (i + 1)), .int (X.2.1 (i + 2))] M = some (some (.int r), M1)) (h2 : call 466 [.ref 474, .int (X.2.1 (i + 1)), .int (X.2.1 (i + 2))] M1 = some (some (.int r2), M2)) {n : Nat} {res : Option (Option Value × zM)} (h : zrun X zmt call zlaw n 1188 (zls (nI i)) [] M2 = res) : zrun X zmt call zlaw (n + 27) 376 (zls (nI i)) [] M = res := by
  refine zr_s0 rfl rfl rfl rfl ?_
  refine zr_s0 rfl rfl rfl rfl ?_
  refine zr_s0 rfl rfl rfl rfl ?_
  refine zr_s0 rfl rfl rfl rfl ?_
  refine zr_s0 rfl rfl rfl rfl ?_
  refine zr_scr rfl hL (k := i + 1) (nI_at (c := 1) (by omega) (by decide)) (by omega) ?_
  refine zr_s0 rfl rfl rfl rfl ?_
  refine zr_s0 rfl rfl rfl rfl ?_
  refine zr_s0 rfl rfl rfl rfl ?_
  refine zr_s0 rfl rfl rfl rfl ?_
  refine zr_scr rfl hL (k := i + 2) (nI_at (c := 2) (by omega) (by decide)) (by omega) ?_
  refine zr_callV rfl rfl rfl rfl (by decide) h0 rfl ⟨Or.inl rfl, rfl, rfl, rfl, rfl, rfl, Nat.le_of_ble_eq_true rfl⟩ h1 ?_
  refine zr_s0 rfl rfl rfl rfl ?_
  refine zr_s0 rfl rfl rfl rfl ?_
  refine zr_s0 rfl rfl rfl rfl ?_
  refine zr_s0 rfl rfl rfl rfl ?_
  refine zr_s0 rfl rfl rfl rfl ?_
  refine zr_s0 rfl rfl rfl rfl ?_
  refine zr_scr rfl hL (k := i + 1) (nI_at (c := 1) (by omega) (by decide)) (by omega) ?_
  refine zr_s0 rfl rfl rfl rfl ?_
  refine zr_s0 rfl rfl rfl rfl ?_
  refine zr_s0 rfl rfl rfl rfl ?_
  refine zr_s0 rfl rfl rfl rfl ?_
  refine zr_scr rfl hL (k := i + 2) (nI_at (c := 2) (by omega) (by decide)) (by omega) ?_
  refine zr_callV rfl rfl rfl rfl (by decide) h474 rfl ⟨Or.inl rfl, rfl, rfl, rfl, rfl, rfl, Nat.le_of_ble_eq_true rfl⟩ h2 ?_
  refine zr_s0 rfl rfl rfl rfl ?_
  refine zr_s0 rfl rfl rfl rfl ?_
  exact h
theorem law_c7 {X : zX} {call : zCall} {M M1 M2 : zM} {r r2 : Int32} {i : Nat} {f0 f1 : List Value} (hL : X.1 ≤ 2560) (hi : i + 5 ≤ X.1) (h0 : zob M 0 = some (.inr (11, f0))) (h474 : zob M1 474 = some (.inr (12, f1))) (h1 : call 261 [.ref 0, .int (X.2.1 (i + 1)), .int (X.2.1 (i + 2))] M = some (some (.int r), M1)) (h2 : call 467 [.ref 474, .int (X.2.1 (i + 1)), .int (X.2.1 (i + 2))] M1 = some (some (.int r2), M2)) {n : Nat} {res : Option (Option Value × zM)} (h : zrun X zmt call zlaw n 1188 (zls (nI i)) [] M2 = res) : zrun X zmt call zlaw (n + 27) 409 (zls (nI i)) [] M = res := by
  refine zr_s0 rfl rfl rfl rfl ?_
  refine zr_s0 rfl rfl rfl rfl ?_
  refine zr_s0 rfl rfl rfl rfl ?_
  refine zr_s0 rfl rfl rfl rfl ?_
  refine zr_s0 rfl rfl rfl rfl ?_
  refine zr_scr rfl hL (k := i + 1) (nI_at (c := 1) (by omega) (by decide)) (by omega) ?_
  refine zr_s0 rfl rfl rfl rfl ?_
  refine zr_s0 rfl rfl rfl rfl ?_
  refine zr_s0 rfl rfl rfl rfl ?_
  refine zr_s0 rfl rfl rfl rfl ?_
  refine zr_scr rfl hL (k := i + 2) (nI_at (c := 2) (by omega) (by decide)) (by omega) ?_
  refine zr_callV rfl rfl rfl rfl (by decide) h0 rfl ⟨Or.inl rfl, rfl, rfl, rfl, rfl, rfl, Nat.le_of_ble_eq_true rfl⟩ h1 ?_
  refine zr_s0 rfl rfl rfl rfl ?_
  refine zr_s0 rfl rfl rfl rfl ?_
  refine zr_s0 rfl rfl rfl rfl ?_
  refine zr_s0 rfl rfl rfl rfl ?_
  refine zr_s0 rfl rfl rfl rfl ?_
  refine zr_s0 rfl rfl rfl rfl ?_
  refine zr_scr rfl hL (k := i + 1) (nI_at (c := 1) (by omega) (by decide)) (by omega) ?_
  refine zr_s0 rfl rfl rfl rfl ?_
  refine zr_s0 rfl rfl rfl rfl ?_
  refine zr_s0 rfl rfl rfl rfl ?_
  refine zr_s0 rfl rfl rfl rfl ?_
  refine zr_scr rfl hL (k := i + 2) (nI_at (c := 2) (by omega) (by decide)) (by omega) ?_
  refine zr_callV rfl rfl rfl rfl (by decide) h474 rfl ⟨Or.inl rfl, rfl, rfl, rfl, rfl, rfl, Nat.le_of_ble_eq_true rfl⟩ h2 ?_
  refine zr_s0 rfl rfl rfl rfl ?_
  refine zr_s0 rfl rfl rfl rfl ?_
  exact h
theorem law_c8 {X : zX} {call : zCall} {M M1 M2 : zM} {r r2 : Int32} {i : Nat} {f0 f1 : List Value} (hL : X.1 ≤ 2560) (hi : i + 5 ≤ X.1) (h0 : zob M 0 = some (.inr (11, f0))) (h474 : zob M1 474 = some (.inr (12, f1))) (h1 : call 262 [.ref 0, .int (X.2.1 (i + 1)), .int (X.2.1 (i + 2)), .int (X.2.1 (i + 3))] M = some (some (.int r), M1)) (h2 : call 468 [.ref 474, .int (X.2.1 (i + 1)), .int (X.2.1 (i + 2)), .int (X.2.1 (i + 3))] M1 = some (some (.int r2), M2)) {n : Nat} {res : Option (Option Value × zM)} (h : zrun X zmt call zlaw n 1188 (zls (nI i)) [] M2 = res) : zrun X zmt call zlaw (n + 37) 442 (zls (nI i)) [] M = res := by
  refine zr_s0 rfl rfl rfl rfl ?_
  refine zr_s0 rfl rfl rfl rfl ?_
  refine zr_s0 rfl rfl rfl rfl ?_
  refine zr_s0 rfl rfl rfl rfl ?_
  refine zr_s0 rfl rfl rfl rfl ?_
  refine zr_scr rfl hL (k := i + 1) (nI_at (c := 1) (by omega) (by decide)) (by omega) ?_
  refine zr_s0 rfl rfl rfl rfl ?_
  refine zr_s0 rfl rfl rfl rfl ?_
  refine zr_s0 rfl rfl rfl rfl ?_
  refine zr_s0 rfl rfl rfl rfl ?_
  refine zr_scr rfl hL (k := i + 2) (nI_at (c := 2) (by omega) (by decide)) (by omega) ?_
  refine zr_s0 rfl rfl rfl rfl ?_
  refine zr_s0 rfl rfl rfl rfl ?_
  refine zr_s0 rfl rfl rfl rfl ?_
  refine zr_s0 rfl rfl rfl rfl ?_
  refine zr_scr rfl hL (k := i + 3) (nI_at (c := 3) (by omega) (by decide)) (by omega) ?_
  refine zr_callV rfl rfl rfl rfl (by decide) h0 rfl ⟨Or.inl rfl, rfl, rfl, rfl, rfl, rfl, Nat.le_of_ble_eq_true rfl⟩ h1 ?_
  refine zr_s0 rfl rfl rfl rfl ?_
  refine zr_s0 rfl rfl rfl rfl ?_
  refine zr_s0 rfl rfl rfl rfl ?_
  refine zr_s0 rfl rfl rfl rfl ?_
  refine zr_s0 rfl rfl rfl rfl ?_
  refine zr_s0 rfl rfl rfl rfl ?_
  refine zr_scr rfl hL (k := i + 1) (nI_at (c := 1) (by omega) (by decide)) (by omega) ?_
  refine zr_s0 rfl rfl rfl rfl ?_
  refine zr_s0 rfl rfl rfl rfl ?_
  refine zr_s0 rfl rfl rfl rfl ?_
  refine zr_s0 rfl rfl rfl rfl ?_
  refine zr_scr rfl hL (k := i + 2) (nI_at (c := 2) (by omega) (by decide)) (by omega) ?_
  refine zr_s0 rfl rfl rfl rfl ?_
  refine zr_s0 rfl rfl rfl rfl ?_
  refine zr_s0 rfl rfl rfl rfl ?_
  refine zr_s0 rfl rfl rfl rfl ?_
  refine zr_scr rfl hL (k := i + 3) (nI_at (c := 3) (by omega) (by decide)) (by omega) ?_
  refine zr_callV rfl rfl rfl rfl (by decide) h474 rfl ⟨Or.inl rfl, rfl, rfl, rfl, rfl, rfl, Nat.le_of_ble_eq_true rfl⟩ h2 ?_
  refine zr_s0 rfl rfl rfl rfl ?_
  refine zr_s0 rfl rfl rfl rfl ?_
  exact h
theorem law_c9 {X : zX} {call : zCall} {M M1 M2 : zM} {r r2 : Int32} {i : Nat} {f0 f1 : List Value} (hL : X.1 ≤ 2560) (hi : i + 5 ≤ X.1) (h0 : zob M 0 = some (.inr (11, f0))) (h474 : zob M1 474 = some (.inr (12, f1))) (h1 : call 263 [.ref 0, .int (X.2.1 (i + 1)), .int (X.2.1 (i + 2)), .int (X.2.1 (i + 3)), .int (X.2.1 (i + 4))] M = some (some (.int r), M1)) (h2 : call 469 [.ref 474, .int (X.2.1 (i + 1)), .int (X.2.1 (i + 2)), .int (X.2.1 (i + 3)), .int (X.2.1 (i + 4))] M1 = some (some (.int r2), M2)) {n : Nat} {res : Option (Option Value × zM)} (h : zrun X zmt call zlaw n 1188 (zls (nI i)) [] M2 = res) : zrun X zmt call zlaw (n + 47) 485 (zls (nI i)) [] M = res := by
  refine zr_s0 rfl rfl rfl rfl ?_
  refine zr_s0 rfl rfl rfl rfl ?_
  refine zr_s0 rfl rfl rfl rfl ?_
  refine zr_s0 rfl rfl rfl rfl ?_
  refine zr_s0 rfl rfl rfl rfl ?_
  refine zr_scr rfl hL (k := i + 1) (nI_at (c := 1) (by omega) (by decide)) (by omega) ?_
  refine zr_s0 rfl rfl rfl rfl ?_
  refine zr_s0 rfl rfl rfl rfl ?_
  refine zr_s0 rfl rfl rfl rfl ?_
  refine zr_s0 rfl rfl rfl rfl ?_
  refine zr_scr rfl hL (k := i + 2) (nI_at (c := 2) (by omega) (by decide)) (by omega) ?_
  refine zr_s0 rfl rfl rfl rfl ?_
  refine zr_s0 rfl rfl rfl rfl ?_
  refine zr_s0 rfl rfl rfl rfl ?_
  refine zr_s0 rfl rfl rfl rfl ?_
  refine zr_scr rfl hL (k := i + 3) (nI_at (c := 3) (by omega) (by decide)) (by omega) ?_
  refine zr_s0 rfl rfl rfl rfl ?_
  refine zr_s0 rfl rfl rfl rfl ?_
  refine zr_s0 rfl rfl rfl rfl ?_
  refine zr_s0 rfl rfl rfl rfl ?_
  refine zr_scr rfl hL (k := i + 4) (nI_at (c := 4) (by omega) (by decide)) (by omega) ?_
  refine zr_callV rfl rfl rfl rfl (by decide) h0 rfl ⟨Or.inl rfl, rfl, rfl, rfl, rfl, rfl, Nat.le_of_ble_eq_true rfl⟩ h1 ?_
  refine zr_s0 rfl rfl rfl rfl ?_
  refine zr_s0 rfl rfl rfl rfl ?_
  refine zr_s0 rfl rfl rfl rfl ?_
  refine zr_s0 rfl rfl rfl rfl ?_
  refine zr_s0 rfl rfl rfl rfl ?_
  refine zr_s0 rfl rfl rfl rfl ?_
  refine zr_scr rfl hL (k := i + 1) (nI_at (c := 1) (by omega) (by decide)) (by omega) ?_
  refine zr_s0 rfl rfl rfl rfl ?_
  refine zr_s0 rfl rfl rfl rfl ?_
  refine zr_s0 rfl rfl rfl rfl ?_
  refine zr_s0 rfl rfl rfl rfl ?_
  refine zr_scr rfl hL (k := i + 2) (nI_at (c := 2) (by omega) (by decide)) (by omega) ?_
  refine zr_s0 rfl rfl rfl rfl ?_
  refine zr_s0 rfl rfl rfl rfl ?_
  refine zr_s0 rfl rfl rfl rfl ?_
  refine zr_s0 rfl rfl rfl rfl ?_
  refine zr_scr rfl hL (k := i + 3) (nI_at (c := 3) (by omega) (by decide)) (by omega) ?_
  refine zr_s0 rfl rfl rfl rfl ?_
  refine zr_s0 rfl rfl rfl rfl ?_
  refine zr_s0 rfl rfl rfl rfl ?_
  refine zr_s0 rfl rfl rfl rfl ?_
  refine zr_scr rfl hL (k := i + 4) (nI_at (c := 4) (by omega) (by decide)) (by omega) ?_
  refine zr_callV rfl rfl rfl rfl (by decide) h474 rfl ⟨Or.inl rfl, rfl, rfl, rfl, rfl, rfl, Nat.le_of_ble_eq_true rfl⟩ h2 ?_
  refine zr_s0 rfl rfl rfl rfl ?_
  refine zr_s0 rfl rfl rfl rfl ?_
  exact h
theorem law_c10 {X : zX} {call : zCall} {M M1 M2 : zM} {r r2 : Int32} {i : Nat} {f0 f1 : List Value} (hL : X.1 ≤ 2560) (hi : i + 5 ≤ X.1) (h0 : zob M 0 = some (.inr (11, f0))) (h474 : zob M1 474 = some (.inr (12, f1))) (h1 : call 264 [.ref 0, .int (X.2.1 (i + 1)), .int (X.2.1 (i + 2))] M = some (some (.int r), M1)) (h2 : call 470 [.ref 474, .int (X.2.1 (i + 1)), .int (X.2.1 (i + 2))] M1 = some (some (.int r2), M2)) {n : Nat} {res : Option (Option Value × zM)} (h : zrun X zmt call zlaw n 1188 (zls (nI i)) [] M2 = res) : zrun X zmt call zlaw (n + 27) 538 (zls (nI i)) [] M = res := by
  refine zr_s0 rfl rfl rfl rfl ?_
  refine zr_s0 rfl rfl rfl rfl ?_
  refine zr_s0 rfl rfl rfl rfl ?_
  refine zr_s0 rfl rfl rfl rfl ?_
  refine zr_s0 rfl rfl rfl rfl ?_
  refine zr_scr rfl hL (k := i + 1) (nI_at (c := 1) (by omega) (by decide)) (by omega) ?_
  refine zr_s0 rfl rfl rfl rfl ?_
  refine zr_s0 rfl rfl rfl rfl ?_
  refine zr_s0 rfl rfl rfl rfl ?_
  refine zr_s0 rfl rfl rfl rfl ?_
  refine zr_scr rfl hL (k := i + 2) (nI_at (c := 2) (by omega) (by decide)) (by omega) ?_
  refine zr_callV rfl rfl rfl rfl (by decide) h0 rfl ⟨Or.inl rfl, rfl, rfl, rfl, rfl, rfl, Nat.le_of_ble_eq_true rfl⟩ h1 ?_
  refine zr_s0 rfl rfl rfl rfl ?_
  refine zr_s0 rfl rfl rfl rfl ?_
  refine zr_s0 rfl rfl rfl rfl ?_
  refine zr_s0 rfl rfl rfl rfl ?_
  refine zr_s0 rfl rfl rfl rfl ?_
  refine zr_s0 rfl rfl rfl rfl ?_
  refine zr_scr rfl hL (k := i + 1) (nI_at (c := 1) (by omega) (by decide)) (by omega) ?_
  refine zr_s0 rfl rfl rfl rfl ?_
  refine zr_s0 rfl rfl rfl rfl ?_
  refine zr_s0 rfl rfl rfl rfl ?_
  refine zr_s0 rfl rfl rfl rfl ?_
  refine zr_scr rfl hL (k := i + 2) (nI_at (c := 2) (by omega) (by decide)) (by omega) ?_
  refine zr_callV rfl rfl rfl rfl (by decide) h474 rfl ⟨Or.inl rfl, rfl, rfl, rfl, rfl, rfl, Nat.le_of_ble_eq_true rfl⟩ h2 ?_
  refine zr_s0 rfl rfl rfl rfl ?_
  refine zr_s0 rfl rfl rfl rfl ?_
  exact h
theorem law_c11 {X : zX} {call : zCall} {M M1 M2 : zM} {r r2 : Int32} {i : Nat} {f0 f1 : List Value} (hL : X.1 ≤ 2560) (hi : i + 5 ≤ X.1) (h0 : zob M 0 = some (.inr (11, f0))) (h474 : zob M1 474 = some (.inr (12, f1))) (h1 : call 265 [.ref 0, .int (X.2.1 (i + 1)), .int (X.2.1 (i + 2)), .int (X.2.1 (i + 3))] M = some (some (.int r), M1)) (h2 : call 471 [.ref 474, .int (X.2.1 (i + 1)), .int (X.2.1 (i + 2)), .int (X.2.1 (i + 3))] M1 = some (some (.int r2), M2)) {n : Nat} {res : Option (Option Value × zM)} (h : zrun X zmt call zlaw n 1188 (zls (nI i)) [] M2 = res) : zrun X zmt call zlaw (n + 37) 571 (zls (nI i)) [] M = res := by
  refine zr_s0 rfl rfl rfl rfl ?_
  refine zr_s0 rfl rfl rfl rfl ?_
  refine zr_s0 rfl rfl rfl rfl ?_
  refine zr_s0 rfl rfl rfl rfl ?_
  refine zr_s0 rfl rfl rfl rfl ?_
  refine zr_scr rfl hL (k := i + 1) (nI_at (c := 1) (by omega) (by decide)) (by omega) ?_
  refine zr_s0 rfl rfl rfl rfl ?_
  refine zr_s0 rfl rfl rfl rfl ?_
  refine zr_s0 rfl rfl rfl rfl ?_
  refine zr_s0 rfl rfl rfl rfl ?_
  refine zr_scr rfl hL (k := i + 2) (nI_at (c := 2) (by omega) (by decide)) (by omega) ?_
  refine zr_s0 rfl rfl rfl rfl ?_
  refine zr_s0 rfl rfl rfl rfl ?_
  refine zr_s0 rfl rfl rfl rfl ?_
  refine zr_s0 rfl rfl rfl rfl ?_
  refine zr_scr rfl hL (k := i + 3) (nI_at (c := 3) (by omega) (by decide)) (by omega) ?_
  refine zr_callV rfl rfl rfl rfl (by decide) h0 rfl ⟨Or.inl rfl, rfl, rfl, rfl, rfl, rfl, Nat.le_of_ble_eq_true rfl⟩ h1 ?_
  refine zr_s0 rfl rfl rfl rfl ?_
  refine zr_s0 rfl rfl rfl rfl ?_
  refine zr_s0 rfl rfl rfl rfl ?_
  refine zr_s0 rfl rfl rfl rfl ?_
  refine zr_s0 rfl rfl rfl rfl ?_
  refine zr_s0 rfl rfl rfl rfl ?_
  refine zr_scr rfl hL (k := i + 1) (nI_at (c := 1) (by omega) (by decide)) (by omega) ?_
  refine zr_s0 rfl rfl rfl rfl ?_
  refine zr_s0 rfl rfl rfl rfl ?_
  refine zr_s0 rfl rfl rfl rfl ?_
  refine zr_s0 rfl rfl rfl rfl ?_
  refine zr_scr rfl hL (k := i + 2) (nI_at (c := 2) (by omega) (by decide)) (by omega) ?_
  refine zr_s0 rfl rfl rfl rfl ?_
  refine zr_s0 rfl rfl rfl rfl ?_
  refine zr_s0 rfl rfl rfl rfl ?_
  refine zr_s0 rfl rfl rfl rfl ?_
  refine zr_scr rfl hL (k := i + 3) (nI_at (c := 3) (by omega) (by decide)) (by omega) ?_
  refine zr_callV rfl rfl rfl rfl (by decide) h474 rfl ⟨Or.inl rfl, rfl, rfl, rfl, rfl, rfl, Nat.le_of_ble_eq_true rfl⟩ h2 ?_
  refine zr_s0 rfl rfl rfl rfl ?_
  refine zr_s0 rfl rfl rfl rfl ?_
  exact h
theorem law_c12 {X : zX} {call : zCall} {M M1 M2 : zM} {r r2 : Int32} {i : Nat} {f0 f1 : List Value} (hL : X.1 ≤ 2560) (hi : i + 5 ≤ X.1) (h0 : zob M 0 = some (.inr (11, f0))) (h474 : zob M1 474 = some (.inr (12, f1))) (h1 : call 266 [.ref 0, .int (X.2.1 (i + 1))] M = some (some (.int r), M1)) (h2 : call 472 [.ref 474, .int (X.2.1 (i + 1))] M1 = some (some (.int r2), M2)) {n : Nat} {res : Option (Option Value × zM)} (h : zrun X zmt call zlaw n 1188 (zls (nI i)) [] M2 = res) : zrun X zmt call zlaw (n + 17) 614 (zls (nI i)) [] M = res := by
  refine zr_s0 rfl rfl rfl rfl ?_
  refine zr_s0 rfl rfl rfl rfl ?_
  refine zr_s0 rfl rfl rfl rfl ?_
  refine zr_s0 rfl rfl rfl rfl ?_
  refine zr_s0 rfl rfl rfl rfl ?_
  refine zr_scr rfl hL (k := i + 1) (nI_at (c := 1) (by omega) (by decide)) (by omega) ?_
  refine zr_callV rfl rfl rfl rfl (by decide) h0 rfl ⟨Or.inl rfl, rfl, rfl, rfl, rfl, rfl, Nat.le_of_ble_eq_true rfl⟩ h1 ?_
  refine zr_s0 rfl rfl rfl rfl ?_
  refine zr_s0 rfl rfl rfl rfl ?_
  refine zr_s0 rfl rfl rfl rfl ?_
  refine zr_s0 rfl rfl rfl rfl ?_
  refine zr_s0 rfl rfl rfl rfl ?_
  refine zr_s0 rfl rfl rfl rfl ?_
  refine zr_scr rfl hL (k := i + 1) (nI_at (c := 1) (by omega) (by decide)) (by omega) ?_
  refine zr_callV rfl rfl rfl rfl (by decide) h474 rfl ⟨Or.inl rfl, rfl, rfl, rfl, rfl, rfl, Nat.le_of_ble_eq_true rfl⟩ h2 ?_
  refine zr_s0 rfl rfl rfl rfl ?_
  refine zr_s0 rfl rfl rfl rfl ?_
  exact h
theorem law_c13 {X : zX} {call : zCall} {M M1 M2 : zM} {r r2 : Int32} {i : Nat} {f0 f1 : List Value} (hL : X.1 ≤ 2560) (hi : i + 5 ≤ X.1) (h0 : zob M 0 = some (.inr (11, f0))) (h474 : zob M1 474 = some (.inr (12, f1))) (h1 : call 267 [.ref 0, .int (X.2.1 (i + 1)), .int (X.2.1 (i + 2)), .int (X.2.1 (i + 3))] M = some (some (.int r), M1)) (h2 : call 474 [.ref 474, .int (X.2.1 (i + 1)), .int (X.2.1 (i + 2)), .int (X.2.1 (i + 3))] M1 = some (some (.int r2), M2)) {n : Nat} {res : Option (Option Value × zM)} (h : zrun X zmt call zlaw n 1188 (zls (nI i)) [] M2 = res) : zrun X zmt call zlaw (n + 37) 637 (zls (nI i)) [] M = res := by
  refine zr_s0 rfl rfl rfl rfl ?_
  refine zr_s0 rfl rfl rfl rfl ?_
  refine zr_s0 rfl rfl rfl rfl ?_
  refine zr_s0 rfl rfl rfl rfl ?_
  refine zr_s0 rfl rfl rfl rfl ?_
  refine zr_scr rfl hL (k := i + 1) (nI_at (c := 1) (by omega) (by decide)) (by omega) ?_
  refine zr_s0 rfl rfl rfl rfl ?_
  refine zr_s0 rfl rfl rfl rfl ?_
  refine zr_s0 rfl rfl rfl rfl ?_
  refine zr_s0 rfl rfl rfl rfl ?_
  refine zr_scr rfl hL (k := i + 2) (nI_at (c := 2) (by omega) (by decide)) (by omega) ?_
  refine zr_s0 rfl rfl rfl rfl ?_
  refine zr_s0 rfl rfl rfl rfl ?_
  refine zr_s0 rfl rfl rfl rfl ?_
  refine zr_s0 rfl rfl rfl rfl ?_
  refine zr_scr rfl hL (k := i + 3) (nI_at (c := 3) (by omega) (by decide)) (by omega) ?_
  refine zr_callV rfl rfl rfl rfl (by decide) h0 rfl ⟨Or.inl rfl, rfl, rfl, rfl, rfl, rfl, Nat.le_of_ble_eq_true rfl⟩ h1 ?_
  refine zr_s0 rfl rfl rfl rfl ?_
  refine zr_s0 rfl rfl rfl rfl ?_
  refine zr_s0 rfl rfl rfl rfl ?_
  refine zr_s0 rfl rfl rfl rfl ?_
  refine zr_s0 rfl rfl rfl rfl ?_
  refine zr_s0 rfl rfl rfl rfl ?_
  refine zr_scr rfl hL (k := i + 1) (nI_at (c := 1) (by omega) (by decide)) (by omega) ?_
  refine zr_s0 rfl rfl rfl rfl ?_
  refine zr_s0 rfl rfl rfl rfl ?_
  refine zr_s0 rfl rfl rfl rfl ?_
  refine zr_s0 rfl rfl rfl rfl ?_
  refine zr_scr rfl hL (k := i + 2) (nI_at (c := 2) (by omega) (by decide)) (by omega) ?_
  refine zr_s0 rfl rfl rfl rfl ?_
  refine zr_s0 rfl rfl rfl rfl ?_
  refine zr_s0 rfl rfl rfl rfl ?_
  refine zr_s0 rfl rfl rfl rfl ?_
  refine zr_scr rfl hL (k := i + 3) (nI_at (c := 3) (by omega) (by decide)) (by omega) ?_
  refine zr_callV rfl rfl rfl rfl (by decide) h474 rfl ⟨Or.inl rfl, rfl, rfl, rfl, rfl, rfl, Nat.le_of_ble_eq_true rfl⟩ h2 ?_
  refine zr_s0 rfl rfl rfl rfl ?_
  refine zr_s0 rfl rfl rfl rfl ?_
  exact h
theorem law_c14 {X : zX} {call : zCall} {M M1 M2 : zM} {r r2 : Int32} {i : Nat} {f0 f1 : List Value} (hL : X.1 ≤ 2560) (hi : i + 5 ≤ X.1) (h0 : zob M 0 = some (.inr (11, f0))) (h474 : zob M1 474 = some (.inr (12, f1))) (h1 : call 268 [.ref 0, .int (X.2.1 (i + 1)), .int (X.2.1 (i + 2)), .int (X.2.1 (i + 3))] M = some (some (.int r), M1)) (h2 : call 475 [.ref 474, .int (X.2.1 (i + 1)), .int (X.2.1 (i + 2)), .int (X.2.1 (i + 3))] M1 = some (some (.int r2), M2)) {n : Nat} {res : Option (Option Value × zM)} (h : zrun X zmt call zlaw n 1188 (zls (nI i)) [] M2 = res) : zrun X zmt call zlaw (n + 37) 680 (zls (nI i)) [] M = res := by
  refine zr_s0 rfl rfl rfl rfl ?_
  refine zr_s0 rfl rfl rfl rfl ?_
  refine zr_s0 rfl rfl rfl rfl ?_
  refine zr_s0 rfl rfl rfl rfl ?_
  refine zr_s0 rfl rfl rfl rfl ?_
  refine zr_scr rfl hL (k := i + 1) (nI_at (c := 1) (by omega) (by decide)) (by omega) ?_
  refine zr_s0 rfl rfl rfl rfl ?_
  refine zr_s0 rfl rfl rfl rfl ?_
  refine zr_s0 rfl rfl rfl rfl ?_
  refine zr_s0 rfl rfl rfl rfl ?_
  refine zr_scr rfl hL (k := i + 2) (nI_at (c := 2) (by omega) (by decide)) (by omega) ?_
  refine zr_s0 rfl rfl rfl rfl ?_
  refine zr_s0 rfl rfl rfl rfl ?_
  refine zr_s0 rfl rfl rfl rfl ?_
  refine zr_s0 rfl rfl rfl rfl ?_
  refine zr_scr rfl hL (k := i + 3) (nI_at (c := 3) (by omega) (by decide)) (by omega) ?_
  refine zr_callV rfl rfl rfl rfl (by decide) h0 rfl ⟨Or.inl rfl, rfl, rfl, rfl, rfl, rfl, Nat.le_of_ble_eq_true rfl⟩ h1 ?_
  refine zr_s0 rfl rfl rfl rfl ?_
  refine zr_s0 rfl rfl rfl rfl ?_
  refine zr_s0 rfl rfl rfl rfl ?_
  refine zr_s0 rfl rfl rfl rfl ?_
  refine zr_s0 rfl rfl rfl rfl ?_
  refine zr_s0 rfl rfl rfl rfl ?_
  refine zr_scr rfl hL (k := i + 1) (nI_at (c := 1) (by omega) (by decide)) (by omega) ?_
  refine zr_s0 rfl rfl rfl rfl ?_
  refine zr_s0 rfl rfl rfl rfl ?_
  refine zr_s0 rfl rfl rfl rfl ?_
  refine zr_s0 rfl rfl rfl rfl ?_
  refine zr_scr rfl hL (k := i + 2) (nI_at (c := 2) (by omega) (by decide)) (by omega) ?_
  refine zr_s0 rfl rfl rfl rfl ?_
  refine zr_s0 rfl rfl rfl rfl ?_
  refine zr_s0 rfl rfl rfl rfl ?_
  refine zr_s0 rfl rfl rfl rfl ?_
  refine zr_scr rfl hL (k := i + 3) (nI_at (c := 3) (by omega) (by decide)) (by omega) ?_
  refine zr_callV rfl rfl rfl rfl (by decide) h474 rfl ⟨Or.inl rfl, rfl, rfl, rfl, rfl, rfl, Nat.le_of_ble_eq_true rfl⟩ h2 ?_
  refine zr_s0 rfl rfl rfl rfl ?_
  refine zr_s0 rfl rfl rfl rfl ?_
  exact h
theorem law_c15 {X : zX} {call : zCall} {M M1 M2 : zM} {r r2 : Int32} {i : Nat} {f0 f1 : List Value} (hL : X.1 ≤ 2560) (hi : i + 5 ≤ X.1) (h0 : zob M 0 = some (.inr (11, f0))) (h474 : zob M1 474 = some (.inr (12, f1))) (h1 : call 269 [.ref 0, .int (X.2.1 (i + 1)), .int (X.2.1 (i + 2)), .int (X.2.1 (i + 3))] M = some (some (.int r), M1)) (h2 : call 476 [.ref 474, .int (X.2.1 (i + 1)), .int (X.2.1 (i + 2)), .int (X.2.1 (i + 3))] M1 = some (some (.int r2), M2)) {n : Nat} {res : Option (Option Value × zM)} (h : zrun X zmt call zlaw n 1188 (zls (nI i)) [] M2 = res) : zrun X zmt call zlaw (n + 37) 723 (zls (nI i)) [] M = res := by
  refine zr_s0 rfl rfl rfl rfl ?_
  refine zr_s0 rfl rfl rfl rfl ?_
  refine zr_s0 rfl rfl rfl rfl ?_
  refine zr_s0 rfl rfl rfl rfl ?_
  refine zr_s0 rfl rfl rfl rfl ?_
  refine zr_scr rfl hL (k := i + 1) (nI_at (c := 1) (by omega) (by decide)) (by omega) ?_
  refine zr_s0 rfl rfl rfl rfl ?_
  refine zr_s0 rfl rfl rfl rfl ?_
  refine zr_s0 rfl rfl rfl rfl ?_
  refine zr_s0 rfl rfl rfl rfl ?_
  refine zr_scr rfl hL (k := i + 2) (nI_at (c := 2) (by omega) (by decide)) (by omega) ?_
  refine zr_s0 rfl rfl rfl rfl ?_
  refine zr_s0 rfl rfl rfl rfl ?_
  refine zr_s0 rfl rfl rfl rfl ?_
  refine zr_s0 rfl rfl rfl rfl ?_
  refine zr_scr rfl hL (k := i + 3) (nI_at (c := 3) (by omega) (by decide)) (by omega) ?_
  refine zr_callV rfl rfl rfl rfl (by decide) h0 rfl ⟨Or.inl rfl, rfl, rfl, rfl, rfl, rfl, Nat.le_of_ble_eq_true rfl⟩ h1 ?_
  refine zr_s0 rfl rfl rfl rfl ?_
  refine zr_s0 rfl rfl rfl rfl ?_
  refine zr_s0 rfl rfl rfl rfl ?_
  refine zr_s0 rfl rfl rfl rfl ?_
  refine zr_s0 rfl rfl rfl rfl ?_
  refine zr_s0 rfl rfl rfl rfl ?_
  refine zr_scr rfl hL (k := i + 1) (nI_at (c := 1) (by omega) (by decide)) (by omega) ?_
  refine zr_s0 rfl rfl rfl rfl ?_
  refine zr_s0 rfl rfl rfl rfl ?_
  refine zr_s0 rfl rfl rfl rfl ?_
  refine zr_s0 rfl rfl rfl rfl ?_
  refine zr_scr rfl hL (k := i + 2) (nI_at (c := 2) (by omega) (by decide)) (by omega) ?_
  refine zr_s0 rfl rfl rfl rfl ?_
  refine zr_s0 rfl rfl rfl rfl ?_
  refine zr_s0 rfl rfl rfl rfl ?_
  refine zr_s0 rfl rfl rfl rfl ?_
  refine zr_scr rfl hL (k := i + 3) (nI_at (c := 3) (by omega) (by decide)) (by omega) ?_
  refine zr_callV rfl rfl rfl rfl (by decide) h474 rfl ⟨Or.inl rfl, rfl, rfl, rfl, rfl, rfl, Nat.le_of_ble_eq_true rfl⟩ h2 ?_
  refine zr_s0 rfl rfl rfl rfl ?_
  refine zr_s0 rfl rfl rfl rfl ?_
  exact h
theorem law_c16 {X : zX} {call : zCall} {M M1 M2 : zM} {r r2 : Int32} {i : Nat} {f0 f1 : List Value} (hL : X.1 ≤ 2560) (hi : i + 5 ≤ X.1) (h0 : zob M 0 = some (.inr (11, f0))) (h474 : zob M1 474 = some (.inr (12, f1))) (h1 : call 270 [.ref 0, .int (X.2.1 (i + 1)), .int (X.2.1 (i + 2))] M = some (some (.int r), M1)) (h2 : call 478 [.ref 474, .int (X.2.1 (i + 1)), .int (X.2.1 (i + 2))] M1 = some (some (.int r2), M2)) {n : Nat} {res : Option (Option Value × zM)} (h : zrun X zmt call zlaw n 1188 (zls (nI i)) [] M2 = res) : zrun X zmt call zlaw (n + 27) 766 (zls (nI i)) [] M = res := by
  refine zr_s0 rfl rfl rfl rfl ?_
  refine zr_s0 rfl rfl rfl rfl ?_
  refine zr_s0 rfl rfl rfl rfl ?_
  refine zr_s0 rfl rfl rfl rfl ?_
  refine zr_s0 rfl rfl rfl rfl ?_
  refine zr_scr rfl hL (k := i + 1) (nI_at (c := 1) (by omega) (by decide)) (by omega) ?_
  refine zr_s0 rfl rfl rfl rfl ?_
  refine zr_s0 rfl rfl rfl rfl ?_
  refine zr_s0 rfl rfl rfl rfl ?_
  refine zr_s0 rfl rfl rfl rfl ?_
  refine zr_scr rfl hL (k := i + 2) (nI_at (c := 2) (by omega) (by decide)) (by omega) ?_
  refine zr_callV rfl rfl rfl rfl (by decide) h0 rfl ⟨Or.inl rfl, rfl, rfl, rfl, rfl, rfl, Nat.le_of_ble_eq_true rfl⟩ h1 ?_
  refine zr_s0 rfl rfl rfl rfl ?_
  refine zr_s0 rfl rfl rfl rfl ?_
  refine zr_s0 rfl rfl rfl rfl ?_
  refine zr_s0 rfl rfl rfl rfl ?_
  refine zr_s0 rfl rfl rfl rfl ?_
  refine zr_s0 rfl rfl rfl rfl ?_
  refine zr_scr rfl hL (k := i + 1) (nI_at (c := 1) (by omega) (by decide)) (by omega) ?_
  refine zr_s0 rfl rfl rfl rfl ?_
  refine zr_s0 rfl rfl rfl rfl ?_
  refine zr_s0 rfl rfl rfl rfl ?_
  refine zr_s0 rfl rfl rfl rfl ?_
  refine zr_scr rfl hL (k := i + 2) (nI_at (c := 2) (by omega) (by decide)) (by omega) ?_
  refine zr_callV rfl rfl rfl rfl (by decide) h474 rfl ⟨Or.inl rfl, rfl, rfl, rfl, rfl, rfl, Nat.le_of_ble_eq_true rfl⟩ h2 ?_
  refine zr_s0 rfl rfl rfl rfl ?_
  refine zr_s0 rfl rfl rfl rfl ?_
  exact h
theorem law_c17 {X : zX} {call : zCall} {M M1 M2 : zM} {r r2 : Int32} {i : Nat} {f0 f1 : List Value} (hL : X.1 ≤ 2560) (hi : i + 5 ≤ X.1) (h0 : zob M 0 = some (.inr (11, f0))) (h474 : zob M1 474 = some (.inr (12, f1))) (h1 : call 271 [.ref 0, .int (X.2.1 (i + 1)), .int (X.2.1 (i + 2)), .int (X.2.1 (i + 3))] M = some (some (.int r), M1)) (h2 : call 479 [.ref 474, .int (X.2.1 (i + 1)), .int (X.2.1 (i + 2)), .int (X.2.1 (i + 3))] M1 = some (some (.int r2), M2)) {n : Nat} {res : Option (Option Value × zM)} (h : zrun X zmt call zlaw n 1188 (zls (nI i)) [] M2 = res) : zrun X zmt call zlaw (n + 37) 799 (zls (nI i)) [] M = res := by
  refine zr_s0 rfl rfl rfl rfl ?_
  refine zr_s0 rfl rfl rfl rfl ?_
  refine zr_s0 rfl rfl rfl rfl ?_
  refine zr_s0 rfl rfl rfl rfl ?_
  refine zr_s0 rfl rfl rfl rfl ?_
  refine zr_scr rfl hL (k := i + 1) (nI_at (c := 1) (by omega) (by decide)) (by omega) ?_
  refine zr_s0 rfl rfl rfl rfl ?_
  refine zr_s0 rfl rfl rfl rfl ?_
  refine zr_s0 rfl rfl rfl rfl ?_
  refine zr_s0 rfl rfl rfl rfl ?_
  refine zr_scr rfl hL (k := i + 2) (nI_at (c := 2) (by omega) (by decide)) (by omega) ?_
  refine zr_s0 rfl rfl rfl rfl ?_
  refine zr_s0 rfl rfl rfl rfl ?_
  refine zr_s0 rfl rfl rfl rfl ?_
  refine zr_s0 rfl rfl rfl rfl ?_
  refine zr_scr rfl hL (k := i + 3) (nI_at (c := 3) (by omega) (by decide)) (by omega) ?_
  refine zr_callV rfl rfl rfl rfl (by decide) h0 rfl ⟨Or.inl rfl, rfl, rfl, rfl, rfl, rfl, Nat.le_of_ble_eq_true rfl⟩ h1 ?_
  refine zr_s0 rfl rfl rfl rfl ?_
  refine zr_s0 rfl rfl rfl rfl ?_
  refine zr_s0 rfl rfl rfl rfl ?_
  refine zr_s0 rfl rfl rfl rfl ?_
  refine zr_s0 rfl rfl rfl rfl ?_
  refine zr_s0 rfl rfl rfl rfl ?_
  refine zr_scr rfl hL (k := i + 1) (nI_at (c := 1) (by omega) (by decide)) (by omega) ?_
  refine zr_s0 rfl rfl rfl rfl ?_
  refine zr_s0 rfl rfl rfl rfl ?_
  refine zr_s0 rfl rfl rfl rfl ?_
  refine zr_s0 rfl rfl rfl rfl ?_
  refine zr_scr rfl hL (k := i + 2) (nI_at (c := 2) (by omega) (by decide)) (by omega) ?_
  refine zr_s0 rfl rfl rfl rfl ?_
  refine zr_s0 rfl rfl rfl rfl ?_
  refine zr_s0 rfl rfl rfl rfl ?_
  refine zr_s0 rfl rfl rfl rfl ?_
  refine zr_scr rfl hL (k := i + 3) (nI_at (c := 3) (by omega) (by decide)) (by omega) ?_
  refine zr_callV rfl rfl rfl rfl (by decide) h474 rfl ⟨Or.inl rfl, rfl, rfl, rfl, rfl, rfl, Nat.le_of_ble_eq_true rfl⟩ h2 ?_
  refine zr_s0 rfl rfl rfl rfl ?_
  refine zr_s0 rfl rfl rfl rfl ?_
  exact h
theorem law_c18 {X : zX} {call : zCall} {M M1 M2 : zM} {r r2 : Int32} {i : Nat} {f0 f1 : List Value} (hL : X.1 ≤ 2560) (hi : i + 5 ≤ X.1) (h0 : zob M 0 = some (.inr (11, f0))) (h474 : zob M1 474 = some (.inr (12, f1))) (h1 : call 272 [.ref 0, .int (X.2.1 (i + 1)), .int (X.2.1 (i + 2))] M = some (some (.int r), M1)) (h2 : call 480 [.ref 474, .int (X.2.1 (i + 1)), .int (X.2.1 (i + 2))] M1 = some (some (.int r2), M2)) {n : Nat} {res : Option (Option Value × zM)} (h : zrun X zmt call zlaw n 1188 (zls (nI i)) [] M2 = res) : zrun X zmt call zlaw (n + 27) 842 (zls (nI i)) [] M = res := by
  refine zr_s0 rfl rfl rfl rfl ?_
  refine zr_s0 rfl rfl rfl rfl ?_
  refine zr_s0 rfl rfl rfl rfl ?_
  refine zr_s0 rfl rfl rfl rfl ?_
  refine zr_s0 rfl rfl rfl rfl ?_
  refine zr_scr rfl hL (k := i + 1) (nI_at (c := 1) (by omega) (by decide)) (by omega) ?_
  refine zr_s0 rfl rfl rfl rfl ?_
  refine zr_s0 rfl rfl rfl rfl ?_
  refine zr_s0 rfl rfl rfl rfl ?_
  refine zr_s0 rfl rfl rfl rfl ?_
  refine zr_scr rfl hL (k := i + 2) (nI_at (c := 2) (by omega) (by decide)) (by omega) ?_
  refine zr_callV rfl rfl rfl rfl (by decide) h0 rfl ⟨Or.inl rfl, rfl, rfl, rfl, rfl, rfl, Nat.le_of_ble_eq_true rfl⟩ h1 ?_
  refine zr_s0 rfl rfl rfl rfl ?_
  refine zr_s0 rfl rfl rfl rfl ?_
  refine zr_s0 rfl rfl rfl rfl ?_
  refine zr_s0 rfl rfl rfl rfl ?_
  refine zr_s0 rfl rfl rfl rfl ?_
  refine zr_s0 rfl rfl rfl rfl ?_
  refine zr_scr rfl hL (k := i + 1) (nI_at (c := 1) (by omega) (by decide)) (by omega) ?_
  refine zr_s0 rfl rfl rfl rfl ?_
  refine zr_s0 rfl rfl rfl rfl ?_
  refine zr_s0 rfl rfl rfl rfl ?_
  refine zr_s0 rfl rfl rfl rfl ?_
  refine zr_scr rfl hL (k := i + 2) (nI_at (c := 2) (by omega) (by decide)) (by omega) ?_
  refine zr_callV rfl rfl rfl rfl (by decide) h474 rfl ⟨Or.inl rfl, rfl, rfl, rfl, rfl, rfl, Nat.le_of_ble_eq_true rfl⟩ h2 ?_
  refine zr_s0 rfl rfl rfl rfl ?_
  refine zr_s0 rfl rfl rfl rfl ?_
  exact h
theorem law_c19 {X : zX} {call : zCall} {M M1 M2 : zM} {r r2 : Int32} {i : Nat} {f0 f1 : List Value} (hL : X.1 ≤ 2560) (hi : i + 5 ≤ X.1) (h0 : zob M 0 = some (.inr (11, f0))) (h474 : zob M1 474 = some (.inr (12, f1))) (h1 : call 273 [.ref 0, .int (X.2.1 (i + 1)), .int (X.2.1 (i + 2))] M = some (some (.int r), M1)) (h2 : call 481 [.ref 474, .int (X.2.1 (i + 1)), .int (X.2.1 (i + 2))] M1 = some (some (.int r2), M2)) {n : Nat} {res : Option (Option Value × zM)} (h : zrun X zmt call zlaw n 1188 (zls (nI i)) [] M2 = res) : zrun X zmt call zlaw (n + 27) 875 (zls (nI i)) [] M = res := by
  refine zr_s0 rfl rfl rfl rfl ?_
  refine zr_s0 rfl rfl rfl rfl ?_
  refine zr_s0 rfl rfl rfl rfl ?_
  refine zr_s0 rfl rfl rfl rfl ?_
  refine zr_s0 rfl rfl rfl rfl ?_
  refine zr_scr rfl hL (k := i + 1) (nI_at (c := 1) (by omega) (by decide)) (by omega) ?_
  refine zr_s0 rfl rfl rfl rfl ?_
  refine zr_s0 rfl rfl rfl rfl ?_
  refine zr_s0 rfl rfl rfl rfl ?_
  refine zr_s0 rfl rfl rfl rfl ?_
  refine zr_scr rfl hL (k := i + 2) (nI_at (c := 2) (by omega) (by decide)) (by omega) ?_
  refine zr_callV rfl rfl rfl rfl (by decide) h0 rfl ⟨Or.inl rfl, rfl, rfl, rfl, rfl, rfl, Nat.le_of_ble_eq_true rfl⟩ h1 ?_
  refine zr_s0 rfl rfl rfl rfl ?_
  refine zr_s0 rfl rfl rfl rfl ?_
  refine zr_s0 rfl rfl rfl rfl ?_
  refine zr_s0 rfl rfl rfl rfl ?_
  refine zr_s0 rfl rfl rfl rfl ?_
  refine zr_s0 rfl rfl rfl rfl ?_
  refine zr_scr rfl hL (k := i + 1) (nI_at (c := 1) (by omega) (by decide)) (by omega) ?_
  refine zr_s0 rfl rfl rfl rfl ?_
  refine zr_s0 rfl rfl rfl rfl ?_
  refine zr_s0 rfl rfl rfl rfl ?_
  refine zr_s0 rfl rfl rfl rfl ?_
  refine zr_scr rfl hL (k := i + 2) (nI_at (c := 2) (by omega) (by decide)) (by omega) ?_
  refine zr_callV rfl rfl rfl rfl (by decide) h474 rfl ⟨Or.inl rfl, rfl, rfl, rfl, rfl, rfl, Nat.le_of_ble_eq_true rfl⟩ h2 ?_
  refine zr_s0 rfl rfl rfl rfl ?_
  refine zr_s0 rfl rfl rfl rfl ?_
  exact h
theorem law_c20 {X : zX} {call : zCall} {M M1 M2 : zM} {r r2 : Int32} {i : Nat} {f0 f1 : List Value} (hL : X.1 ≤ 2560) (hi : i + 5 ≤ X.1) (h0 : zob M 0 = some (.inr (11, f0))) (h474 : zob M1 474 = some (.inr (12, f1))) (h1 : call 274 [.ref 0, .int (X.2.1 (i + 1))] M = some (some (.int r), M1)) (h2 : call 482 [.ref 474, .int (X.2.1 (i + 1))] M1 = some (some (.int r2), M2)) {n : Nat} {res : Option (Option Value × zM)} (h : zrun X zmt call zlaw n 1188 (zls (nI i)) [] M2 = res) : zrun X zmt call zlaw (n + 17) 908 (zls (nI i)) [] M = res := by
  refine zr_s0 rfl rfl rfl rfl ?_
  refine zr_s0 rfl rfl rfl rfl ?_
  refine zr_s0 rfl rfl rfl rfl ?_
  refine zr_s0 rfl rfl rfl rfl ?_
  refine zr_s0 rfl rfl rfl rfl ?_
  refine zr_scr rfl hL (k := i + 1) (nI_at (c := 1) (by omega) (by decide)) (by omega) ?_
  refine zr_callV rfl rfl rfl rfl (by decide) h0 rfl ⟨Or.inl rfl, rfl, rfl, rfl, rfl, rfl, Nat.le_of_ble_eq_true rfl⟩ h1 ?_
  refine zr_s0 rfl rfl rfl rfl ?_
  refine zr_s0 rfl rfl rfl rfl ?_
  refine zr_s0 rfl rfl rfl rfl ?_
  refine zr_s0 rfl rfl rfl rfl ?_
  refine zr_s0 rfl rfl rfl rfl ?_
  refine zr_s0 rfl rfl rfl rfl ?_
  refine zr_scr rfl hL (k := i + 1) (nI_at (c := 1) (by omega) (by decide)) (by omega) ?_
  refine zr_callV rfl rfl rfl rfl (by decide) h474 rfl ⟨Or.inl rfl, rfl, rfl, rfl, rfl, rfl, Nat.le_of_ble_eq_true rfl⟩ h2 ?_
  refine zr_s0 rfl rfl rfl rfl ?_
  refine zr_s0 rfl rfl rfl rfl ?_
  exact h
theorem law_c21 {X : zX} {call : zCall} {M M1 M2 : zM} {r r2 : Int32} {i : Nat} {f0 f1 : List Value} (hL : X.1 ≤ 2560) (hi : i + 5 ≤ X.1) (h0 : zob M 0 = some (.inr (11, f0))) (h474 : zob M1 474 = some (.inr (12, f1))) (h1 : call 275 [.ref 0, .int (X.2.1 (i + 1))] M = some (some (.int r), M1)) (h2 : call 484 [.ref 474, .int (X.2.1 (i + 1))] M1 = some (some (.int r2), M2)) {n : Nat} {res : Option (Option Value × zM)} (h : zrun X zmt call zlaw n 1188 (zls (nI i)) [] M2 = res) : zrun X zmt call zlaw (n + 17) 931 (zls (nI i)) [] M = res := by
  refine zr_s0 rfl rfl rfl rfl ?_
  refine zr_s0 rfl rfl rfl rfl ?_
  refine zr_s0 rfl rfl rfl rfl ?_
  refine zr_s0 rfl rfl rfl rfl ?_
  refine zr_s0 rfl rfl rfl rfl ?_
  refine zr_scr rfl hL (k := i + 1) (nI_at (c := 1) (by omega) (by decide)) (by omega) ?_
  refine zr_callV rfl rfl rfl rfl (by decide) h0 rfl ⟨Or.inl rfl, rfl, rfl, rfl, rfl, rfl, Nat.le_of_ble_eq_true rfl⟩ h1 ?_
  refine zr_s0 rfl rfl rfl rfl ?_
  refine zr_s0 rfl rfl rfl rfl ?_
  refine zr_s0 rfl rfl rfl rfl ?_
  refine zr_s0 rfl rfl rfl rfl ?_
  refine zr_s0 rfl rfl rfl rfl ?_
  refine zr_s0 rfl rfl rfl rfl ?_
  refine zr_scr rfl hL (k := i + 1) (nI_at (c := 1) (by omega) (by decide)) (by omega) ?_
  refine zr_callV rfl rfl rfl rfl (by decide) h474 rfl ⟨Or.inl rfl, rfl, rfl, rfl, rfl, rfl, Nat.le_of_ble_eq_true rfl⟩ h2 ?_
  refine zr_s0 rfl rfl rfl rfl ?_
  refine zr_s0 rfl rfl rfl rfl ?_
  exact h
theorem law_c22 {X : zX} {call : zCall} {M M1 M2 : zM} {r r2 : Int32} {i : Nat} {f0 f1 : List Value} (hL : X.1 ≤ 2560) (hi : i + 5 ≤ X.1) (h0 : zob M 0 = some (.inr (11, f0))) (h474 : zob M1 474 = some (.inr (12, f1))) (h1 : call 276 [.ref 0, .int (X.2.1 (i + 1))] M = some (some (.int r), M1)) (h2 : call 485 [.ref 474, .int (X.2.1 (i + 1))] M1 = some (some (.int r2), M2)) {n : Nat} {res : Option (Option Value × zM)} (h : zrun X zmt call zlaw n 1188 (zls (nI i)) [] M2 = res) : zrun X zmt call zlaw (n + 17) 954 (zls (nI i)) [] M = res := by
  refine zr_s0 rfl rfl rfl rfl ?_
  refine zr_s0 rfl rfl rfl rfl ?_
  refine zr_s0 rfl rfl rfl rfl ?_
  refine zr_s0 rfl rfl rfl rfl ?_
  refine zr_s0 rfl rfl rfl rfl ?_
  refine zr_scr rfl hL (k := i + 1) (nI_at (c := 1) (by omega) (by decide)) (by omega) ?_
  refine zr_callV rfl rfl rfl rfl (by decide) h0 rfl ⟨Or.inl rfl, rfl, rfl, rfl, rfl, rfl, Nat.le_of_ble_eq_true rfl⟩ h1 ?_
  refine zr_s0 rfl rfl rfl rfl ?_
  refine zr_s0 rfl rfl rfl rfl ?_
  refine zr_s0 rfl rfl rfl rfl ?_
  refine zr_s0 rfl rfl rfl rfl ?_
  refine zr_s0 rfl rfl rfl rfl ?_
  refine zr_s0 rfl rfl rfl rfl ?_
  refine zr_scr rfl hL (k := i + 1) (nI_at (c := 1) (by omega) (by decide)) (by omega) ?_
  refine zr_callV rfl rfl rfl rfl (by decide) h474 rfl ⟨Or.inl rfl, rfl, rfl, rfl, rfl, rfl, Nat.le_of_ble_eq_true rfl⟩ h2 ?_
  refine zr_s0 rfl rfl rfl rfl ?_
  refine zr_s0 rfl rfl rfl rfl ?_
  exact h
theorem law_c23 {X : zX} {call : zCall} {M M1 M2 : zM} {r r2 : Int32} {i : Nat} {f0 f1 : List Value} (hL : X.1 ≤ 2560) (hi : i + 5 ≤ X.1) (h0 : zob M 0 = some (.inr (11, f0))) (h474 : zob M1 474 = some (.inr (12, f1))) (h1 : call 277 [.ref 0, .int (X.2.1 (i + 1))] M = some (some (.int r), M1)) (h2 : call 486 [.ref 474, .int (X.2.1 (i + 1))] M1 = some (some (.int r2), M2)) {n : Nat} {res : Option (Option Value × zM)} (h : zrun X zmt call zlaw n 1188 (zls (nI i)) [] M2 = res) : zrun X zmt call zlaw (n + 17) 977 (zls (nI i)) [] M = res := by
  refine zr_s0 rfl rfl rfl rfl ?_
  refine zr_s0 rfl rfl rfl rfl ?_
  refine zr_s0 rfl rfl rfl rfl ?_
  refine zr_s0 rfl rfl rfl rfl ?_
  refine zr_s0 rfl rfl rfl rfl ?_
  refine zr_scr rfl hL (k := i + 1) (nI_at (c := 1) (by omega) (by decide)) (by omega) ?_
  refine zr_callV rfl rfl rfl rfl (by decide) h0 rfl ⟨Or.inl rfl, rfl, rfl, rfl, rfl, rfl, Nat.le_of_ble_eq_true rfl⟩ h1 ?_
  refine zr_s0 rfl rfl rfl rfl ?_
  refine zr_s0 rfl rfl rfl rfl ?_
  refine zr_s0 rfl rfl rfl rfl ?_
  refine zr_s0 rfl rfl rfl rfl ?_
  refine zr_s0 rfl rfl rfl rfl ?_
  refine zr_s0 rfl rfl rfl rfl ?_
  refine zr_scr rfl hL (k := i + 1) (nI_at (c := 1) (by omega) (by decide)) (by omega) ?_
  refine zr_callV rfl rfl rfl rfl (by decide) h474 rfl ⟨Or.inl rfl, rfl, rfl, rfl, rfl, rfl, Nat.le_of_ble_eq_true rfl⟩ h2 ?_
  refine zr_s0 rfl rfl rfl rfl ?_
  refine zr_s0 rfl rfl rfl rfl ?_
  exact h
theorem law_c24 {X : zX} {call : zCall} {M M1 M2 : zM} {r r2 : Int32} {i : Nat} {f0 f1 : List Value} (hL : X.1 ≤ 2560) (hi : i + 5 ≤ X.1) (h0 : zob M 0 = some (.inr (11, f0))) (h474 : zob M1 474 = some (.inr (12, f1))) (h1 : call 278 [.ref 0, .int (X.2.1 (i + 1))] M = some (some (.int r), M1)) (h2 : call 487 [.ref 474, .int (X.2.1 (i + 1))] M1 = some (some (.int r2), M2)) {n : Nat} {res : Option (Option Value × zM)} (h : zrun X zmt call zlaw n 1188 (zls (nI i)) [] M2 = res) : zrun X zmt call zlaw (n + 17) 1000 (zls (nI i)) [] M = res := by
  refine zr_s0 rfl rfl rfl rfl ?_
  refine zr_s0 rfl rfl rfl rfl ?_
  refine zr_s0 rfl rfl rfl rfl ?_
  refine zr_s0 rfl rfl rfl rfl ?_
  refine zr_s0 rfl rfl rfl rfl ?_
  refine zr_scr rfl hL (k := i + 1) (nI_at (c := 1) (by omega) (by decide)) (by omega) ?_
  refine zr_callV rfl rfl rfl rfl (by decide) h0 rfl ⟨Or.inl rfl, rfl, rfl, rfl, rfl, rfl, Nat.le_of_ble_eq_true rfl⟩ h1 ?_
  refine zr_s0 rfl rfl rfl rfl ?_
  refine zr_s0 rfl rfl rfl rfl ?_
  refine zr_s0 rfl rfl rfl rfl ?_
  refine zr_s0 rfl rfl rfl rfl ?_
  refine zr_s0 rfl rfl rfl rfl ?_
  refine zr_s0 rfl rfl rfl rfl ?_
  refine zr_scr rfl hL (k := i + 1) (nI_at (c := 1) (by omega) (by decide)) (by omega) ?_
  refine zr_callV rfl rfl rfl rfl (by decide) h474 rfl ⟨Or.inl rfl, rfl, rfl, rfl, rfl, rfl, Nat.le_of_ble_eq_true rfl⟩ h2 ?_
  refine zr_s0 rfl rfl rfl rfl ?_
  refine zr_s0 rfl rfl rfl rfl ?_
  exact h
theorem law_c25 {X : zX} {call : zCall} {M M1 M2 : zM} {r r2 : Int32} {i : Nat} {f0 f1 : List Value} (hL : X.1 ≤ 2560) (hi : i + 5 ≤ X.1) (h0 : zob M 0 = some (.inr (11, f0))) (h474 : zob M1 474 = some (.inr (12, f1))) (h1 : call 279 [.ref 0, .int (X.2.1 (i + 1))] M = some (some (.int r), M1)) (h2 : call 488 [.ref 474, .int (X.2.1 (i + 1))] M1 = some (some (.int r2), M2)) {n : Nat} {res : Option (Option Value × zM)} (h : zrun X zmt call zlaw n 1188 (zls (nI i)) [] M2 = res) : zrun X zmt call zlaw (n + 17) 1023 (zls (nI i)) [] M = res := by
  refine zr_s0 rfl rfl rfl rfl ?_
  refine zr_s0 rfl rfl rfl rfl ?_
  refine zr_s0 rfl rfl rfl rfl ?_
  refine zr_s0 rfl rfl rfl rfl ?_
  refine zr_s0 rfl rfl rfl rfl ?_
  refine zr_scr rfl hL (k := i + 1) (nI_at (c := 1) (by omega) (by decide)) (by omega) ?_
  refine zr_callV rfl rfl rfl rfl (by decide) h0 rfl ⟨Or.inl rfl, rfl, rfl, rfl, rfl, rfl, Nat.le_of_ble_eq_true rfl⟩ h1 ?_
  refine zr_s0 rfl rfl rfl rfl ?_
  refine zr_s0 rfl rfl rfl rfl ?_
  refine zr_s0 rfl rfl rfl rfl ?_
  refine zr_s0 rfl rfl rfl rfl ?_
  refine zr_s0 rfl rfl rfl rfl ?_
  refine zr_s0 rfl rfl rfl rfl ?_
  refine zr_scr rfl hL (k := i + 1) (nI_at (c := 1) (by omega) (by decide)) (by omega) ?_
  refine zr_callV rfl rfl rfl rfl (by decide) h474 rfl ⟨Or.inl rfl, rfl, rfl, rfl, rfl, rfl, Nat.le_of_ble_eq_true rfl⟩ h2 ?_
  refine zr_s0 rfl rfl rfl rfl ?_
  refine zr_s0 rfl rfl rfl rfl ?_
  exact h
theorem law_c26 {X : zX} {call : zCall} {M M1 M2 : zM} {r r2 : Int32} {i : Nat} {f0 f1 : List Value} (hL : X.1 ≤ 2560) (hi : i + 5 ≤ X.1) (h0 : zob M 0 = some (.inr (11, f0))) (h474 : zob M1 474 = some (.inr (12, f1))) (h1 : call 280 [.ref 0, .int (X.2.1 (i + 1)), .int (X.2.1 (i + 2)), .int (X.2.1 (i + 3))] M = some (some (.int r), M1)) (h2 : call 489 [.ref 474, .int (X.2.1 (i + 1)), .int (X.2.1 (i + 2)), .int (X.2.1 (i + 3))] M1 = some (some (.int r2), M2)) {n : Nat} {res : Option (Option Value × zM)} (h : zrun X zmt call zlaw n 1188 (zls (nI i)) [] M2 = res) : zrun X zmt call zlaw (n + 37) 1046 (zls (nI i)) [] M = res := by
  refine zr_s0 rfl rfl rfl rfl ?_
  refine zr_s0 rfl rfl rfl rfl ?_
  refine zr_s0 rfl rfl rfl rfl ?_
  refine zr_s0 rfl rfl rfl rfl ?_
  refine zr_s0 rfl rfl rfl rfl ?_
  refine zr_scr rfl hL (k := i + 1) (nI_at (c := 1) (by omega) (by decide)) (by omega) ?_
  refine zr_s0 rfl rfl rfl rfl ?_
  refine zr_s0 rfl rfl rfl rfl ?_
  refine zr_s0 rfl rfl rfl rfl ?_
  refine zr_s0 rfl rfl rfl rfl ?_
  refine zr_scr rfl hL (k := i + 2) (nI_at (c := 2) (by omega) (by decide)) (by omega) ?_
  refine zr_s0 rfl rfl rfl rfl ?_
  refine zr_s0 rfl rfl rfl rfl ?_
  refine zr_s0 rfl rfl rfl rfl ?_
  refine zr_s0 rfl rfl rfl rfl ?_
  refine zr_scr rfl hL (k := i + 3) (nI_at (c := 3) (by omega) (by decide)) (by omega) ?_
  refine zr_callV rfl rfl rfl rfl (by decide) h0 rfl ⟨Or.inl rfl, rfl, rfl, rfl, rfl, rfl, Nat.le_of_ble_eq_true rfl⟩ h1 ?_
  refine zr_s0 rfl rfl rfl rfl ?_
  refine zr_s0 rfl rfl rfl rfl ?_
  refine zr_s0 rfl rfl rfl rfl ?_
  refine zr_s0 rfl rfl rfl rfl ?_
  refine zr_s0 rfl rfl rfl rfl ?_
  refine zr_s0 rfl rfl rfl rfl ?_
  refine zr_scr rfl hL (k := i + 1) (nI_at (c := 1) (by omega) (by decide)) (by omega) ?_
  refine zr_s0 rfl rfl rfl rfl ?_
  refine zr_s0 rfl rfl rfl rfl ?_
  refine zr_s0 rfl rfl rfl rfl ?_
  refine zr_s0 rfl rfl rfl rfl ?_
  refine zr_scr rfl hL (k := i + 2) (nI_at (c := 2) (by omega) (by decide)) (by omega) ?_
  refine zr_s0 rfl rfl rfl rfl ?_
  refine zr_s0 rfl rfl rfl rfl ?_
  refine zr_s0 rfl rfl rfl rfl ?_
  refine zr_s0 rfl rfl rfl rfl ?_
  refine zr_scr rfl hL (k := i + 3) (nI_at (c := 3) (by omega) (by decide)) (by omega) ?_
  refine zr_callV rfl rfl rfl rfl (by decide) h474 rfl ⟨Or.inl rfl, rfl, rfl, rfl, rfl, rfl, Nat.le_of_ble_eq_true rfl⟩ h2 ?_
  refine zr_s0 rfl rfl rfl rfl ?_
  refine zr_s0 rfl rfl rfl rfl ?_
  exact h
theorem law_c27 {X : zX} {call : zCall} {M M1 M2 : zM} {r r2 : Int32} {i : Nat} {f0 f1 : List Value} (hL : X.1 ≤ 2560) (hi : i + 5 ≤ X.1) (h0 : zob M 0 = some (.inr (11, f0))) (h474 : zob M1 474 = some (.inr (12, f1))) (h1 : call 281 [.ref 0, .int (X.2.1 (i + 1)), .int (X.2.1 (i + 2))] M = some (some (.int r), M1)) (h2 : call 491 [.ref 474, .int (X.2.1 (i + 1)), .int (X.2.1 (i + 2))] M1 = some (some (.int r2), M2)) {n : Nat} {res : Option (Option Value × zM)} (h : zrun X zmt call zlaw n 1188 (zls (nI i)) [] M2 = res) : zrun X zmt call zlaw (n + 27) 1089 (zls (nI i)) [] M = res := by
  refine zr_s0 rfl rfl rfl rfl ?_
  refine zr_s0 rfl rfl rfl rfl ?_
  refine zr_s0 rfl rfl rfl rfl ?_
  refine zr_s0 rfl rfl rfl rfl ?_
  refine zr_s0 rfl rfl rfl rfl ?_
  refine zr_scr rfl hL (k := i + 1) (nI_at (c := 1) (by omega) (by decide)) (by omega) ?_
  refine zr_s0 rfl rfl rfl rfl ?_
  refine zr_s0 rfl rfl rfl rfl ?_
  refine zr_s0 rfl rfl rfl rfl ?_
  refine zr_s0 rfl rfl rfl rfl ?_
  refine zr_scr rfl hL (k := i + 2) (nI_at (c := 2) (by omega) (by decide)) (by omega) ?_
  refine zr_callV rfl rfl rfl rfl (by decide) h0 rfl ⟨Or.inl rfl, rfl, rfl, rfl, rfl, rfl, Nat.le_of_ble_eq_true rfl⟩ h1 ?_
  refine zr_s0 rfl rfl rfl rfl ?_
  refine zr_s0 rfl rfl rfl rfl ?_
  refine zr_s0 rfl rfl rfl rfl ?_
  refine zr_s0 rfl rfl rfl rfl ?_
  refine zr_s0 rfl rfl rfl rfl ?_
  refine zr_s0 rfl rfl rfl rfl ?_
  refine zr_scr rfl hL (k := i + 1) (nI_at (c := 1) (by omega) (by decide)) (by omega) ?_
  refine zr_s0 rfl rfl rfl rfl ?_
  refine zr_s0 rfl rfl rfl rfl ?_
  refine zr_s0 rfl rfl rfl rfl ?_
  refine zr_s0 rfl rfl rfl rfl ?_
  refine zr_scr rfl hL (k := i + 2) (nI_at (c := 2) (by omega) (by decide)) (by omega) ?_
  refine zr_callV rfl rfl rfl rfl (by decide) h474 rfl ⟨Or.inl rfl, rfl, rfl, rfl, rfl, rfl, Nat.le_of_ble_eq_true rfl⟩ h2 ?_
  refine zr_s0 rfl rfl rfl rfl ?_
  refine zr_s0 rfl rfl rfl rfl ?_
  exact h
theorem law_c28 {X : zX} {call : zCall} {M M1 M2 : zM} {r r2 : Int32} {i : Nat} {f0 f1 : List Value} (hL : X.1 ≤ 2560) (hi : i + 5 ≤ X.1) (h0 : zob M 0 = some (.inr (11, f0))) (h474 : zob M1 474 = some (.inr (12, f1))) (h1 : call 282 [.ref 0, .int (X.2.1 (i + 1)), .int (X.2.1 (i + 2))] M = some (some (.int r), M1)) (h2 : call 492 [.ref 474, .int (X.2.1 (i + 1)), .int (X.2.1 (i + 2))] M1 = some (some (.int r2), M2)) {n : Nat} {res : Option (Option Value × zM)} (h : zrun X zmt call zlaw n 1188 (zls (nI i)) [] M2 = res) : zrun X zmt call zlaw (n + 27) 1122 (zls (nI i)) [] M = res := by
  refine zr_s0 rfl rfl rfl rfl ?_
  refine zr_s0 rfl rfl rfl rfl ?_
  refine zr_s0 rfl rfl rfl rfl ?_
  refine zr_s0 rfl rfl rfl rfl ?_
  refine zr_s0 rfl rfl rfl rfl ?_
  refine zr_scr rfl hL (k := i + 1) (nI_at (c := 1) (by omega) (by decide)) (by omega) ?_
  refine zr_s0 rfl rfl rfl rfl ?_
  refine zr_s0 rfl rfl rfl rfl ?_
  refine zr_s0 rfl rfl rfl rfl ?_
  refine zr_s0 rfl rfl rfl rfl ?_
  refine zr_scr rfl hL (k := i + 2) (nI_at (c := 2) (by omega) (by decide)) (by omega) ?_
  refine zr_callV rfl rfl rfl rfl (by decide) h0 rfl ⟨Or.inl rfl, rfl, rfl, rfl, rfl, rfl, Nat.le_of_ble_eq_true rfl⟩ h1 ?_
  refine zr_s0 rfl rfl rfl rfl ?_
  refine zr_s0 rfl rfl rfl rfl ?_
  refine zr_s0 rfl rfl rfl rfl ?_
  refine zr_s0 rfl rfl rfl rfl ?_
  refine zr_s0 rfl rfl rfl rfl ?_
  refine zr_s0 rfl rfl rfl rfl ?_
  refine zr_scr rfl hL (k := i + 1) (nI_at (c := 1) (by omega) (by decide)) (by omega) ?_
  refine zr_s0 rfl rfl rfl rfl ?_
  refine zr_s0 rfl rfl rfl rfl ?_
  refine zr_s0 rfl rfl rfl rfl ?_
  refine zr_s0 rfl rfl rfl rfl ?_
  refine zr_scr rfl hL (k := i + 2) (nI_at (c := 2) (by omega) (by decide)) (by omega) ?_
  refine zr_callV rfl rfl rfl rfl (by decide) h474 rfl ⟨Or.inl rfl, rfl, rfl, rfl, rfl, rfl, Nat.le_of_ble_eq_true rfl⟩ h2 ?_
  refine zr_s0 rfl rfl rfl rfl ?_
  refine zr_s0 rfl rfl rfl rfl ?_
  exact h
theorem law_c29 {X : zX} {call : zCall} {M M1 M2 : zM} {r r2 : Int32} {i : Nat} {f0 f1 : List Value} (hL : X.1 ≤ 2560) (hi : i + 5 ≤ X.1) (h0 : zob M 0 = some (.inr (11, f0))) (h474 : zob M1 474 = some (.inr (12, f1))) (h1 : call 283 [.ref 0, .int (X.2.1 (i + 1)), .int (X.2.1 (i + 2))] M = some (some (.int r), M1)) (h2 : call 494 [.ref 474, .int (X.2.1 (i + 1)), .int (X.2.1 (i + 2))] M1 = some (some (.int r2), M2)) {n : Nat} {res : Option (Option Value × zM)} (h : zrun X zmt call zlaw n 1188 (zls (nI i)) [] M2 = res) : zrun X zmt call zlaw (n + 27) 1155 (zls (nI i)) [] M = res := by
  refine zr_s0 rfl rfl rfl rfl ?_
  refine zr_s0 rfl rfl rfl rfl ?_
  refine zr_s0 rfl rfl rfl rfl ?_
  refine zr_s0 rfl rfl rfl rfl ?_
  refine zr_s0 rfl rfl rfl rfl ?_
  refine zr_scr rfl hL (k := i + 1) (nI_at (c := 1) (by omega) (by decide)) (by omega) ?_
  refine zr_s0 rfl rfl rfl rfl ?_
  refine zr_s0 rfl rfl rfl rfl ?_
  refine zr_s0 rfl rfl rfl rfl ?_
  refine zr_s0 rfl rfl rfl rfl ?_
  refine zr_scr rfl hL (k := i + 2) (nI_at (c := 2) (by omega) (by decide)) (by omega) ?_
  refine zr_callV rfl rfl rfl rfl (by decide) h0 rfl ⟨Or.inl rfl, rfl, rfl, rfl, rfl, rfl, Nat.le_of_ble_eq_true rfl⟩ h1 ?_
  refine zr_s0 rfl rfl rfl rfl ?_
  refine zr_s0 rfl rfl rfl rfl ?_
  refine zr_s0 rfl rfl rfl rfl ?_
  refine zr_s0 rfl rfl rfl rfl ?_
  refine zr_s0 rfl rfl rfl rfl ?_
  refine zr_s0 rfl rfl rfl rfl ?_
  refine zr_scr rfl hL (k := i + 1) (nI_at (c := 1) (by omega) (by decide)) (by omega) ?_
  refine zr_s0 rfl rfl rfl rfl ?_
  refine zr_s0 rfl rfl rfl rfl ?_
  refine zr_s0 rfl rfl rfl rfl ?_
  refine zr_s0 rfl rfl rfl rfl ?_
  refine zr_scr rfl hL (k := i + 2) (nI_at (c := 2) (by omega) (by decide)) (by omega) ?_
  refine zr_callV rfl rfl rfl rfl (by decide) h474 rfl ⟨Or.inl rfl, rfl, rfl, rfl, rfl, rfl, Nat.le_of_ble_eq_true rfl⟩ h2 ?_
  refine zr_s0 rfl rfl rfl rfl ?_
  refine zr_s0 rfl rfl rfl rfl ?_
  exact h
