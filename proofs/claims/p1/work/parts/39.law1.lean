/-! THE LAW over the evaluator -/
set_option maxRecDepth 100000 in
def zlawL : List (List (Option (Instr × Nat))) := [[some (.new 7, 3), none, none, some (.dup, 1), some (.invokespecial 9, 3), none, none, some (.astore_n 1, 1), some (.new 10, 3), none, none, some (.dup, 1), some (.invokespecial 12, 3), none, none, some (.astore_n 2, 1)], [some (.iconst 0, 1), some (.istore_n 3, 1), some (.iload_n 3, 1), some (.aload_n 0, 1), some (.arraylength, 1), some (.iconst 5, 1), some (.isub, 1), some (.if_icmp .gt 1171, 3), none, none, some (.aload_n 0, 1), some (.iload_n 3, 1), some (.iaload, 1), some (.bipush 31, 2), none, some (.iand, 1)], [some (.tableswitch 1156 0 29 #[136, 199, 212, 245, 278, 311, 344, 377, 410, 453, 506, 539, 582, 605, 648, 691, 734, 767, 810, 843, 876, 899, 922, 945, 968, 991, 1014, 1057, 1090, 1123], 136)], [], [], [], [], [], [], [], [none, none, none, none, none, none, none, none, some (.aload_n 1, 1), some (.aload_n 0, 1), some (.iload_n 3, 1), some (.iconst 1, 1), some (.iadd, 1), some (.iaload, 1), some (.i2l, 1), some (.bipush 32, 2)], [none, some (.lshl, 1), some (.aload_n 0, 1), some (.iload_n 3, 1), some (.iconst 2, 1), some (.iadd, 1), some (.iaload, 1), some (.i2l, 1), some (.ldc2_w 13, 3), none, none, some (.land, 1), some (.lor, 1), some (.aload_n 0, 1), some (.iload_n 3, 1), some (.iconst 3, 1)], [some (.iadd, 1), some (.iaload, 1), some (.invokevirtual 15, 3), none, none, some (.aload_n 2, 1), some (.aload_n 0, 1), some (.iload_n 3, 1), some (.iconst 1, 1), some (.iadd, 1), some (.iaload, 1), some (.i2l, 1), some (.bipush 32, 2), none, some (.lshl, 1), some (.aload_n 0, 1)], [some (.iload_n 3, 1), some (.iconst 2, 1), some (.iadd, 1), some (.iaload, 1), some (.i2l, 1), some (.ldc2_w 13, 3), none, none, some (.land, 1), some (.lor, 1), some (.aload_n 0, 1), some (.iload_n 3, 1), some (.iconst 3, 1), some (.iadd, 1), some (.iaload, 1), some (.invokevirtual 19, 3)], [none, none, some (.if_icmp .eq 962, 3), none, none, some (.iconst 0, 1), some (.ireturn, 1), some (.aload_n 1, 1), some (.invokevirtual 20, 3), none, none, some (.aload_n 2, 1), some (.invokevirtual 24, 3), none, none, some (.if_icmp .eq 949, 3)], [none, none, some (.iconst 0, 1), some (.ireturn, 1), some (.aload_n 1, 1), some (.aload_n 0, 1), some (.iload_n 3, 1), some (.iconst 1, 1), some (.iadd, 1), some (.iaload, 1), some (.aload_n 0, 1), some (.iload_n 3, 1), some (.iconst 2, 1), some (.iadd, 1), some (.iaload, 1), some (.invokevirtual 25, 3)], [none, none, some (.aload_n 2, 1), some (.aload_n 0, 1), some (.iload_n 3, 1), some (.iconst 1, 1), some (.iadd, 1), some (.iaload, 1), some (.aload_n 0, 1), some (.iload_n 3, 1), some (.iconst 2, 1), some (.iadd, 1), some (.iaload, 1), some (.invokevirtual 29, 3)], [some (.if_icmp .eq 916, 3), none, none, some (.iconst 0, 1), some (.ireturn, 1), some (.aload_n 1, 1), some (.aload_n 0, 1), some (.iload_n 3, 1), some (.iconst 1, 1), some (.iadd, 1), some (.iaload, 1), some (.aload_n 0, 1), some (.iload_n 3, 1), some (.iconst 2, 1), some (.iadd, 1), some (.iaload, 1)], [some (.invokevirtual 30, 3), none, none, some (.aload_n 2, 1), some (.aload_n 0, 1), some (.iload_n 3, 1), some (.iconst 1, 1), some (.iadd, 1), some (.iaload, 1), some (.aload_n 0, 1), some (.iload_n 3, 1), some (.iconst 2, 1), some (.iadd, 1), some (.iaload, 1), some (.invokevirtual 33, 3)], [none, some (.if_icmp .eq 883, 3), none, none, some (.iconst 0, 1), some (.ireturn, 1), some (.aload_n 1, 1), some (.aload_n 0, 1), some (.iload_n 3, 1), some (.iconst 1, 1), some (.iadd, 1), some (.iaload, 1), some (.aload_n 0, 1), some (.iload_n 3, 1), some (.iconst 2, 1), some (.iadd, 1)], [some (.iaload, 1), some (.invokevirtual 34, 3), none, none, some (.aload_n 2, 1), some (.aload_n 0, 1), some (.iload_n 3, 1), some (.iconst 1, 1), some (.iadd, 1), some (.iaload, 1), some (.aload_n 0, 1), some (.iload_n 3, 1), some (.iconst 2, 1), some (.iadd, 1), some (.iaload, 1), some (.invokevirtual 37, 3)], [none, none, some (.if_icmp .eq 850, 3), none, none, some (.iconst 0, 1), some (.ireturn, 1), some (.aload_n 1, 1), some (.aload_n 0, 1), some (.iload_n 3, 1), some (.iconst 1, 1), some (.iadd, 1), some (.iaload, 1), some (.aload_n 0, 1), some (.iload_n 3, 1), some (.iconst 2, 1)], [some (.iadd, 1), some (.iaload, 1), some (.invokevirtual 38, 3), none, none, some (.aload_n 2, 1), some (.aload_n 0, 1), some (.iload_n 3, 1), some (.iconst 1, 1), some (.iadd, 1), some (.iaload, 1), some (.aload_n 0, 1), some (.iload_n 3, 1), some (.iconst 2, 1), some (.iadd, 1), some (.iaload, 1)], [some (.invokevirtual 41, 3), none, none, some (.if_icmp .eq 817, 3), none, none, some (.iconst 0, 1), some (.ireturn, 1), some (.aload_n 1, 1), some (.aload_n 0, 1), some (.iload_n 3, 1), some (.iconst 1, 1), some (.iadd, 1), some (.iaload, 1), some (.aload_n 0, 1), some (.iload_n 3, 1)], [some (.iconst 2, 1), some (.iadd, 1), some (.iaload, 1), some (.invokevirtual 42, 3), none, none, some (.aload_n 2, 1), some (.aload_n 0, 1), some (.iload_n 3, 1), some (.iconst 1, 1), some (.iadd, 1), some (.iaload, 1), some (.aload_n 0, 1), some (.iload_n 3, 1), some (.iconst 2, 1), some (.iadd, 1)], [some (.iaload, 1), some (.invokevirtual 45, 3), none, none, some (.if_icmp .eq 784, 3), none, none, some (.iconst 0, 1), some (.ireturn, 1), some (.aload_n 1, 1), some (.aload_n 0, 1), some (.iload_n 3, 1), some (.iconst 1, 1), some (.iadd, 1), some (.iaload, 1), some (.aload_n 0, 1)], [some (.iload_n 3, 1), some (.iconst 2, 1), some (.iadd, 1), some (.iaload, 1), some (.invokevirtual 46, 3), none, none, some (.aload_n 2, 1), some (.aload_n 0, 1), some (.iload_n 3, 1), some (.iconst 1, 1), some (.iadd, 1), some (.iaload, 1), some (.aload_n 0, 1), some (.iload_n 3, 1), some (.iconst 2, 1)], [some (.iadd, 1), some (.iaload, 1), some (.invokevirtual 49, 3), none, none, some (.if_icmp .eq 751, 3), none, none, some (.iconst 0, 1), some (.ireturn, 1), some (.aload_n 1, 1), some (.aload_n 0, 1), some (.iload_n 3, 1), some (.iconst 1, 1), some (.iadd, 1), some (.iaload, 1)], [some (.aload_n 0, 1), some (.iload_n 3, 1), some (.iconst 2, 1), some (.iadd, 1), some (.iaload, 1), some (.aload_n 0, 1), some (.iload_n 3, 1), some (.iconst 3, 1), some (.iadd, 1), some (.iaload, 1), some (.invokevirtual 50, 3), none, none, some (.aload_n 2, 1), some (.aload_n 0, 1), some (.iload_n 3, 1)], [some (.iconst 1, 1), some (.iadd, 1), some (.iaload, 1), some (.aload_n 0, 1), some (.iload_n 3, 1), some (.iconst 2, 1), some (.iadd, 1), some (.iaload, 1), some (.aload_n 0, 1), some (.iload_n 3, 1), some (.iconst 3, 1), some (.iadd, 1), some (.iaload, 1), some (.invokevirtual 54, 3)], [some (.if_icmp .eq 708, 3), none, none, some (.iconst 0, 1), some (.ireturn, 1), some (.aload_n 1, 1), some (.aload_n 0, 1), some (.iload_n 3, 1), some (.iconst 1, 1), some (.iadd, 1), some (.iaload, 1), some (.aload_n 0, 1), some (.iload_n 3, 1), some (.iconst 2, 1), some (.iadd, 1), some (.iaload, 1)], [some (.aload_n 0, 1), some (.iload_n 3, 1), some (.iconst 3, 1), some (.iadd, 1), some (.iaload, 1), some (.aload_n 0, 1), some (.iload_n 3, 1), some (.iconst 4, 1), some (.iadd, 1), some (.iaload, 1), some (.invokevirtual 55, 3), none, none, some (.aload_n 2, 1), some (.aload_n 0, 1), some (.iload_n 3, 1)], [some (.iconst 1, 1), some (.iadd, 1), some (.iaload, 1), some (.aload_n 0, 1), some (.iload_n 3, 1), some (.iconst 2, 1), some (.iadd, 1), some (.iaload, 1), some (.aload_n 0, 1), some (.iload_n 3, 1), some (.iconst 3, 1), some (.iadd, 1), some (.iaload, 1), some (.aload_n 0, 1), some (.iload_n 3, 1), some (.iconst 4, 1)], [some (.iadd, 1), some (.iaload, 1), some (.invokevirtual 59, 3), none, none, some (.if_icmp .eq 655, 3), none, none, some (.iconst 0, 1), some (.ireturn, 1), some (.aload_n 1, 1), some (.aload_n 0, 1), some (.iload_n 3, 1), some (.iconst 1, 1), some (.iadd, 1), some (.iaload, 1)], [some (.aload_n 0, 1), some (.iload_n 3, 1), some (.iconst 2, 1), some (.iadd, 1), some (.iaload, 1), some (.invokevirtual 60, 3), none, none, some (.aload_n 2, 1), some (.aload_n 0, 1), some (.iload_n 3, 1), some (.iconst 1, 1), some (.iadd, 1), some (.iaload, 1), some (.aload_n 0, 1), some (.iload_n 3, 1)], [some (.iconst 2, 1), some (.iadd, 1), some (.iaload, 1), some (.invokevirtual 63, 3), none, none, some (.if_icmp .eq 622, 3), none, none, some (.iconst 0, 1), some (.ireturn, 1), some (.aload_n 1, 1), some (.aload_n 0, 1), some (.iload_n 3, 1), some (.iconst 1, 1), some (.iadd, 1)], [some (.iaload, 1), some (.aload_n 0, 1), some (.iload_n 3, 1), some (.iconst 2, 1), some (.iadd, 1), some (.iaload, 1), some (.aload_n 0, 1), some (.iload_n 3, 1), some (.iconst 3, 1), some (.iadd, 1), some (.iaload, 1), some (.invokevirtual 64, 3), none, none, some (.aload_n 2, 1), some (.aload_n 0, 1)], [some (.iload_n 3, 1), some (.iconst 1, 1), some (.iadd, 1), some (.iaload, 1), some (.aload_n 0, 1), some (.iload_n 3, 1), some (.iconst 2, 1), some (.iadd, 1), some (.iaload, 1), some (.aload_n 0, 1), some (.iload_n 3, 1), some (.iconst 3, 1), some (.iadd, 1), some (.iaload, 1), some (.invokevirtual 67, 3)], [none, some (.if_icmp .eq 579, 3), none, none, some (.iconst 0, 1), some (.ireturn, 1), some (.aload_n 1, 1), some (.aload_n 0, 1), some (.iload_n 3, 1), some (.iconst 1, 1), some (.iadd, 1), some (.iaload, 1), some (.invokevirtual 68, 3), none, none, some (.aload_n 2, 1)], [some (.aload_n 0, 1), some (.iload_n 3, 1), some (.iconst 1, 1), some (.iadd, 1), some (.iaload, 1), some (.invokevirtual 72, 3), none, none, some (.if_icmp .eq 556, 3), none, none, some (.iconst 0, 1), some (.ireturn, 1), some (.aload_n 1, 1), some (.aload_n 0, 1), some (.iload_n 3, 1)], [some (.iconst 1, 1), some (.iadd, 1), some (.iaload, 1), some (.aload_n 0, 1), some (.iload_n 3, 1), some (.iconst 2, 1), some (.iadd, 1), some (.iaload, 1), some (.aload_n 0, 1), some (.iload_n 3, 1), some (.iconst 3, 1), some (.iadd, 1), some (.iaload, 1), some (.invokevirtual 73, 3)], [some (.aload_n 2, 1), some (.aload_n 0, 1), some (.iload_n 3, 1), some (.iconst 1, 1), some (.iadd, 1), some (.iaload, 1), some (.aload_n 0, 1), some (.iload_n 3, 1), some (.iconst 2, 1), some (.iadd, 1), some (.iaload, 1), some (.aload_n 0, 1), some (.iload_n 3, 1), some (.iconst 3, 1), some (.iadd, 1), some (.iaload, 1)], [some (.invokevirtual 76, 3), none, none, some (.if_icmp .eq 513, 3), none, none, some (.iconst 0, 1), some (.ireturn, 1), some (.aload_n 1, 1), some (.aload_n 0, 1), some (.iload_n 3, 1), some (.iconst 1, 1), some (.iadd, 1), some (.iaload, 1), some (.aload_n 0, 1), some (.iload_n 3, 1)], [some (.iconst 2, 1), some (.iadd, 1), some (.iaload, 1), some (.aload_n 0, 1), some (.iload_n 3, 1), some (.iconst 3, 1), some (.iadd, 1), some (.iaload, 1), some (.invokevirtual 77, 3), none, none, some (.aload_n 2, 1), some (.aload_n 0, 1), some (.iload_n 3, 1), some (.iconst 1, 1), some (.iadd, 1)], [some (.iaload, 1), some (.aload_n 0, 1), some (.iload_n 3, 1), some (.iconst 2, 1), some (.iadd, 1), some (.iaload, 1), some (.aload_n 0, 1), some (.iload_n 3, 1), some (.iconst 3, 1), some (.iadd, 1), some (.iaload, 1), some (.invokevirtual 80, 3), none, none, some (.if_icmp .eq 470, 3)], [none, some (.iconst 0, 1), some (.ireturn, 1), some (.aload_n 1, 1), some (.aload_n 0, 1), some (.iload_n 3, 1), some (.iconst 1, 1), some (.iadd, 1), some (.iaload, 1), some (.aload_n 0, 1), some (.iload_n 3, 1), some (.iconst 2, 1), some (.iadd, 1), some (.iaload, 1), some (.aload_n 0, 1), some (.iload_n 3, 1)], [some (.iconst 3, 1), some (.iadd, 1), some (.iaload, 1), some (.invokevirtual 81, 3), none, none, some (.aload_n 2, 1), some (.aload_n 0, 1), some (.iload_n 3, 1), some (.iconst 1, 1), some (.iadd, 1), some (.iaload, 1), some (.aload_n 0, 1), some (.iload_n 3, 1), some (.iconst 2, 1), some (.iadd, 1)], [some (.iaload, 1), some (.aload_n 0, 1), some (.iload_n 3, 1), some (.iconst 3, 1), some (.iadd, 1), some (.iaload, 1), some (.invokevirtual 84, 3), none, none, some (.if_icmp .eq 427, 3), none, none, some (.iconst 0, 1), some (.ireturn, 1), some (.aload_n 1, 1), some (.aload_n 0, 1)], [some (.iload_n 3, 1), some (.iconst 1, 1), some (.iadd, 1), some (.iaload, 1), some (.aload_n 0, 1), some (.iload_n 3, 1), some (.iconst 2, 1), some (.iadd, 1), some (.iaload, 1), some (.invokevirtual 85, 3), none, none, some (.aload_n 2, 1), some (.aload_n 0, 1), some (.iload_n 3, 1), some (.iconst 1, 1)], [some (.iadd, 1), some (.iaload, 1), some (.aload_n 0, 1), some (.iload_n 3, 1), some (.iconst 2, 1), some (.iadd, 1), some (.iaload, 1), some (.invokevirtual 88, 3), none, none, some (.if_icmp .eq 394, 3), none, none, some (.iconst 0, 1), some (.ireturn, 1), some (.aload_n 1, 1)], [some (.aload_n 0, 1), some (.iload_n 3, 1), some (.iconst 1, 1), some (.iadd, 1), some (.iaload, 1), some (.aload_n 0, 1), some (.iload_n 3, 1), some (.iconst 2, 1), some (.iadd, 1), some (.iaload, 1), some (.aload_n 0, 1), some (.iload_n 3, 1), some (.iconst 3, 1), some (.iadd, 1), some (.iaload, 1), some (.invokevirtual 89, 3)], [none, none, some (.aload_n 2, 1), some (.aload_n 0, 1), some (.iload_n 3, 1), some (.iconst 1, 1), some (.iadd, 1), some (.iaload, 1), some (.aload_n 0, 1), some (.iload_n 3, 1), some (.iconst 2, 1), some (.iadd, 1), some (.iaload, 1), some (.aload_n 0, 1), some (.iload_n 3, 1), some (.iconst 3, 1)], [some (.iadd, 1), some (.iaload, 1), some (.invokevirtual 92, 3), none, none, some (.if_icmp .eq 351, 3), none, none, some (.iconst 0, 1), some (.ireturn, 1), some (.aload_n 1, 1), some (.aload_n 0, 1), some (.iload_n 3, 1), some (.iconst 1, 1), some (.iadd, 1), some (.iaload, 1)], [some (.aload_n 0, 1), some (.iload_n 3, 1), some (.iconst 2, 1), some (.iadd, 1), some (.iaload, 1), some (.invokevirtual 93, 3), none, none, some (.aload_n 2, 1), some (.aload_n 0, 1), some (.iload_n 3, 1), some (.iconst 1, 1), some (.iadd, 1), some (.iaload, 1), some (.aload_n 0, 1), some (.iload_n 3, 1)], [some (.iconst 2, 1), some (.iadd, 1), some (.iaload, 1), some (.invokevirtual 96, 3), none, none, some (.if_icmp .eq 318, 3), none, none, some (.iconst 0, 1), some (.ireturn, 1), some (.aload_n 1, 1), some (.aload_n 0, 1), some (.iload_n 3, 1), some (.iconst 1, 1), some (.iadd, 1)], [some (.iaload, 1), some (.aload_n 0, 1), some (.iload_n 3, 1), some (.iconst 2, 1), some (.iadd, 1), some (.iaload, 1), some (.invokevirtual 97, 3), none, none, some (.aload_n 2, 1), some (.aload_n 0, 1), some (.iload_n 3, 1), some (.iconst 1, 1), some (.iadd, 1), some (.iaload, 1), some (.aload_n 0, 1)], [some (.iload_n 3, 1), some (.iconst 2, 1), some (.iadd, 1), some (.iaload, 1), some (.invokevirtual 100, 3), none, none, some (.if_icmp .eq 285, 3), none, none, some (.iconst 0, 1), some (.ireturn, 1), some (.aload_n 1, 1), some (.aload_n 0, 1), some (.iload_n 3, 1), some (.iconst 1, 1)], [some (.iadd, 1), some (.iaload, 1), some (.invokevirtual 101, 3), none, none, some (.aload_n 2, 1), some (.aload_n 0, 1), some (.iload_n 3, 1), some (.iconst 1, 1), some (.iadd, 1), some (.iaload, 1), some (.invokevirtual 104, 3), none, none, some (.if_icmp .eq 262, 3)], [none, some (.iconst 0, 1), some (.ireturn, 1), some (.aload_n 1, 1), some (.aload_n 0, 1), some (.iload_n 3, 1), some (.iconst 1, 1), some (.iadd, 1), some (.iaload, 1), some (.invokevirtual 105, 3), none, none, some (.aload_n 2, 1), some (.aload_n 0, 1), some (.iload_n 3, 1), some (.iconst 1, 1)], [some (.iadd, 1), some (.iaload, 1), some (.invokevirtual 108, 3), none, none, some (.if_icmp .eq 239, 3), none, none, some (.iconst 0, 1), some (.ireturn, 1), some (.aload_n 1, 1), some (.aload_n 0, 1), some (.iload_n 3, 1), some (.iconst 1, 1), some (.iadd, 1), some (.iaload, 1)], [some (.invokevirtual 109, 3), none, none, some (.aload_n 2, 1), some (.aload_n 0, 1), some (.iload_n 3, 1), some (.iconst 1, 1), some (.iadd, 1), some (.iaload, 1), some (.invokevirtual 112, 3), none, none, some (.if_icmp .eq 216, 3), none, none, some (.iconst 0, 1)], [some (.ireturn, 1), some (.aload_n 1, 1), some (.aload_n 0, 1), some (.iload_n 3, 1), some (.iconst 1, 1), some (.iadd, 1), some (.iaload, 1), some (.invokevirtual 113, 3), none, none, some (.aload_n 2, 1), some (.aload_n 0, 1), some (.iload_n 3, 1), some (.iconst 1, 1), some (.iadd, 1), some (.iaload, 1)], [some (.invokevirtual 116, 3), none, none, some (.if_icmp .eq 193, 3), none, none, some (.iconst 0, 1), some (.ireturn, 1), some (.aload_n 1, 1), some (.aload_n 0, 1), some (.iload_n 3, 1), some (.iconst 1, 1), some (.iadd, 1), some (.iaload, 1), some (.invokevirtual 117, 3)], [none, some (.aload_n 2, 1), some (.aload_n 0, 1), some (.iload_n 3, 1), some (.iconst 1, 1), some (.iadd, 1), some (.iaload, 1), some (.invokevirtual 120, 3), none, none, some (.if_icmp .eq 170, 3), none, none, some (.iconst 0, 1), some (.ireturn, 1), some (.aload_n 1, 1)], [some (.aload_n 0, 1), some (.iload_n 3, 1), some (.iconst 1, 1), some (.iadd, 1), some (.iaload, 1), some (.invokevirtual 121, 3), none, none, some (.aload_n 2, 1), some (.aload_n 0, 1), some (.iload_n 3, 1), some (.iconst 1, 1), some (.iadd, 1), some (.iaload, 1), some (.invokevirtual 124, 3)], [none, some (.if_icmp .eq 147, 3), none, none, some (.iconst 0, 1), some (.ireturn, 1), some (.aload_n 1, 1), some (.aload_n 0, 1), some (.iload_n 3, 1), some (.iconst 1, 1), some (.iadd, 1), some (.iaload, 1), some (.aload_n 0, 1), some (.iload_n 3, 1), some (.iconst 2, 1), some (.iadd, 1)], [some (.iaload, 1), some (.aload_n 0, 1), some (.iload_n 3, 1), some (.iconst 3, 1), some (.iadd, 1), some (.iaload, 1), some (.invokevirtual 125, 3), none, none, some (.aload_n 2, 1), some (.aload_n 0, 1), some (.iload_n 3, 1), some (.iconst 1, 1), some (.iadd, 1), some (.iaload, 1), some (.aload_n 0, 1)], [some (.iload_n 3, 1), some (.iconst 2, 1), some (.iadd, 1), some (.iaload, 1), some (.aload_n 0, 1), some (.iload_n 3, 1), some (.iconst 3, 1), some (.iadd, 1), some (.iaload, 1), some (.invokevirtual 128, 3), none, none, some (.if_icmp .eq 104, 3), none, none, some (.iconst 0, 1)], [some (.ireturn, 1), some (.aload_n 1, 1), some (.aload_n 0, 1), some (.iload_n 3, 1), some (.iconst 1, 1), some (.iadd, 1), some (.iaload, 1), some (.aload_n 0, 1), some (.iload_n 3, 1), some (.iconst 2, 1), some (.iadd, 1), some (.iaload, 1), some (.invokevirtual 129, 3), none, none, some (.aload_n 2, 1)], [some (.aload_n 0, 1), some (.iload_n 3, 1), some (.iconst 1, 1), some (.iadd, 1), some (.iaload, 1), some (.aload_n 0, 1), some (.iload_n 3, 1), some (.iconst 2, 1), some (.iadd, 1), some (.iaload, 1), some (.invokevirtual 132, 3), none, none, some (.if_icmp .eq 71, 3)], [some (.iconst 0, 1), some (.ireturn, 1), some (.aload_n 1, 1), some (.aload_n 0, 1), some (.iload_n 3, 1), some (.iconst 1, 1), some (.iadd, 1), some (.iaload, 1), some (.aload_n 0, 1), some (.iload_n 3, 1), some (.iconst 2, 1), some (.iadd, 1), some (.iaload, 1), some (.invokevirtual 133, 3)], [some (.aload_n 2, 1), some (.aload_n 0, 1), some (.iload_n 3, 1), some (.iconst 1, 1), some (.iadd, 1), some (.iaload, 1), some (.aload_n 0, 1), some (.iload_n 3, 1), some (.iconst 2, 1), some (.iadd, 1), some (.iaload, 1), some (.invokevirtual 136, 3), none, none, some (.if_icmp .eq 38, 3)], [none, some (.iconst 0, 1), some (.ireturn, 1), some (.aload_n 1, 1), some (.aload_n 0, 1), some (.iload_n 3, 1), some (.iconst 1, 1), some (.iadd, 1), some (.iaload, 1), some (.aload_n 0, 1), some (.iload_n 3, 1), some (.iconst 2, 1), some (.iadd, 1), some (.iaload, 1), some (.invokevirtual 137, 3)], [none, some (.aload_n 2, 1), some (.aload_n 0, 1), some (.iload_n 3, 1), some (.iconst 1, 1), some (.iadd, 1), some (.iaload, 1), some (.aload_n 0, 1), some (.iload_n 3, 1), some (.iconst 2, 1), some (.iadd, 1), some (.iaload, 1), some (.invokevirtual 141, 3), none, none, some (.if_icmp .eq 5, 3)], [none, none, some (.iconst 0, 1), some (.ireturn, 1), some (.iinc 3 5, 3), none, none, some (.goto (-1173), 3), none, none, some (.iconst 1, 1), some (.ireturn, 1)]]
def zlaw_t : Nat → Option (Instr × Nat) := fun k => zlook 16 zlawL k
def zlaw : zMe := (x, code, 4, ret, 1, 13, 0, fun k => cond (Nat.blt k 1196) (zlaw_t k) none)
set_option maxRecDepth 100000 in
theorem zlaw_dec : ∀ pc x, zlaw.2.2.2.2.2.2.2 pc = some x → decode zlaw.2.1 pc = .ok x := zdecF code zlaw_t [187, 0, 7, 89, 183, 0, 9, 76, 187, 0, 10, 89, 183, 0, 12, 77, 3, 62, 29, 42, 190, 8, 100, 163, 4, 147, 42, 29, 46, 16, 31, 126, 170, 0, 0, 0, 0, 0, 4, 132, 0, 0, 0, 0, 0, 0, 0, 29, 0, 0, 0, 136, 0, 0, 0, 199, 0, 0, 0, 212, 0, 0, 0, 245, 0, 0, 1, 22, 0, 0, 1, 55, 0, 0, 1, 88, 0, 0, 1, 121, 0, 0, 1, 154, 0, 0, 1, 197, 0, 0, 1, 250, 0, 0, 2, 27, 0, 0, 2, 70, 0, 0, 2, 93, 0, 0, 2, 136, 0, 0, 2, 179, 0, 0, 2, 222, 0, 0, 2, 255, 0, 0, 3, 42, 0, 0, 3, 75, 0, 0, 3, 108, 0, 0, 3, 131, 0, 0, 3, 154, 0, 0, 3, 177, 0, 0, 3, 200, 0, 0, 3, 223, 0, 0, 3, 246, 0, 0, 4, 33, 0, 0, 4, 66, 0, 0, 4, 99, 43, 42, 29, 4, 96, 46, 133, 16, 32, 121, 42, 29, 5, 96, 46, 133, 20, 0, 13, 127, 129, 42, 29, 6, 96, 46, 182, 0, 15, 44, 42, 29, 4, 96, 46, 133, 16, 32, 121, 42, 29, 5, 96, 46, 133, 20, 0, 13, 127, 129, 42, 29, 6, 96, 46, 182, 0, 19, 159, 3, 194, 3, 172, 43, 182, 0, 20, 44, 182, 0, 24, 159, 3, 181, 3, 172, 43, 42, 29, 4, 96, 46, 42, 29, 5, 96, 46, 182, 0, 25, 44, 42, 29, 4, 96, 46, 42, 29, 5, 96, 46, 182, 0, 29, 159, 3, 148, 3, 172, 43, 42, 29, 4, 96, 46, 42, 29, 5, 96, 46, 182, 0, 30, 44, 42, 29, 4, 96, 46, 42, 29, 5, 96, 46, 182, 0, 33, 159, 3, 115, 3, 172, 43, 42, 29, 4, 96, 46, 42, 29, 5, 96, 46, 182, 0, 34, 44, 42, 29, 4, 96, 46, 42, 29, 5, 96, 46, 182, 0, 37, 159, 3, 82, 3, 172, 43, 42, 29, 4, 96, 46, 42, 29, 5, 96, 46, 182, 0, 38, 44, 42, 29, 4, 96, 46, 42, 29, 5, 96, 46, 182, 0, 41, 159, 3, 49, 3, 172, 43, 42, 29, 4, 96, 46, 42, 29, 5, 96, 46, 182, 0, 42, 44, 42, 29, 4, 96, 46, 42, 29, 5, 96, 46, 182, 0, 45, 159, 3, 16, 3, 172, 43, 42, 29, 4, 96, 46, 42, 29, 5, 96, 46, 182, 0, 46, 44, 42, 29, 4, 96, 46, 42, 29, 5, 96, 46, 182, 0, 49, 159, 2, 239, 3, 172, 43, 42, 29, 4, 96, 46, 42, 29, 5, 96, 46, 42, 29, 6, 96, 46, 182, 0, 50, 44, 42, 29, 4, 96, 46, 42, 29, 5, 96, 46, 42, 29, 6, 96, 46, 182, 0, 54, 159, 2, 196, 3, 172, 43, 42, 29, 4, 96, 46, 42, 29, 5, 96, 46, 42, 29, 6, 96, 46, 42, 29, 7, 96, 46, 182, 0, 55, 44, 42, 29, 4, 96, 46, 42, 29, 5, 96, 46, 42, 29, 6, 96, 46, 42, 29, 7, 96, 46, 182, 0, 59, 159, 2, 143, 3, 172, 43, 42, 29, 4, 96, 46, 42, 29, 5, 96, 46, 182, 0, 60, 44, 42, 29, 4, 96, 46, 42, 29, 5, 96, 46, 182, 0, 63, 159, 2, 110, 3, 172, 43, 42, 29, 4, 96, 46, 42, 29, 5, 96, 46, 42, 29, 6, 96, 46, 182, 0, 64, 44, 42, 29, 4, 96, 46, 42, 29, 5, 96, 46, 42, 29, 6, 96, 46, 182, 0, 67, 159, 2, 67, 3, 172, 43, 42, 29, 4, 96, 46, 182, 0, 68, 44, 42, 29, 4, 96, 46, 182, 0, 72, 159, 2, 44, 3, 172, 43, 42, 29, 4, 96, 46, 42, 29, 5, 96, 46, 42, 29, 6, 96, 46, 182, 0, 73, 44, 42, 29, 4, 96, 46, 42, 29, 5, 96, 46, 42, 29, 6, 96, 46, 182, 0, 76, 159, 2, 1, 3, 172, 43, 42, 29, 4, 96, 46, 42, 29, 5, 96, 46, 42, 29, 6, 96, 46, 182, 0, 77, 44, 42, 29, 4, 96, 46, 42, 29, 5, 96, 46, 42, 29, 6, 96, 46, 182, 0, 80, 159, 1, 214, 3, 172, 43, 42, 29, 4, 96, 46, 42, 29, 5, 96, 46, 42, 29, 6, 96, 46, 182, 0, 81, 44, 42, 29, 4, 96, 46, 42, 29, 5, 96, 46, 42, 29, 6, 96, 46, 182, 0, 84, 159, 1, 171, 3, 172, 43, 42, 29, 4, 96, 46, 42, 29, 5, 96, 46, 182, 0, 85, 44, 42, 29, 4, 96, 46, 42, 29, 5, 96, 46, 182, 0, 88, 159, 1, 138, 3, 172, 43, 42, 29, 4, 96, 46, 42, 29, 5, 96, 46, 42, 29, 6, 96, 46, 182, 0, 89, 44, 42, 29, 4, 96, 46, 42, 29, 5, 96, 46, 42, 29, 6, 96, 46, 182, 0, 92, 159, 1, 95, 3, 172, 43, 42, 29, 4, 96, 46, 42, 29, 5, 96, 46, 182, 0, 93, 44, 42, 29, 4, 96, 46, 42, 29, 5, 96, 46, 182, 0, 96, 159, 1, 62, 3, 172, 43, 42, 29, 4, 96, 46, 42, 29, 5, 96, 46, 182, 0, 97, 44, 42, 29, 4, 96, 46, 42, 29, 5, 96, 46, 182, 0, 100, 159, 1, 29, 3, 172, 43, 42, 29, 4, 96, 46, 182, 0, 101, 44, 42, 29, 4, 96, 46, 182, 0, 104, 159, 1, 6, 3, 172, 43, 42, 29, 4, 96, 46, 182, 0, 105, 44, 42, 29, 4, 96, 46, 182, 0, 108, 159, 0, 239, 3, 172, 43, 42, 29, 4, 96, 46, 182, 0, 109, 44, 42, 29, 4, 96, 46, 182, 0, 112, 159, 0, 216, 3, 172, 43, 42, 29, 4, 96, 46, 182, 0, 113, 44, 42, 29, 4, 96, 46, 182, 0, 116, 159, 0, 193, 3, 172, 43, 42, 29, 4, 96, 46, 182, 0, 117, 44, 42, 29, 4, 96, 46, 182, 0, 120, 159, 0, 170, 3, 172, 43, 42, 29, 4, 96, 46, 182, 0, 121, 44, 42, 29, 4, 96, 46, 182, 0, 124, 159, 0, 147, 3, 172, 43, 42, 29, 4, 96, 46, 42, 29, 5, 96, 46, 42, 29, 6, 96, 46, 182, 0, 125, 44, 42, 29, 4, 96, 46, 42, 29, 5, 96, 46, 42, 29, 6, 96, 46, 182, 0, 128, 159, 0, 104, 3, 172, 43, 42, 29, 4, 96, 46, 42, 29, 5, 96, 46, 182, 0, 129, 44, 42, 29, 4, 96, 46, 42, 29, 5, 96, 46, 182, 0, 132, 159, 0, 71, 3, 172, 43, 42, 29, 4, 96, 46, 42, 29, 5, 96, 46, 182, 0, 133, 44, 42, 29, 4, 96, 46, 42, 29, 5, 96, 46, 182, 0, 136, 159, 0, 38, 3, 172, 43, 42, 29, 4, 96, 46, 42, 29, 5, 96, 46, 182, 0, 137, 44, 42, 29, 4, 96, 46, 42, 29, 5, 96, 46, 182, 0, 141, 159, 0, 5, 3, 172, 132, 3, 5, 167, 251, 107, 4, 172] 1196 (by decide +kernel) (Nat.le_of_ble_eq_true rfl) (by decide +kernel)
theorem zr_scr {X : zX} {mt : Nat → Option zMe} {call : zCall} {r : zMe} {n pc k : Nat} {ls : zL} {rest : List Value} {M : zM} {res : Option (Option Value × zM)} {j : Int32} (htb : r.2.2.2.2.2.2.2 pc = some (.iaload, 1)) (hX : X.1 = 5) (hj : j = nI k) (hk : k < 5) (h : zrun X mt call r n (pc + 1) ls (.int (X.2.1 k) :: rest) M = res) : zrun X mt call r (n + 1) pc ls (.int j :: .ref 1000016 :: rest) M = res := by
  have e : j.toNatClampNeg = k := by rw [hj]; exact nI_clamp (by omega)
  have hn : ¬ j < 0 := by rw [hj]; exact nI_pos (by omega)
  refine zr_s1 htb rfl rfl rfl ?_ h
  simp only [zs1, if_true]
  rw [if_neg (by rw [hX, e]; intro q; rcases q with q | q | q; exact hn q; omega; omega), e]
theorem zr_slenX {X : zX} {mt : Nat → Option zMe} {call : zCall} {r : zMe} {n pc : Nat} {ls : zL} {rest : List Value} {M : zM} {res : Option (Option Value × zM)} (htb : r.2.2.2.2.2.2.2 pc = some (.arraylength, 1)) (hX : X.1 ≤ 5) (h : zrun X mt call r n (pc + 1) ls (.int (Int32.ofNat X.1) :: rest) M = res) : zrun X mt call r (n + 1) pc ls (.ref 1000016 :: rest) M = res := by
  refine zr_s1 htb rfl rfl rfl ?_ h
  simp only [zs1, if_true]
  rw [if_pos (by omega)]
theorem zc_eqs {x : Int32} : zcI .eq x x = true := decide_eq_true rfl
abbrev zls (v : Int32) : zL := [(0, .ref 1000016), (1, .ref 0), (2, .ref 474), (3, .int v)]
theorem law_ret {X : zX} {call : zCall} {M : zM} {v : Int32} {n : Nat} : zrun X zmt call zlaw (n + 2) 1194 (zls v) [] M = some (some (.int 1), M) := by
  refine zr_s0 rfl rfl rfl rfl ?_
  exact zr_retn (v := 1) rfl rfl (by decide)
theorem law_end {X : zX} {call : zCall} {M : zM} (hX : X.1 = 5) {n : Nat} : zrun X zmt call zlaw (n + 10) 1188 (zls (Int32.ofInt 0)) [] M = some (some (.int 1), M) := by
  refine zr_s0 rfl rfl rfl rfl ?_
  refine zr_s0 rfl rfl rfl rfl ?_
  refine zr_s0 rfl rfl rfl rfl ?_
  refine zr_s0 rfl rfl rfl rfl ?_
  refine zr_slenX rfl (by omega) ?_
  rw [hX]
  refine zr_s0 rfl rfl rfl rfl ?_
  refine zr_s0 rfl rfl rfl rfl ?_
  refine zr_icmp (t := 1194) rfl rfl (fun _ => ?_) (fun h => absurd h (by decide))
  exact law_ret
theorem law_short {X : zX} {call : zCall} {M : zM} (hX : X.1 < 5) {n : Nat} : zrun X zmt call zlaw (n + 8) 18 (zls (Int32.ofInt 0)) [] M = some (some (.int 1), M) := by
  refine zr_s0 rfl rfl rfl rfl ?_
  refine zr_s0 rfl rfl rfl rfl ?_
  refine zr_slenX rfl (by omega) ?_
  refine zr_s0 rfl rfl rfl rfl ?_
  refine zr_s0 rfl rfl rfl rfl ?_
  have hs : ∀ k, k < 5 → zcI .gt (Int32.ofInt 0) (Int32.ofNat k - Int32.ofInt 5) = true := by decide
  refine zr_icmp (t := 1194) rfl rfl (fun _ => ?_) (fun h => Bool.noConfusion ((hs _ hX).symm.trans h))
  exact law_ret
def zlawS : Instr := .tableswitch 1156 0 29 #[136, 199, 212, 245, 278, 311, 344, 377, 410, 453, 506, 539, 582, 605, 648, 691, 734, 767, 810, 843, 876, 899, 922, 945, 968, 991, 1014, 1057, 1090, 1123]
theorem law_at {X : zX} {call : zCall} {M : zM} {res : Option (Option Value × zM)} {j T : Nat} (hX : X.1 = 5) (hj : X.2.1 0 &&& (Int8.ofInt 31).toInt32 = nI j) (hT : zs0 32 (zls (Int32.ofInt 0)) [.int (nI j)] 4 zlawS 136 = some (T, zls (Int32.ofInt 0), [])) {n : Nat} (h : zrun X zmt call zlaw n T (zls (Int32.ofInt 0)) [] M = res) : zrun X zmt call zlaw (n + 12) 18 (zls (Int32.ofInt 0)) [] M = res := by
  refine zr_s0 rfl rfl rfl rfl ?_
  refine zr_s0 rfl rfl rfl rfl ?_
  refine zr_slenX rfl (by omega) ?_
  rw [hX]
  refine zr_s0 rfl rfl rfl rfl ?_
  refine zr_s0 rfl rfl rfl rfl ?_
  refine zr_icmp (t := 1194) rfl rfl (fun h => absurd h (by decide)) (fun _ => ?_)
  refine zr_s0 rfl rfl rfl rfl ?_
  refine zr_s0 rfl rfl rfl rfl ?_
  refine zr_scr rfl hX (k := 0) (by decide) (by decide) ?_
  refine zr_s0 rfl rfl rfl rfl ?_
  refine zr_s0 rfl rfl rfl rfl ?_
  rw [hj]
  exact zr_s0 (i := zlawS) (len := 136) rfl rfl rfl hT h
theorem law_c0 {X : zX} {call : zCall} {M M1 M2 : zM} {r : Int32} (hX : X.1 = 5) (h0 : zob M 0 = some (.inr (11, zf_0))) (h474 : zob M1 474 = some (.inr (12, zf_474))) (h1 : call 254 [.ref 0, .long (((X.2.1 1).toInt64 <<< ((Int8.ofInt 32).toInt32.toInt64 &&& 63)) ||| ((X.2.1 2).toInt64 &&& Int64.ofNat 4294967295)), .int (X.2.1 3)] M = some (some (.int r), M1)) (h2 : call 458 [.ref 474, .long (((X.2.1 1).toInt64 <<< ((Int8.ofInt 32).toInt32.toInt64 &&& 63)) ||| ((X.2.1 2).toInt64 &&& Int64.ofNat 4294967295)), .int (X.2.1 3)] M1 = some (some (.int r), M2)) {n : Nat} : zrun X zmt call zlaw (n + 59) 168 (zls (Int32.ofInt 0)) [] M = some (some (.int 1), M2) := by
  refine zr_s0 rfl rfl rfl rfl ?_
  refine zr_s0 rfl rfl rfl rfl ?_
  refine zr_s0 rfl rfl rfl rfl ?_
  refine zr_s0 rfl rfl rfl rfl ?_
  refine zr_s0 rfl rfl rfl rfl ?_
  refine zr_scr rfl hX (k := 1) (by decide) (by decide) ?_
  refine zr_s0 rfl rfl rfl rfl ?_
  refine zr_s0 rfl rfl rfl rfl ?_
  refine zr_s0 rfl rfl rfl rfl ?_
  refine zr_s0 rfl rfl rfl rfl ?_
  refine zr_s0 rfl rfl rfl rfl ?_
  refine zr_s0 rfl rfl rfl rfl ?_
  refine zr_s0 rfl rfl rfl rfl ?_
  refine zr_scr rfl hX (k := 2) (by decide) (by decide) ?_
  refine zr_s0 rfl rfl rfl rfl ?_
  refine zr_s1 rfl rfl rfl rfl rfl ?_
  refine zr_s0 rfl rfl rfl rfl ?_
  refine zr_s0 rfl rfl rfl rfl ?_
  refine zr_s0 rfl rfl rfl rfl ?_
  refine zr_s0 rfl rfl rfl rfl ?_
  refine zr_s0 rfl rfl rfl rfl ?_
  refine zr_s0 rfl rfl rfl rfl ?_
  refine zr_scr rfl hX (k := 3) (by decide) (by decide) ?_
  refine zr_callV rfl rfl rfl rfl (by decide) h0 rfl ⟨Or.inl rfl, rfl, rfl, rfl, rfl, rfl, Nat.le_of_ble_eq_true rfl⟩ h1 ?_
  refine zr_s0 rfl rfl rfl rfl ?_
  refine zr_s0 rfl rfl rfl rfl ?_
  refine zr_s0 rfl rfl rfl rfl ?_
  refine zr_s0 rfl rfl rfl rfl ?_
  refine zr_s0 rfl rfl rfl rfl ?_
  refine zr_scr rfl hX (k := 1) (by decide) (by decide) ?_
  refine zr_s0 rfl rfl rfl rfl ?_
  refine zr_s0 rfl rfl rfl rfl ?_
  refine zr_s0 rfl rfl rfl rfl ?_
  refine zr_s0 rfl rfl rfl rfl ?_
  refine zr_s0 rfl rfl rfl rfl ?_
  refine zr_s0 rfl rfl rfl rfl ?_
  refine zr_s0 rfl rfl rfl rfl ?_
  refine zr_scr rfl hX (k := 2) (by decide) (by decide) ?_
  refine zr_s0 rfl rfl rfl rfl ?_
  refine zr_s1 rfl rfl rfl rfl rfl ?_
  refine zr_s0 rfl rfl rfl rfl ?_
  refine zr_s0 rfl rfl rfl rfl ?_
  refine zr_s0 rfl rfl rfl rfl ?_
  refine zr_s0 rfl rfl rfl rfl ?_
  refine zr_s0 rfl rfl rfl rfl ?_
  refine zr_s0 rfl rfl rfl rfl ?_
  refine zr_scr rfl hX (k := 3) (by decide) (by decide) ?_
  refine zr_callV rfl rfl rfl rfl (by decide) h474 rfl ⟨Or.inl rfl, rfl, rfl, rfl, rfl, rfl, Nat.le_of_ble_eq_true rfl⟩ h2 ?_
  refine zr_icmp (t := 1188) rfl rfl (fun _ => ?_) (fun h => Bool.noConfusion (zc_eqs.symm.trans h))
  exact law_end hX
theorem law_c1 {X : zX} {call : zCall} {M M1 M2 : zM} {r : Int32} (hX : X.1 = 5) (h0 : zob M 0 = some (.inr (11, zf_0))) (h474 : zob M1 474 = some (.inr (12, zf_474))) (h1 : call 255 [.ref 0] M = some (some (.int r), M1)) (h2 : call 459 [.ref 474] M1 = some (some (.int r), M2)) {n : Nat} : zrun X zmt call zlaw (n + 15) 231 (zls (Int32.ofInt 0)) [] M = some (some (.int 1), M2) := by
  refine zr_s0 rfl rfl rfl rfl ?_
  refine zr_callV rfl rfl rfl rfl (by decide) h0 rfl ⟨Or.inl rfl, rfl, rfl, rfl, rfl, rfl, Nat.le_of_ble_eq_true rfl⟩ h1 ?_
  refine zr_s0 rfl rfl rfl rfl ?_
  refine zr_callV rfl rfl rfl rfl (by decide) h474 rfl ⟨Or.inl rfl, rfl, rfl, rfl, rfl, rfl, Nat.le_of_ble_eq_true rfl⟩ h2 ?_
  refine zr_icmp (t := 1188) rfl rfl (fun _ => ?_) (fun h => Bool.noConfusion (zc_eqs.symm.trans h))
  exact law_end hX
theorem law_c2 {X : zX} {call : zCall} {M M1 M2 : zM} {r : Int32} (hX : X.1 = 5) (h0 : zob M 0 = some (.inr (11, zf_0))) (h474 : zob M1 474 = some (.inr (12, zf_474))) (h1 : call 256 [.ref 0, .int (X.2.1 1), .int (X.2.1 2)] M = some (some (.int r), M1)) (h2 : call 462 [.ref 474, .int (X.2.1 1), .int (X.2.1 2)] M1 = some (some (.int r), M2)) {n : Nat} : zrun X zmt call zlaw (n + 35) 244 (zls (Int32.ofInt 0)) [] M = some (some (.int 1), M2) := by
  refine zr_s0 rfl rfl rfl rfl ?_
  refine zr_s0 rfl rfl rfl rfl ?_
  refine zr_s0 rfl rfl rfl rfl ?_
  refine zr_s0 rfl rfl rfl rfl ?_
  refine zr_s0 rfl rfl rfl rfl ?_
  refine zr_scr rfl hX (k := 1) (by decide) (by decide) ?_
  refine zr_s0 rfl rfl rfl rfl ?_
  refine zr_s0 rfl rfl rfl rfl ?_
  refine zr_s0 rfl rfl rfl rfl ?_
  refine zr_s0 rfl rfl rfl rfl ?_
  refine zr_scr rfl hX (k := 2) (by decide) (by decide) ?_
  refine zr_callV rfl rfl rfl rfl (by decide) h0 rfl ⟨Or.inl rfl, rfl, rfl, rfl, rfl, rfl, Nat.le_of_ble_eq_true rfl⟩ h1 ?_
  refine zr_s0 rfl rfl rfl rfl ?_
  refine zr_s0 rfl rfl rfl rfl ?_
  refine zr_s0 rfl rfl rfl rfl ?_
  refine zr_s0 rfl rfl rfl rfl ?_
  refine zr_s0 rfl rfl rfl rfl ?_
  refine zr_scr rfl hX (k := 1) (by decide) (by decide) ?_
  refine zr_s0 rfl rfl rfl rfl ?_
  refine zr_s0 rfl rfl rfl rfl ?_
  refine zr_s0 rfl rfl rfl rfl ?_
  refine zr_s0 rfl rfl rfl rfl ?_
  refine zr_scr rfl hX (k := 2) (by decide) (by decide) ?_
  refine zr_callV rfl rfl rfl rfl (by decide) h474 rfl ⟨Or.inl rfl, rfl, rfl, rfl, rfl, rfl, Nat.le_of_ble_eq_true rfl⟩ h2 ?_
  refine zr_icmp (t := 1188) rfl rfl (fun _ => ?_) (fun h => Bool.noConfusion (zc_eqs.symm.trans h))
  exact law_end hX
theorem law_c3 {X : zX} {call : zCall} {M M1 M2 : zM} {r : Int32} (hX : X.1 = 5) (h0 : zob M 0 = some (.inr (11, zf_0))) (h474 : zob M1 474 = some (.inr (12, zf_474))) (h1 : call 257 [.ref 0, .int (X.2.1 1), .int (X.2.1 2)] M = some (some (.int r), M1)) (h2 : call 463 [.ref 474, .int (X.2.1 1), .int (X.2.1 2)] M1 = some (some (.int r), M2)) {n : Nat} : zrun X zmt call zlaw (n + 35) 277 (zls (Int32.ofInt 0)) [] M = some (some (.int 1), M2) := by
  refine zr_s0 rfl rfl rfl rfl ?_
  refine zr_s0 rfl rfl rfl rfl ?_
  refine zr_s0 rfl rfl rfl rfl ?_
  refine zr_s0 rfl rfl rfl rfl ?_
  refine zr_s0 rfl rfl rfl rfl ?_
  refine zr_scr rfl hX (k := 1) (by decide) (by decide) ?_
  refine zr_s0 rfl rfl rfl rfl ?_
  refine zr_s0 rfl rfl rfl rfl ?_
  refine zr_s0 rfl rfl rfl rfl ?_
  refine zr_s0 rfl rfl rfl rfl ?_
  refine zr_scr rfl hX (k := 2) (by decide) (by decide) ?_
  refine zr_callV rfl rfl rfl rfl (by decide) h0 rfl ⟨Or.inl rfl, rfl, rfl, rfl, rfl, rfl, Nat.le_of_ble_eq_true rfl⟩ h1 ?_
  refine zr_s0 rfl rfl rfl rfl ?_
  refine zr_s0 rfl rfl rfl rfl ?_
  refine zr_s0 rfl rfl rfl rfl ?_
  refine zr_s0 rfl rfl rfl rfl ?_
  refine zr_s0 rfl rfl rfl rfl ?_
  refine zr_scr rfl hX (k := 1) (by decide) (by decide) ?_
  refine zr_s0 rfl rfl rfl rfl ?_
  refine zr_s0 rfl rfl rfl rfl ?_
  refine zr_s0 rfl rfl rfl rfl ?_
  refine zr_s0 rfl rfl rfl rfl ?_
  refine zr_scr rfl hX (k := 2) (by decide) (by decide) ?_
  refine zr_callV rfl rfl rfl rfl (by decide) h474 rfl ⟨Or.inl rfl, rfl, rfl, rfl, rfl, rfl, Nat.le_of_ble_eq_true rfl⟩ h2 ?_
  refine zr_icmp (t := 1188) rfl rfl (fun _ => ?_) (fun h => Bool.noConfusion (zc_eqs.symm.trans h))
  exact law_end hX
theorem law_c4 {X : zX} {call : zCall} {M M1 M2 : zM} {r : Int32} (hX : X.1 = 5) (h0 : zob M 0 = some (.inr (11, zf_0))) (h474 : zob M1 474 = some (.inr (12, zf_474))) (h1 : call 258 [.ref 0, .int (X.2.1 1), .int (X.2.1 2)] M = some (some (.int r), M1)) (h2 : call 464 [.ref 474, .int (X.2.1 1), .int (X.2.1 2)] M1 = some (some (.int r), M2)) {n : Nat} : zrun X zmt call zlaw (n + 35) 310 (zls (Int32.ofInt 0)) [] M = some (some (.int 1), M2) := by
  refine zr_s0 rfl rfl rfl rfl ?_
  refine zr_s0 rfl rfl rfl rfl ?_
  refine zr_s0 rfl rfl rfl rfl ?_
  refine zr_s0 rfl rfl rfl rfl ?_
  refine zr_s0 rfl rfl rfl rfl ?_
  refine zr_scr rfl hX (k := 1) (by decide) (by decide) ?_
  refine zr_s0 rfl rfl rfl rfl ?_
  refine zr_s0 rfl rfl rfl rfl ?_
  refine zr_s0 rfl rfl rfl rfl ?_
  refine zr_s0 rfl rfl rfl rfl ?_
  refine zr_scr rfl hX (k := 2) (by decide) (by decide) ?_
  refine zr_callV rfl rfl rfl rfl (by decide) h0 rfl ⟨Or.inl rfl, rfl, rfl, rfl, rfl, rfl, Nat.le_of_ble_eq_true rfl⟩ h1 ?_
  refine zr_s0 rfl rfl rfl rfl ?_
  refine zr_s0 rfl rfl rfl rfl ?_
  refine zr_s0 rfl rfl rfl rfl ?_
  refine zr_s0 rfl rfl rfl rfl ?_
  refine zr_s0 rfl rfl rfl rfl ?_
  refine zr_scr rfl hX (k := 1) (by decide) (by decide) ?_
  refine zr_s0 rfl rfl rfl rfl ?_
  refine zr_s0 rfl rfl rfl rfl ?_
  refine zr_s0 rfl rfl rfl rfl ?_
  refine zr_s0 rfl rfl rfl rfl ?_
  refine zr_scr rfl hX (k := 2) (by decide) (by decide) ?_
  refine zr_callV rfl rfl rfl rfl (by decide) h474 rfl ⟨Or.inl rfl, rfl, rfl, rfl, rfl, rfl, Nat.le_of_ble_eq_true rfl⟩ h2 ?_
  refine zr_icmp (t := 1188) rfl rfl (fun _ => ?_) (fun h => Bool.noConfusion (zc_eqs.symm.trans h))
  exact law_end hX
theorem law_c5 {X : zX} {call : zCall} {M M1 M2 : zM} {r : Int32} (hX : X.1 = 5) (h0 : zob M 0 = some (.inr (11, zf_0))) (h474 : zob M1 474 = some (.inr (12, zf_474))) (h1 : call 259 [.ref 0, .int (X.2.1 1), .int (X.2.1 2)] M = some (some (.int r), M1)) (h2 : call 465 [.ref 474, .int (X.2.1 1), .int (X.2.1 2)] M1 = some (some (.int r), M2)) {n : Nat} : zrun X zmt call zlaw (n + 35) 343 (zls (Int32.ofInt 0)) [] M = some (some (.int 1), M2) := by
  refine zr_s0 rfl rfl rfl rfl ?_
  refine zr_s0 rfl rfl rfl rfl ?_
  refine zr_s0 rfl rfl rfl rfl ?_
  refine zr_s0 rfl rfl rfl rfl ?_
  refine zr_s0 rfl rfl rfl rfl ?_
  refine zr_scr rfl hX (k := 1) (by decide) (by decide) ?_
  refine zr_s0 rfl rfl rfl rfl ?_
  refine zr_s0 rfl rfl rfl rfl ?_
  refine zr_s0 rfl rfl rfl rfl ?_
  refine zr_s0 rfl rfl rfl rfl ?_
  refine zr_scr rfl hX (k := 2) (by decide) (by decide) ?_
  refine zr_callV rfl rfl rfl rfl (by decide) h0 rfl ⟨Or.inl rfl, rfl, rfl, rfl, rfl, rfl, Nat.le_of_ble_eq_true rfl⟩ h1 ?_
  refine zr_s0 rfl rfl rfl rfl ?_
  refine zr_s0 rfl rfl rfl rfl ?_
  refine zr_s0 rfl rfl rfl rfl ?_
  refine zr_s0 rfl rfl rfl rfl ?_
  refine zr_s0 rfl rfl rfl rfl ?_
  refine zr_scr rfl hX (k := 1) (by decide) (by decide) ?_
  refine zr_s0 rfl rfl rfl rfl ?_
  refine zr_s0 rfl rfl rfl rfl ?_
  refine zr_s0 rfl rfl rfl rfl ?_
  refine zr_s0 rfl rfl rfl rfl ?_
  refine zr_scr rfl hX (k := 2) (by decide) (by decide) ?_
  refine zr_callV rfl rfl rfl rfl (by decide) h474 rfl ⟨Or.inl rfl, rfl, rfl, rfl, rfl, rfl, Nat.le_of_ble_eq_true rfl⟩ h2 ?_
  refine zr_icmp (t := 1188) rfl rfl (fun _ => ?_) (fun h => Bool.noConfusion (zc_eqs.symm.trans h))
  exact law_end hX
theorem law_c6 {X : zX} {call : zCall} {M M1 M2 : zM} {r : Int32} (hX : X.1 = 5) (h0 : zob M 0 = some (.inr (11, zf_0))) (h474 : zob M1 474 = some (.inr (12, zf_474))) (h1 : call 260 [.ref 0, .int (X.2.1 1), .int (X.2.1 2)] M = some (some (.int r), M1)) (h2 : call 466 [.ref 474, .int (X.2.1 1), .int (X.2.1 2)] M1 = some (some (.int r), M2)) {n : Nat} : zrun X zmt call zlaw (n + 35) 376 (zls (Int32.ofInt 0)) [] M = some (some (.int 1), M2) := by
  refine zr_s0 rfl rfl rfl rfl ?_
  refine zr_s0 rfl rfl rfl rfl ?_
  refine zr_s0 rfl rfl rfl rfl ?_
  refine zr_s0 rfl rfl rfl rfl ?_
  refine zr_s0 rfl rfl rfl rfl ?_
  refine zr_scr rfl hX (k := 1) (by decide) (by decide) ?_
  refine zr_s0 rfl rfl rfl rfl ?_
  refine zr_s0 rfl rfl rfl rfl ?_
  refine zr_s0 rfl rfl rfl rfl ?_
  refine zr_s0 rfl rfl rfl rfl ?_
  refine zr_scr rfl hX (k := 2) (by decide) (by decide) ?_
  refine zr_callV rfl rfl rfl rfl (by decide) h0 rfl ⟨Or.inl rfl, rfl, rfl, rfl, rfl, rfl, Nat.le_of_ble_eq_true rfl⟩ h1 ?_
  refine zr_s0 rfl rfl rfl rfl ?_
  refine zr_s0 rfl rfl rfl rfl ?_
  refine zr_s0 rfl rfl rfl rfl ?_
  refine zr_s0 rfl rfl rfl rfl ?_
  refine zr_s0 rfl rfl rfl rfl ?_
  refine zr_scr rfl hX (k := 1) (by decide) (by decide) ?_
  refine zr_s0 rfl rfl rfl rfl ?_
  refine zr_s0 rfl rfl rfl rfl ?_
  refine zr_s0 rfl rfl rfl rfl ?_
  refine zr_s0 rfl rfl rfl rfl ?_
  refine zr_scr rfl hX (k := 2) (by decide) (by decide) ?_
  refine zr_callV rfl rfl rfl rfl (by decide) h474 rfl ⟨Or.inl rfl, rfl, rfl, rfl, rfl, rfl, Nat.le_of_ble_eq_true rfl⟩ h2 ?_
  refine zr_icmp (t := 1188) rfl rfl (fun _ => ?_) (fun h => Bool.noConfusion (zc_eqs.symm.trans h))
  exact law_end hX
theorem law_c7 {X : zX} {call : zCall} {M M1 M2 : zM} {r : Int32} (hX : X.1 = 5) (h0 : zob M 0 = some (.inr (11, zf_0))) (h474 : zob M1 474 = some (.inr (12, zf_474))) (h1 : call 261 [.ref 0, .int (X.2.1 1), .int (X.2.1 2)] M = some (some (.int r), M1)) (h2 : call 467 [.ref 474, .int (X.2.1 1), .int (X.2.1 2)] M1 = some (some (.int r), M2)) {n : Nat} : zrun X zmt call zlaw (n + 35) 409 (zls (Int32.ofInt 0)) [] M = some (some (.int 1), M2) := by
  refine zr_s0 rfl rfl rfl rfl ?_
  refine zr_s0 rfl rfl rfl rfl ?_
  refine zr_s0 rfl rfl rfl rfl ?_
  refine zr_s0 rfl rfl rfl rfl ?_
  refine zr_s0 rfl rfl rfl rfl ?_
  refine zr_scr rfl hX (k := 1) (by decide) (by decide) ?_
  refine zr_s0 rfl rfl rfl rfl ?_
  refine zr_s0 rfl rfl rfl rfl ?_
  refine zr_s0 rfl rfl rfl rfl ?_
  refine zr_s0 rfl rfl rfl rfl ?_
  refine zr_scr rfl hX (k := 2) (by decide) (by decide) ?_
  refine zr_callV rfl rfl rfl rfl (by decide) h0 rfl ⟨Or.inl rfl, rfl, rfl, rfl, rfl, rfl, Nat.le_of_ble_eq_true rfl⟩ h1 ?_
  refine zr_s0 rfl rfl rfl rfl ?_
  refine zr_s0 rfl rfl rfl rfl ?_
  refine zr_s0 rfl rfl rfl rfl ?_
  refine zr_s0 rfl rfl rfl rfl ?_
  refine zr_s0 rfl rfl rfl rfl ?_
  refine zr_scr rfl hX (k := 1) (by decide) (by decide) ?_
  refine zr_s0 rfl rfl rfl rfl ?_
  refine zr_s0 rfl rfl rfl rfl ?_
  refine zr_s0 rfl rfl rfl rfl ?_
  refine zr_s0 rfl rfl rfl rfl ?_
  refine zr_scr rfl hX (k := 2) (by decide) (by decide) ?_
  refine zr_callV rfl rfl rfl rfl (by decide) h474 rfl ⟨Or.inl rfl, rfl, rfl, rfl, rfl, rfl, Nat.le_of_ble_eq_true rfl⟩ h2 ?_
  refine zr_icmp (t := 1188) rfl rfl (fun _ => ?_) (fun h => Bool.noConfusion (zc_eqs.symm.trans h))
  exact law_end hX
theorem law_c8 {X : zX} {call : zCall} {M M1 M2 : zM} {r : Int32} (hX : X.1 = 5) (h0 : zob M 0 = some (.inr (11, zf_0))) (h474 : zob M1 474 = some (.inr (12, zf_474))) (h1 : call 262 [.ref 0, .int (X.2.1 1), .int (X.2.1 2), .int (X.2.1 3)] M = some (some (.int r), M1)) (h2 : call 468 [.ref 474, .int (X.2.1 1), .int (X.2.1 2), .int (X.2.1 3)] M1 = some (some (.int r), M2)) {n : Nat} : zrun X zmt call zlaw (n + 45) 442 (zls (Int32.ofInt 0)) [] M = some (some (.int 1), M2) := by
  refine zr_s0 rfl rfl rfl rfl ?_
  refine zr_s0 rfl rfl rfl rfl ?_
  refine zr_s0 rfl rfl rfl rfl ?_
  refine zr_s0 rfl rfl rfl rfl ?_
  refine zr_s0 rfl rfl rfl rfl ?_
  refine zr_scr rfl hX (k := 1) (by decide) (by decide) ?_
  refine zr_s0 rfl rfl rfl rfl ?_
  refine zr_s0 rfl rfl rfl rfl ?_
  refine zr_s0 rfl rfl rfl rfl ?_
  refine zr_s0 rfl rfl rfl rfl ?_
  refine zr_scr rfl hX (k := 2) (by decide) (by decide) ?_
  refine zr_s0 rfl rfl rfl rfl ?_
  refine zr_s0 rfl rfl rfl rfl ?_
  refine zr_s0 rfl rfl rfl rfl ?_
  refine zr_s0 rfl rfl rfl rfl ?_
  refine zr_scr rfl hX (k := 3) (by decide) (by decide) ?_
  refine zr_callV rfl rfl rfl rfl (by decide) h0 rfl ⟨Or.inl rfl, rfl, rfl, rfl, rfl, rfl, Nat.le_of_ble_eq_true rfl⟩ h1 ?_
  refine zr_s0 rfl rfl rfl rfl ?_
  refine zr_s0 rfl rfl rfl rfl ?_
  refine zr_s0 rfl rfl rfl rfl ?_
  refine zr_s0 rfl rfl rfl rfl ?_
  refine zr_s0 rfl rfl rfl rfl ?_
  refine zr_scr rfl hX (k := 1) (by decide) (by decide) ?_
  refine zr_s0 rfl rfl rfl rfl ?_
  refine zr_s0 rfl rfl rfl rfl ?_
  refine zr_s0 rfl rfl rfl rfl ?_
  refine zr_s0 rfl rfl rfl rfl ?_
  refine zr_scr rfl hX (k := 2) (by decide) (by decide) ?_
  refine zr_s0 rfl rfl rfl rfl ?_
  refine zr_s0 rfl rfl rfl rfl ?_
  refine zr_s0 rfl rfl rfl rfl ?_
  refine zr_s0 rfl rfl rfl rfl ?_
  refine zr_scr rfl hX (k := 3) (by decide) (by decide) ?_
  refine zr_callV rfl rfl rfl rfl (by decide) h474 rfl ⟨Or.inl rfl, rfl, rfl, rfl, rfl, rfl, Nat.le_of_ble_eq_true rfl⟩ h2 ?_
  refine zr_icmp (t := 1188) rfl rfl (fun _ => ?_) (fun h => Bool.noConfusion (zc_eqs.symm.trans h))
  exact law_end hX
theorem law_c9 {X : zX} {call : zCall} {M M1 M2 : zM} {r : Int32} (hX : X.1 = 5) (h0 : zob M 0 = some (.inr (11, zf_0))) (h474 : zob M1 474 = some (.inr (12, zf_474))) (h1 : call 263 [.ref 0, .int (X.2.1 1), .int (X.2.1 2), .int (X.2.1 3), .int (X.2.1 4)] M = some (some (.int r), M1)) (h2 : call 469 [.ref 474, .int (X.2.1 1), .int (X.2.1 2), .int (X.2.1 3), .int (X.2.1 4)] M1 = some (some (.int r), M2)) {n : Nat} : zrun X zmt call zlaw (n + 55) 485 (zls (Int32.ofInt 0)) [] M = some (some (.int 1), M2) := by
  refine zr_s0 rfl rfl rfl rfl ?_
  refine zr_s0 rfl rfl rfl rfl ?_
  refine zr_s0 rfl rfl rfl rfl ?_
  refine zr_s0 rfl rfl rfl rfl ?_
  refine zr_s0 rfl rfl rfl rfl ?_
  refine zr_scr rfl hX (k := 1) (by decide) (by decide) ?_
  refine zr_s0 rfl rfl rfl rfl ?_
  refine zr_s0 rfl rfl rfl rfl ?_
  refine zr_s0 rfl rfl rfl rfl ?_
  refine zr_s0 rfl rfl rfl rfl ?_
  refine zr_scr rfl hX (k := 2) (by decide) (by decide) ?_
  refine zr_s0 rfl rfl rfl rfl ?_
  refine zr_s0 rfl rfl rfl rfl ?_
  refine zr_s0 rfl rfl rfl rfl ?_
  refine zr_s0 rfl rfl rfl rfl ?_
  refine zr_scr rfl hX (k := 3) (by decide) (by decide) ?_
  refine zr_s0 rfl rfl rfl rfl ?_
  refine zr_s0 rfl rfl rfl rfl ?_
  refine zr_s0 rfl rfl rfl rfl ?_
  refine zr_s0 rfl rfl rfl rfl ?_
  refine zr_scr rfl hX (k := 4) (by decide) (by decide) ?_
  refine zr_callV rfl rfl rfl rfl (by decide) h0 rfl ⟨Or.inl rfl, rfl, rfl, rfl, rfl, rfl, Nat.le_of_ble_eq_true rfl⟩ h1 ?_
  refine zr_s0 rfl rfl rfl rfl ?_
  refine zr_s0 rfl rfl rfl rfl ?_
  refine zr_s0 rfl rfl rfl rfl ?_
  refine zr_s0 rfl rfl rfl rfl ?_
  refine zr_s0 rfl rfl rfl rfl ?_
  refine zr_scr rfl hX (k := 1) (by decide) (by decide) ?_
  refine zr_s0 rfl rfl rfl rfl ?_
  refine zr_s0 rfl rfl rfl rfl ?_
  refine zr_s0 rfl rfl rfl rfl ?_
  refine zr_s0 rfl rfl rfl rfl ?_
  refine zr_scr rfl hX (k := 2) (by decide) (by decide) ?_
  refine zr_s0 rfl rfl rfl rfl ?_
  refine zr_s0 rfl rfl rfl rfl ?_
  refine zr_s0 rfl rfl rfl rfl ?_
  refine zr_s0 rfl rfl rfl rfl ?_
  refine zr_scr rfl hX (k := 3) (by decide) (by decide) ?_
  refine zr_s0 rfl rfl rfl rfl ?_
  refine zr_s0 rfl rfl rfl rfl ?_
  refine zr_s0 rfl rfl rfl rfl ?_
  refine zr_s0 rfl rfl rfl rfl ?_
  refine zr_scr rfl hX (k := 4) (by decide) (by decide) ?_
  refine zr_callV rfl rfl rfl rfl (by decide) h474 rfl ⟨Or.inl rfl, rfl, rfl, rfl, rfl, rfl, Nat.le_of_ble_eq_true rfl⟩ h2 ?_
  refine zr_icmp (t := 1188) rfl rfl (fun _ => ?_) (fun h => Bool.noConfusion (zc_eqs.symm.trans h))
  exact law_end hX
theorem law_c10 {X : zX} {call : zCall} {M M1 M2 : zM} {r : Int32} (hX : X.1 = 5) (h0 : zob M 0 = some (.inr (11, zf_0))) (h474 : zob M1 474 = some (.inr (12, zf_474))) (h1 : call 264 [.ref 0, .int (X.2.1 1), .int (X.2.1 2)] M = some (some (.int r), M1)) (h2 : call 470 [.ref 474, .int (X.2.1 1), .int (X.2.1 2)] M1 = some (some (.int r), M2)) {n : Nat} : zrun X zmt call zlaw (n + 35) 538 (zls (Int32.ofInt 0)) [] M = some (some (.int 1), M2) := by
  refine zr_s0 rfl rfl rfl rfl ?_
  refine zr_s0 rfl rfl rfl rfl ?_
  refine zr_s0 rfl rfl rfl rfl ?_
  refine zr_s0 rfl rfl rfl rfl ?_
  refine zr_s0 rfl rfl rfl rfl ?_
  refine zr_scr rfl hX (k := 1) (by decide) (by decide) ?_
  refine zr_s0 rfl rfl rfl rfl ?_
  refine zr_s0 rfl rfl rfl rfl ?_
  refine zr_s0 rfl rfl rfl rfl ?_
  refine zr_s0 rfl rfl rfl rfl ?_
  refine zr_scr rfl hX (k := 2) (by decide) (by decide) ?_
  refine zr_callV rfl rfl rfl rfl (by decide) h0 rfl ⟨Or.inl rfl, rfl, rfl, rfl, rfl, rfl, Nat.le_of_ble_eq_true rfl⟩ h1 ?_
  refine zr_s0 rfl rfl rfl rfl ?_
  refine zr_s0 rfl rfl rfl rfl ?_
  refine zr_s0 rfl rfl rfl rfl ?_
  refine zr_s0 rfl rfl rfl rfl ?_
  refine zr_s0 rfl rfl rfl rfl ?_
  refine zr_scr rfl hX (k := 1) (by decide) (by decide) ?_
  refine zr_s0 rfl rfl rfl rfl ?_
  refine zr_s0 rfl rfl rfl rfl ?_
  refine zr_s0 rfl rfl rfl rfl ?_
  refine zr_s0 rfl rfl rfl rfl ?_
  refine zr_scr rfl hX (k := 2) (by decide) (by decide) ?_
  refine zr_callV rfl rfl rfl rfl (by decide) h474 rfl ⟨Or.inl rfl, rfl, rfl, rfl, rfl, rfl, Nat.le_of_ble_eq_true rfl⟩ h2 ?_
  refine zr_icmp (t := 1188) rfl rfl (fun _ => ?_) (fun h => Bool.noConfusion (zc_eqs.symm.trans h))
  exact law_end hX
theorem law_c11 {X : zX} {call : zCall} {M M1 M2 : zM} {r : Int32} (hX : X.1 = 5) (h0 : zob M 0 = some (.inr (11, zf_0))) (h474 : zob M1 474 = some (.inr (12, zf_474))) (h1 : call 265 [.ref 0, .int (X.2.1 1), .int (X.2.1 2), .int (X.2.1 3)] M = some (some (.int r), M1)) (h2 : call 471 [.ref 474, .int (X.2.1 1), .int (X.2.1 2), .int (X.2.1 3)] M1 = some (some (.int r), M2)) {n : Nat} : zrun X zmt call zlaw (n + 45) 571 (zls (Int32.ofInt 0)) [] M = some (some (.int 1), M2) := by
  refine zr_s0 rfl rfl rfl rfl ?_
  refine zr_s0 rfl rfl rfl rfl ?_
  refine zr_s0 rfl rfl rfl rfl ?_
  refine zr_s0 rfl rfl rfl rfl ?_
  refine zr_s0 rfl rfl rfl rfl ?_
  refine zr_scr rfl hX (k := 1) (by decide) (by decide) ?_
  refine zr_s0 rfl rfl rfl rfl ?_
  refine zr_s0 rfl rfl rfl rfl ?_
  refine zr_s0 rfl rfl rfl rfl ?_
  refine zr_s0 rfl rfl rfl rfl ?_
  refine zr_scr rfl hX (k := 2) (by decide) (by decide) ?_
  refine zr_s0 rfl rfl rfl rfl ?_
  refine zr_s0 rfl rfl rfl rfl ?_
  refine zr_s0 rfl rfl rfl rfl ?_
  refine zr_s0 rfl rfl rfl rfl ?_
  refine zr_scr rfl hX (k := 3) (by decide) (by decide) ?_
  refine zr_callV rfl rfl rfl rfl (by decide) h0 rfl ⟨Or.inl rfl, rfl, rfl, rfl, rfl, rfl, Nat.le_of_ble_eq_true rfl⟩ h1 ?_
  refine zr_s0 rfl rfl rfl rfl ?_
  refine zr_s0 rfl rfl rfl rfl ?_
  refine zr_s0 rfl rfl rfl rfl ?_
  refine zr_s0 rfl rfl rfl rfl ?_
  refine zr_s0 rfl rfl rfl rfl ?_
  refine zr_scr rfl hX (k := 1) (by decide) (by decide) ?_
  refine zr_s0 rfl rfl rfl rfl ?_
  refine zr_s0 rfl rfl rfl rfl ?_
  refine zr_s0 rfl rfl rfl rfl ?_
  refine zr_s0 rfl rfl rfl rfl ?_
  refine zr_scr rfl hX (k := 2) (by decide) (by decide) ?_
  refine zr_s0 rfl rfl rfl rfl ?_
  refine zr_s0 rfl rfl rfl rfl ?_
  refine zr_s0 rfl rfl rfl rfl ?_
  refine zr_s0 rfl rfl rfl rfl ?_
  refine zr_scr rfl hX (k := 3) (by decide) (by decide) ?_
  refine zr_callV rfl rfl rfl rfl (by decide) h474 rfl ⟨Or.inl rfl, rfl, rfl, rfl, rfl, rfl, Nat.le_of_ble_eq_true rfl⟩ h2 ?_
  refine zr_icmp (t := 1188) rfl rfl (fun _ => ?_) (fun h => Bool.noConfusion (zc_eqs.symm.trans h))
  exact law_end hX
theorem law_c12 {X : zX} {call : zCall} {M M1 M2 : zM} {r : Int32} (hX : X.1 = 5) (h0 : zob M 0 = some (.inr (11, zf_0))) (h474 : zob M1 474 = some (.inr (12, zf_474))) (h1 : call 266 [.ref 0, .int (X.2.1 1)] M = some (some (.int r), M1)) (h2 : call 472 [.ref 474, .int (X.2.1 1)] M1 = some (some (.int r), M2)) {n : Nat} : zrun X zmt call zlaw (n + 25) 614 (zls (Int32.ofInt 0)) [] M = some (some (.int 1), M2) := by
  refine zr_s0 rfl rfl rfl rfl ?_
  refine zr_s0 rfl rfl rfl rfl ?_
  refine zr_s0 rfl rfl rfl rfl ?_
  refine zr_s0 rfl rfl rfl rfl ?_
  refine zr_s0 rfl rfl rfl rfl ?_
  refine zr_scr rfl hX (k := 1) (by decide) (by decide) ?_
  refine zr_callV rfl rfl rfl rfl (by decide) h0 rfl ⟨Or.inl rfl, rfl, rfl, rfl, rfl, rfl, Nat.le_of_ble_eq_true rfl⟩ h1 ?_
  refine zr_s0 rfl rfl rfl rfl ?_
  refine zr_s0 rfl rfl rfl rfl ?_
  refine zr_s0 rfl rfl rfl rfl ?_
  refine zr_s0 rfl rfl rfl rfl ?_
  refine zr_s0 rfl rfl rfl rfl ?_
  refine zr_scr rfl hX (k := 1) (by decide) (by decide) ?_
  refine zr_callV rfl rfl rfl rfl (by decide) h474 rfl ⟨Or.inl rfl, rfl, rfl, rfl, rfl, rfl, Nat.le_of_ble_eq_true rfl⟩ h2 ?_
  refine zr_icmp (t := 1188) rfl rfl (fun _ => ?_) (fun h => Bool.noConfusion (zc_eqs.symm.trans h))
  exact law_end hX
theorem law_c13 {X : zX} {call : zCall} {M M1 M2 : zM} {r : Int32} (hX : X.1 = 5) (h0 : zob M 0 = some (.inr (11, zf_0))) (h474 : zob M1 474 = some (.inr (12, zf_474))) (h1 : call 267 [.ref 0, .int (X.2.1 1), .int (X.2.1 2), .int (X.2.1 3)] M = some (some (.int r), M1)) (h2 : call 474 [.ref 474, .int (X.2.1 1), .int (X.2.1 2), .int (X.2.1 3)] M1 = some (some (.int r), M2)) {n : Nat} : zrun X zmt call zlaw (n + 45) 637 (zls (Int32.ofInt 0)) [] M = some (some (.int 1), M2) := by
  refine zr_s0 rfl rfl rfl rfl ?_
  refine zr_s0 rfl rfl rfl rfl ?_
  refine zr_s0 rfl rfl rfl rfl ?_
  refine zr_s0 rfl rfl rfl rfl ?_
  refine zr_s0 rfl rfl rfl rfl ?_
  refine zr_scr rfl hX (k := 1) (by decide) (by decide) ?_
  refine zr_s0 rfl rfl rfl rfl ?_
  refine zr_s0 rfl rfl rfl rfl ?_
  refine zr_s0 rfl rfl rfl rfl ?_
  refine zr_s0 rfl rfl rfl rfl ?_
  refine zr_scr rfl hX (k := 2) (by decide) (by decide) ?_
  refine zr_s0 rfl rfl rfl rfl ?_
  refine zr_s0 rfl rfl rfl rfl ?_
  refine zr_s0 rfl rfl rfl rfl ?_
  refine zr_s0 rfl rfl rfl rfl ?_
  refine zr_scr rfl hX (k := 3) (by decide) (by decide) ?_
  refine zr_callV rfl rfl rfl rfl (by decide) h0 rfl ⟨Or.inl rfl, rfl, rfl, rfl, rfl, rfl, Nat.le_of_ble_eq_true rfl⟩ h1 ?_
  refine zr_s0 rfl rfl rfl rfl ?_
  refine zr_s0 rfl rfl rfl rfl ?_
  refine zr_s0 rfl rfl rfl rfl ?_
  refine zr_s0 rfl rfl rfl rfl ?_
  refine zr_s0 rfl rfl rfl rfl ?_
  refine zr_scr rfl hX (k := 1) (by decide) (by decide) ?_
  refine zr_s0 rfl rfl rfl rfl ?_
  refine zr_s0 rfl rfl rfl rfl ?_
  refine zr_s0 rfl rfl rfl rfl ?_
  refine zr_s0 rfl rfl rfl rfl ?_
  refine zr_scr rfl hX (k := 2) (by decide) (by decide) ?_
  refine zr_s0 rfl rfl rfl rfl ?_
  refine zr_s0 rfl rfl rfl rfl ?_
  refine zr_s0 rfl rfl rfl rfl ?_
  refine zr_s0 rfl rfl rfl rfl ?_
  refine zr_scr rfl hX (k := 3) (by decide) (by decide) ?_
  refine zr_callV rfl rfl rfl rfl (by decide) h474 rfl ⟨Or.inl rfl, rfl, rfl, rfl, rfl, rfl, Nat.le_of_ble_eq_true rfl⟩ h2 ?_
  refine zr_icmp (t := 1188) rfl rfl (fun _ => ?_) (fun h => Bool.noConfusion (zc_eqs.symm.trans h))
  exact law_end hX
theorem law_c14 {X : zX} {call : zCall} {M M1 M2 : zM} {r : Int32} (hX : X.1 = 5) (h0 : zob M 0 = some (.inr (11, zf_0))) (h474 : zob M1 474 = some (.inr (12, zf_474))) (h1 : call 268 [.ref 0, .int (X.2.1 1), .int (X.2.1 2), .int (X.2.1 3)] M = some (some (.int r), M1)) (h2 : call 475 [.ref 474, .int (X.2.1 1), .int (X.2.1 2), .int (X.2.1 3)] M1 = some (some (.int r), M2)) {n : Nat} : zrun X zmt call zlaw (n + 45) 680 (zls (Int32.ofInt 0)) [] M = some (some (.int 1), M2) := by
  refine zr_s0 rfl rfl rfl rfl ?_
  refine zr_s0 rfl rfl rfl rfl ?_
  refine zr_s0 rfl rfl rfl rfl ?_
  refine zr_s0 rfl rfl rfl rfl ?_
  refine zr_s0 rfl rfl rfl rfl ?_
  refine zr_scr rfl hX (k := 1) (by decide) (by decide) ?_
  refine zr_s0 rfl rfl rfl rfl ?_
  refine zr_s0 rfl rfl rfl rfl ?_
  refine zr_s0 rfl rfl rfl rfl ?_
  refine zr_s0 rfl rfl rfl rfl ?_
  refine zr_scr rfl hX (k := 2) (by decide) (by decide) ?_
  refine zr_s0 rfl rfl rfl rfl ?_
  refine zr_s0 rfl rfl rfl rfl ?_
  refine zr_s0 rfl rfl rfl rfl ?_
  refine zr_s0 rfl rfl rfl rfl ?_
  refine zr_scr rfl hX (k := 3) (by decide) (by decide) ?_
  refine zr_callV rfl rfl rfl rfl (by decide) h0 rfl ⟨Or.inl rfl, rfl, rfl, rfl, rfl, rfl, Nat.le_of_ble_eq_true rfl⟩ h1 ?_
  refine zr_s0 rfl rfl rfl rfl ?_
  refine zr_s0 rfl rfl rfl rfl ?_
  refine zr_s0 rfl rfl rfl rfl ?_
  refine zr_s0 rfl rfl rfl rfl ?_
  refine zr_s0 rfl rfl rfl rfl ?_
  refine zr_scr rfl hX (k := 1) (by decide) (by decide) ?_
  refine zr_s0 rfl rfl rfl rfl ?_
  refine zr_s0 rfl rfl rfl rfl ?_
  refine zr_s0 rfl rfl rfl rfl ?_
  refine zr_s0 rfl rfl rfl rfl ?_
  refine zr_scr rfl hX (k := 2) (by decide) (by decide) ?_
  refine zr_s0 rfl rfl rfl rfl ?_
  refine zr_s0 rfl rfl rfl rfl ?_
  refine zr_s0 rfl rfl rfl rfl ?_
  refine zr_s0 rfl rfl rfl rfl ?_
  refine zr_scr rfl hX (k := 3) (by decide) (by decide) ?_
  refine zr_callV rfl rfl rfl rfl (by decide) h474 rfl ⟨Or.inl rfl, rfl, rfl, rfl, rfl, rfl, Nat.le_of_ble_eq_true rfl⟩ h2 ?_
  refine zr_icmp (t := 1188) rfl rfl (fun _ => ?_) (fun h => Bool.noConfusion (zc_eqs.symm.trans h))
  exact law_end hX
theorem law_c15 {X : zX} {call : zCall} {M M1 M2 : zM} {r : Int32} (hX : X.1 = 5) (h0 : zob M 0 = some (.inr (11, zf_0))) (h474 : zob M1 474 = some (.inr (12, zf_474))) (h1 : call 269 [.ref 0, .int (X.2.1 1), .int (X.2.1 2), .int (X.2.1 3)] M = some (some (.int r), M1)) (h2 : call 476 [.ref 474, .int (X.2.1 1), .int (X.2.1 2), .int (X.2.1 3)] M1 = some (some (.int r), M2)) {n : Nat} : zrun X zmt call zlaw (n + 45) 723 (zls (Int32.ofInt 0)) [] M = some (some (.int 1), M2) := by
  refine zr_s0 rfl rfl rfl rfl ?_
  refine zr_s0 rfl rfl rfl rfl ?_
  refine zr_s0 rfl rfl rfl rfl ?_
  refine zr_s0 rfl rfl rfl rfl ?_
  refine zr_s0 rfl rfl rfl rfl ?_
  refine zr_scr rfl hX (k := 1) (by decide) (by decide) ?_
  refine zr_s0 rfl rfl rfl rfl ?_
  refine zr_s0 rfl rfl rfl rfl ?_
  refine zr_s0 rfl rfl rfl rfl ?_
  refine zr_s0 rfl rfl rfl rfl ?_
  refine zr_scr rfl hX (k := 2) (by decide) (by decide) ?_
  refine zr_s0 rfl rfl rfl rfl ?_
  refine zr_s0 rfl rfl rfl rfl ?_
  refine zr_s0 rfl rfl rfl rfl ?_
  refine zr_s0 rfl rfl rfl rfl ?_
  refine zr_scr rfl hX (k := 3) (by decide) (by decide) ?_
  refine zr_callV rfl rfl rfl rfl (by decide) h0 rfl ⟨Or.inl rfl, rfl, rfl, rfl, rfl, rfl, Nat.le_of_ble_eq_true rfl⟩ h1 ?_
  refine zr_s0 rfl rfl rfl rfl ?_
  refine zr_s0 rfl rfl rfl rfl ?_
  refine zr_s0 rfl rfl rfl rfl ?_
  refine zr_s0 rfl rfl rfl rfl ?_
  refine zr_s0 rfl rfl rfl rfl ?_
  refine zr_scr rfl hX (k := 1) (by decide) (by decide) ?_
  refine zr_s0 rfl rfl rfl rfl ?_
  refine zr_s0 rfl rfl rfl rfl ?_
  refine zr_s0 rfl rfl rfl rfl ?_
  refine zr_s0 rfl rfl rfl rfl ?_
  refine zr_scr rfl hX (k := 2) (by decide) (by decide) ?_
  refine zr_s0 rfl rfl rfl rfl ?_
  refine zr_s0 rfl rfl rfl rfl ?_
  refine zr_s0 rfl rfl rfl rfl ?_
  refine zr_s0 rfl rfl rfl rfl ?_
  refine zr_scr rfl hX (k := 3) (by decide) (by decide) ?_
  refine zr_callV rfl rfl rfl rfl (by decide) h474 rfl ⟨Or.inl rfl, rfl, rfl, rfl, rfl, rfl, Nat.le_of_ble_eq_true rfl⟩ h2 ?_
  refine zr_icmp (t := 1188) rfl rfl (fun _ => ?_) (fun h => Bool.noConfusion (zc_eqs.symm.trans h))
  exact law_end hX
theorem law_c16 {X : zX} {call : zCall} {M M1 M2 : zM} {r : Int32} (hX : X.1 = 5) (h0 : zob M 0 = some (.inr (11, zf_0))) (h474 : zob M1 474 = some (.inr (12, zf_474))) (h1 : call 270 [.ref 0, .int (X.2.1 1), .int (X.2.1 2)] M = some (some (.int r), M1)) (h2 : call 478 [.ref 474, .int (X.2.1 1), .int (X.2.1 2)] M1 = some (some (.int r), M2)) {n : Nat} : zrun X zmt call zlaw (n + 35) 766 (zls (Int32.ofInt 0)) [] M = some (some (.int 1), M2) := by
  refine zr_s0 rfl rfl rfl rfl ?_
  refine zr_s0 rfl rfl rfl rfl ?_
  refine zr_s0 rfl rfl rfl rfl ?_
  refine zr_s0 rfl rfl rfl rfl ?_
  refine zr_s0 rfl rfl rfl rfl ?_
  refine zr_scr rfl hX (k := 1) (by decide) (by decide) ?_
  refine zr_s0 rfl rfl rfl rfl ?_
  refine zr_s0 rfl rfl rfl rfl ?_
  refine zr_s0 rfl rfl rfl rfl ?_
  refine zr_s0 rfl rfl rfl rfl ?_
  refine zr_scr rfl hX (k := 2) (by decide) (by decide) ?_
  refine zr_callV rfl rfl rfl rfl (by decide) h0 rfl ⟨Or.inl rfl, rfl, rfl, rfl, rfl, rfl, Nat.le_of_ble_eq_true rfl⟩ h1 ?_
  refine zr_s0 rfl rfl rfl rfl ?_
  refine zr_s0 rfl rfl rfl rfl ?_
  refine zr_s0 rfl rfl rfl rfl ?_
  refine zr_s0 rfl rfl rfl rfl ?_
  refine zr_s0 rfl rfl rfl rfl ?_
  refine zr_scr rfl hX (k := 1) (by decide) (by decide) ?_
  refine zr_s0 rfl rfl rfl rfl ?_
  refine zr_s0 rfl rfl rfl rfl ?_
  refine zr_s0 rfl rfl rfl rfl ?_
  refine zr_s0 rfl rfl rfl rfl ?_
  refine zr_scr rfl hX (k := 2) (by decide) (by decide) ?_
  refine zr_callV rfl rfl rfl rfl (by decide) h474 rfl ⟨Or.inl rfl, rfl, rfl, rfl, rfl, rfl, Nat.le_of_ble_eq_true rfl⟩ h2 ?_
  refine zr_icmp (t := 1188) rfl rfl (fun _ => ?_) (fun h => Bool.noConfusion (zc_eqs.symm.trans h))
  exact law_end hX
theorem law_c17 {X : zX} {call : zCall} {M M1 M2 : zM} {r : Int32} (hX : X.1 = 5) (h0 : zob M 0 = some (.inr (11, zf_0))) (h474 : zob M1 474 = some (.inr (12, zf_474))) (h1 : call 271 [.ref 0, .int (X.2.1 1), .int (X.2.1 2), .int (X.2.1 3)] M = some (some (.int r), M1)) (h2 : call 479 [.ref 474, .int (X.2.1 1), .int (X.2.1 2), .int (X.2.1 3)] M1 = some (some (.int r), M2)) {n : Nat} : zrun X zmt call zlaw (n + 45) 799 (zls (Int32.ofInt 0)) [] M = some (some (.int 1), M2) := by
  refine zr_s0 rfl rfl rfl rfl ?_
  refine zr_s0 rfl rfl rfl rfl ?_
  refine zr_s0 rfl rfl rfl rfl ?_
  refine zr_s0 rfl rfl rfl rfl ?_
  refine zr_s0 rfl rfl rfl rfl ?_
  refine zr_scr rfl hX (k := 1) (by decide) (by decide) ?_
  refine zr_s0 rfl rfl rfl rfl ?_
  refine zr_s0 rfl rfl rfl rfl ?_
  refine zr_s0 rfl rfl rfl rfl ?_
  refine zr_s0 rfl rfl rfl rfl ?_
  refine zr_scr rfl hX (k := 2) (by decide) (by decide) ?_
  refine zr_s0 rfl rfl rfl rfl ?_
  refine zr_s0 rfl rfl rfl rfl ?_
  refine zr_s0 rfl rfl rfl rfl ?_
  refine zr_s0 rfl rfl rfl rfl ?_
  refine zr_scr rfl hX (k := 3) (by decide) (by decide) ?_
  refine zr_callV rfl rfl rfl rfl (by decide) h0 rfl ⟨Or.inl rfl, rfl, rfl, rfl, rfl, rfl, Nat.le_of_ble_eq_true rfl⟩ h1 ?_
  refine zr_s0 rfl rfl rfl rfl ?_
  refine zr_s0 rfl rfl rfl rfl ?_
  refine zr_s0 rfl rfl rfl rfl ?_
  refine zr_s0 rfl rfl rfl rfl ?_
  refine zr_s0 rfl rfl rfl rfl ?_
  refine zr_scr rfl hX (k := 1) (by decide) (by decide) ?_
  refine zr_s0 rfl rfl rfl rfl ?_
  refine zr_s0 rfl rfl rfl rfl ?_
  refine zr_s0 rfl rfl rfl rfl ?_
  refine zr_s0 rfl rfl rfl rfl ?_
  refine zr_scr rfl hX (k := 2) (by decide) (by decide) ?_
  refine zr_s0 rfl rfl rfl rfl ?_
  refine zr_s0 rfl rfl rfl rfl ?_
  refine zr_s0 rfl rfl rfl rfl ?_
  refine zr_s0 rfl rfl rfl rfl ?_
  refine zr_scr rfl hX (k := 3) (by decide) (by decide) ?_
  refine zr_callV rfl rfl rfl rfl (by decide) h474 rfl ⟨Or.inl rfl, rfl, rfl, rfl, rfl, rfl, Nat.le_of_ble_eq_true rfl⟩ h2 ?_
  refine zr_icmp (t := 1188) rfl rfl (fun _ => ?_) (fun h => Bool.noConfusion (zc_eqs.symm.trans h))
  exact law_end hX
theorem law_c18 {X : zX} {call : zCall} {M M1 M2 : zM} {r : Int32} (hX : X.1 = 5) (h0 : zob M 0 = some (.inr (11, zf_0))) (h474 : zob M1 474 = some (.inr (12, zf_474))) (h1 : call 272 [.ref 0, .int (X.2.1 1), .int (X.2.1 2)] M = some (some (.int r), M1)) (h2 : call 480 [.ref 474, .int (X.2.1 1), .int (X.2.1 2)] M1 = some (some (.int r), M2)) {n : Nat} : zrun X zmt call zlaw (n + 35) 842 (zls (Int32.ofInt 0)) [] M = some (some (.int 1), M2) := by
  refine zr_s0 rfl rfl rfl rfl ?_
  refine zr_s0 rfl rfl rfl rfl ?_
  refine zr_s0 rfl rfl rfl rfl ?_
  refine zr_s0 rfl rfl rfl rfl ?_
  refine zr_s0 rfl rfl rfl rfl ?_
  refine zr_scr rfl hX (k := 1) (by decide) (by decide) ?_
  refine zr_s0 rfl rfl rfl rfl ?_
  refine zr_s0 rfl rfl rfl rfl ?_
  refine zr_s0 rfl rfl rfl rfl ?_
  refine zr_s0 rfl rfl rfl rfl ?_
  refine zr_scr rfl hX (k := 2) (by decide) (by decide) ?_
  refine zr_callV rfl rfl rfl rfl (by decide) h0 rfl ⟨Or.inl rfl, rfl, rfl, rfl, rfl, rfl, Nat.le_of_ble_eq_true rfl⟩ h1 ?_
  refine zr_s0 rfl rfl rfl rfl ?_
  refine zr_s0 rfl rfl rfl rfl ?_
  refine zr_s0 rfl rfl rfl rfl ?_
  refine zr_s0 rfl rfl rfl rfl ?_
  refine zr_s0 rfl rfl rfl rfl ?_
  refine zr_scr rfl hX (k := 1) (by decide) (by decide) ?_
  refine zr_s0 rfl rfl rfl rfl ?_
  refine zr_s0 rfl rfl rfl rfl ?_
  refine zr_s0 rfl rfl rfl rfl ?_
  refine zr_s0 rfl rfl rfl rfl ?_
  refine zr_scr rfl hX (k := 2) (by decide) (by decide) ?_
  refine zr_callV rfl rfl rfl rfl (by decide) h474 rfl ⟨Or.inl rfl, rfl, rfl, rfl, rfl, rfl, Nat.le_of_ble_eq_true rfl⟩ h2 ?_
  refine zr_icmp (t := 1188) rfl rfl (fun _ => ?_) (fun h => Bool.noConfusion (zc_eqs.symm.trans h))
  exact law_end hX
theorem law_c19 {X : zX} {call : zCall} {M M1 M2 : zM} {r : Int32} (hX : X.1 = 5) (h0 : zob M 0 = some (.inr (11, zf_0))) (h474 : zob M1 474 = some (.inr (12, zf_474))) (h1 : call 273 [.ref 0, .int (X.2.1 1), .int (X.2.1 2)] M = some (some (.int r), M1)) (h2 : call 481 [.ref 474, .int (X.2.1 1), .int (X.2.1 2)] M1 = some (some (.int r), M2)) {n : Nat} : zrun X zmt call zlaw (n + 35) 875 (zls (Int32.ofInt 0)) [] M = some (some (.int 1), M2) := by
  refine zr_s0 rfl rfl rfl rfl ?_
  refine zr_s0 rfl rfl rfl rfl ?_
  refine zr_s0 rfl rfl rfl rfl ?_
  refine zr_s0 rfl rfl rfl rfl ?_
  refine zr_s0 rfl rfl rfl rfl ?_
  refine zr_scr rfl hX (k := 1) (by decide) (by decide) ?_
  refine zr_s0 rfl rfl rfl rfl ?_
  refine zr_s0 rfl rfl rfl rfl ?_
  refine zr_s0 rfl rfl rfl rfl ?_
  refine zr_s0 rfl rfl rfl rfl ?_
  refine zr_scr rfl hX (k := 2) (by decide) (by decide) ?_
  refine zr_callV rfl rfl rfl rfl (by decide) h0 rfl ⟨Or.inl rfl, rfl, rfl, rfl, rfl, rfl, Nat.le_of_ble_eq_true rfl⟩ h1 ?_
  refine zr_s0 rfl rfl rfl rfl ?_
  refine zr_s0 rfl rfl rfl rfl ?_
  refine zr_s0 rfl rfl rfl rfl ?_
  refine zr_s0 rfl rfl rfl rfl ?_
  refine zr_s0 rfl rfl rfl rfl ?_
  refine zr_scr rfl hX (k := 1) (by decide) (by decide) ?_
  refine zr_s0 rfl rfl rfl rfl ?_
  refine zr_s0 rfl rfl rfl rfl ?_
  refine zr_s0 rfl rfl rfl rfl ?_
  refine zr_s0 rfl rfl rfl rfl ?_
  refine zr_scr rfl hX (k := 2) (by decide) (by decide) ?_
  refine zr_callV rfl rfl rfl rfl (by decide) h474 rfl ⟨Or.inl rfl, rfl, rfl, rfl, rfl, rfl, Nat.le_of_ble_eq_true rfl⟩ h2 ?_
  refine zr_icmp (t := 1188) rfl rfl (fun _ => ?_) (fun h => Bool.noConfusion (zc_eqs.symm.trans h))
  exact law_end hX
theorem law_c20 {X : zX} {call : zCall} {M M1 M2 : zM} {r : Int32} (hX : X.1 = 5) (h0 : zob M 0 = some (.inr (11, zf_0))) (h474 : zob M1 474 = some (.inr (12, zf_474))) (h1 : call 274 [.ref 0, .int (X.2.1 1)] M = some (some (.int r), M1)) (h2 : call 482 [.ref 474, .int (X.2.1 1)] M1 = some (some (.int r), M2)) {n : Nat} : zrun X zmt call zlaw (n + 25) 908 (zls (Int32.ofInt 0)) [] M = some (some (.int 1), M2) := by
  refine zr_s0 rfl rfl rfl rfl ?_
  refine zr_s0 rfl rfl rfl rfl ?_
  refine zr_s0 rfl rfl rfl rfl ?_
  refine zr_s0 rfl rfl rfl rfl ?_
  refine zr_s0 rfl rfl rfl rfl ?_
  refine zr_scr rfl hX (k := 1) (by decide) (by decide) ?_
  refine zr_callV rfl rfl rfl rfl (by decide) h0 rfl ⟨Or.inl rfl, rfl, rfl, rfl, rfl, rfl, Nat.le_of_ble_eq_true rfl⟩ h1 ?_
  refine zr_s0 rfl rfl rfl rfl ?_
  refine zr_s0 rfl rfl rfl rfl ?_
  refine zr_s0 rfl rfl rfl rfl ?_
  refine zr_s0 rfl rfl rfl rfl ?_
  refine zr_s0 rfl rfl rfl rfl ?_
  refine zr_scr rfl hX (k := 1) (by decide) (by decide) ?_
  refine zr_callV rfl rfl rfl rfl (by decide) h474 rfl ⟨Or.inl rfl, rfl, rfl, rfl, rfl, rfl, Nat.le_of_ble_eq_true rfl⟩ h2 ?_
  refine zr_icmp (t := 1188) rfl rfl (fun _ => ?_) (fun h => Bool.noConfusion (zc_eqs.symm.trans h))
  exact law_end hX
theorem law_c21 {X : zX} {call : zCall} {M M1 M2 : zM} {r : Int32} (hX : X.1 = 5) (h0 : zob M 0 = some (.inr (11, zf_0))) (h474 : zob M1 474 = some (.inr (12, zf_474))) (h1 : call 275 [.ref 0, .int (X.2.1 1)] M = some (some (.int r), M1)) (h2 : call 484 [.ref 474, .int (X.2.1 1)] M1 = some (some (.int r), M2)) {n : Nat} : zrun X zmt call zlaw (n + 25) 931 (zls (Int32.ofInt 0)) [] M = some (some (.int 1), M2) := by
  refine zr_s0 rfl rfl rfl rfl ?_
  refine zr_s0 rfl rfl rfl rfl ?_
  refine zr_s0 rfl rfl rfl rfl ?_
  refine zr_s0 rfl rfl rfl rfl ?_
  refine zr_s0 rfl rfl rfl rfl ?_
  refine zr_scr rfl hX (k := 1) (by decide) (by decide) ?_
  refine zr_callV rfl rfl rfl rfl (by decide) h0 rfl ⟨Or.inl rfl, rfl, rfl, rfl, rfl, rfl, Nat.le_of_ble_eq_true rfl⟩ h1 ?_
  refine zr_s0 rfl rfl rfl rfl ?_
  refine zr_s0 rfl rfl rfl rfl ?_
  refine zr_s0 rfl rfl rfl rfl ?_
  refine zr_s0 rfl rfl rfl rfl ?_
  refine zr_s0 rfl rfl rfl rfl ?_
  refine zr_scr rfl hX (k := 1) (by decide) (by decide) ?_
  refine zr_callV rfl rfl rfl rfl (by decide) h474 rfl ⟨Or.inl rfl, rfl, rfl, rfl, rfl, rfl, Nat.le_of_ble_eq_true rfl⟩ h2 ?_
  refine zr_icmp (t := 1188) rfl rfl (fun _ => ?_) (fun h => Bool.noConfusion (zc_eqs.symm.trans h))
  exact law_end hX
theorem law_c22 {X : zX} {call : zCall} {M M1 M2 : zM} {r : Int32} (hX : X.1 = 5) (h0 : zob M 0 = some (.inr (11, zf_0))) (h474 : zob M1 474 = some (.inr (12, zf_474))) (h1 : call 276 [.ref 0, .int (X.2.1 1)] M = some (some (.int r), M1)) (h2 : call 485 [.ref 474, .int (X.2.1 1)] M1 = some (some (.int r), M2)) {n : Nat} : zrun X zmt call zlaw (n + 25) 954 (zls (Int32.ofInt 0)) [] M = some (some (.int 1), M2) := by
  refine zr_s0 rfl rfl rfl rfl ?_
  refine zr_s0 rfl rfl rfl rfl ?_
  refine zr_s0 rfl rfl rfl rfl ?_
  refine zr_s0 rfl rfl rfl rfl ?_
  refine zr_s0 rfl rfl rfl rfl ?_
  refine zr_scr rfl hX (k := 1) (by decide) (by decide) ?_
  refine zr_callV rfl rfl rfl rfl (by decide) h0 rfl ⟨Or.inl rfl, rfl, rfl, rfl, rfl, rfl, Nat.le_of_ble_eq_true rfl⟩ h1 ?_
  refine zr_s0 rfl rfl rfl rfl ?_
  refine zr_s0 rfl rfl rfl rfl ?_
  refine zr_s0 rfl rfl rfl rfl ?_
  refine zr_s0 rfl rfl rfl rfl ?_
  refine zr_s0 rfl rfl rfl rfl ?_
  refine zr_scr rfl hX (k := 1) (by decide) (by decide) ?_
  refine zr_callV rfl rfl rfl rfl (by decide) h474 rfl ⟨Or.inl rfl, rfl, rfl, rfl, rfl, rfl, Nat.le_of_ble_eq_true rfl⟩ h2 ?_
  refine zr_icmp (t := 1188) rfl rfl (fun _ => ?_) (fun h => Bool.noConfusion (zc_eqs.symm.trans h))
  exact law_end hX
theorem law_c23 {X : zX} {call : zCall} {M M1 M2 : zM} {r : Int32} (hX : X.1 = 5) (h0 : zob M 0 = some (.inr (11, zf_0))) (h474 : zob M1 474 = some (.inr (12, zf_474))) (h1 : call 277 [.ref 0, .int (X.2.1 1)] M = some (some (.int r), M1)) (h2 : call 486 [.ref 474, .int (X.2.1 1)] M1 = some (some (.int r), M2)) {n : Nat} : zrun X zmt call zlaw (n + 25) 977 (zls (Int32.ofInt 0)) [] M = some (some (.int 1), M2) := by
  refine zr_s0 rfl rfl rfl rfl ?_
  refine zr_s0 rfl rfl rfl rfl ?_
  refine zr_s0 rfl rfl rfl rfl ?_
  refine zr_s0 rfl rfl rfl rfl ?_
  refine zr_s0 rfl rfl rfl rfl ?_
  refine zr_scr rfl hX (k := 1) (by decide) (by decide) ?_
  refine zr_callV rfl rfl rfl rfl (by decide) h0 rfl ⟨Or.inl rfl, rfl, rfl, rfl, rfl, rfl, Nat.le_of_ble_eq_true rfl⟩ h1 ?_
  refine zr_s0 rfl rfl rfl rfl ?_
  refine zr_s0 rfl rfl rfl rfl ?_
  refine zr_s0 rfl rfl rfl rfl ?_
  refine zr_s0 rfl rfl rfl rfl ?_
  refine zr_s0 rfl rfl rfl rfl ?_
  refine zr_scr rfl hX (k := 1) (by decide) (by decide) ?_
  refine zr_callV rfl rfl rfl rfl (by decide) h474 rfl ⟨Or.inl rfl, rfl, rfl, rfl, rfl, rfl, Nat.le_of_ble_eq_true rfl⟩ h2 ?_
  refine zr_icmp (t := 1188) rfl rfl (fun _ => ?_) (fun h => Bool.noConfusion (zc_eqs.symm.trans h))
  exact law_end hX
theorem law_c24 {X : zX} {call : zCall} {M M1 M2 : zM} {r : Int32} (hX : X.1 = 5) (h0 : zob M 0 = some (.inr (11, zf_0))) (h474 : zob M1 474 = some (.inr (12, zf_474))) (h1 : call 278 [.ref 0, .int (X.2.1 1)] M = some (some (.int r), M1)) (h2 : call 487 [.ref 474, .int (X.2.1 1)] M1 = some (some (.int r), M2)) {n : Nat} : zrun X zmt call zlaw (n + 25) 1000 (zls (Int32.ofInt 0)) [] M = some (some (.int 1), M2) := by
  refine zr_s0 rfl rfl rfl rfl ?_
  refine zr_s0 rfl rfl rfl rfl ?_
  refine zr_s0 rfl rfl rfl rfl ?_
  refine zr_s0 rfl rfl rfl rfl ?_
  refine zr_s0 rfl rfl rfl rfl ?_
  refine zr_scr rfl hX (k := 1) (by decide) (by decide) ?_
  refine zr_callV rfl rfl rfl rfl (by decide) h0 rfl ⟨Or.inl rfl, rfl, rfl, rfl, rfl, rfl, Nat.le_of_ble_eq_true rfl⟩ h1 ?_
  refine zr_s0 rfl rfl rfl rfl ?_
  refine zr_s0 rfl rfl rfl rfl ?_
  refine zr_s0 rfl rfl rfl rfl ?_
  refine zr_s0 rfl rfl rfl rfl ?_
  refine zr_s0 rfl rfl rfl rfl ?_
  refine zr_scr rfl hX (k := 1) (by decide) (by decide) ?_
  refine zr_callV rfl rfl rfl rfl (by decide) h474 rfl ⟨Or.inl rfl, rfl, rfl, rfl, rfl, rfl, Nat.le_of_ble_eq_true rfl⟩ h2 ?_
  refine zr_icmp (t := 1188) rfl rfl (fun _ => ?_) (fun h => Bool.noConfusion (zc_eqs.symm.trans h))
  exact law_end hX
theorem law_c25 {X : zX} {call : zCall} {M M1 M2 : zM} {r : Int32} (hX : X.1 = 5) (h0 : zob M 0 = some (.inr (11, zf_0))) (h474 : zob M1 474 = some (.inr (12, zf_474))) (h1 : call 279 [.ref 0, .int (X.2.1 1)] M = some (some (.int r), M1)) (h2 : call 488 [.ref 474, .int (X.2.1 1)] M1 = some (some (.int r), M2)) {n : Nat} : zrun X zmt call zlaw (n + 25) 1023 (zls (Int32.ofInt 0)) [] M = some (some (.int 1), M2) := by
  refine zr_s0 rfl rfl rfl rfl ?_
  refine zr_s0 rfl rfl rfl rfl ?_
  refine zr_s0 rfl rfl rfl rfl ?_
  refine zr_s0 rfl rfl rfl rfl ?_
  refine zr_s0 rfl rfl rfl rfl ?_
  refine zr_scr rfl hX (k := 1) (by decide) (by decide) ?_
  refine zr_callV rfl rfl rfl rfl (by decide) h0 rfl ⟨Or.inl rfl, rfl, rfl, rfl, rfl, rfl, Nat.le_of_ble_eq_true rfl⟩ h1 ?_
  refine zr_s0 rfl rfl rfl rfl ?_
  refine zr_s0 rfl rfl rfl rfl ?_
  refine zr_s0 rfl rfl rfl rfl ?_
  refine zr_s0 rfl rfl rfl rfl ?_
  refine zr_s0 rfl rfl rfl rfl ?_
  refine zr_scr rfl hX (k := 1) (by decide) (by decide) ?_
  refine zr_callV rfl rfl rfl rfl (by decide) h474 rfl ⟨Or.inl rfl, rfl, rfl, rfl, rfl, rfl, Nat.le_of_ble_eq_true rfl⟩ h2 ?_
  refine zr_icmp (t := 1188) rfl rfl (fun _ => ?_) (fun h => Bool.noConfusion (zc_eqs.symm.trans h))
  exact law_end hX
theorem law_c26 {X : zX} {call : zCall} {M M1 M2 : zM} {r : Int32} (hX : X.1 = 5) (h0 : zob M 0 = some (.inr (11, zf_0))) (h474 : zob M1 474 = some (.inr (12, zf_474))) (h1 : call 280 [.ref 0, .int (X.2.1 1), .int (X.2.1 2), .int (X.2.1 3)] M = some (some (.int r), M1)) (h2 : call 489 [.ref 474, .int (X.2.1 1), .int (X.2.1 2), .int (X.2.1 3)] M1 = some (some (.int r), M2)) {n : Nat} : zrun X zmt call zlaw (n + 45) 1046 (zls (Int32.ofInt 0)) [] M = some (some (.int 1), M2) := by
  refine zr_s0 rfl rfl rfl rfl ?_
  refine zr_s0 rfl rfl rfl rfl ?_
  refine zr_s0 rfl rfl rfl rfl ?_
  refine zr_s0 rfl rfl rfl rfl ?_
  refine zr_s0 rfl rfl rfl rfl ?_
  refine zr_scr rfl hX (k := 1) (by decide) (by decide) ?_
  refine zr_s0 rfl rfl rfl rfl ?_
  refine zr_s0 rfl rfl rfl rfl ?_
  refine zr_s0 rfl rfl rfl rfl ?_
  refine zr_s0 rfl rfl rfl rfl ?_
  refine zr_scr rfl hX (k := 2) (by decide) (by decide) ?_
  refine zr_s0 rfl rfl rfl rfl ?_
  refine zr_s0 rfl rfl rfl rfl ?_
  refine zr_s0 rfl rfl rfl rfl ?_
  refine zr_s0 rfl rfl rfl rfl ?_
  refine zr_scr rfl hX (k := 3) (by decide) (by decide) ?_
  refine zr_callV rfl rfl rfl rfl (by decide) h0 rfl ⟨Or.inl rfl, rfl, rfl, rfl, rfl, rfl, Nat.le_of_ble_eq_true rfl⟩ h1 ?_
  refine zr_s0 rfl rfl rfl rfl ?_
  refine zr_s0 rfl rfl rfl rfl ?_
  refine zr_s0 rfl rfl rfl rfl ?_
  refine zr_s0 rfl rfl rfl rfl ?_
  refine zr_s0 rfl rfl rfl rfl ?_
  refine zr_scr rfl hX (k := 1) (by decide) (by decide) ?_
  refine zr_s0 rfl rfl rfl rfl ?_
  refine zr_s0 rfl rfl rfl rfl ?_
  refine zr_s0 rfl rfl rfl rfl ?_
  refine zr_s0 rfl rfl rfl rfl ?_
  refine zr_scr rfl hX (k := 2) (by decide) (by decide) ?_
  refine zr_s0 rfl rfl rfl rfl ?_
  refine zr_s0 rfl rfl rfl rfl ?_
  refine zr_s0 rfl rfl rfl rfl ?_
  refine zr_s0 rfl rfl rfl rfl ?_
  refine zr_scr rfl hX (k := 3) (by decide) (by decide) ?_
  refine zr_callV rfl rfl rfl rfl (by decide) h474 rfl ⟨Or.inl rfl, rfl, rfl, rfl, rfl, rfl, Nat.le_of_ble_eq_true rfl⟩ h2 ?_
  refine zr_icmp (t := 1188) rfl rfl (fun _ => ?_) (fun h => Bool.noConfusion (zc_eqs.symm.trans h))
  exact law_end hX
theorem law_c27 {X : zX} {call : zCall} {M M1 M2 : zM} {r : Int32} (hX : X.1 = 5) (h0 : zob M 0 = some (.inr (11, zf_0))) (h474 : zob M1 474 = some (.inr (12, zf_474))) (h1 : call 281 [.ref 0, .int (X.2.1 1), .int (X.2.1 2)] M = some (some (.int r), M1)) (h2 : call 491 [.ref 474, .int (X.2.1 1), .int (X.2.1 2)] M1 = some (some (.int r), M2)) {n : Nat} : zrun X zmt call zlaw (n + 35) 1089 (zls (Int32.ofInt 0)) [] M = some (some (.int 1), M2) := by
  refine zr_s0 rfl rfl rfl rfl ?_
  refine zr_s0 rfl rfl rfl rfl ?_
  refine zr_s0 rfl rfl rfl rfl ?_
  refine zr_s0 rfl rfl rfl rfl ?_
  refine zr_s0 rfl rfl rfl rfl ?_
  refine zr_scr rfl hX (k := 1) (by decide) (by decide) ?_
  refine zr_s0 rfl rfl rfl rfl ?_
  refine zr_s0 rfl rfl rfl rfl ?_
  refine zr_s0 rfl rfl rfl rfl ?_
  refine zr_s0 rfl rfl rfl rfl ?_
  refine zr_scr rfl hX (k := 2) (by decide) (by decide) ?_
  refine zr_callV rfl rfl rfl rfl (by decide) h0 rfl ⟨Or.inl rfl, rfl, rfl, rfl, rfl, rfl, Nat.le_of_ble_eq_true rfl⟩ h1 ?_
  refine zr_s0 rfl rfl rfl rfl ?_
  refine zr_s0 rfl rfl rfl rfl ?_
  refine zr_s0 rfl rfl rfl rfl ?_
  refine zr_s0 rfl rfl rfl rfl ?_
  refine zr_s0 rfl rfl rfl rfl ?_
  refine zr_scr rfl hX (k := 1) (by decide) (by decide) ?_
  refine zr_s0 rfl rfl rfl rfl ?_
  refine zr_s0 rfl rfl rfl rfl ?_
  refine zr_s0 rfl rfl rfl rfl ?_
  refine zr_s0 rfl rfl rfl rfl ?_
  refine zr_scr rfl hX (k := 2) (by decide) (by decide) ?_
  refine zr_callV rfl rfl rfl rfl (by decide) h474 rfl ⟨Or.inl rfl, rfl, rfl, rfl, rfl, rfl, Nat.le_of_ble_eq_true rfl⟩ h2 ?_
  refine zr_icmp (t := 1188) rfl rfl (fun _ => ?_) (fun h => Bool.noConfusion (zc_eqs.symm.trans h))
  exact law_end hX
theorem law_c28 {X : zX} {call : zCall} {M M1 M2 : zM} {r : Int32} (hX : X.1 = 5) (h0 : zob M 0 = some (.inr (11, zf_0))) (h474 : zob M1 474 = some (.inr (12, zf_474))) (h1 : call 282 [.ref 0, .int (X.2.1 1), .int (X.2.1 2)] M = some (some (.int r), M1)) (h2 : call 492 [.ref 474, .int (X.2.1 1), .int (X.2.1 2)] M1 = some (some (.int r), M2)) {n : Nat} : zrun X zmt call zlaw (n + 35) 1122 (zls (Int32.ofInt 0)) [] M = some (some (.int 1), M2) := by
  refine zr_s0 rfl rfl rfl rfl ?_
  refine zr_s0 rfl rfl rfl rfl ?_
  refine zr_s0 rfl rfl rfl rfl ?_
  refine zr_s0 rfl rfl rfl rfl ?_
  refine zr_s0 rfl rfl rfl rfl ?_
  refine zr_scr rfl hX (k := 1) (by decide) (by decide) ?_
  refine zr_s0 rfl rfl rfl rfl ?_
  refine zr_s0 rfl rfl rfl rfl ?_
  refine zr_s0 rfl rfl rfl rfl ?_
  refine zr_s0 rfl rfl rfl rfl ?_
  refine zr_scr rfl hX (k := 2) (by decide) (by decide) ?_
  refine zr_callV rfl rfl rfl rfl (by decide) h0 rfl ⟨Or.inl rfl, rfl, rfl, rfl, rfl, rfl, Nat.le_of_ble_eq_true rfl⟩ h1 ?_
  refine zr_s0 rfl rfl rfl rfl ?_
  refine zr_s0 rfl rfl rfl rfl ?_
  refine zr_s0 rfl rfl rfl rfl ?_
  refine zr_s0 rfl rfl rfl rfl ?_
  refine zr_s0 rfl rfl rfl rfl ?_
  refine zr_scr rfl hX (k := 1) (by decide) (by decide) ?_
  refine zr_s0 rfl rfl rfl rfl ?_
  refine zr_s0 rfl rfl rfl rfl ?_
  refine zr_s0 rfl rfl rfl rfl ?_
  refine zr_s0 rfl rfl rfl rfl ?_
  refine zr_scr rfl hX (k := 2) (by decide) (by decide) ?_
  refine zr_callV rfl rfl rfl rfl (by decide) h474 rfl ⟨Or.inl rfl, rfl, rfl, rfl, rfl, rfl, Nat.le_of_ble_eq_true rfl⟩ h2 ?_
  refine zr_icmp (t := 1188) rfl rfl (fun _ => ?_) (fun h => Bool.noConfusion (zc_eqs.symm.trans h))
  exact law_end hX
theorem law_c29 {X : zX} {call : zCall} {M M1 M2 : zM} {r : Int32} (hX : X.1 = 5) (h0 : zob M 0 = some (.inr (11, zf_0))) (h474 : zob M1 474 = some (.inr (12, zf_474))) (h1 : call 283 [.ref 0, .int (X.2.1 1), .int (X.2.1 2)] M = some (some (.int r), M1)) (h2 : call 494 [.ref 474, .int (X.2.1 1), .int (X.2.1 2)] M1 = some (some (.int r), M2)) {n : Nat} : zrun X zmt call zlaw (n + 35) 1155 (zls (Int32.ofInt 0)) [] M = some (some (.int 1), M2) := by
  refine zr_s0 rfl rfl rfl rfl ?_
  refine zr_s0 rfl rfl rfl rfl ?_
  refine zr_s0 rfl rfl rfl rfl ?_
  refine zr_s0 rfl rfl rfl rfl ?_
  refine zr_s0 rfl rfl rfl rfl ?_
  refine zr_scr rfl hX (k := 1) (by decide) (by decide) ?_
  refine zr_s0 rfl rfl rfl rfl ?_
  refine zr_s0 rfl rfl rfl rfl ?_
  refine zr_s0 rfl rfl rfl rfl ?_
  refine zr_s0 rfl rfl rfl rfl ?_
  refine zr_scr rfl hX (k := 2) (by decide) (by decide) ?_
  refine zr_callV rfl rfl rfl rfl (by decide) h0 rfl ⟨Or.inl rfl, rfl, rfl, rfl, rfl, rfl, Nat.le_of_ble_eq_true rfl⟩ h1 ?_
  refine zr_s0 rfl rfl rfl rfl ?_
  refine zr_s0 rfl rfl rfl rfl ?_
  refine zr_s0 rfl rfl rfl rfl ?_
  refine zr_s0 rfl rfl rfl rfl ?_
  refine zr_s0 rfl rfl rfl rfl ?_
  refine zr_scr rfl hX (k := 1) (by decide) (by decide) ?_
  refine zr_s0 rfl rfl rfl rfl ?_
  refine zr_s0 rfl rfl rfl rfl ?_
  refine zr_s0 rfl rfl rfl rfl ?_
  refine zr_s0 rfl rfl rfl rfl ?_
  refine zr_scr rfl hX (k := 2) (by decide) (by decide) ?_
  refine zr_callV rfl rfl rfl rfl (by decide) h474 rfl ⟨Or.inl rfl, rfl, rfl, rfl, rfl, rfl, Nat.le_of_ble_eq_true rfl⟩ h2 ?_
  refine zr_icmp (t := 1188) rfl rfl (fun _ => ?_) (fun h => Bool.noConfusion (zc_eqs.symm.trans h))
  exact law_end hX
