/-! the law: its tables -/
def bL_law : Nat → List (Instr × Nat)
  | 0 => [(.new 8, 3), (.dup, 1), (.invokespecial 140, 3), (.astore_n 1, 1), (.new 141, 3), (.dup, 1), (.invokespecial 143, 3), (.astore_n 2, 1), (.iconst 1, 1), (.newarray .long, 2), (.astore_n 3, 1), (.iconst 1, 1), (.newarray .double, 2), (.astore 4, 2), (.iconst 0, 1), (.istore 5, 2)]
  | 28 => [(.iload 5, 2), (.aload_n 0, 1), (.arraylength, 1), (.iconst 5, 1), (.isub, 1), (.if_icmp .gt 2732, 3), (.aload_n 0, 1), (.iload 5, 2), (.iaload, 1), (.bipush 63, 2), (.iand, 1), (.tableswitch 2716 0 40 #[180, 236, 249, 341, 409, 512, 615, 651, 687, 743, 823, 915, 983, 1051, 1064, 1077, 1145, 1201, 1269, 1332, 1387, 1442, 1510, 1566, 1646, 1702, 1770, 1850, 1942, 2034, 2090, 2153, 2216, 2272, 2328, 2391, 2470, 2559, 2637, 2681, 2692], 180)]
  | 224 => [(.aload_n 1, 1), (.aload_n 0, 1), (.iload 5, 2), (.iconst 1, 1), (.iadd, 1), (.iaload, 1), (.aload_n 3, 1), (.invokestatic 144, 3), (.istore 6, 2), (.aload_n 2, 1), (.aload_n 0, 1), (.iload 5, 2), (.iconst 1, 1), (.iadd, 1), (.iaload, 1), (.invokevirtual 149, 3), (.istore 7, 2), (.aload_n 2, 1), (.invokevirtual 150, 3), (.iload 6, 2), (.if_icmp .eq 5, 3), (.iconst 0, 1), (.ireturn, 1)]
  | 260 => [(.iload 6, 2), (.ifCond .ne 15, 3), (.aload_n 3, 1), (.iconst 0, 1), (.laload, 1), (.iload 7, 2), (.i2l, 1), (.lcmp, 1), (.ifCond .eq 5, 3), (.iconst 0, 1), (.ireturn, 1)]
  | 277 => [(.goto 2483, 3)]
  | 280 => [(.aload_n 1, 1), (.invokevirtual 153, 3), (.aload_n 2, 1), (.invokevirtual 156, 3), (.if_icmp .eq 2472, 3), (.iconst 0, 1), (.ireturn, 1)]
  | 293 => [(.aload_n 1, 1), (.aload_n 0, 1), (.iload 5, 2), (.iconst 1, 1), (.iadd, 1), (.iaload, 1), (.aload_n 0, 1), (.iload 5, 2), (.iconst 2, 1), (.iadd, 1), (.iaload, 1), (.aload_n 0, 1), (.iload 5, 2), (.iconst 3, 1), (.iadd, 1), (.iaload, 1), (.aload_n 0, 1), (.iload 5, 2), (.iconst 4, 1), (.iadd, 1), (.iaload, 1), (.aload_n 3, 1), (.invokestatic 157, 3), (.istore 6, 2), (.aload_n 2, 1), (.aload_n 0, 1), (.iload 5, 2), (.iconst 1, 1), (.iadd, 1), (.iaload, 1), (.aload_n 0, 1), (.iload 5, 2), (.iconst 2, 1), (.iadd, 1), (.iaload, 1), (.aload_n 0, 1), (.iload 5, 2), (.iconst 3, 1), (.iadd, 1), (.iaload, 1), (.aload_n 0, 1), (.iload 5, 2), (.iconst 4, 1), (.iadd, 1), (.iaload, 1), (.invokevirtual 160, 3), (.istore 7, 2), (.aload_n 2, 1), (.invokevirtual 150, 3), (.iload 6, 2), (.if_icmp .eq 5, 3), (.iconst 0, 1), (.ireturn, 1)]
  | 365 => [(.iload 6, 2), (.ifCond .ne 15, 3), (.aload_n 3, 1), (.iconst 0, 1), (.laload, 1), (.iload 7, 2), (.i2l, 1), (.lcmp, 1), (.ifCond .eq 5, 3), (.iconst 0, 1), (.ireturn, 1)]
  | 382 => [(.goto 2378, 3)]
  | 385 => [(.aload_n 1, 1), (.aload_n 0, 1), (.iload 5, 2), (.iconst 1, 1), (.iadd, 1), (.iaload, 1), (.aload_n 0, 1), (.iload 5, 2), (.iconst 2, 1), (.iadd, 1), (.iaload, 1), (.aload_n 3, 1), (.invokestatic 161, 3), (.istore 6, 2), (.aload_n 2, 1), (.aload_n 0, 1), (.iload 5, 2), (.iconst 1, 1), (.iadd, 1), (.iaload, 1), (.aload_n 0, 1), (.iload 5, 2), (.iconst 2, 1), (.iadd, 1), (.iaload, 1), (.invokevirtual 164, 3), (.istore 7, 2), (.aload_n 2, 1), (.invokevirtual 150, 3), (.iload 6, 2), (.if_icmp .eq 5, 3), (.iconst 0, 1), (.ireturn, 1)]
  | 433 => [(.iload 6, 2), (.ifCond .ne 15, 3), (.aload_n 3, 1), (.iconst 0, 1), (.laload, 1), (.iload 7, 2), (.i2l, 1), (.lcmp, 1), (.ifCond .eq 5, 3), (.iconst 0, 1), (.ireturn, 1)]
  | 450 => [(.goto 2310, 3)]
  | 453 => [(.aload_n 1, 1), (.aload_n 0, 1), (.iload 5, 2), (.iconst 1, 1), (.iadd, 1), (.iaload, 1), (.aload_n 0, 1), (.iload 5, 2), (.iconst 2, 1), (.iadd, 1), (.iaload, 1), (.aload_n 0, 1), (.iload 5, 2), (.iconst 3, 1), (.iadd, 1), (.iaload, 1), (.ifCond .eq 7, 3), (.iconst 1, 1), (.goto 4, 3)]
  | 479 => [(.iconst 0, 1)]
  | 480 => [(.aload_n 3, 1), (.invokestatic 165, 3), (.istore 6, 2), (.aload_n 2, 1), (.aload_n 0, 1), (.iload 5, 2), (.iconst 1, 1), (.iadd, 1), (.iaload, 1), (.aload_n 0, 1), (.iload 5, 2), (.iconst 2, 1), (.iadd, 1), (.iaload, 1), (.aload_n 0, 1), (.iload 5, 2), (.iconst 3, 1), (.iadd, 1), (.iaload, 1), (.ifCond .eq 7, 3), (.iconst 1, 1), (.goto 4, 3)]
  | 512 => [(.iconst 0, 1)]
  | 513 => [(.invokevirtual 168, 3), (.istore 7, 2), (.aload_n 2, 1), (.invokevirtual 150, 3), (.iload 6, 2), (.if_icmp .eq 5, 3), (.iconst 0, 1), (.ireturn, 1)]
  | 529 => [(.iload 6, 2), (.ifCond .ne 22, 3), (.aload_n 3, 1), (.iconst 0, 1), (.laload, 1), (.iload 7, 2), (.ifCond .eq 7, 3), (.lconst 1, 1), (.goto 4, 3)]
  | 546 => [(.lconst 0, 1)]
  | 547 => [(.lcmp, 1), (.ifCond .eq 5, 3), (.iconst 0, 1), (.ireturn, 1)]
  | 553 => [(.goto 2207, 3)]
  | 556 => [(.aload_n 1, 1), (.aload_n 0, 1), (.iload 5, 2), (.iconst 1, 1), (.iadd, 1), (.iaload, 1), (.aload_n 0, 1), (.iload 5, 2), (.iconst 2, 1), (.iadd, 1), (.iaload, 1), (.aload_n 0, 1), (.iload 5, 2), (.iconst 3, 1), (.iadd, 1), (.iaload, 1), (.ifCond .eq 7, 3), (.iconst 1, 1), (.goto 4, 3)]
  | 582 => [(.iconst 0, 1)]
  | 583 => [(.aload_n 3, 1), (.invokestatic 169, 3), (.istore 6, 2), (.aload_n 2, 1), (.aload_n 0, 1), (.iload 5, 2), (.iconst 1, 1), (.iadd, 1), (.iaload, 1), (.aload_n 0, 1), (.iload 5, 2), (.iconst 2, 1), (.iadd, 1), (.iaload, 1), (.aload_n 0, 1), (.iload 5, 2), (.iconst 3, 1), (.iadd, 1), (.iaload, 1), (.ifCond .eq 7, 3), (.iconst 1, 1), (.goto 4, 3)]
  | 615 => [(.iconst 0, 1)]
  | 616 => [(.invokevirtual 171, 3), (.istore 7, 2), (.aload_n 2, 1), (.invokevirtual 150, 3), (.iload 6, 2), (.if_icmp .eq 5, 3), (.iconst 0, 1), (.ireturn, 1)]
  | 632 => [(.iload 6, 2), (.ifCond .ne 22, 3), (.aload_n 3, 1), (.iconst 0, 1), (.laload, 1), (.iload 7, 2), (.ifCond .eq 7, 3), (.lconst 1, 1), (.goto 4, 3)]
  | 649 => [(.lconst 0, 1)]
  | 650 => [(.lcmp, 1), (.ifCond .eq 5, 3), (.iconst 0, 1), (.ireturn, 1)]
  | 656 => [(.goto 2104, 3)]
  | 659 => [(.aload_n 1, 1), (.aload_n 0, 1), (.iload 5, 2), (.iconst 1, 1), (.iadd, 1), (.iaload, 1), (.invokestatic 172, 3), (.istore 6, 2), (.aload_n 2, 1), (.aload_n 0, 1), (.iload 5, 2), (.iconst 1, 1), (.iadd, 1), (.iaload, 1), (.invokevirtual 175, 3), (.aload_n 2, 1), (.invokevirtual 150, 3), (.iload 6, 2), (.if_icmp .eq 5, 3), (.iconst 0, 1), (.ireturn, 1)]
  | 692 => [(.goto 2068, 3)]
  | 695 => [(.aload_n 1, 1), (.aload_n 0, 1), (.iload 5, 2), (.iconst 1, 1), (.iadd, 1), (.iaload, 1), (.invokestatic 176, 3), (.istore 6, 2), (.aload_n 2, 1), (.aload_n 0, 1), (.iload 5, 2), (.iconst 1, 1), (.iadd, 1), (.iaload, 1), (.invokevirtual 178, 3), (.aload_n 2, 1), (.invokevirtual 150, 3), (.iload 6, 2), (.if_icmp .eq 5, 3), (.iconst 0, 1), (.ireturn, 1)]
  | 728 => [(.goto 2032, 3)]
  | 731 => [(.aload_n 1, 1), (.aload_n 0, 1), (.iload 5, 2), (.iconst 1, 1), (.iadd, 1), (.iaload, 1), (.aload_n 3, 1), (.invokestatic 179, 3), (.istore 6, 2), (.aload_n 2, 1), (.aload_n 0, 1), (.iload 5, 2), (.iconst 1, 1), (.iadd, 1), (.iaload, 1), (.invokevirtual 181, 3), (.istore 7, 2), (.aload_n 2, 1), (.invokevirtual 150, 3), (.iload 6, 2), (.if_icmp .eq 5, 3), (.iconst 0, 1), (.ireturn, 1)]
  | 767 => [(.iload 6, 2), (.ifCond .ne 15, 3), (.aload_n 3, 1), (.iconst 0, 1), (.laload, 1), (.iload 7, 2), (.i2l, 1), (.lcmp, 1), (.ifCond .eq 5, 3), (.iconst 0, 1), (.ireturn, 1)]
  | 784 => [(.goto 1976, 3)]
  | 787 => [(.aload_n 1, 1), (.aload_n 0, 1), (.iload 5, 2), (.iconst 1, 1), (.iadd, 1), (.iaload, 1), (.aload_n 0, 1), (.iload 5, 2), (.iconst 2, 1), (.iadd, 1), (.iaload, 1), (.aload_n 0, 1), (.iload 5, 2), (.iconst 3, 1), (.iadd, 1), (.iaload, 1), (.aload_n 3, 1), (.invokestatic 182, 3), (.istore 6, 2), (.aload_n 2, 1), (.aload_n 0, 1), (.iload 5, 2), (.iconst 1, 1), (.iadd, 1), (.iaload, 1), (.aload_n 0, 1), (.iload 5, 2), (.iconst 2, 1), (.iadd, 1), (.iaload, 1), (.aload_n 0, 1), (.iload 5, 2), (.iconst 3, 1), (.iadd, 1), (.iaload, 1), (.invokevirtual 185, 3), (.istore 7, 2), (.aload_n 2, 1), (.invokevirtual 150, 3), (.iload 6, 2), (.if_icmp .eq 5, 3), (.iconst 0, 1), (.ireturn, 1)]
  | 847 => [(.iload 6, 2), (.ifCond .ne 15, 3), (.aload_n 3, 1), (.iconst 0, 1), (.laload, 1), (.iload 7, 2), (.i2l, 1), (.lcmp, 1), (.ifCond .eq 5, 3), (.iconst 0, 1), (.ireturn, 1)]
  | 864 => [(.goto 1896, 3)]
  | 867 => [(.aload_n 1, 1), (.aload_n 0, 1), (.iload 5, 2), (.iconst 1, 1), (.iadd, 1), (.iaload, 1), (.aload_n 0, 1), (.iload 5, 2), (.iconst 2, 1), (.iadd, 1), (.iaload, 1), (.aload_n 0, 1), (.iload 5, 2), (.iconst 3, 1), (.iadd, 1), (.iaload, 1), (.aload_n 0, 1), (.iload 5, 2), (.iconst 4, 1), (.iadd, 1), (.iaload, 1), (.aload_n 3, 1), (.invokestatic 186, 3), (.istore 6, 2), (.aload_n 2, 1), (.aload_n 0, 1), (.iload 5, 2), (.iconst 1, 1), (.iadd, 1), (.iaload, 1), (.aload_n 0, 1), (.iload 5, 2), (.iconst 2, 1), (.iadd, 1), (.iaload, 1), (.aload_n 0, 1), (.iload 5, 2), (.iconst 3, 1), (.iadd, 1), (.iaload, 1), (.aload_n 0, 1), (.iload 5, 2), (.iconst 4, 1), (.iadd, 1), (.iaload, 1), (.invokevirtual 188, 3), (.istore 7, 2), (.aload_n 2, 1), (.invokevirtual 150, 3), (.iload 6, 2), (.if_icmp .eq 5, 3), (.iconst 0, 1), (.ireturn, 1)]
  | 939 => [(.iload 6, 2), (.ifCond .ne 15, 3), (.aload_n 3, 1), (.iconst 0, 1), (.laload, 1), (.iload 7, 2), (.i2l, 1), (.lcmp, 1), (.ifCond .eq 5, 3), (.iconst 0, 1), (.ireturn, 1)]
  | 956 => [(.goto 1804, 3)]
  | 959 => [(.aload_n 1, 1), (.aload_n 0, 1), (.iload 5, 2), (.iconst 1, 1), (.iadd, 1), (.iaload, 1), (.aload_n 0, 1), (.iload 5, 2), (.iconst 2, 1), (.iadd, 1), (.iaload, 1), (.aload_n 3, 1), (.invokestatic 189, 3), (.istore 6, 2), (.aload_n 2, 1), (.aload_n 0, 1), (.iload 5, 2), (.iconst 1, 1), (.iadd, 1), (.iaload, 1), (.aload_n 0, 1), (.iload 5, 2), (.iconst 2, 1), (.iadd, 1), (.iaload, 1), (.invokevirtual 191, 3), (.istore 7, 2), (.aload_n 2, 1), (.invokevirtual 150, 3), (.iload 6, 2), (.if_icmp .eq 5, 3), (.iconst 0, 1), (.ireturn, 1)]
  | 1007 => [(.iload 6, 2), (.ifCond .ne 15, 3), (.aload_n 3, 1), (.iconst 0, 1), (.laload, 1), (.iload 7, 2), (.i2l, 1), (.lcmp, 1), (.ifCond .eq 5, 3), (.iconst 0, 1), (.ireturn, 1)]
  | 1024 => [(.goto 1736, 3)]
  | 1027 => [(.aload_n 1, 1), (.aload_n 0, 1), (.iload 5, 2), (.iconst 1, 1), (.iadd, 1), (.iaload, 1), (.aload_n 0, 1), (.iload 5, 2), (.iconst 2, 1), (.iadd, 1), (.iaload, 1), (.aload_n 3, 1), (.invokestatic 192, 3), (.istore 6, 2), (.aload_n 2, 1), (.aload_n 0, 1), (.iload 5, 2), (.iconst 1, 1), (.iadd, 1), (.iaload, 1), (.aload_n 0, 1), (.iload 5, 2), (.iconst 2, 1), (.iadd, 1), (.iaload, 1), (.invokevirtual 194, 3), (.istore 7, 2), (.aload_n 2, 1), (.invokevirtual 150, 3), (.iload 6, 2), (.if_icmp .eq 5, 3), (.iconst 0, 1), (.ireturn, 1)]
  | 1075 => [(.iload 6, 2), (.ifCond .ne 15, 3), (.aload_n 3, 1), (.iconst 0, 1), (.laload, 1), (.iload 7, 2), (.i2l, 1), (.lcmp, 1), (.ifCond .eq 5, 3), (.iconst 0, 1), (.ireturn, 1)]
  | 1092 => [(.goto 1668, 3)]
  | 1095 => [(.aload_n 1, 1), (.invokevirtual 195, 3), (.aload_n 2, 1), (.invokevirtual 198, 3), (.if_icmp .eq 1657, 3), (.iconst 0, 1), (.ireturn, 1)]
  | 1108 => [(.aload_n 1, 1), (.invokevirtual 199, 3), (.aload_n 2, 1), (.invokevirtual 202, 3), (.if_icmp .eq 1644, 3), (.iconst 0, 1), (.ireturn, 1)]
  | 1121 => [(.aload_n 1, 1), (.aload_n 0, 1), (.iload 5, 2), (.iconst 1, 1), (.iadd, 1), (.iaload, 1), (.aload_n 0, 1), (.iload 5, 2), (.iconst 2, 1), (.iadd, 1), (.iaload, 1), (.aload_n 3, 1), (.invokestatic 203, 3), (.istore 6, 2), (.aload_n 2, 1), (.aload_n 0, 1), (.iload 5, 2), (.iconst 1, 1), (.iadd, 1), (.iaload, 1), (.aload_n 0, 1), (.iload 5, 2), (.iconst 2, 1), (.iadd, 1), (.iaload, 1), (.invokevirtual 205, 3), (.istore 7, 2), (.aload_n 2, 1), (.invokevirtual 150, 3), (.iload 6, 2), (.if_icmp .eq 5, 3), (.iconst 0, 1), (.ireturn, 1)]
  | 1169 => [(.iload 6, 2), (.ifCond .ne 15, 3), (.aload_n 3, 1), (.iconst 0, 1), (.laload, 1), (.iload 7, 2), (.i2l, 1), (.lcmp, 1), (.ifCond .eq 5, 3), (.iconst 0, 1), (.ireturn, 1)]
  | 1186 => [(.goto 1574, 3)]
  | 1189 => [(.aload_n 1, 1), (.aload_n 0, 1), (.iload 5, 2), (.iconst 1, 1), (.iadd, 1), (.iaload, 1), (.aload_n 3, 1), (.invokestatic 206, 3), (.istore 6, 2), (.aload_n 2, 1), (.aload_n 0, 1), (.iload 5, 2), (.iconst 1, 1), (.iadd, 1), (.iaload, 1), (.invokevirtual 208, 3), (.istore 7, 2), (.aload_n 2, 1), (.invokevirtual 150, 3), (.iload 6, 2), (.if_icmp .eq 5, 3), (.iconst 0, 1), (.ireturn, 1)]
  | 1225 => [(.iload 6, 2), (.ifCond .ne 15, 3), (.aload_n 3, 1), (.iconst 0, 1), (.laload, 1), (.iload 7, 2), (.i2l, 1), (.lcmp, 1), (.ifCond .eq 5, 3), (.iconst 0, 1), (.ireturn, 1)]
  | 1242 => [(.goto 1518, 3)]
  | 1245 => [(.aload_n 1, 1), (.aload_n 0, 1), (.iload 5, 2), (.iconst 1, 1), (.iadd, 1), (.iaload, 1), (.aload_n 0, 1), (.iload 5, 2), (.iconst 2, 1), (.iadd, 1), (.iaload, 1), (.aload_n 3, 1), (.invokestatic 209, 3), (.istore 6, 2), (.aload_n 2, 1), (.aload_n 0, 1), (.iload 5, 2), (.iconst 1, 1), (.iadd, 1), (.iaload, 1), (.aload_n 0, 1), (.iload 5, 2), (.iconst 2, 1), (.iadd, 1), (.iaload, 1), (.invokevirtual 211, 3), (.istore 7, 2), (.aload_n 2, 1), (.invokevirtual 150, 3), (.iload 6, 2), (.if_icmp .eq 5, 3), (.iconst 0, 1), (.ireturn, 1)]
  | 1293 => [(.iload 6, 2), (.ifCond .ne 15, 3), (.aload_n 3, 1), (.iconst 0, 1), (.laload, 1), (.iload 7, 2), (.i2l, 1), (.lcmp, 1), (.ifCond .eq 5, 3), (.iconst 0, 1), (.ireturn, 1)]
  | 1310 => [(.goto 1450, 3)]
  | 1313 => [(.aload_n 1, 1), (.aload_n 0, 1), (.iload 5, 2), (.iconst 1, 1), (.iadd, 1), (.iaload, 1), (.aload_n 3, 1), (.invokestatic 212, 3), (.istore 6, 2), (.aload_n 2, 1), (.aload_n 0, 1), (.iload 5, 2), (.iconst 1, 1), (.iadd, 1), (.iaload, 1), (.invokevirtual 214, 3), (.istore 7, 2), (.aload_n 2, 1), (.invokevirtual 150, 3), (.iload 6, 2), (.if_icmp .eq 5, 3), (.iconst 0, 1), (.ireturn, 1)]
  | 1349 => [(.iload 6, 2), (.ifCond .ne 22, 3), (.aload_n 3, 1), (.iconst 0, 1), (.laload, 1), (.iload 7, 2), (.ifCond .eq 7, 3), (.lconst 1, 1), (.goto 4, 3)]
  | 1366 => [(.lconst 0, 1)]
  | 1367 => [(.lcmp, 1), (.ifCond .eq 5, 3), (.iconst 0, 1), (.ireturn, 1)]
  | 1373 => [(.goto 1387, 3)]
  | 1376 => [(.aload_n 1, 1), (.aload_n 0, 1), (.iload 5, 2), (.iconst 1, 1), (.iadd, 1), (.iaload, 1), (.aload_n 3, 1), (.invokestatic 215, 3), (.istore 6, 2), (.aload_n 2, 1), (.aload_n 0, 1), (.iload 5, 2), (.iconst 1, 1), (.iadd, 1), (.iaload, 1), (.invokevirtual 217, 3), (.lstore 7, 2), (.aload_n 2, 1), (.invokevirtual 150, 3), (.iload 6, 2), (.if_icmp .eq 5, 3), (.iconst 0, 1), (.ireturn, 1)]
  | 1412 => [(.iload 6, 2), (.ifCond .ne 14, 3), (.aload_n 3, 1), (.iconst 0, 1), (.laload, 1), (.lload 7, 2), (.lcmp, 1), (.ifCond .eq 5, 3), (.iconst 0, 1), (.ireturn, 1)]
  | 1428 => [(.goto 1332, 3)]
  | 1431 => [(.aload_n 1, 1), (.aload_n 0, 1), (.iload 5, 2), (.iconst 1, 1), (.iadd, 1), (.iaload, 1), (.aload_n 3, 1), (.invokestatic 218, 3), (.istore 6, 2), (.aload_n 2, 1), (.aload_n 0, 1), (.iload 5, 2), (.iconst 1, 1), (.iadd, 1), (.iaload, 1), (.invokevirtual 220, 3), (.lstore 7, 2), (.aload_n 2, 1), (.invokevirtual 150, 3), (.iload 6, 2), (.if_icmp .eq 5, 3), (.iconst 0, 1), (.ireturn, 1)]
  | 1467 => [(.iload 6, 2), (.ifCond .ne 14, 3), (.aload_n 3, 1), (.iconst 0, 1), (.laload, 1), (.lload 7, 2), (.lcmp, 1), (.ifCond .eq 5, 3), (.iconst 0, 1), (.ireturn, 1)]
  | 1483 => [(.goto 1277, 3)]
  | 1486 => [(.aload_n 1, 1), (.aload_n 0, 1), (.iload 5, 2), (.iconst 1, 1), (.iadd, 1), (.iaload, 1), (.aload_n 0, 1), (.iload 5, 2), (.iconst 2, 1), (.iadd, 1), (.iaload, 1), (.aload_n 3, 1), (.invokestatic 221, 3), (.istore 6, 2), (.aload_n 2, 1), (.aload_n 0, 1), (.iload 5, 2), (.iconst 1, 1), (.iadd, 1), (.iaload, 1), (.aload_n 0, 1), (.iload 5, 2), (.iconst 2, 1), (.iadd, 1), (.iaload, 1), (.invokevirtual 223, 3), (.istore 7, 2), (.aload_n 2, 1), (.invokevirtual 150, 3), (.iload 6, 2), (.if_icmp .eq 5, 3), (.iconst 0, 1), (.ireturn, 1)]
  | 1534 => [(.iload 6, 2), (.ifCond .ne 15, 3), (.aload_n 3, 1), (.iconst 0, 1), (.laload, 1), (.iload 7, 2), (.i2l, 1), (.lcmp, 1), (.ifCond .eq 5, 3), (.iconst 0, 1), (.ireturn, 1)]
  | 1551 => [(.goto 1209, 3)]
  | 1554 => [(.aload_n 1, 1), (.aload_n 0, 1), (.iload 5, 2), (.iconst 1, 1), (.iadd, 1), (.iaload, 1), (.aload_n 3, 1), (.invokestatic 224, 3), (.istore 6, 2), (.aload_n 2, 1), (.aload_n 0, 1), (.iload 5, 2), (.iconst 1, 1), (.iadd, 1), (.iaload, 1), (.invokevirtual 226, 3), (.istore 7, 2), (.aload_n 2, 1), (.invokevirtual 150, 3), (.iload 6, 2), (.if_icmp .eq 5, 3), (.iconst 0, 1), (.ireturn, 1)]
  | 1590 => [(.iload 6, 2), (.ifCond .ne 15, 3), (.aload_n 3, 1), (.iconst 0, 1), (.laload, 1), (.iload 7, 2), (.i2l, 1), (.lcmp, 1), (.ifCond .eq 5, 3), (.iconst 0, 1), (.ireturn, 1)]
  | 1607 => [(.goto 1153, 3)]
  | 1610 => [(.aload_n 1, 1), (.aload_n 0, 1), (.iload 5, 2), (.iconst 1, 1), (.iadd, 1), (.iaload, 1), (.aload_n 0, 1), (.iload 5, 2), (.iconst 2, 1), (.iadd, 1), (.iaload, 1), (.aload_n 0, 1), (.iload 5, 2), (.iconst 3, 1), (.iadd, 1), (.iaload, 1), (.aload_n 3, 1), (.invokestatic 227, 3), (.istore 6, 2), (.aload_n 2, 1), (.aload_n 0, 1), (.iload 5, 2), (.iconst 1, 1), (.iadd, 1), (.iaload, 1), (.aload_n 0, 1), (.iload 5, 2), (.iconst 2, 1), (.iadd, 1), (.iaload, 1), (.aload_n 0, 1), (.iload 5, 2), (.iconst 3, 1), (.iadd, 1), (.iaload, 1), (.invokevirtual 229, 3), (.istore 7, 2), (.aload_n 2, 1), (.invokevirtual 150, 3), (.iload 6, 2), (.if_icmp .eq 5, 3), (.iconst 0, 1), (.ireturn, 1)]
  | 1670 => [(.iload 6, 2), (.ifCond .ne 15, 3), (.aload_n 3, 1), (.iconst 0, 1), (.laload, 1), (.iload 7, 2), (.i2l, 1), (.lcmp, 1), (.ifCond .eq 5, 3), (.iconst 0, 1), (.ireturn, 1)]
  | 1687 => [(.goto 1073, 3)]
  | 1690 => [(.aload_n 1, 1), (.aload_n 0, 1), (.iload 5, 2), (.iconst 1, 1), (.iadd, 1), (.iaload, 1), (.aload_n 3, 1), (.invokestatic 230, 3), (.istore 6, 2), (.aload_n 2, 1), (.aload_n 0, 1), (.iload 5, 2), (.iconst 1, 1), (.iadd, 1), (.iaload, 1), (.invokevirtual 232, 3), (.istore 7, 2), (.aload_n 2, 1), (.invokevirtual 150, 3), (.iload 6, 2), (.if_icmp .eq 5, 3), (.iconst 0, 1), (.ireturn, 1)]
  | 1726 => [(.iload 6, 2), (.ifCond .ne 15, 3), (.aload_n 3, 1), (.iconst 0, 1), (.laload, 1), (.iload 7, 2), (.i2l, 1), (.lcmp, 1), (.ifCond .eq 5, 3), (.iconst 0, 1), (.ireturn, 1)]
  | 1743 => [(.goto 1017, 3)]
  | 1746 => [(.aload_n 1, 1), (.aload_n 0, 1), (.iload 5, 2), (.iconst 1, 1), (.iadd, 1), (.iaload, 1), (.aload_n 0, 1), (.iload 5, 2), (.iconst 2, 1), (.iadd, 1), (.iaload, 1), (.aload_n 3, 1), (.invokestatic 233, 3), (.istore 6, 2), (.aload_n 2, 1), (.aload_n 0, 1), (.iload 5, 2), (.iconst 1, 1), (.iadd, 1), (.iaload, 1), (.aload_n 0, 1), (.iload 5, 2), (.iconst 2, 1), (.iadd, 1), (.iaload, 1), (.invokevirtual 235, 3), (.istore 7, 2), (.aload_n 2, 1), (.invokevirtual 150, 3), (.iload 6, 2), (.if_icmp .eq 5, 3), (.iconst 0, 1), (.ireturn, 1)]
  | 1794 => [(.iload 6, 2), (.ifCond .ne 15, 3), (.aload_n 3, 1), (.iconst 0, 1), (.laload, 1), (.iload 7, 2), (.i2l, 1), (.lcmp, 1), (.ifCond .eq 5, 3), (.iconst 0, 1), (.ireturn, 1)]
  | 1811 => [(.goto 949, 3)]
  | 1814 => [(.aload_n 1, 1), (.aload_n 0, 1), (.iload 5, 2), (.iconst 1, 1), (.iadd, 1), (.iaload, 1), (.aload_n 0, 1), (.iload 5, 2), (.iconst 2, 1), (.iadd, 1), (.iaload, 1), (.aload_n 0, 1), (.iload 5, 2), (.iconst 3, 1), (.iadd, 1), (.iaload, 1), (.aload_n 3, 1), (.invokestatic 236, 3), (.istore 6, 2), (.aload_n 2, 1), (.aload_n 0, 1), (.iload 5, 2), (.iconst 1, 1), (.iadd, 1), (.iaload, 1), (.aload_n 0, 1), (.iload 5, 2), (.iconst 2, 1), (.iadd, 1), (.iaload, 1), (.aload_n 0, 1), (.iload 5, 2), (.iconst 3, 1), (.iadd, 1), (.iaload, 1), (.invokevirtual 238, 3), (.istore 7, 2), (.aload_n 2, 1), (.invokevirtual 150, 3), (.iload 6, 2), (.if_icmp .eq 5, 3), (.iconst 0, 1), (.ireturn, 1)]
  | 1874 => [(.iload 6, 2), (.ifCond .ne 15, 3), (.aload_n 3, 1), (.iconst 0, 1), (.laload, 1), (.iload 7, 2), (.i2l, 1), (.lcmp, 1), (.ifCond .eq 5, 3), (.iconst 0, 1), (.ireturn, 1)]
  | 1891 => [(.goto 869, 3)]
  | 1894 => [(.aload_n 1, 1), (.aload_n 0, 1), (.iload 5, 2), (.iconst 1, 1), (.iadd, 1), (.iaload, 1), (.aload_n 0, 1), (.iload 5, 2), (.iconst 2, 1), (.iadd, 1), (.iaload, 1), (.aload_n 0, 1), (.iload 5, 2), (.iconst 3, 1), (.iadd, 1), (.iaload, 1), (.aload_n 0, 1), (.iload 5, 2), (.iconst 4, 1), (.iadd, 1), (.iaload, 1), (.aload_n 3, 1), (.invokestatic 239, 3), (.istore 6, 2), (.aload_n 2, 1), (.aload_n 0, 1), (.iload 5, 2), (.iconst 1, 1), (.iadd, 1), (.iaload, 1), (.aload_n 0, 1), (.iload 5, 2), (.iconst 2, 1), (.iadd, 1), (.iaload, 1), (.aload_n 0, 1), (.iload 5, 2), (.iconst 3, 1), (.iadd, 1), (.iaload, 1), (.aload_n 0, 1), (.iload 5, 2), (.iconst 4, 1), (.iadd, 1), (.iaload, 1), (.invokevirtual 241, 3), (.istore 7, 2), (.aload_n 2, 1), (.invokevirtual 150, 3), (.iload 6, 2), (.if_icmp .eq 5, 3), (.iconst 0, 1), (.ireturn, 1)]
  | 1966 => [(.iload 6, 2), (.ifCond .ne 15, 3), (.aload_n 3, 1), (.iconst 0, 1), (.laload, 1), (.iload 7, 2), (.i2l, 1), (.lcmp, 1), (.ifCond .eq 5, 3), (.iconst 0, 1), (.ireturn, 1)]
  | 1983 => [(.goto 777, 3)]
  | 1986 => [(.aload_n 1, 1), (.aload_n 0, 1), (.iload 5, 2), (.iconst 1, 1), (.iadd, 1), (.iaload, 1), (.aload_n 0, 1), (.iload 5, 2), (.iconst 2, 1), (.iadd, 1), (.iaload, 1), (.aload_n 0, 1), (.iload 5, 2), (.iconst 3, 1), (.iadd, 1), (.iaload, 1), (.aload_n 0, 1), (.iload 5, 2), (.iconst 4, 1), (.iadd, 1), (.iaload, 1), (.aload_n 3, 1), (.invokestatic 242, 3), (.istore 6, 2), (.aload_n 2, 1), (.aload_n 0, 1), (.iload 5, 2), (.iconst 1, 1), (.iadd, 1), (.iaload, 1), (.aload_n 0, 1), (.iload 5, 2), (.iconst 2, 1), (.iadd, 1), (.iaload, 1), (.aload_n 0, 1), (.iload 5, 2), (.iconst 3, 1), (.iadd, 1), (.iaload, 1), (.aload_n 0, 1), (.iload 5, 2), (.iconst 4, 1), (.iadd, 1), (.iaload, 1), (.invokevirtual 244, 3), (.istore 7, 2), (.aload_n 2, 1), (.invokevirtual 150, 3), (.iload 6, 2), (.if_icmp .eq 5, 3), (.iconst 0, 1), (.ireturn, 1)]
  | 2058 => [(.iload 6, 2), (.ifCond .ne 15, 3), (.aload_n 3, 1), (.iconst 0, 1), (.laload, 1), (.iload 7, 2), (.i2l, 1), (.lcmp, 1), (.ifCond .eq 5, 3), (.iconst 0, 1), (.ireturn, 1)]
  | 2075 => [(.goto 685, 3)]
  | 2078 => [(.aload_n 1, 1), (.aload_n 0, 1), (.iload 5, 2), (.iconst 1, 1), (.iadd, 1), (.iaload, 1), (.aload_n 3, 1), (.invokestatic 245, 3), (.istore 6, 2), (.aload_n 2, 1), (.aload_n 0, 1), (.iload 5, 2), (.iconst 1, 1), (.iadd, 1), (.iaload, 1), (.invokevirtual 247, 3), (.istore 7, 2), (.aload_n 2, 1), (.invokevirtual 150, 3), (.iload 6, 2), (.if_icmp .eq 5, 3), (.iconst 0, 1), (.ireturn, 1)]
  | 2114 => [(.iload 6, 2), (.ifCond .ne 15, 3), (.aload_n 3, 1), (.iconst 0, 1), (.laload, 1), (.iload 7, 2), (.i2l, 1), (.lcmp, 1), (.ifCond .eq 5, 3), (.iconst 0, 1), (.ireturn, 1)]
  | 2131 => [(.goto 629, 3)]
  | 2134 => [(.aload_n 1, 1), (.aload_n 0, 1), (.iload 5, 2), (.iconst 1, 1), (.iadd, 1), (.iaload, 1), (.aload_n 3, 1), (.invokestatic 248, 3), (.istore 6, 2), (.aload_n 2, 1), (.aload_n 0, 1), (.iload 5, 2), (.iconst 1, 1), (.iadd, 1), (.iaload, 1), (.invokevirtual 250, 3), (.istore 7, 2), (.aload_n 2, 1), (.invokevirtual 150, 3), (.iload 6, 2), (.if_icmp .eq 5, 3), (.iconst 0, 1), (.ireturn, 1)]
  | 2170 => [(.iload 6, 2), (.ifCond .ne 22, 3), (.aload_n 3, 1), (.iconst 0, 1), (.laload, 1), (.iload 7, 2), (.ifCond .eq 7, 3), (.lconst 1, 1), (.goto 4, 3)]
  | 2187 => [(.lconst 0, 1)]
  | 2188 => [(.lcmp, 1), (.ifCond .eq 5, 3), (.iconst 0, 1), (.ireturn, 1)]
  | 2194 => [(.goto 566, 3)]
  | 2197 => [(.aload_n 1, 1), (.aload_n 0, 1), (.iload 5, 2), (.iconst 1, 1), (.iadd, 1), (.iaload, 1), (.aload_n 3, 1), (.invokestatic 251, 3), (.istore 6, 2), (.aload_n 2, 1), (.aload_n 0, 1), (.iload 5, 2), (.iconst 1, 1), (.iadd, 1), (.iaload, 1), (.invokevirtual 253, 3), (.istore 7, 2), (.aload_n 2, 1), (.invokevirtual 150, 3), (.iload 6, 2), (.if_icmp .eq 5, 3), (.iconst 0, 1), (.ireturn, 1)]
  | 2233 => [(.iload 6, 2), (.ifCond .ne 22, 3), (.aload_n 3, 1), (.iconst 0, 1), (.laload, 1), (.iload 7, 2), (.ifCond .eq 7, 3), (.lconst 1, 1), (.goto 4, 3)]
  | 2250 => [(.lconst 0, 1)]
  | 2251 => [(.lcmp, 1), (.ifCond .eq 5, 3), (.iconst 0, 1), (.ireturn, 1)]
  | 2257 => [(.goto 503, 3)]
  | 2260 => [(.aload_n 1, 1), (.aload_n 0, 1), (.iload 5, 2), (.iconst 1, 1), (.iadd, 1), (.iaload, 1), (.aload_n 3, 1), (.invokestatic 254, 3), (.istore 6, 2), (.aload_n 2, 1), (.aload_n 0, 1), (.iload 5, 2), (.iconst 1, 1), (.iadd, 1), (.iaload, 1), (.invokevirtual 256, 3), (.istore 7, 2), (.aload_n 2, 1), (.invokevirtual 150, 3), (.iload 6, 2), (.if_icmp .eq 5, 3), (.iconst 0, 1), (.ireturn, 1)]
  | 2296 => [(.iload 6, 2), (.ifCond .ne 15, 3), (.aload_n 3, 1), (.iconst 0, 1), (.laload, 1), (.iload 7, 2), (.i2l, 1), (.lcmp, 1), (.ifCond .eq 5, 3), (.iconst 0, 1), (.ireturn, 1)]
  | 2313 => [(.goto 447, 3)]
  | 2316 => [(.aload_n 1, 1), (.aload_n 0, 1), (.iload 5, 2), (.iconst 1, 1), (.iadd, 1), (.iaload, 1), (.aload_n 3, 1), (.invokestatic 257, 3), (.istore 6, 2), (.aload_n 2, 1), (.aload_n 0, 1), (.iload 5, 2), (.iconst 1, 1), (.iadd, 1), (.iaload, 1), (.invokevirtual 259, 3), (.istore 7, 2), (.aload_n 2, 1), (.invokevirtual 150, 3), (.iload 6, 2), (.if_icmp .eq 5, 3), (.iconst 0, 1), (.ireturn, 1)]
  | 2352 => [(.iload 6, 2), (.ifCond .ne 15, 3), (.aload_n 3, 1), (.iconst 0, 1), (.laload, 1), (.iload 7, 2), (.i2l, 1), (.lcmp, 1), (.ifCond .eq 5, 3), (.iconst 0, 1), (.ireturn, 1)]
  | 2369 => [(.goto 391, 3)]
  | 2372 => [(.aload_n 1, 1), (.aload_n 0, 1), (.iload 5, 2), (.iconst 1, 1), (.iadd, 1), (.iaload, 1), (.aload_n 3, 1), (.invokestatic 260, 3), (.istore 6, 2), (.aload_n 2, 1), (.aload_n 0, 1), (.iload 5, 2), (.iconst 1, 1), (.iadd, 1), (.iaload, 1), (.invokevirtual 262, 3), (.istore 7, 2), (.aload_n 2, 1), (.invokevirtual 150, 3), (.iload 6, 2), (.if_icmp .eq 5, 3), (.iconst 0, 1), (.ireturn, 1)]
  | 2408 => [(.iload 6, 2), (.ifCond .ne 22, 3), (.aload_n 3, 1), (.iconst 0, 1), (.laload, 1), (.iload 7, 2), (.ifCond .eq 7, 3), (.lconst 1, 1), (.goto 4, 3)]
  | 2425 => [(.lconst 0, 1)]
  | 2426 => [(.lcmp, 1), (.ifCond .eq 5, 3), (.iconst 0, 1), (.ireturn, 1)]
  | 2432 => [(.goto 328, 3)]
  | 2435 => [(.aload_n 1, 1), (.aload_n 0, 1), (.iload 5, 2), (.iconst 1, 1), (.iadd, 1), (.iaload, 1), (.aload_n 0, 1), (.iload 5, 2), (.iconst 2, 1), (.iadd, 1), (.iaload, 1), (.aload_n 0, 1), (.iload 5, 2), (.iconst 3, 1), (.iadd, 1), (.iaload, 1), (.aload_n 3, 1), (.invokestatic 263, 3), (.istore 6, 2), (.aload_n 2, 1), (.aload_n 0, 1), (.iload 5, 2), (.iconst 1, 1), (.iadd, 1), (.iaload, 1), (.aload_n 0, 1), (.iload 5, 2), (.iconst 2, 1), (.iadd, 1), (.iaload, 1), (.aload_n 0, 1), (.iload 5, 2), (.iconst 3, 1), (.iadd, 1), (.iaload, 1), (.invokevirtual 265, 3), (.lstore 7, 2), (.aload_n 2, 1), (.invokevirtual 150, 3), (.iload 6, 2), (.if_icmp .eq 5, 3), (.iconst 0, 1), (.ireturn, 1)]
  | 2495 => [(.iload 6, 2), (.ifCond .ne 14, 3), (.aload_n 3, 1), (.iconst 0, 1), (.laload, 1), (.lload 7, 2), (.lcmp, 1), (.ifCond .eq 5, 3), (.iconst 0, 1), (.ireturn, 1)]
  | 2511 => [(.goto 249, 3)]
  | 2514 => [(.aload_n 1, 1), (.aload_n 0, 1), (.iload 5, 2), (.iconst 1, 1), (.iadd, 1), (.iaload, 1), (.aload_n 0, 1), (.iload 5, 2), (.iconst 2, 1), (.iadd, 1), (.iaload, 1), (.aload 4, 2), (.invokestatic 266, 3), (.istore 6, 2), (.aload_n 2, 1), (.aload_n 0, 1), (.iload 5, 2), (.iconst 1, 1), (.iadd, 1), (.iaload, 1), (.aload_n 0, 1), (.iload 5, 2), (.iconst 2, 1), (.iadd, 1), (.iaload, 1), (.invokevirtual 269, 3), (.dstore 7, 2), (.aload_n 2, 1), (.invokevirtual 150, 3), (.iload 6, 2), (.if_icmp .eq 5, 3), (.iconst 0, 1), (.ireturn, 1)]
  | 2563 => [(.iload 6, 2), (.ifCond .ne 35, 3), (.aload 4, 2), (.iconst 0, 1), (.daload, 1), (.dload 7, 2), (.dcmp .l, 1), (.ifCond .eq 25, 3), (.aload 4, 2), (.iconst 0, 1), (.daload, 1), (.aload 4, 2), (.iconst 0, 1), (.daload, 1), (.dcmp .l, 1), (.ifCond .eq 11, 3), (.dload 7, 2), (.dload 7, 2), (.dcmp .l, 1), (.ifCond .ne 5, 3)]
  | 2598 => [(.iconst 0, 1), (.ireturn, 1)]
  | 2600 => [(.goto 160, 3)]
  | 2603 => [(.aload_n 1, 1), (.aload_n 0, 1), (.iload 5, 2), (.iconst 1, 1), (.iadd, 1), (.iaload, 1), (.aload 4, 2), (.invokestatic 270, 3), (.istore 6, 2), (.aload_n 2, 1), (.aload_n 0, 1), (.iload 5, 2), (.iconst 1, 1), (.iadd, 1), (.iaload, 1), (.invokevirtual 273, 3), (.fstore 7, 2), (.aload_n 2, 1), (.invokevirtual 150, 3), (.iload 6, 2), (.if_icmp .eq 5, 3), (.iconst 0, 1), (.ireturn, 1)]
  | 2640 => [(.iload 6, 2), (.ifCond .ne 36, 3), (.aload 4, 2), (.iconst 0, 1), (.daload, 1), (.fload 7, 2), (.f2d, 1), (.dcmp .l, 1), (.ifCond .eq 25, 3), (.aload 4, 2), (.iconst 0, 1), (.daload, 1), (.aload 4, 2), (.iconst 0, 1), (.daload, 1), (.dcmp .l, 1), (.ifCond .eq 11, 3), (.fload 7, 2), (.fload 7, 2), (.fcmp .l, 1), (.ifCond .ne 5, 3)]
  | 2676 => [(.iconst 0, 1), (.ireturn, 1)]
  | 2678 => [(.goto 82, 3)]
  | 2681 => [(.aload_n 1, 1), (.aload_n 3, 1), (.invokestatic 274, 3), (.istore 6, 2), (.aload_n 2, 1), (.invokevirtual 277, 3), (.istore 7, 2), (.aload_n 2, 1), (.invokevirtual 150, 3), (.iload 6, 2), (.if_icmp .eq 5, 3), (.iconst 0, 1), (.ireturn, 1)]
  | 2705 => [(.iload 6, 2), (.ifCond .ne 15, 3), (.aload_n 3, 1), (.iconst 0, 1), (.laload, 1), (.iload 7, 2), (.i2l, 1), (.lcmp, 1), (.ifCond .eq 5, 3), (.iconst 0, 1), (.ireturn, 1)]
  | 2722 => [(.goto 38, 3)]
  | 2725 => [(.aload_n 1, 1), (.invokevirtual 278, 3), (.aload_n 2, 1), (.invokevirtual 281, 3), (.goto 27, 3)]
  | 2736 => [(.aload_n 1, 1), (.invokestatic 282, 3), (.istore 6, 2), (.aload_n 2, 1), (.invokevirtual 285, 3), (.aload_n 2, 1), (.invokevirtual 150, 3), (.iload 6, 2), (.if_icmp .eq 5, 3), (.iconst 0, 1), (.ireturn, 1)]
  | 2757 => [(.goto 3, 3)]
  | 2760 => [(.iinc 5 5, 3), (.goto (-2735), 3)]
  | 2766 => [(.iconst 1, 1), (.ireturn, 1)]
  | _ => []
def uL_law : Nat → Option (List Bool)
  | 28 => some [true, true, true, true, true, true, false, false, false]
  | 224 => some [true, true, true, true, true, true, false, false, false]
  | 280 => some [true, true, true, true, true, true, false, false, false]
  | 293 => some [true, true, true, true, true, true, false, false, false]
  | 385 => some [true, true, true, true, true, true, false, false, false]
  | 453 => some [true, true, true, true, true, true, false, false, false]
  | 556 => some [true, true, true, true, true, true, false, false, false]
  | 659 => some [true, true, true, true, true, true, false, false, false]
  | 695 => some [true, true, true, true, true, true, false, false, false]
  | 731 => some [true, true, true, true, true, true, false, false, false]
  | 787 => some [true, true, true, true, true, true, false, false, false]
  | 867 => some [true, true, true, true, true, true, false, false, false]
  | 959 => some [true, true, true, true, true, true, false, false, false]
  | 1027 => some [true, true, true, true, true, true, false, false, false]
  | 1095 => some [true, true, true, true, true, true, false, false, false]
  | 1108 => some [true, true, true, true, true, true, false, false, false]
  | 1121 => some [true, true, true, true, true, true, false, false, false]
  | 1189 => some [true, true, true, true, true, true, false, false, false]
  | 1245 => some [true, true, true, true, true, true, false, false, false]
  | 1313 => some [true, true, true, true, true, true, false, false, false]
  | 1376 => some [true, true, true, true, true, true, false, false, false]
  | 1431 => some [true, true, true, true, true, true, false, false, false]
  | 1486 => some [true, true, true, true, true, true, false, false, false]
  | 1554 => some [true, true, true, true, true, true, false, false, false]
  | 1610 => some [true, true, true, true, true, true, false, false, false]
  | 1690 => some [true, true, true, true, true, true, false, false, false]
  | 1746 => some [true, true, true, true, true, true, false, false, false]
  | 1814 => some [true, true, true, true, true, true, false, false, false]
  | 1894 => some [true, true, true, true, true, true, false, false, false]
  | 1986 => some [true, true, true, true, true, true, false, false, false]
  | 2078 => some [true, true, true, true, true, true, false, false, false]
  | 2134 => some [true, true, true, true, true, true, false, false, false]
  | 2197 => some [true, true, true, true, true, true, false, false, false]
  | 2260 => some [true, true, true, true, true, true, false, false, false]
  | 2316 => some [true, true, true, true, true, true, false, false, false]
  | 2372 => some [true, true, true, true, true, true, false, false, false]
  | 2435 => some [true, true, true, true, true, true, false, false, false]
  | 2514 => some [true, true, true, true, true, true, false, false, false]
  | 2603 => some [true, true, true, true, true, true, false, false, false]
  | 2681 => some [true, true, true, true, true, true, false, false, false]
  | 2725 => some [true, true, true, true, true, true, false, false, false]
  | 2736 => some [true, true, true, true, true, true, false, false, false]
  | 2760 => some [true, true, true, true, true, true, false, false, false]
  | _ => none
def aL_law : pvCa
  | 144 => some (3, true, 0, 1, C_L_appendCharacter)
  | 149 => some (2, false, 9, 0, C_X10_appendCharacter)
  | 150 => some (1, false, 9, 0, C_X10_thrown)
  | 153 => some (1, false, 8, 0, C_X9_faultPosition)
  | 156 => some (1, false, 9, 0, C_X10_faultPosition)
  | 157 => some (6, true, 0, 1, C_L_addTransition)
  | 160 => some (5, false, 9, 0, C_X10_addTransition)
  | 161 => some (4, true, 0, 1, C_L_removeTransition)
  | 164 => some (3, false, 9, 0, C_X10_removeTransition)
  | 165 => some (5, true, 0, 1, C_L_setInitial)
  | 168 => some (4, false, 9, 0, C_X10_setInitial)
  | 169 => some (5, true, 0, 1, C_L_setFinal)
  | 171 => some (4, false, 9, 0, C_X10_setFinal)
  | 172 => some (2, true, 0, 1, C_L_copyAutomaton)
  | 175 => some (2, false, 9, 0, C_X10_copyAutomaton)
  | 176 => some (2, true, 0, 1, C_L_clearAutomaton)
  | 178 => some (2, false, 9, 0, C_X10_clearAutomaton)
  | 179 => some (3, true, 0, 1, C_L_transitionCount)
  | 181 => some (2, false, 9, 0, C_X10_transitionCount)
  | 182 => some (5, true, 0, 1, C_L_transition)
  | 185 => some (4, false, 9, 0, C_X10_transition)
  | 186 => some (6, true, 0, 1, C_L_constraint)
  | 188 => some (5, false, 9, 0, C_X10_constraint)
  | 189 => some (4, true, 0, 1, C_L_satisfyingValuations)
  | 191 => some (3, false, 9, 0, C_X10_satisfyingValuations)
  | 192 => some (4, true, 0, 1, C_L_appendEvent)
  | 194 => some (3, false, 9, 0, C_X10_appendEvent)
  | 195 => some (1, false, 8, 0, C_X9_clearWord)
  | 198 => some (1, false, 9, 0, C_X10_clearWord)
  | 199 => some (1, false, 8, 0, C_X9_wordLength)
  | 202 => some (1, false, 9, 0, C_X10_wordLength)
  | 203 => some (4, true, 0, 1, C_L_event)
  | 205 => some (3, false, 9, 0, C_X10_event)
  | 206 => some (3, true, 0, 1, C_L_valuationBefore)
  | 208 => some (2, false, 9, 0, C_X10_valuationBefore)
  | 209 => some (4, true, 0, 1, C_L_statesAfter)
  | 211 => some (3, false, 9, 0, C_X10_statesAfter)
  | 212 => some (3, true, 0, 1, C_L_accepts)
  | 214 => some (2, false, 9, 0, C_X10_accepts)
  | 215 => some (3, true, 0, 1, C_L_runCount)
  | 217 => some (2, false, 9, 0, C_X10_runCount)
  | 218 => some (3, true, 0, 1, C_L_acceptingRuns)
  | 220 => some (2, false, 9, 0, C_X10_acceptingRuns)
  | 221 => some (4, true, 0, 1, C_L_firstRun)
  | 223 => some (3, false, 9, 0, C_X10_firstRun)
  | 224 => some (3, true, 0, 1, C_L_stuckAt)
  | 226 => some (2, false, 9, 0, C_X10_stuckAt)
  | 227 => some (5, true, 0, 1, C_L_blockingConstraint)
  | 229 => some (4, false, 9, 0, C_X10_blockingConstraint)
  | 230 => some (3, true, 0, 1, C_L_deterministicStates)
  | 232 => some (2, false, 9, 0, C_X10_deterministicStates)
  | 233 => some (4, true, 0, 1, C_L_deterministicSet)
  | 235 => some (3, false, 9, 0, C_X10_deterministicSet)
  | 236 => some (5, true, 0, 1, C_L_branches)
  | 238 => some (4, false, 9, 0, C_X10_branches)
  | 239 => some (6, true, 0, 1, C_L_branchTarget)
  | 241 => some (5, false, 9, 0, C_X10_branchTarget)
  | 242 => some (6, true, 0, 1, C_L_branchValuations)
  | 244 => some (5, false, 9, 0, C_X10_branchValuations)
  | 245 => some (3, true, 0, 1, C_L_deterministicRun)
  | 247 => some (2, false, 9, 0, C_X10_deterministicRun)
  | 248 => some (3, true, 0, 1, C_L_isDeterministic)
  | 250 => some (2, false, 9, 0, C_X10_isDeterministic)
  | 251 => some (3, true, 0, 1, C_L_isEmpty)
  | 253 => some (2, false, 9, 0, C_X10_isEmpty)
  | 254 => some (3, true, 0, 1, C_L_takeWitness)
  | 256 => some (2, false, 9, 0, C_X10_takeWitness)
  | 257 => some (3, true, 0, 1, C_L_takeDifference)
  | 259 => some (2, false, 9, 0, C_X10_takeDifference)
  | 260 => some (3, true, 0, 1, C_L_isIncluded)
  | 262 => some (2, false, 9, 0, C_X10_isIncluded)
  | 263 => some (5, true, 0, 1, C_L_acceptedWords)
  | 265 => some (4, false, 9, 0, C_X10_acceptedWords)
  | 266 => some (4, true, 0, 1, C_L_acceptedShare)
  | 269 => some (3, false, 9, 0, C_X10_acceptedShare)
  | 270 => some (3, true, 0, 1, C_L_averageBranches)
  | 273 => some (2, false, 9, 0, C_X10_averageBranches)
  | 274 => some (2, true, 0, 1, C_L_undo)
  | 277 => some (1, false, 9, 0, C_X10_undo)
  | 278 => some (1, false, 8, 0, C_X9_save)
  | 281 => some (1, false, 9, 0, C_X10_save)
  | 282 => some (1, true, 0, 1, C_L_restore)
  | 285 => some (1, false, 9, 0, C_X10_restore)
  | _ => none
theorem bL_law_0 : bL_law 0 = [(.new 8, 3), (.dup, 1), (.invokespecial 140, 3), (.astore_n 1, 1), (.new 141, 3), (.dup, 1), (.invokespecial 143, 3), (.astore_n 2, 1), (.iconst 1, 1), (.newarray .long, 2), (.astore_n 3, 1), (.iconst 1, 1), (.newarray .double, 2), (.astore 4, 2), (.iconst 0, 1), (.istore 5, 2)] := rfl
theorem uL_law_0 : uL_law 0 = none := rfl
theorem bL_law_28 : bL_law 28 = [(.iload 5, 2), (.aload_n 0, 1), (.arraylength, 1), (.iconst 5, 1), (.isub, 1), (.if_icmp .gt 2732, 3), (.aload_n 0, 1), (.iload 5, 2), (.iaload, 1), (.bipush 63, 2), (.iand, 1), (.tableswitch 2716 0 40 #[180, 236, 249, 341, 409, 512, 615, 651, 687, 743, 823, 915, 983, 1051, 1064, 1077, 1145, 1201, 1269, 1332, 1387, 1442, 1510, 1566, 1646, 1702, 1770, 1850, 1942, 2034, 2090, 2153, 2216, 2272, 2328, 2391, 2470, 2559, 2637, 2681, 2692], 180)] := rfl
theorem uL_law_28 : uL_law 28 = some [true, true, true, true, true, true, false, false, false] := rfl
theorem bL_law_224 : bL_law 224 = [(.aload_n 1, 1), (.aload_n 0, 1), (.iload 5, 2), (.iconst 1, 1), (.iadd, 1), (.iaload, 1), (.aload_n 3, 1), (.invokestatic 144, 3), (.istore 6, 2), (.aload_n 2, 1), (.aload_n 0, 1), (.iload 5, 2), (.iconst 1, 1), (.iadd, 1), (.iaload, 1), (.invokevirtual 149, 3), (.istore 7, 2), (.aload_n 2, 1), (.invokevirtual 150, 3), (.iload 6, 2), (.if_icmp .eq 5, 3), (.iconst 0, 1), (.ireturn, 1)] := rfl
theorem uL_law_224 : uL_law 224 = some [true, true, true, true, true, true, false, false, false] := rfl
theorem bL_law_260 : bL_law 260 = [(.iload 6, 2), (.ifCond .ne 15, 3), (.aload_n 3, 1), (.iconst 0, 1), (.laload, 1), (.iload 7, 2), (.i2l, 1), (.lcmp, 1), (.ifCond .eq 5, 3), (.iconst 0, 1), (.ireturn, 1)] := rfl
theorem uL_law_260 : uL_law 260 = none := rfl
theorem bL_law_277 : bL_law 277 = [(.goto 2483, 3)] := rfl
theorem uL_law_277 : uL_law 277 = none := rfl
theorem bL_law_280 : bL_law 280 = [(.aload_n 1, 1), (.invokevirtual 153, 3), (.aload_n 2, 1), (.invokevirtual 156, 3), (.if_icmp .eq 2472, 3), (.iconst 0, 1), (.ireturn, 1)] := rfl
theorem uL_law_280 : uL_law 280 = some [true, true, true, true, true, true, false, false, false] := rfl
theorem bL_law_293 : bL_law 293 = [(.aload_n 1, 1), (.aload_n 0, 1), (.iload 5, 2), (.iconst 1, 1), (.iadd, 1), (.iaload, 1), (.aload_n 0, 1), (.iload 5, 2), (.iconst 2, 1), (.iadd, 1), (.iaload, 1), (.aload_n 0, 1), (.iload 5, 2), (.iconst 3, 1), (.iadd, 1), (.iaload, 1), (.aload_n 0, 1), (.iload 5, 2), (.iconst 4, 1), (.iadd, 1), (.iaload, 1), (.aload_n 3, 1), (.invokestatic 157, 3), (.istore 6, 2), (.aload_n 2, 1), (.aload_n 0, 1), (.iload 5, 2), (.iconst 1, 1), (.iadd, 1), (.iaload, 1), (.aload_n 0, 1), (.iload 5, 2), (.iconst 2, 1), (.iadd, 1), (.iaload, 1), (.aload_n 0, 1), (.iload 5, 2), (.iconst 3, 1), (.iadd, 1), (.iaload, 1), (.aload_n 0, 1), (.iload 5, 2), (.iconst 4, 1), (.iadd, 1), (.iaload, 1), (.invokevirtual 160, 3), (.istore 7, 2), (.aload_n 2, 1), (.invokevirtual 150, 3), (.iload 6, 2), (.if_icmp .eq 5, 3), (.iconst 0, 1), (.ireturn, 1)] := rfl
theorem uL_law_293 : uL_law 293 = some [true, true, true, true, true, true, false, false, false] := rfl
theorem bL_law_365 : bL_law 365 = [(.iload 6, 2), (.ifCond .ne 15, 3), (.aload_n 3, 1), (.iconst 0, 1), (.laload, 1), (.iload 7, 2), (.i2l, 1), (.lcmp, 1), (.ifCond .eq 5, 3), (.iconst 0, 1), (.ireturn, 1)] := rfl
theorem uL_law_365 : uL_law 365 = none := rfl
theorem bL_law_382 : bL_law 382 = [(.goto 2378, 3)] := rfl
theorem uL_law_382 : uL_law 382 = none := rfl
theorem bL_law_385 : bL_law 385 = [(.aload_n 1, 1), (.aload_n 0, 1), (.iload 5, 2), (.iconst 1, 1), (.iadd, 1), (.iaload, 1), (.aload_n 0, 1), (.iload 5, 2), (.iconst 2, 1), (.iadd, 1), (.iaload, 1), (.aload_n 3, 1), (.invokestatic 161, 3), (.istore 6, 2), (.aload_n 2, 1), (.aload_n 0, 1), (.iload 5, 2), (.iconst 1, 1), (.iadd, 1), (.iaload, 1), (.aload_n 0, 1), (.iload 5, 2), (.iconst 2, 1), (.iadd, 1), (.iaload, 1), (.invokevirtual 164, 3), (.istore 7, 2), (.aload_n 2, 1), (.invokevirtual 150, 3), (.iload 6, 2), (.if_icmp .eq 5, 3), (.iconst 0, 1), (.ireturn, 1)] := rfl
theorem uL_law_385 : uL_law 385 = some [true, true, true, true, true, true, false, false, false] := rfl
theorem bL_law_433 : bL_law 433 = [(.iload 6, 2), (.ifCond .ne 15, 3), (.aload_n 3, 1), (.iconst 0, 1), (.laload, 1), (.iload 7, 2), (.i2l, 1), (.lcmp, 1), (.ifCond .eq 5, 3), (.iconst 0, 1), (.ireturn, 1)] := rfl
theorem uL_law_433 : uL_law 433 = none := rfl
theorem bL_law_450 : bL_law 450 = [(.goto 2310, 3)] := rfl
theorem uL_law_450 : uL_law 450 = none := rfl
theorem bL_law_453 : bL_law 453 = [(.aload_n 1, 1), (.aload_n 0, 1), (.iload 5, 2), (.iconst 1, 1), (.iadd, 1), (.iaload, 1), (.aload_n 0, 1), (.iload 5, 2), (.iconst 2, 1), (.iadd, 1), (.iaload, 1), (.aload_n 0, 1), (.iload 5, 2), (.iconst 3, 1), (.iadd, 1), (.iaload, 1), (.ifCond .eq 7, 3), (.iconst 1, 1), (.goto 4, 3)] := rfl
theorem uL_law_453 : uL_law 453 = some [true, true, true, true, true, true, false, false, false] := rfl
theorem bL_law_479 : bL_law 479 = [(.iconst 0, 1)] := rfl
theorem uL_law_479 : uL_law 479 = none := rfl
theorem bL_law_480 : bL_law 480 = [(.aload_n 3, 1), (.invokestatic 165, 3), (.istore 6, 2), (.aload_n 2, 1), (.aload_n 0, 1), (.iload 5, 2), (.iconst 1, 1), (.iadd, 1), (.iaload, 1), (.aload_n 0, 1), (.iload 5, 2), (.iconst 2, 1), (.iadd, 1), (.iaload, 1), (.aload_n 0, 1), (.iload 5, 2), (.iconst 3, 1), (.iadd, 1), (.iaload, 1), (.ifCond .eq 7, 3), (.iconst 1, 1), (.goto 4, 3)] := rfl
theorem uL_law_480 : uL_law 480 = none := rfl
theorem bL_law_512 : bL_law 512 = [(.iconst 0, 1)] := rfl
theorem uL_law_512 : uL_law 512 = none := rfl
theorem bL_law_513 : bL_law 513 = [(.invokevirtual 168, 3), (.istore 7, 2), (.aload_n 2, 1), (.invokevirtual 150, 3), (.iload 6, 2), (.if_icmp .eq 5, 3), (.iconst 0, 1), (.ireturn, 1)] := rfl
theorem uL_law_513 : uL_law 513 = none := rfl
theorem bL_law_529 : bL_law 529 = [(.iload 6, 2), (.ifCond .ne 22, 3), (.aload_n 3, 1), (.iconst 0, 1), (.laload, 1), (.iload 7, 2), (.ifCond .eq 7, 3), (.lconst 1, 1), (.goto 4, 3)] := rfl
theorem uL_law_529 : uL_law 529 = none := rfl
theorem bL_law_546 : bL_law 546 = [(.lconst 0, 1)] := rfl
theorem uL_law_546 : uL_law 546 = none := rfl
theorem bL_law_547 : bL_law 547 = [(.lcmp, 1), (.ifCond .eq 5, 3), (.iconst 0, 1), (.ireturn, 1)] := rfl
theorem uL_law_547 : uL_law 547 = none := rfl
theorem bL_law_553 : bL_law 553 = [(.goto 2207, 3)] := rfl
theorem uL_law_553 : uL_law 553 = none := rfl
theorem bL_law_556 : bL_law 556 = [(.aload_n 1, 1), (.aload_n 0, 1), (.iload 5, 2), (.iconst 1, 1), (.iadd, 1), (.iaload, 1), (.aload_n 0, 1), (.iload 5, 2), (.iconst 2, 1), (.iadd, 1), (.iaload, 1), (.aload_n 0, 1), (.iload 5, 2), (.iconst 3, 1), (.iadd, 1), (.iaload, 1), (.ifCond .eq 7, 3), (.iconst 1, 1), (.goto 4, 3)] := rfl
theorem uL_law_556 : uL_law 556 = some [true, true, true, true, true, true, false, false, false] := rfl
theorem bL_law_582 : bL_law 582 = [(.iconst 0, 1)] := rfl
theorem uL_law_582 : uL_law 582 = none := rfl
theorem bL_law_583 : bL_law 583 = [(.aload_n 3, 1), (.invokestatic 169, 3), (.istore 6, 2), (.aload_n 2, 1), (.aload_n 0, 1), (.iload 5, 2), (.iconst 1, 1), (.iadd, 1), (.iaload, 1), (.aload_n 0, 1), (.iload 5, 2), (.iconst 2, 1), (.iadd, 1), (.iaload, 1), (.aload_n 0, 1), (.iload 5, 2), (.iconst 3, 1), (.iadd, 1), (.iaload, 1), (.ifCond .eq 7, 3), (.iconst 1, 1), (.goto 4, 3)] := rfl
theorem uL_law_583 : uL_law 583 = none := rfl
theorem bL_law_615 : bL_law 615 = [(.iconst 0, 1)] := rfl
theorem uL_law_615 : uL_law 615 = none := rfl
theorem bL_law_616 : bL_law 616 = [(.invokevirtual 171, 3), (.istore 7, 2), (.aload_n 2, 1), (.invokevirtual 150, 3), (.iload 6, 2), (.if_icmp .eq 5, 3), (.iconst 0, 1), (.ireturn, 1)] := rfl
theorem uL_law_616 : uL_law 616 = none := rfl
theorem bL_law_632 : bL_law 632 = [(.iload 6, 2), (.ifCond .ne 22, 3), (.aload_n 3, 1), (.iconst 0, 1), (.laload, 1), (.iload 7, 2), (.ifCond .eq 7, 3), (.lconst 1, 1), (.goto 4, 3)] := rfl
theorem uL_law_632 : uL_law 632 = none := rfl
theorem bL_law_649 : bL_law 649 = [(.lconst 0, 1)] := rfl
theorem uL_law_649 : uL_law 649 = none := rfl
theorem bL_law_650 : bL_law 650 = [(.lcmp, 1), (.ifCond .eq 5, 3), (.iconst 0, 1), (.ireturn, 1)] := rfl
theorem uL_law_650 : uL_law 650 = none := rfl
theorem bL_law_656 : bL_law 656 = [(.goto 2104, 3)] := rfl
theorem uL_law_656 : uL_law 656 = none := rfl
theorem bL_law_659 : bL_law 659 = [(.aload_n 1, 1), (.aload_n 0, 1), (.iload 5, 2), (.iconst 1, 1), (.iadd, 1), (.iaload, 1), (.invokestatic 172, 3), (.istore 6, 2), (.aload_n 2, 1), (.aload_n 0, 1), (.iload 5, 2), (.iconst 1, 1), (.iadd, 1), (.iaload, 1), (.invokevirtual 175, 3), (.aload_n 2, 1), (.invokevirtual 150, 3), (.iload 6, 2), (.if_icmp .eq 5, 3), (.iconst 0, 1), (.ireturn, 1)] := rfl
theorem uL_law_659 : uL_law 659 = some [true, true, true, true, true, true, false, false, false] := rfl
theorem bL_law_692 : bL_law 692 = [(.goto 2068, 3)] := rfl
theorem uL_law_692 : uL_law 692 = none := rfl
theorem bL_law_695 : bL_law 695 = [(.aload_n 1, 1), (.aload_n 0, 1), (.iload 5, 2), (.iconst 1, 1), (.iadd, 1), (.iaload, 1), (.invokestatic 176, 3), (.istore 6, 2), (.aload_n 2, 1), (.aload_n 0, 1), (.iload 5, 2), (.iconst 1, 1), (.iadd, 1), (.iaload, 1), (.invokevirtual 178, 3), (.aload_n 2, 1), (.invokevirtual 150, 3), (.iload 6, 2), (.if_icmp .eq 5, 3), (.iconst 0, 1), (.ireturn, 1)] := rfl
theorem uL_law_695 : uL_law 695 = some [true, true, true, true, true, true, false, false, false] := rfl
theorem bL_law_728 : bL_law 728 = [(.goto 2032, 3)] := rfl
theorem uL_law_728 : uL_law 728 = none := rfl
theorem bL_law_731 : bL_law 731 = [(.aload_n 1, 1), (.aload_n 0, 1), (.iload 5, 2), (.iconst 1, 1), (.iadd, 1), (.iaload, 1), (.aload_n 3, 1), (.invokestatic 179, 3), (.istore 6, 2), (.aload_n 2, 1), (.aload_n 0, 1), (.iload 5, 2), (.iconst 1, 1), (.iadd, 1), (.iaload, 1), (.invokevirtual 181, 3), (.istore 7, 2), (.aload_n 2, 1), (.invokevirtual 150, 3), (.iload 6, 2), (.if_icmp .eq 5, 3), (.iconst 0, 1), (.ireturn, 1)] := rfl
theorem uL_law_731 : uL_law 731 = some [true, true, true, true, true, true, false, false, false] := rfl
theorem bL_law_767 : bL_law 767 = [(.iload 6, 2), (.ifCond .ne 15, 3), (.aload_n 3, 1), (.iconst 0, 1), (.laload, 1), (.iload 7, 2), (.i2l, 1), (.lcmp, 1), (.ifCond .eq 5, 3), (.iconst 0, 1), (.ireturn, 1)] := rfl
theorem uL_law_767 : uL_law 767 = none := rfl
theorem bL_law_784 : bL_law 784 = [(.goto 1976, 3)] := rfl
theorem uL_law_784 : uL_law 784 = none := rfl
theorem bL_law_787 : bL_law 787 = [(.aload_n 1, 1), (.aload_n 0, 1), (.iload 5, 2), (.iconst 1, 1), (.iadd, 1), (.iaload, 1), (.aload_n 0, 1), (.iload 5, 2), (.iconst 2, 1), (.iadd, 1), (.iaload, 1), (.aload_n 0, 1), (.iload 5, 2), (.iconst 3, 1), (.iadd, 1), (.iaload, 1), (.aload_n 3, 1), (.invokestatic 182, 3), (.istore 6, 2), (.aload_n 2, 1), (.aload_n 0, 1), (.iload 5, 2), (.iconst 1, 1), (.iadd, 1), (.iaload, 1), (.aload_n 0, 1), (.iload 5, 2), (.iconst 2, 1), (.iadd, 1), (.iaload, 1), (.aload_n 0, 1), (.iload 5, 2), (.iconst 3, 1), (.iadd, 1), (.iaload, 1), (.invokevirtual 185, 3), (.istore 7, 2), (.aload_n 2, 1), (.invokevirtual 150, 3), (.iload 6, 2), (.if_icmp .eq 5, 3), (.iconst 0, 1), (.ireturn, 1)] := rfl
theorem uL_law_787 : uL_law 787 = some [true, true, true, true, true, true, false, false, false] := rfl
theorem bL_law_847 : bL_law 847 = [(.iload 6, 2), (.ifCond .ne 15, 3), (.aload_n 3, 1), (.iconst 0, 1), (.laload, 1), (.iload 7, 2), (.i2l, 1), (.lcmp, 1), (.ifCond .eq 5, 3), (.iconst 0, 1), (.ireturn, 1)] := rfl
theorem uL_law_847 : uL_law 847 = none := rfl
theorem bL_law_864 : bL_law 864 = [(.goto 1896, 3)] := rfl
theorem uL_law_864 : uL_law 864 = none := rfl
theorem bL_law_867 : bL_law 867 = [(.aload_n 1, 1), (.aload_n 0, 1), (.iload 5, 2), (.iconst 1, 1), (.iadd, 1), (.iaload, 1), (.aload_n 0, 1), (.iload 5, 2), (.iconst 2, 1), (.iadd, 1), (.iaload, 1), (.aload_n 0, 1), (.iload 5, 2), (.iconst 3, 1), (.iadd, 1), (.iaload, 1), (.aload_n 0, 1), (.iload 5, 2), (.iconst 4, 1), (.iadd, 1), (.iaload, 1), (.aload_n 3, 1), (.invokestatic 186, 3), (.istore 6, 2), (.aload_n 2, 1), (.aload_n 0, 1), (.iload 5, 2), (.iconst 1, 1), (.iadd, 1), (.iaload, 1), (.aload_n 0, 1), (.iload 5, 2), (.iconst 2, 1), (.iadd, 1), (.iaload, 1), (.aload_n 0, 1), (.iload 5, 2), (.iconst 3, 1), (.iadd, 1), (.iaload, 1), (.aload_n 0, 1), (.iload 5, 2), (.iconst 4, 1), (.iadd, 1), (.iaload, 1), (.invokevirtual 188, 3), (.istore 7, 2), (.aload_n 2, 1), (.invokevirtual 150, 3), (.iload 6, 2), (.if_icmp .eq 5, 3), (.iconst 0, 1), (.ireturn, 1)] := rfl
theorem uL_law_867 : uL_law 867 = some [true, true, true, true, true, true, false, false, false] := rfl
theorem bL_law_939 : bL_law 939 = [(.iload 6, 2), (.ifCond .ne 15, 3), (.aload_n 3, 1), (.iconst 0, 1), (.laload, 1), (.iload 7, 2), (.i2l, 1), (.lcmp, 1), (.ifCond .eq 5, 3), (.iconst 0, 1), (.ireturn, 1)] := rfl
theorem uL_law_939 : uL_law 939 = none := rfl
theorem bL_law_956 : bL_law 956 = [(.goto 1804, 3)] := rfl
theorem uL_law_956 : uL_law 956 = none := rfl
theorem bL_law_959 : bL_law 959 = [(.aload_n 1, 1), (.aload_n 0, 1), (.iload 5, 2), (.iconst 1, 1), (.iadd, 1), (.iaload, 1), (.aload_n 0, 1), (.iload 5, 2), (.iconst 2, 1), (.iadd, 1), (.iaload, 1), (.aload_n 3, 1), (.invokestatic 189, 3), (.istore 6, 2), (.aload_n 2, 1), (.aload_n 0, 1), (.iload 5, 2), (.iconst 1, 1), (.iadd, 1), (.iaload, 1), (.aload_n 0, 1), (.iload 5, 2), (.iconst 2, 1), (.iadd, 1), (.iaload, 1), (.invokevirtual 191, 3), (.istore 7, 2), (.aload_n 2, 1), (.invokevirtual 150, 3), (.iload 6, 2), (.if_icmp .eq 5, 3), (.iconst 0, 1), (.ireturn, 1)] := rfl
theorem uL_law_959 : uL_law 959 = some [true, true, true, true, true, true, false, false, false] := rfl
theorem bL_law_1007 : bL_law 1007 = [(.iload 6, 2), (.ifCond .ne 15, 3), (.aload_n 3, 1), (.iconst 0, 1), (.laload, 1), (.iload 7, 2), (.i2l, 1), (.lcmp, 1), (.ifCond .eq 5, 3), (.iconst 0, 1), (.ireturn, 1)] := rfl
theorem uL_law_1007 : uL_law 1007 = none := rfl
theorem bL_law_1024 : bL_law 1024 = [(.goto 1736, 3)] := rfl
theorem uL_law_1024 : uL_law 1024 = none := rfl
theorem bL_law_1027 : bL_law 1027 = [(.aload_n 1, 1), (.aload_n 0, 1), (.iload 5, 2), (.iconst 1, 1), (.iadd, 1), (.iaload, 1), (.aload_n 0, 1), (.iload 5, 2), (.iconst 2, 1), (.iadd, 1), (.iaload, 1), (.aload_n 3, 1), (.invokestatic 192, 3), (.istore 6, 2), (.aload_n 2, 1), (.aload_n 0, 1), (.iload 5, 2), (.iconst 1, 1), (.iadd, 1), (.iaload, 1), (.aload_n 0, 1), (.iload 5, 2), (.iconst 2, 1), (.iadd, 1), (.iaload, 1), (.invokevirtual 194, 3), (.istore 7, 2), (.aload_n 2, 1), (.invokevirtual 150, 3), (.iload 6, 2), (.if_icmp .eq 5, 3), (.iconst 0, 1), (.ireturn, 1)] := rfl
theorem uL_law_1027 : uL_law 1027 = some [true, true, true, true, true, true, false, false, false] := rfl
theorem bL_law_1075 : bL_law 1075 = [(.iload 6, 2), (.ifCond .ne 15, 3), (.aload_n 3, 1), (.iconst 0, 1), (.laload, 1), (.iload 7, 2), (.i2l, 1), (.lcmp, 1), (.ifCond .eq 5, 3), (.iconst 0, 1), (.ireturn, 1)] := rfl
theorem uL_law_1075 : uL_law 1075 = none := rfl
theorem bL_law_1092 : bL_law 1092 = [(.goto 1668, 3)] := rfl
theorem uL_law_1092 : uL_law 1092 = none := rfl
theorem bL_law_1095 : bL_law 1095 = [(.aload_n 1, 1), (.invokevirtual 195, 3), (.aload_n 2, 1), (.invokevirtual 198, 3), (.if_icmp .eq 1657, 3), (.iconst 0, 1), (.ireturn, 1)] := rfl
theorem uL_law_1095 : uL_law 1095 = some [true, true, true, true, true, true, false, false, false] := rfl
theorem bL_law_1108 : bL_law 1108 = [(.aload_n 1, 1), (.invokevirtual 199, 3), (.aload_n 2, 1), (.invokevirtual 202, 3), (.if_icmp .eq 1644, 3), (.iconst 0, 1), (.ireturn, 1)] := rfl
theorem uL_law_1108 : uL_law 1108 = some [true, true, true, true, true, true, false, false, false] := rfl
theorem bL_law_1121 : bL_law 1121 = [(.aload_n 1, 1), (.aload_n 0, 1), (.iload 5, 2), (.iconst 1, 1), (.iadd, 1), (.iaload, 1), (.aload_n 0, 1), (.iload 5, 2), (.iconst 2, 1), (.iadd, 1), (.iaload, 1), (.aload_n 3, 1), (.invokestatic 203, 3), (.istore 6, 2), (.aload_n 2, 1), (.aload_n 0, 1), (.iload 5, 2), (.iconst 1, 1), (.iadd, 1), (.iaload, 1), (.aload_n 0, 1), (.iload 5, 2), (.iconst 2, 1), (.iadd, 1), (.iaload, 1), (.invokevirtual 205, 3), (.istore 7, 2), (.aload_n 2, 1), (.invokevirtual 150, 3), (.iload 6, 2), (.if_icmp .eq 5, 3), (.iconst 0, 1), (.ireturn, 1)] := rfl
theorem uL_law_1121 : uL_law 1121 = some [true, true, true, true, true, true, false, false, false] := rfl
theorem bL_law_1169 : bL_law 1169 = [(.iload 6, 2), (.ifCond .ne 15, 3), (.aload_n 3, 1), (.iconst 0, 1), (.laload, 1), (.iload 7, 2), (.i2l, 1), (.lcmp, 1), (.ifCond .eq 5, 3), (.iconst 0, 1), (.ireturn, 1)] := rfl
theorem uL_law_1169 : uL_law 1169 = none := rfl
theorem bL_law_1186 : bL_law 1186 = [(.goto 1574, 3)] := rfl
theorem uL_law_1186 : uL_law 1186 = none := rfl
theorem bL_law_1189 : bL_law 1189 = [(.aload_n 1, 1), (.aload_n 0, 1), (.iload 5, 2), (.iconst 1, 1), (.iadd, 1), (.iaload, 1), (.aload_n 3, 1), (.invokestatic 206, 3), (.istore 6, 2), (.aload_n 2, 1), (.aload_n 0, 1), (.iload 5, 2), (.iconst 1, 1), (.iadd, 1), (.iaload, 1), (.invokevirtual 208, 3), (.istore 7, 2), (.aload_n 2, 1), (.invokevirtual 150, 3), (.iload 6, 2), (.if_icmp .eq 5, 3), (.iconst 0, 1), (.ireturn, 1)] := rfl
theorem uL_law_1189 : uL_law 1189 = some [true, true, true, true, true, true, false, false, false] := rfl
theorem bL_law_1225 : bL_law 1225 = [(.iload 6, 2), (.ifCond .ne 15, 3), (.aload_n 3, 1), (.iconst 0, 1), (.laload, 1), (.iload 7, 2), (.i2l, 1), (.lcmp, 1), (.ifCond .eq 5, 3), (.iconst 0, 1), (.ireturn, 1)] := rfl
theorem uL_law_1225 : uL_law 1225 = none := rfl
theorem bL_law_1242 : bL_law 1242 = [(.goto 1518, 3)] := rfl
theorem uL_law_1242 : uL_law 1242 = none := rfl
theorem bL_law_1245 : bL_law 1245 = [(.aload_n 1, 1), (.aload_n 0, 1), (.iload 5, 2), (.iconst 1, 1), (.iadd, 1), (.iaload, 1), (.aload_n 0, 1), (.iload 5, 2), (.iconst 2, 1), (.iadd, 1), (.iaload, 1), (.aload_n 3, 1), (.invokestatic 209, 3), (.istore 6, 2), (.aload_n 2, 1), (.aload_n 0, 1), (.iload 5, 2), (.iconst 1, 1), (.iadd, 1), (.iaload, 1), (.aload_n 0, 1), (.iload 5, 2), (.iconst 2, 1), (.iadd, 1), (.iaload, 1), (.invokevirtual 211, 3), (.istore 7, 2), (.aload_n 2, 1), (.invokevirtual 150, 3), (.iload 6, 2), (.if_icmp .eq 5, 3), (.iconst 0, 1), (.ireturn, 1)] := rfl
theorem uL_law_1245 : uL_law 1245 = some [true, true, true, true, true, true, false, false, false] := rfl
theorem bL_law_1293 : bL_law 1293 = [(.iload 6, 2), (.ifCond .ne 15, 3), (.aload_n 3, 1), (.iconst 0, 1), (.laload, 1), (.iload 7, 2), (.i2l, 1), (.lcmp, 1), (.ifCond .eq 5, 3), (.iconst 0, 1), (.ireturn, 1)] := rfl
theorem uL_law_1293 : uL_law 1293 = none := rfl
theorem bL_law_1310 : bL_law 1310 = [(.goto 1450, 3)] := rfl
theorem uL_law_1310 : uL_law 1310 = none := rfl
theorem bL_law_1313 : bL_law 1313 = [(.aload_n 1, 1), (.aload_n 0, 1), (.iload 5, 2), (.iconst 1, 1), (.iadd, 1), (.iaload, 1), (.aload_n 3, 1), (.invokestatic 212, 3), (.istore 6, 2), (.aload_n 2, 1), (.aload_n 0, 1), (.iload 5, 2), (.iconst 1, 1), (.iadd, 1), (.iaload, 1), (.invokevirtual 214, 3), (.istore 7, 2), (.aload_n 2, 1), (.invokevirtual 150, 3), (.iload 6, 2), (.if_icmp .eq 5, 3), (.iconst 0, 1), (.ireturn, 1)] := rfl
theorem uL_law_1313 : uL_law 1313 = some [true, true, true, true, true, true, false, false, false] := rfl
theorem bL_law_1349 : bL_law 1349 = [(.iload 6, 2), (.ifCond .ne 22, 3), (.aload_n 3, 1), (.iconst 0, 1), (.laload, 1), (.iload 7, 2), (.ifCond .eq 7, 3), (.lconst 1, 1), (.goto 4, 3)] := rfl
theorem uL_law_1349 : uL_law 1349 = none := rfl
theorem bL_law_1366 : bL_law 1366 = [(.lconst 0, 1)] := rfl
theorem uL_law_1366 : uL_law 1366 = none := rfl
theorem bL_law_1367 : bL_law 1367 = [(.lcmp, 1), (.ifCond .eq 5, 3), (.iconst 0, 1), (.ireturn, 1)] := rfl
theorem uL_law_1367 : uL_law 1367 = none := rfl
theorem bL_law_1373 : bL_law 1373 = [(.goto 1387, 3)] := rfl
theorem uL_law_1373 : uL_law 1373 = none := rfl
theorem bL_law_1376 : bL_law 1376 = [(.aload_n 1, 1), (.aload_n 0, 1), (.iload 5, 2), (.iconst 1, 1), (.iadd, 1), (.iaload, 1), (.aload_n 3, 1), (.invokestatic 215, 3), (.istore 6, 2), (.aload_n 2, 1), (.aload_n 0, 1), (.iload 5, 2), (.iconst 1, 1), (.iadd, 1), (.iaload, 1), (.invokevirtual 217, 3), (.lstore 7, 2), (.aload_n 2, 1), (.invokevirtual 150, 3), (.iload 6, 2), (.if_icmp .eq 5, 3), (.iconst 0, 1), (.ireturn, 1)] := rfl
theorem uL_law_1376 : uL_law 1376 = some [true, true, true, true, true, true, false, false, false] := rfl
theorem bL_law_1412 : bL_law 1412 = [(.iload 6, 2), (.ifCond .ne 14, 3), (.aload_n 3, 1), (.iconst 0, 1), (.laload, 1), (.lload 7, 2), (.lcmp, 1), (.ifCond .eq 5, 3), (.iconst 0, 1), (.ireturn, 1)] := rfl
theorem uL_law_1412 : uL_law 1412 = none := rfl
theorem bL_law_1428 : bL_law 1428 = [(.goto 1332, 3)] := rfl
theorem uL_law_1428 : uL_law 1428 = none := rfl
theorem bL_law_1431 : bL_law 1431 = [(.aload_n 1, 1), (.aload_n 0, 1), (.iload 5, 2), (.iconst 1, 1), (.iadd, 1), (.iaload, 1), (.aload_n 3, 1), (.invokestatic 218, 3), (.istore 6, 2), (.aload_n 2, 1), (.aload_n 0, 1), (.iload 5, 2), (.iconst 1, 1), (.iadd, 1), (.iaload, 1), (.invokevirtual 220, 3), (.lstore 7, 2), (.aload_n 2, 1), (.invokevirtual 150, 3), (.iload 6, 2), (.if_icmp .eq 5, 3), (.iconst 0, 1), (.ireturn, 1)] := rfl
theorem uL_law_1431 : uL_law 1431 = some [true, true, true, true, true, true, false, false, false] := rfl
theorem bL_law_1467 : bL_law 1467 = [(.iload 6, 2), (.ifCond .ne 14, 3), (.aload_n 3, 1), (.iconst 0, 1), (.laload, 1), (.lload 7, 2), (.lcmp, 1), (.ifCond .eq 5, 3), (.iconst 0, 1), (.ireturn, 1)] := rfl
theorem uL_law_1467 : uL_law 1467 = none := rfl
theorem bL_law_1483 : bL_law 1483 = [(.goto 1277, 3)] := rfl
theorem uL_law_1483 : uL_law 1483 = none := rfl
theorem bL_law_1486 : bL_law 1486 = [(.aload_n 1, 1), (.aload_n 0, 1), (.iload 5, 2), (.iconst 1, 1), (.iadd, 1), (.iaload, 1), (.aload_n 0, 1), (.iload 5, 2), (.iconst 2, 1), (.iadd, 1), (.iaload, 1), (.aload_n 3, 1), (.invokestatic 221, 3), (.istore 6, 2), (.aload_n 2, 1), (.aload_n 0, 1), (.iload 5, 2), (.iconst 1, 1), (.iadd, 1), (.iaload, 1), (.aload_n 0, 1), (.iload 5, 2), (.iconst 2, 1), (.iadd, 1), (.iaload, 1), (.invokevirtual 223, 3), (.istore 7, 2), (.aload_n 2, 1), (.invokevirtual 150, 3), (.iload 6, 2), (.if_icmp .eq 5, 3), (.iconst 0, 1), (.ireturn, 1)] := rfl
theorem uL_law_1486 : uL_law 1486 = some [true, true, true, true, true, true, false, false, false] := rfl
theorem bL_law_1534 : bL_law 1534 = [(.iload 6, 2), (.ifCond .ne 15, 3), (.aload_n 3, 1), (.iconst 0, 1), (.laload, 1), (.iload 7, 2), (.i2l, 1), (.lcmp, 1), (.ifCond .eq 5, 3), (.iconst 0, 1), (.ireturn, 1)] := rfl
theorem uL_law_1534 : uL_law 1534 = none := rfl
theorem bL_law_1551 : bL_law 1551 = [(.goto 1209, 3)] := rfl
theorem uL_law_1551 : uL_law 1551 = none := rfl
theorem bL_law_1554 : bL_law 1554 = [(.aload_n 1, 1), (.aload_n 0, 1), (.iload 5, 2), (.iconst 1, 1), (.iadd, 1), (.iaload, 1), (.aload_n 3, 1), (.invokestatic 224, 3), (.istore 6, 2), (.aload_n 2, 1), (.aload_n 0, 1), (.iload 5, 2), (.iconst 1, 1), (.iadd, 1), (.iaload, 1), (.invokevirtual 226, 3), (.istore 7, 2), (.aload_n 2, 1), (.invokevirtual 150, 3), (.iload 6, 2), (.if_icmp .eq 5, 3), (.iconst 0, 1), (.ireturn, 1)] := rfl
theorem uL_law_1554 : uL_law 1554 = some [true, true, true, true, true, true, false, false, false] := rfl
theorem bL_law_1590 : bL_law 1590 = [(.iload 6, 2), (.ifCond .ne 15, 3), (.aload_n 3, 1), (.iconst 0, 1), (.laload, 1), (.iload 7, 2), (.i2l, 1), (.lcmp, 1), (.ifCond .eq 5, 3), (.iconst 0, 1), (.ireturn, 1)] := rfl
theorem uL_law_1590 : uL_law 1590 = none := rfl
theorem bL_law_1607 : bL_law 1607 = [(.goto 1153, 3)] := rfl
theorem uL_law_1607 : uL_law 1607 = none := rfl
theorem bL_law_1610 : bL_law 1610 = [(.aload_n 1, 1), (.aload_n 0, 1), (.iload 5, 2), (.iconst 1, 1), (.iadd, 1), (.iaload, 1), (.aload_n 0, 1), (.iload 5, 2), (.iconst 2, 1), (.iadd, 1), (.iaload, 1), (.aload_n 0, 1), (.iload 5, 2), (.iconst 3, 1), (.iadd, 1), (.iaload, 1), (.aload_n 3, 1), (.invokestatic 227, 3), (.istore 6, 2), (.aload_n 2, 1), (.aload_n 0, 1), (.iload 5, 2), (.iconst 1, 1), (.iadd, 1), (.iaload, 1), (.aload_n 0, 1), (.iload 5, 2), (.iconst 2, 1), (.iadd, 1), (.iaload, 1), (.aload_n 0, 1), (.iload 5, 2), (.iconst 3, 1), (.iadd, 1), (.iaload, 1), (.invokevirtual 229, 3), (.istore 7, 2), (.aload_n 2, 1), (.invokevirtual 150, 3), (.iload 6, 2), (.if_icmp .eq 5, 3), (.iconst 0, 1), (.ireturn, 1)] := rfl
theorem uL_law_1610 : uL_law 1610 = some [true, true, true, true, true, true, false, false, false] := rfl
theorem bL_law_1670 : bL_law 1670 = [(.iload 6, 2), (.ifCond .ne 15, 3), (.aload_n 3, 1), (.iconst 0, 1), (.laload, 1), (.iload 7, 2), (.i2l, 1), (.lcmp, 1), (.ifCond .eq 5, 3), (.iconst 0, 1), (.ireturn, 1)] := rfl
theorem uL_law_1670 : uL_law 1670 = none := rfl
theorem bL_law_1687 : bL_law 1687 = [(.goto 1073, 3)] := rfl
theorem uL_law_1687 : uL_law 1687 = none := rfl
theorem bL_law_1690 : bL_law 1690 = [(.aload_n 1, 1), (.aload_n 0, 1), (.iload 5, 2), (.iconst 1, 1), (.iadd, 1), (.iaload, 1), (.aload_n 3, 1), (.invokestatic 230, 3), (.istore 6, 2), (.aload_n 2, 1), (.aload_n 0, 1), (.iload 5, 2), (.iconst 1, 1), (.iadd, 1), (.iaload, 1), (.invokevirtual 232, 3), (.istore 7, 2), (.aload_n 2, 1), (.invokevirtual 150, 3), (.iload 6, 2), (.if_icmp .eq 5, 3), (.iconst 0, 1), (.ireturn, 1)] := rfl
theorem uL_law_1690 : uL_law 1690 = some [true, true, true, true, true, true, false, false, false] := rfl
theorem bL_law_1726 : bL_law 1726 = [(.iload 6, 2), (.ifCond .ne 15, 3), (.aload_n 3, 1), (.iconst 0, 1), (.laload, 1), (.iload 7, 2), (.i2l, 1), (.lcmp, 1), (.ifCond .eq 5, 3), (.iconst 0, 1), (.ireturn, 1)] := rfl
theorem uL_law_1726 : uL_law 1726 = none := rfl
theorem bL_law_1743 : bL_law 1743 = [(.goto 1017, 3)] := rfl
theorem uL_law_1743 : uL_law 1743 = none := rfl
theorem bL_law_1746 : bL_law 1746 = [(.aload_n 1, 1), (.aload_n 0, 1), (.iload 5, 2), (.iconst 1, 1), (.iadd, 1), (.iaload, 1), (.aload_n 0, 1), (.iload 5, 2), (.iconst 2, 1), (.iadd, 1), (.iaload, 1), (.aload_n 3, 1), (.invokestatic 233, 3), (.istore 6, 2), (.aload_n 2, 1), (.aload_n 0, 1), (.iload 5, 2), (.iconst 1, 1), (.iadd, 1), (.iaload, 1), (.aload_n 0, 1), (.iload 5, 2), (.iconst 2, 1), (.iadd, 1), (.iaload, 1), (.invokevirtual 235, 3), (.istore 7, 2), (.aload_n 2, 1), (.invokevirtual 150, 3), (.iload 6, 2), (.if_icmp .eq 5, 3), (.iconst 0, 1), (.ireturn, 1)] := rfl
theorem uL_law_1746 : uL_law 1746 = some [true, true, true, true, true, true, false, false, false] := rfl
theorem bL_law_1794 : bL_law 1794 = [(.iload 6, 2), (.ifCond .ne 15, 3), (.aload_n 3, 1), (.iconst 0, 1), (.laload, 1), (.iload 7, 2), (.i2l, 1), (.lcmp, 1), (.ifCond .eq 5, 3), (.iconst 0, 1), (.ireturn, 1)] := rfl
theorem uL_law_1794 : uL_law 1794 = none := rfl
theorem bL_law_1811 : bL_law 1811 = [(.goto 949, 3)] := rfl
theorem uL_law_1811 : uL_law 1811 = none := rfl
theorem bL_law_1814 : bL_law 1814 = [(.aload_n 1, 1), (.aload_n 0, 1), (.iload 5, 2), (.iconst 1, 1), (.iadd, 1), (.iaload, 1), (.aload_n 0, 1), (.iload 5, 2), (.iconst 2, 1), (.iadd, 1), (.iaload, 1), (.aload_n 0, 1), (.iload 5, 2), (.iconst 3, 1), (.iadd, 1), (.iaload, 1), (.aload_n 3, 1), (.invokestatic 236, 3), (.istore 6, 2), (.aload_n 2, 1), (.aload_n 0, 1), (.iload 5, 2), (.iconst 1, 1), (.iadd, 1), (.iaload, 1), (.aload_n 0, 1), (.iload 5, 2), (.iconst 2, 1), (.iadd, 1), (.iaload, 1), (.aload_n 0, 1), (.iload 5, 2), (.iconst 3, 1), (.iadd, 1), (.iaload, 1), (.invokevirtual 238, 3), (.istore 7, 2), (.aload_n 2, 1), (.invokevirtual 150, 3), (.iload 6, 2), (.if_icmp .eq 5, 3), (.iconst 0, 1), (.ireturn, 1)] := rfl
theorem uL_law_1814 : uL_law 1814 = some [true, true, true, true, true, true, false, false, false] := rfl
theorem bL_law_1874 : bL_law 1874 = [(.iload 6, 2), (.ifCond .ne 15, 3), (.aload_n 3, 1), (.iconst 0, 1), (.laload, 1), (.iload 7, 2), (.i2l, 1), (.lcmp, 1), (.ifCond .eq 5, 3), (.iconst 0, 1), (.ireturn, 1)] := rfl
theorem uL_law_1874 : uL_law 1874 = none := rfl
theorem bL_law_1891 : bL_law 1891 = [(.goto 869, 3)] := rfl
theorem uL_law_1891 : uL_law 1891 = none := rfl
theorem bL_law_1894 : bL_law 1894 = [(.aload_n 1, 1), (.aload_n 0, 1), (.iload 5, 2), (.iconst 1, 1), (.iadd, 1), (.iaload, 1), (.aload_n 0, 1), (.iload 5, 2), (.iconst 2, 1), (.iadd, 1), (.iaload, 1), (.aload_n 0, 1), (.iload 5, 2), (.iconst 3, 1), (.iadd, 1), (.iaload, 1), (.aload_n 0, 1), (.iload 5, 2), (.iconst 4, 1), (.iadd, 1), (.iaload, 1), (.aload_n 3, 1), (.invokestatic 239, 3), (.istore 6, 2), (.aload_n 2, 1), (.aload_n 0, 1), (.iload 5, 2), (.iconst 1, 1), (.iadd, 1), (.iaload, 1), (.aload_n 0, 1), (.iload 5, 2), (.iconst 2, 1), (.iadd, 1), (.iaload, 1), (.aload_n 0, 1), (.iload 5, 2), (.iconst 3, 1), (.iadd, 1), (.iaload, 1), (.aload_n 0, 1), (.iload 5, 2), (.iconst 4, 1), (.iadd, 1), (.iaload, 1), (.invokevirtual 241, 3), (.istore 7, 2), (.aload_n 2, 1), (.invokevirtual 150, 3), (.iload 6, 2), (.if_icmp .eq 5, 3), (.iconst 0, 1), (.ireturn, 1)] := rfl
theorem uL_law_1894 : uL_law 1894 = some [true, true, true, true, true, true, false, false, false] := rfl
theorem bL_law_1966 : bL_law 1966 = [(.iload 6, 2), (.ifCond .ne 15, 3), (.aload_n 3, 1), (.iconst 0, 1), (.laload, 1), (.iload 7, 2), (.i2l, 1), (.lcmp, 1), (.ifCond .eq 5, 3), (.iconst 0, 1), (.ireturn, 1)] := rfl
theorem uL_law_1966 : uL_law 1966 = none := rfl
theorem bL_law_1983 : bL_law 1983 = [(.goto 777, 3)] := rfl
theorem uL_law_1983 : uL_law 1983 = none := rfl
theorem bL_law_1986 : bL_law 1986 = [(.aload_n 1, 1), (.aload_n 0, 1), (.iload 5, 2), (.iconst 1, 1), (.iadd, 1), (.iaload, 1), (.aload_n 0, 1), (.iload 5, 2), (.iconst 2, 1), (.iadd, 1), (.iaload, 1), (.aload_n 0, 1), (.iload 5, 2), (.iconst 3, 1), (.iadd, 1), (.iaload, 1), (.aload_n 0, 1), (.iload 5, 2), (.iconst 4, 1), (.iadd, 1), (.iaload, 1), (.aload_n 3, 1), (.invokestatic 242, 3), (.istore 6, 2), (.aload_n 2, 1), (.aload_n 0, 1), (.iload 5, 2), (.iconst 1, 1), (.iadd, 1), (.iaload, 1), (.aload_n 0, 1), (.iload 5, 2), (.iconst 2, 1), (.iadd, 1), (.iaload, 1), (.aload_n 0, 1), (.iload 5, 2), (.iconst 3, 1), (.iadd, 1), (.iaload, 1), (.aload_n 0, 1), (.iload 5, 2), (.iconst 4, 1), (.iadd, 1), (.iaload, 1), (.invokevirtual 244, 3), (.istore 7, 2), (.aload_n 2, 1), (.invokevirtual 150, 3), (.iload 6, 2), (.if_icmp .eq 5, 3), (.iconst 0, 1), (.ireturn, 1)] := rfl
theorem uL_law_1986 : uL_law 1986 = some [true, true, true, true, true, true, false, false, false] := rfl
theorem bL_law_2058 : bL_law 2058 = [(.iload 6, 2), (.ifCond .ne 15, 3), (.aload_n 3, 1), (.iconst 0, 1), (.laload, 1), (.iload 7, 2), (.i2l, 1), (.lcmp, 1), (.ifCond .eq 5, 3), (.iconst 0, 1), (.ireturn, 1)] := rfl
theorem uL_law_2058 : uL_law 2058 = none := rfl
theorem bL_law_2075 : bL_law 2075 = [(.goto 685, 3)] := rfl
theorem uL_law_2075 : uL_law 2075 = none := rfl
theorem bL_law_2078 : bL_law 2078 = [(.aload_n 1, 1), (.aload_n 0, 1), (.iload 5, 2), (.iconst 1, 1), (.iadd, 1), (.iaload, 1), (.aload_n 3, 1), (.invokestatic 245, 3), (.istore 6, 2), (.aload_n 2, 1), (.aload_n 0, 1), (.iload 5, 2), (.iconst 1, 1), (.iadd, 1), (.iaload, 1), (.invokevirtual 247, 3), (.istore 7, 2), (.aload_n 2, 1), (.invokevirtual 150, 3), (.iload 6, 2), (.if_icmp .eq 5, 3), (.iconst 0, 1), (.ireturn, 1)] := rfl
theorem uL_law_2078 : uL_law 2078 = some [true, true, true, true, true, true, false, false, false] := rfl
theorem bL_law_2114 : bL_law 2114 = [(.iload 6, 2), (.ifCond .ne 15, 3), (.aload_n 3, 1), (.iconst 0, 1), (.laload, 1), (.iload 7, 2), (.i2l, 1), (.lcmp, 1), (.ifCond .eq 5, 3), (.iconst 0, 1), (.ireturn, 1)] := rfl
theorem uL_law_2114 : uL_law 2114 = none := rfl
theorem bL_law_2131 : bL_law 2131 = [(.goto 629, 3)] := rfl
theorem uL_law_2131 : uL_law 2131 = none := rfl
theorem bL_law_2134 : bL_law 2134 = [(.aload_n 1, 1), (.aload_n 0, 1), (.iload 5, 2), (.iconst 1, 1), (.iadd, 1), (.iaload, 1), (.aload_n 3, 1), (.invokestatic 248, 3), (.istore 6, 2), (.aload_n 2, 1), (.aload_n 0, 1), (.iload 5, 2), (.iconst 1, 1), (.iadd, 1), (.iaload, 1), (.invokevirtual 250, 3), (.istore 7, 2), (.aload_n 2, 1), (.invokevirtual 150, 3), (.iload 6, 2), (.if_icmp .eq 5, 3), (.iconst 0, 1), (.ireturn, 1)] := rfl
theorem uL_law_2134 : uL_law 2134 = some [true, true, true, true, true, true, false, false, false] := rfl
theorem bL_law_2170 : bL_law 2170 = [(.iload 6, 2), (.ifCond .ne 22, 3), (.aload_n 3, 1), (.iconst 0, 1), (.laload, 1), (.iload 7, 2), (.ifCond .eq 7, 3), (.lconst 1, 1), (.goto 4, 3)] := rfl
theorem uL_law_2170 : uL_law 2170 = none := rfl
theorem bL_law_2187 : bL_law 2187 = [(.lconst 0, 1)] := rfl
theorem uL_law_2187 : uL_law 2187 = none := rfl
theorem bL_law_2188 : bL_law 2188 = [(.lcmp, 1), (.ifCond .eq 5, 3), (.iconst 0, 1), (.ireturn, 1)] := rfl
theorem uL_law_2188 : uL_law 2188 = none := rfl
theorem bL_law_2194 : bL_law 2194 = [(.goto 566, 3)] := rfl
theorem uL_law_2194 : uL_law 2194 = none := rfl
theorem bL_law_2197 : bL_law 2197 = [(.aload_n 1, 1), (.aload_n 0, 1), (.iload 5, 2), (.iconst 1, 1), (.iadd, 1), (.iaload, 1), (.aload_n 3, 1), (.invokestatic 251, 3), (.istore 6, 2), (.aload_n 2, 1), (.aload_n 0, 1), (.iload 5, 2), (.iconst 1, 1), (.iadd, 1), (.iaload, 1), (.invokevirtual 253, 3), (.istore 7, 2), (.aload_n 2, 1), (.invokevirtual 150, 3), (.iload 6, 2), (.if_icmp .eq 5, 3), (.iconst 0, 1), (.ireturn, 1)] := rfl
theorem uL_law_2197 : uL_law 2197 = some [true, true, true, true, true, true, false, false, false] := rfl
theorem bL_law_2233 : bL_law 2233 = [(.iload 6, 2), (.ifCond .ne 22, 3), (.aload_n 3, 1), (.iconst 0, 1), (.laload, 1), (.iload 7, 2), (.ifCond .eq 7, 3), (.lconst 1, 1), (.goto 4, 3)] := rfl
theorem uL_law_2233 : uL_law 2233 = none := rfl
theorem bL_law_2250 : bL_law 2250 = [(.lconst 0, 1)] := rfl
theorem uL_law_2250 : uL_law 2250 = none := rfl
theorem bL_law_2251 : bL_law 2251 = [(.lcmp, 1), (.ifCond .eq 5, 3), (.iconst 0, 1), (.ireturn, 1)] := rfl
theorem uL_law_2251 : uL_law 2251 = none := rfl
theorem bL_law_2257 : bL_law 2257 = [(.goto 503, 3)] := rfl
theorem uL_law_2257 : uL_law 2257 = none := rfl
theorem bL_law_2260 : bL_law 2260 = [(.aload_n 1, 1), (.aload_n 0, 1), (.iload 5, 2), (.iconst 1, 1), (.iadd, 1), (.iaload, 1), (.aload_n 3, 1), (.invokestatic 254, 3), (.istore 6, 2), (.aload_n 2, 1), (.aload_n 0, 1), (.iload 5, 2), (.iconst 1, 1), (.iadd, 1), (.iaload, 1), (.invokevirtual 256, 3), (.istore 7, 2), (.aload_n 2, 1), (.invokevirtual 150, 3), (.iload 6, 2), (.if_icmp .eq 5, 3), (.iconst 0, 1), (.ireturn, 1)] := rfl
theorem uL_law_2260 : uL_law 2260 = some [true, true, true, true, true, true, false, false, false] := rfl
theorem bL_law_2296 : bL_law 2296 = [(.iload 6, 2), (.ifCond .ne 15, 3), (.aload_n 3, 1), (.iconst 0, 1), (.laload, 1), (.iload 7, 2), (.i2l, 1), (.lcmp, 1), (.ifCond .eq 5, 3), (.iconst 0, 1), (.ireturn, 1)] := rfl
theorem uL_law_2296 : uL_law 2296 = none := rfl
theorem bL_law_2313 : bL_law 2313 = [(.goto 447, 3)] := rfl
theorem uL_law_2313 : uL_law 2313 = none := rfl
theorem bL_law_2316 : bL_law 2316 = [(.aload_n 1, 1), (.aload_n 0, 1), (.iload 5, 2), (.iconst 1, 1), (.iadd, 1), (.iaload, 1), (.aload_n 3, 1), (.invokestatic 257, 3), (.istore 6, 2), (.aload_n 2, 1), (.aload_n 0, 1), (.iload 5, 2), (.iconst 1, 1), (.iadd, 1), (.iaload, 1), (.invokevirtual 259, 3), (.istore 7, 2), (.aload_n 2, 1), (.invokevirtual 150, 3), (.iload 6, 2), (.if_icmp .eq 5, 3), (.iconst 0, 1), (.ireturn, 1)] := rfl
theorem uL_law_2316 : uL_law 2316 = some [true, true, true, true, true, true, false, false, false] := rfl
theorem bL_law_2352 : bL_law 2352 = [(.iload 6, 2), (.ifCond .ne 15, 3), (.aload_n 3, 1), (.iconst 0, 1), (.laload, 1), (.iload 7, 2), (.i2l, 1), (.lcmp, 1), (.ifCond .eq 5, 3), (.iconst 0, 1), (.ireturn, 1)] := rfl
theorem uL_law_2352 : uL_law 2352 = none := rfl
theorem bL_law_2369 : bL_law 2369 = [(.goto 391, 3)] := rfl
theorem uL_law_2369 : uL_law 2369 = none := rfl
theorem bL_law_2372 : bL_law 2372 = [(.aload_n 1, 1), (.aload_n 0, 1), (.iload 5, 2), (.iconst 1, 1), (.iadd, 1), (.iaload, 1), (.aload_n 3, 1), (.invokestatic 260, 3), (.istore 6, 2), (.aload_n 2, 1), (.aload_n 0, 1), (.iload 5, 2), (.iconst 1, 1), (.iadd, 1), (.iaload, 1), (.invokevirtual 262, 3), (.istore 7, 2), (.aload_n 2, 1), (.invokevirtual 150, 3), (.iload 6, 2), (.if_icmp .eq 5, 3), (.iconst 0, 1), (.ireturn, 1)] := rfl
theorem uL_law_2372 : uL_law 2372 = some [true, true, true, true, true, true, false, false, false] := rfl
theorem bL_law_2408 : bL_law 2408 = [(.iload 6, 2), (.ifCond .ne 22, 3), (.aload_n 3, 1), (.iconst 0, 1), (.laload, 1), (.iload 7, 2), (.ifCond .eq 7, 3), (.lconst 1, 1), (.goto 4, 3)] := rfl
theorem uL_law_2408 : uL_law 2408 = none := rfl
theorem bL_law_2425 : bL_law 2425 = [(.lconst 0, 1)] := rfl
theorem uL_law_2425 : uL_law 2425 = none := rfl
theorem bL_law_2426 : bL_law 2426 = [(.lcmp, 1), (.ifCond .eq 5, 3), (.iconst 0, 1), (.ireturn, 1)] := rfl
theorem uL_law_2426 : uL_law 2426 = none := rfl
theorem bL_law_2432 : bL_law 2432 = [(.goto 328, 3)] := rfl
theorem uL_law_2432 : uL_law 2432 = none := rfl
theorem bL_law_2435 : bL_law 2435 = [(.aload_n 1, 1), (.aload_n 0, 1), (.iload 5, 2), (.iconst 1, 1), (.iadd, 1), (.iaload, 1), (.aload_n 0, 1), (.iload 5, 2), (.iconst 2, 1), (.iadd, 1), (.iaload, 1), (.aload_n 0, 1), (.iload 5, 2), (.iconst 3, 1), (.iadd, 1), (.iaload, 1), (.aload_n 3, 1), (.invokestatic 263, 3), (.istore 6, 2), (.aload_n 2, 1), (.aload_n 0, 1), (.iload 5, 2), (.iconst 1, 1), (.iadd, 1), (.iaload, 1), (.aload_n 0, 1), (.iload 5, 2), (.iconst 2, 1), (.iadd, 1), (.iaload, 1), (.aload_n 0, 1), (.iload 5, 2), (.iconst 3, 1), (.iadd, 1), (.iaload, 1), (.invokevirtual 265, 3), (.lstore 7, 2), (.aload_n 2, 1), (.invokevirtual 150, 3), (.iload 6, 2), (.if_icmp .eq 5, 3), (.iconst 0, 1), (.ireturn, 1)] := rfl
theorem uL_law_2435 : uL_law 2435 = some [true, true, true, true, true, true, false, false, false] := rfl
theorem bL_law_2495 : bL_law 2495 = [(.iload 6, 2), (.ifCond .ne 14, 3), (.aload_n 3, 1), (.iconst 0, 1), (.laload, 1), (.lload 7, 2), (.lcmp, 1), (.ifCond .eq 5, 3), (.iconst 0, 1), (.ireturn, 1)] := rfl
theorem uL_law_2495 : uL_law 2495 = none := rfl
theorem bL_law_2511 : bL_law 2511 = [(.goto 249, 3)] := rfl
theorem uL_law_2511 : uL_law 2511 = none := rfl
theorem bL_law_2514 : bL_law 2514 = [(.aload_n 1, 1), (.aload_n 0, 1), (.iload 5, 2), (.iconst 1, 1), (.iadd, 1), (.iaload, 1), (.aload_n 0, 1), (.iload 5, 2), (.iconst 2, 1), (.iadd, 1), (.iaload, 1), (.aload 4, 2), (.invokestatic 266, 3), (.istore 6, 2), (.aload_n 2, 1), (.aload_n 0, 1), (.iload 5, 2), (.iconst 1, 1), (.iadd, 1), (.iaload, 1), (.aload_n 0, 1), (.iload 5, 2), (.iconst 2, 1), (.iadd, 1), (.iaload, 1), (.invokevirtual 269, 3), (.dstore 7, 2), (.aload_n 2, 1), (.invokevirtual 150, 3), (.iload 6, 2), (.if_icmp .eq 5, 3), (.iconst 0, 1), (.ireturn, 1)] := rfl
theorem uL_law_2514 : uL_law 2514 = some [true, true, true, true, true, true, false, false, false] := rfl
theorem bL_law_2563 : bL_law 2563 = [(.iload 6, 2), (.ifCond .ne 35, 3), (.aload 4, 2), (.iconst 0, 1), (.daload, 1), (.dload 7, 2), (.dcmp .l, 1), (.ifCond .eq 25, 3), (.aload 4, 2), (.iconst 0, 1), (.daload, 1), (.aload 4, 2), (.iconst 0, 1), (.daload, 1), (.dcmp .l, 1), (.ifCond .eq 11, 3), (.dload 7, 2), (.dload 7, 2), (.dcmp .l, 1), (.ifCond .ne 5, 3)] := rfl
theorem uL_law_2563 : uL_law 2563 = none := rfl
theorem bL_law_2598 : bL_law 2598 = [(.iconst 0, 1), (.ireturn, 1)] := rfl
theorem uL_law_2598 : uL_law 2598 = none := rfl
theorem bL_law_2600 : bL_law 2600 = [(.goto 160, 3)] := rfl
theorem uL_law_2600 : uL_law 2600 = none := rfl
theorem bL_law_2603 : bL_law 2603 = [(.aload_n 1, 1), (.aload_n 0, 1), (.iload 5, 2), (.iconst 1, 1), (.iadd, 1), (.iaload, 1), (.aload 4, 2), (.invokestatic 270, 3), (.istore 6, 2), (.aload_n 2, 1), (.aload_n 0, 1), (.iload 5, 2), (.iconst 1, 1), (.iadd, 1), (.iaload, 1), (.invokevirtual 273, 3), (.fstore 7, 2), (.aload_n 2, 1), (.invokevirtual 150, 3), (.iload 6, 2), (.if_icmp .eq 5, 3), (.iconst 0, 1), (.ireturn, 1)] := rfl
theorem uL_law_2603 : uL_law 2603 = some [true, true, true, true, true, true, false, false, false] := rfl
theorem bL_law_2640 : bL_law 2640 = [(.iload 6, 2), (.ifCond .ne 36, 3), (.aload 4, 2), (.iconst 0, 1), (.daload, 1), (.fload 7, 2), (.f2d, 1), (.dcmp .l, 1), (.ifCond .eq 25, 3), (.aload 4, 2), (.iconst 0, 1), (.daload, 1), (.aload 4, 2), (.iconst 0, 1), (.daload, 1), (.dcmp .l, 1), (.ifCond .eq 11, 3), (.fload 7, 2), (.fload 7, 2), (.fcmp .l, 1), (.ifCond .ne 5, 3)] := rfl
theorem uL_law_2640 : uL_law 2640 = none := rfl
theorem bL_law_2676 : bL_law 2676 = [(.iconst 0, 1), (.ireturn, 1)] := rfl
theorem uL_law_2676 : uL_law 2676 = none := rfl
theorem bL_law_2678 : bL_law 2678 = [(.goto 82, 3)] := rfl
theorem uL_law_2678 : uL_law 2678 = none := rfl
theorem bL_law_2681 : bL_law 2681 = [(.aload_n 1, 1), (.aload_n 3, 1), (.invokestatic 274, 3), (.istore 6, 2), (.aload_n 2, 1), (.invokevirtual 277, 3), (.istore 7, 2), (.aload_n 2, 1), (.invokevirtual 150, 3), (.iload 6, 2), (.if_icmp .eq 5, 3), (.iconst 0, 1), (.ireturn, 1)] := rfl
theorem uL_law_2681 : uL_law 2681 = some [true, true, true, true, true, true, false, false, false] := rfl
theorem bL_law_2705 : bL_law 2705 = [(.iload 6, 2), (.ifCond .ne 15, 3), (.aload_n 3, 1), (.iconst 0, 1), (.laload, 1), (.iload 7, 2), (.i2l, 1), (.lcmp, 1), (.ifCond .eq 5, 3), (.iconst 0, 1), (.ireturn, 1)] := rfl
theorem uL_law_2705 : uL_law 2705 = none := rfl
theorem bL_law_2722 : bL_law 2722 = [(.goto 38, 3)] := rfl
theorem uL_law_2722 : uL_law 2722 = none := rfl
theorem bL_law_2725 : bL_law 2725 = [(.aload_n 1, 1), (.invokevirtual 278, 3), (.aload_n 2, 1), (.invokevirtual 281, 3), (.goto 27, 3)] := rfl
theorem uL_law_2725 : uL_law 2725 = some [true, true, true, true, true, true, false, false, false] := rfl
theorem bL_law_2736 : bL_law 2736 = [(.aload_n 1, 1), (.invokestatic 282, 3), (.istore 6, 2), (.aload_n 2, 1), (.invokevirtual 285, 3), (.aload_n 2, 1), (.invokevirtual 150, 3), (.iload 6, 2), (.if_icmp .eq 5, 3), (.iconst 0, 1), (.ireturn, 1)] := rfl
theorem uL_law_2736 : uL_law 2736 = some [true, true, true, true, true, true, false, false, false] := rfl
theorem bL_law_2757 : bL_law 2757 = [(.goto 3, 3)] := rfl
theorem uL_law_2757 : uL_law 2757 = none := rfl
theorem bL_law_2760 : bL_law 2760 = [(.iinc 5 5, 3), (.goto (-2735), 3)] := rfl
theorem uL_law_2760 : uL_law 2760 = some [true, true, true, true, true, true, false, false, false] := rfl
theorem bL_law_2766 : bL_law 2766 = [(.iconst 1, 1), (.ireturn, 1)] := rfl
theorem uL_law_2766 : uL_law 2766 = none := rfl
theorem aL_law_144 : aL_law 144 = some (3, true, 0, 1, C_L_appendCharacter) := rfl
theorem aL_law_149 : aL_law 149 = some (2, false, 9, 0, C_X10_appendCharacter) := rfl
theorem aL_law_150 : aL_law 150 = some (1, false, 9, 0, C_X10_thrown) := rfl
theorem aL_law_153 : aL_law 153 = some (1, false, 8, 0, C_X9_faultPosition) := rfl
theorem aL_law_156 : aL_law 156 = some (1, false, 9, 0, C_X10_faultPosition) := rfl
theorem aL_law_157 : aL_law 157 = some (6, true, 0, 1, C_L_addTransition) := rfl
theorem aL_law_160 : aL_law 160 = some (5, false, 9, 0, C_X10_addTransition) := rfl
theorem aL_law_161 : aL_law 161 = some (4, true, 0, 1, C_L_removeTransition) := rfl
theorem aL_law_164 : aL_law 164 = some (3, false, 9, 0, C_X10_removeTransition) := rfl
theorem aL_law_165 : aL_law 165 = some (5, true, 0, 1, C_L_setInitial) := rfl
theorem aL_law_168 : aL_law 168 = some (4, false, 9, 0, C_X10_setInitial) := rfl
theorem aL_law_169 : aL_law 169 = some (5, true, 0, 1, C_L_setFinal) := rfl
theorem aL_law_171 : aL_law 171 = some (4, false, 9, 0, C_X10_setFinal) := rfl
theorem aL_law_172 : aL_law 172 = some (2, true, 0, 1, C_L_copyAutomaton) := rfl
theorem aL_law_175 : aL_law 175 = some (2, false, 9, 0, C_X10_copyAutomaton) := rfl
theorem aL_law_176 : aL_law 176 = some (2, true, 0, 1, C_L_clearAutomaton) := rfl
theorem aL_law_178 : aL_law 178 = some (2, false, 9, 0, C_X10_clearAutomaton) := rfl
theorem aL_law_179 : aL_law 179 = some (3, true, 0, 1, C_L_transitionCount) := rfl
theorem aL_law_181 : aL_law 181 = some (2, false, 9, 0, C_X10_transitionCount) := rfl
theorem aL_law_182 : aL_law 182 = some (5, true, 0, 1, C_L_transition) := rfl
theorem aL_law_185 : aL_law 185 = some (4, false, 9, 0, C_X10_transition) := rfl
theorem aL_law_186 : aL_law 186 = some (6, true, 0, 1, C_L_constraint) := rfl
theorem aL_law_188 : aL_law 188 = some (5, false, 9, 0, C_X10_constraint) := rfl
theorem aL_law_189 : aL_law 189 = some (4, true, 0, 1, C_L_satisfyingValuations) := rfl
theorem aL_law_191 : aL_law 191 = some (3, false, 9, 0, C_X10_satisfyingValuations) := rfl
theorem aL_law_192 : aL_law 192 = some (4, true, 0, 1, C_L_appendEvent) := rfl
theorem aL_law_194 : aL_law 194 = some (3, false, 9, 0, C_X10_appendEvent) := rfl
theorem aL_law_195 : aL_law 195 = some (1, false, 8, 0, C_X9_clearWord) := rfl
theorem aL_law_198 : aL_law 198 = some (1, false, 9, 0, C_X10_clearWord) := rfl
theorem aL_law_199 : aL_law 199 = some (1, false, 8, 0, C_X9_wordLength) := rfl
theorem aL_law_202 : aL_law 202 = some (1, false, 9, 0, C_X10_wordLength) := rfl
theorem aL_law_203 : aL_law 203 = some (4, true, 0, 1, C_L_event) := rfl
theorem aL_law_205 : aL_law 205 = some (3, false, 9, 0, C_X10_event) := rfl
theorem aL_law_206 : aL_law 206 = some (3, true, 0, 1, C_L_valuationBefore) := rfl
theorem aL_law_208 : aL_law 208 = some (2, false, 9, 0, C_X10_valuationBefore) := rfl
theorem aL_law_209 : aL_law 209 = some (4, true, 0, 1, C_L_statesAfter) := rfl
theorem aL_law_211 : aL_law 211 = some (3, false, 9, 0, C_X10_statesAfter) := rfl
theorem aL_law_212 : aL_law 212 = some (3, true, 0, 1, C_L_accepts) := rfl
theorem aL_law_214 : aL_law 214 = some (2, false, 9, 0, C_X10_accepts) := rfl
theorem aL_law_215 : aL_law 215 = some (3, true, 0, 1, C_L_runCount) := rfl
theorem aL_law_217 : aL_law 217 = some (2, false, 9, 0, C_X10_runCount) := rfl
theorem aL_law_218 : aL_law 218 = some (3, true, 0, 1, C_L_acceptingRuns) := rfl
theorem aL_law_220 : aL_law 220 = some (2, false, 9, 0, C_X10_acceptingRuns) := rfl
theorem aL_law_221 : aL_law 221 = some (4, true, 0, 1, C_L_firstRun) := rfl
theorem aL_law_223 : aL_law 223 = some (3, false, 9, 0, C_X10_firstRun) := rfl
theorem aL_law_224 : aL_law 224 = some (3, true, 0, 1, C_L_stuckAt) := rfl
theorem aL_law_226 : aL_law 226 = some (2, false, 9, 0, C_X10_stuckAt) := rfl
theorem aL_law_227 : aL_law 227 = some (5, true, 0, 1, C_L_blockingConstraint) := rfl
theorem aL_law_229 : aL_law 229 = some (4, false, 9, 0, C_X10_blockingConstraint) := rfl
theorem aL_law_230 : aL_law 230 = some (3, true, 0, 1, C_L_deterministicStates) := rfl
theorem aL_law_232 : aL_law 232 = some (2, false, 9, 0, C_X10_deterministicStates) := rfl
theorem aL_law_233 : aL_law 233 = some (4, true, 0, 1, C_L_deterministicSet) := rfl
theorem aL_law_235 : aL_law 235 = some (3, false, 9, 0, C_X10_deterministicSet) := rfl
theorem aL_law_236 : aL_law 236 = some (5, true, 0, 1, C_L_branches) := rfl
theorem aL_law_238 : aL_law 238 = some (4, false, 9, 0, C_X10_branches) := rfl
theorem aL_law_239 : aL_law 239 = some (6, true, 0, 1, C_L_branchTarget) := rfl
theorem aL_law_241 : aL_law 241 = some (5, false, 9, 0, C_X10_branchTarget) := rfl
theorem aL_law_242 : aL_law 242 = some (6, true, 0, 1, C_L_branchValuations) := rfl
theorem aL_law_244 : aL_law 244 = some (5, false, 9, 0, C_X10_branchValuations) := rfl
theorem aL_law_245 : aL_law 245 = some (3, true, 0, 1, C_L_deterministicRun) := rfl
theorem aL_law_247 : aL_law 247 = some (2, false, 9, 0, C_X10_deterministicRun) := rfl
theorem aL_law_248 : aL_law 248 = some (3, true, 0, 1, C_L_isDeterministic) := rfl
theorem aL_law_250 : aL_law 250 = some (2, false, 9, 0, C_X10_isDeterministic) := rfl
theorem aL_law_251 : aL_law 251 = some (3, true, 0, 1, C_L_isEmpty) := rfl
theorem aL_law_253 : aL_law 253 = some (2, false, 9, 0, C_X10_isEmpty) := rfl
theorem aL_law_254 : aL_law 254 = some (3, true, 0, 1, C_L_takeWitness) := rfl
theorem aL_law_256 : aL_law 256 = some (2, false, 9, 0, C_X10_takeWitness) := rfl
theorem aL_law_257 : aL_law 257 = some (3, true, 0, 1, C_L_takeDifference) := rfl
theorem aL_law_259 : aL_law 259 = some (2, false, 9, 0, C_X10_takeDifference) := rfl
theorem aL_law_260 : aL_law 260 = some (3, true, 0, 1, C_L_isIncluded) := rfl
theorem aL_law_262 : aL_law 262 = some (2, false, 9, 0, C_X10_isIncluded) := rfl
theorem aL_law_263 : aL_law 263 = some (5, true, 0, 1, C_L_acceptedWords) := rfl
theorem aL_law_265 : aL_law 265 = some (4, false, 9, 0, C_X10_acceptedWords) := rfl
theorem aL_law_266 : aL_law 266 = some (4, true, 0, 1, C_L_acceptedShare) := rfl
theorem aL_law_269 : aL_law 269 = some (3, false, 9, 0, C_X10_acceptedShare) := rfl
theorem aL_law_270 : aL_law 270 = some (3, true, 0, 1, C_L_averageBranches) := rfl
theorem aL_law_273 : aL_law 273 = some (2, false, 9, 0, C_X10_averageBranches) := rfl
theorem aL_law_274 : aL_law 274 = some (2, true, 0, 1, C_L_undo) := rfl
theorem aL_law_277 : aL_law 277 = some (1, false, 9, 0, C_X10_undo) := rfl
theorem aL_law_278 : aL_law 278 = some (1, false, 8, 0, C_X9_save) := rfl
theorem aL_law_281 : aL_law 281 = some (1, false, 9, 0, C_X10_save) := rfl
theorem aL_law_282 : aL_law 282 = some (1, true, 0, 1, C_L_restore) := rfl
theorem aL_law_285 : aL_law 285 = some (1, false, 9, 0, C_X10_restore) := rfl
def mL_law : Room := { frames := 11, cells := 1, slots := 6, locals := 211 }
