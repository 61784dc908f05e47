/-! the law's own body: its parts without calls of fill -/
def bL_law : Nat → List (Instr × Nat)
  | 0 => [(.new 25, 3), (.dup, 1), (.invokespecial 175, 3), (.astore_n 1, 1)]
  | 8 => [(.iconst 1, 1), (.aload_n 0, 1), (.iconst 0, 1), (.bipush 7, 2), (.invokestatic 64, 3), (.iadd, 1), (.istore_n 2, 1), (.iconst 1, 1), (.aload_n 0, 1), (.iconst 1, 1), (.bipush 7, 2), (.invokestatic 64, 3), (.iadd, 1), (.istore_n 3, 1), (.aload_n 0, 1), (.iconst 2, 1), (.bipush 8, 2), (.invokestatic 64, 3), (.istore 4, 2), (.aload_n 0, 1), (.iconst 3, 1), (.bipush 8, 2), (.invokestatic 64, 3), (.istore 5, 2), (.aload_n 1, 1), (.iconst 0, 1), (.iload_n 2, 1), (.iload_n 3, 1), (.invokestatic 176, 3), (.aload_n 1, 1), (.iconst 1, 1), (.iload 4, 2), (.iload 5, 2), (.invokestatic 176, 3), (.aload_n 1, 1), (.aload_n 0, 1), (.bipush 20, 2), (.iconst 0, 1), (.iconst 1, 1), (.aload_n 0, 1), (.iconst 4, 1), (.bipush 7, 2), (.invokestatic 64, 3), (.iadd, 1)]
  | 76 => [(.invokestatic 180, 3), (.astore 6, 2)]
  | 81 => [(.aload_n 1, 1), (.aload_n 0, 1), (.bipush 70, 2), (.iconst 1, 1), (.aload_n 0, 1), (.iconst 5, 1), (.bipush 7, 2), (.invokestatic 64, 3)]
  | 93 => [(.invokestatic 180, 3), (.astore 7, 2), (.aload 6, 2), (.ifnull 8, 3), (.aload 7, 2), (.ifnonnull 5, 3)]
  | 108 => [(.iconst 0, 1), (.ireturn, 1)]
  | 110 => [(.aload_n 0, 1), (.bipush 6, 2), (.bipush 6, 2), (.invokestatic 64, 3), (.istore 8, 2)]
  | 120 => [(.bipush 6, 2), (.newarray .int, 2), (.astore 9, 2), (.bipush 6, 2), (.newarray .int, 2), (.astore 10, 2)]
  | 132 => [(.iconst 0, 1), (.istore 11, 2)]
  | 135 => [(.iload 11, 2), (.iload 8, 2), (.if_icmp .ge 62, 3), (.aload 9, 2), (.iload 11, 2), (.aload_n 0, 1), (.bipush 7, 2), (.iload 11, 2), (.iadd, 1), (.iconst 5, 1), (.invokestatic 64, 3), (.iastore, 1), (.aload 10, 2), (.iload 11, 2), (.aload_n 0, 1), (.bipush 13, 2), (.iload 11, 2), (.iadd, 1), (.iconst 3, 1), (.invokestatic 64, 3), (.iastore, 1), (.aload_n 1, 1), (.aload 9, 2), (.iload 11, 2), (.iaload, 1), (.aload 10, 2), (.iload 11, 2), (.iaload, 1), (.invokevirtual 184, 3), (.iload 11, 2), (.iconst 1, 1), (.iadd, 1), (.if_icmp .eq 5, 3), (.iconst 0, 1), (.ireturn, 1)]
  | 195 => [(.iinc 11 1, 3), (.goto (-63), 3)]
  | 201 => [(.iconst 0, 1), (.istore 11, 2)]
  | 204 => [(.iload 11, 2), (.iload 8, 2), (.if_icmp .ge 58, 3), (.aload_n 1, 1), (.iload 11, 2), (.invokevirtual 187, 3), (.aload 9, 2), (.aload 10, 2), (.iload 11, 2), (.iconst 0, 1), (.invokestatic 90, 3), (.bipush 10, 2), (.aload 9, 2), (.aload 10, 2), (.iload 11, 2), (.iconst 1, 1), (.invokestatic 90, 3), (.imul, 1), (.iadd, 1), (.bipush 100, 2), (.aload 9, 2), (.aload 10, 2), (.iload 11, 2), (.iconst 2, 1), (.invokestatic 90, 3), (.imul, 1), (.iadd, 1), (.if_icmp .eq 5, 3), (.iconst 0, 1), (.ireturn, 1)]
  | 260 => [(.iinc 11 1, 3), (.goto (-59), 3)]
  | 266 => [(.iconst 0, 1), (.istore 11, 2)]
  | 269 => [(.iload 11, 2), (.iload 8, 2), (.if_icmp .gt 56, 3), (.aload_n 1, 1), (.iconst 0, 1), (.iload 11, 2), (.invokevirtual 190, 3), (.aload 6, 2), (.iload_n 2, 1), (.aload 9, 2), (.aload 10, 2), (.iload 11, 2), (.invokestatic 119, 3), (.if_icmp .ne 26, 3), (.aload_n 1, 1), (.iconst 1, 1), (.iload 11, 2), (.invokevirtual 190, 3), (.aload 7, 2), (.iload 4, 2), (.aload 9, 2), (.aload 10, 2), (.iload 11, 2), (.invokestatic 119, 3), (.if_icmp .eq 5, 3)]
  | 321 => [(.iconst 0, 1), (.ireturn, 1)]
  | 323 => [(.iinc 11 1, 3), (.goto (-57), 3)]
  | 329 => [(.aload_n 1, 1), (.iconst 0, 1), (.invokevirtual 152, 3), (.aload 6, 2), (.iload_n 2, 1), (.aload 9, 2), (.aload 10, 2), (.iload 8, 2), (.invokestatic 119, 3), (.iload_n 3, 1), (.iand, 1), (.ifCond .eq 7, 3), (.iconst 1, 1), (.goto 4, 3)]
  | 355 => [(.iconst 0, 1)]
  | 356 => [(.if_icmp .ne 35, 3)]
  | 359 => [(.aload_n 1, 1), (.iconst 1, 1), (.invokevirtual 152, 3), (.aload 7, 2), (.iload 4, 2), (.aload 9, 2), (.aload 10, 2), (.iload 8, 2), (.invokestatic 119, 3), (.iload 5, 2), (.iand, 1), (.ifCond .eq 7, 3), (.iconst 1, 1), (.goto 4, 3)]
  | 387 => [(.iconst 0, 1)]
  | 388 => [(.if_icmp .eq 5, 3)]
  | 391 => [(.iconst 0, 1), (.ireturn, 1)]
  | 393 => [(.aload_n 1, 1), (.iconst 0, 1), (.aload_n 1, 1), (.iconst 0, 1), (.invokevirtual 193, 3), (.invokevirtual 158, 3), (.aload_n 1, 1), (.iconst 0, 1), (.iload 8, 2), (.invokevirtual 190, 3), (.if_icmp .ne 33, 3)]
  | 413 => [(.aload_n 1, 1), (.iconst 1, 1), (.aload_n 1, 1), (.iconst 1, 1), (.invokevirtual 193, 3), (.invokevirtual 158, 3), (.aload_n 1, 1), (.iconst 1, 1), (.iload 8, 2), (.invokevirtual 190, 3), (.if_icmp .ne 13, 3)]
  | 433 => [(.aload_n 1, 1), (.iconst 0, 1), (.iconst 0, 1), (.invokevirtual 158, 3), (.iload_n 2, 1), (.if_icmp .eq 5, 3)]
  | 443 => [(.iconst 0, 1), (.ireturn, 1)]
  | 445 => [(.aload_n 0, 1), (.bipush 19, 2), (.iconst 5, 1), (.invokestatic 64, 3), (.istore 11, 2), (.lconst 0, 1), (.lstore 12, 2), (.iconst 0, 1), (.istore 14, 2)]
  | 460 => [(.iload 14, 2), (.sipush 225, 3), (.if_icmp .ge 88, 3), (.aload 10, 2), (.iconst 0, 1), (.iload 14, 2), (.bipush 75, 2), (.idiv, 1), (.iastore, 1), (.aload 9, 2), (.iconst 0, 1), (.iload 14, 2), (.bipush 15, 2), (.idiv, 1), (.iconst 5, 1), (.irem, 1), (.iastore, 1), (.aload 10, 2), (.iconst 1, 1), (.iload 14, 2), (.bipush 15, 2), (.irem, 1), (.iconst 5, 1), (.idiv, 1), (.iastore, 1), (.aload 9, 2), (.iconst 1, 1), (.iload 14, 2), (.iconst 5, 1), (.irem, 1), (.iastore, 1), (.aload 9, 2), (.iconst 0, 1), (.iaload, 1), (.iload 11, 2), (.if_icmp .gt 34, 3), (.aload 9, 2), (.iconst 1, 1), (.iaload, 1), (.iload 11, 2), (.if_icmp .gt 25, 3), (.aload 6, 2), (.iload_n 2, 1), (.aload 9, 2), (.aload 10, 2), (.iconst 2, 1), (.invokestatic 119, 3), (.iload_n 3, 1), (.iand, 1), (.ifCond .eq 9, 3), (.lload 12, 2), (.lconst 1, 1), (.ladd, 1), (.lstore 12, 2)]
  | 547 => [(.iinc 14 1, 3), (.goto (-90), 3)]
  | 553 => [(.aload_n 1, 1), (.iconst 0, 1), (.iconst 2, 1), (.iload 11, 2), (.invokevirtual 148, 3), (.lload 12, 2), (.lcmp, 1), (.ifCond .ne 48, 3)]
  | 567 => [(.aload_n 1, 1), (.iconst 0, 1), (.iconst 0, 1), (.iload 11, 2), (.invokevirtual 148, 3), (.iload_n 2, 1), (.iload_n 3, 1), (.iand, 1), (.ifCond .eq 7, 3), (.lconst 1, 1), (.goto 4, 3)]
  | 585 => [(.lconst 0, 1)]
  | 586 => [(.lcmp, 1), (.ifCond .ne 25, 3)]
  | 590 => [(.aload_n 1, 1), (.iconst 0, 1), (.iconst 2, 1), (.invokevirtual 196, 3), (.aload_n 1, 1), (.iconst 0, 1), (.iconst 2, 1), (.iconst 4, 1), (.invokevirtual 148, 3), (.l2d, 1), (.ldc2_w 200, 3), (.ddiv, 1), (.dcmp .l, 1), (.ifCond .eq 5, 3)]
  | 612 => [(.iconst 0, 1), (.ireturn, 1)]
  | 614 => [(.aload_n 1, 1), (.iconst 0, 1), (.invokestatic 202, 3), (.ifCond .eq 11, 3), (.aload_n 1, 1), (.iconst 1, 1), (.invokestatic 202, 3), (.ifCond .ne 5, 3)]
  | 630 => [(.iconst 0, 1), (.ireturn, 1)]
  | 632 => [(.aload_n 1, 1), (.iconst 0, 1), (.aload 6, 2), (.iload_n 2, 1), (.iload_n 3, 1), (.aload 7, 2), (.iload 4, 2), (.iload 5, 2), (.iconst 0, 1), (.invokestatic 206, 3), (.ifCond .eq 45, 3), (.aload_n 1, 1), (.iconst 0, 1), (.aload 6, 2), (.iload_n 2, 1), (.iload_n 3, 1), (.aload 7, 2), (.iload 4, 2), (.iload 5, 2), (.iconst 1, 1), (.invokestatic 206, 3), (.ifCond .eq 26, 3), (.aload_n 1, 1), (.iconst 1, 1), (.aload 7, 2), (.iload 4, 2), (.iload 5, 2), (.aload 6, 2), (.iload_n 2, 1), (.iload_n 3, 1), (.iconst 1, 1), (.invokestatic 206, 3), (.ifCond .eq 7, 3), (.iconst 1, 1), (.goto 4, 3)]
  | 693 => [(.iconst 0, 1)]
  | 694 => [(.ireturn, 1)]
  | _ => []
def uL_law : Nat → Option (List Bool)
  | 8 => some [true, true, false, false, false, false, false, false, false, false, false, false, false, false, false]
  | 76 => some [true, true, true, true, true, true, false, false, false, false, false, false, false, false, false]
  | 81 => some [true, true, true, true, true, true, true, false, false, false, false, false, false, false, false]
  | 93 => some [true, true, true, true, true, true, true, false, false, false, false, false, false, false, false]
  | 110 => some [true, true, true, true, true, true, true, true, false, false, false, false, false, false, false]
  | 120 => some [true, true, true, true, true, true, true, true, true, false, false, false, false, false, false]
  | 132 => some [true, true, true, true, true, true, true, true, true, true, true, false, false, false, false]
  | 135 => some [true, true, true, true, true, true, true, true, true, true, true, true, false, false, false]
  | 204 => some [true, true, true, true, true, true, true, true, true, true, true, true, false, false, false]
  | 269 => some [true, true, true, true, true, true, true, true, true, true, true, true, false, false, false]
  | 329 => some [true, true, true, true, true, true, true, true, true, true, true, false, false, false, false]
  | 359 => some [true, true, true, true, true, true, true, true, true, true, true, false, false, false, false]
  | 393 => some [true, true, true, true, true, true, true, true, true, true, true, false, false, false, false]
  | 413 => some [true, true, true, true, true, true, true, true, true, true, true, false, false, false, false]
  | 433 => some [true, true, true, true, true, true, true, true, false, true, true, false, false, false, false]
  | 445 => some [true, true, true, true, true, true, true, true, false, true, true, false, false, false, false]
  | 460 => some [false, true, true, true, true, true, true, true, false, true, true, true, true, false, true]
  | 553 => some [false, true, true, true, true, true, true, true, false, false, false, true, true, false, false]
  | 567 => some [false, true, true, true, true, true, true, true, false, false, false, true, false, false, false]
  | 590 => some [false, true, true, true, true, true, true, true, false, false, false, false, false, false, false]
  | 614 => some [false, true, true, true, true, true, true, true, false, false, false, false, false, false, false]
  | _ => none
def aL_law (lim : Nat → Prop) (sc : Nat × (Nat → Int)) : pvCa
  | 64 => some (3, true, 0, 0, C_L_draw lim sc)
  | 90 => some (4, true, 0, 0, C_L_value lim sc)
  | 119 => some (5, true, 0, 0, C_L_after lim sc)
  | 148 => some (4, false, 8, 0, C_X9_acceptedWords)
  | 152 => some (2, false, 8, 0, C_X9_accepts)
  | 158 => some (3, false, 8, 0, C_X9_deterministicSet)
  | 176 => some (4, true, 0, 0, C_L_marks lim sc)
  | 184 => some (3, false, 8, 0, C_X9_appendEvent)
  | 187 => some (2, false, 8, 0, C_X9_valuationBefore)
  | 190 => some (3, false, 8, 0, C_X9_statesAfter)
  | 193 => some (2, false, 8, 0, C_X9_deterministicRun)
  | 196 => some (3, false, 8, 0, C_X9_acceptedShare)
  | 202 => some (2, true, 0, 0, C_L_areBranches lim sc)
  | 206 => some (9, true, 0, 10, C_L_isTaken lim sc)
  | _ => none
theorem bL_law_0 : bL_law 0 = [(.new 25, 3), (.dup, 1), (.invokespecial 175, 3), (.astore_n 1, 1)] := rfl
theorem uL_law_0 : uL_law 0 = none := rfl
theorem bL_law_8 : bL_law 8 = [(.iconst 1, 1), (.aload_n 0, 1), (.iconst 0, 1), (.bipush 7, 2), (.invokestatic 64, 3), (.iadd, 1), (.istore_n 2, 1), (.iconst 1, 1), (.aload_n 0, 1), (.iconst 1, 1), (.bipush 7, 2), (.invokestatic 64, 3), (.iadd, 1), (.istore_n 3, 1), (.aload_n 0, 1), (.iconst 2, 1), (.bipush 8, 2), (.invokestatic 64, 3), (.istore 4, 2), (.aload_n 0, 1), (.iconst 3, 1), (.bipush 8, 2), (.invokestatic 64, 3), (.istore 5, 2), (.aload_n 1, 1), (.iconst 0, 1), (.iload_n 2, 1), (.iload_n 3, 1), (.invokestatic 176, 3), (.aload_n 1, 1), (.iconst 1, 1), (.iload 4, 2), (.iload 5, 2), (.invokestatic 176, 3), (.aload_n 1, 1), (.aload_n 0, 1), (.bipush 20, 2), (.iconst 0, 1), (.iconst 1, 1), (.aload_n 0, 1), (.iconst 4, 1), (.bipush 7, 2), (.invokestatic 64, 3), (.iadd, 1)] := rfl
theorem uL_law_8 : uL_law 8 = some [true, true, false, false, false, false, false, false, false, false, false, false, false, false, false] := rfl
theorem bL_law_76 : bL_law 76 = [(.invokestatic 180, 3), (.astore 6, 2)] := rfl
theorem uL_law_76 : uL_law 76 = some [true, true, true, true, true, true, false, false, false, false, false, false, false, false, false] := rfl
theorem bL_law_81 : bL_law 81 = [(.aload_n 1, 1), (.aload_n 0, 1), (.bipush 70, 2), (.iconst 1, 1), (.aload_n 0, 1), (.iconst 5, 1), (.bipush 7, 2), (.invokestatic 64, 3)] := rfl
theorem uL_law_81 : uL_law 81 = some [true, true, true, true, true, true, true, false, false, false, false, false, false, false, false] := rfl
theorem bL_law_93 : bL_law 93 = [(.invokestatic 180, 3), (.astore 7, 2), (.aload 6, 2), (.ifnull 8, 3), (.aload 7, 2), (.ifnonnull 5, 3)] := rfl
theorem uL_law_93 : uL_law 93 = some [true, true, true, true, true, true, true, false, false, false, false, false, false, false, false] := rfl
theorem bL_law_108 : bL_law 108 = [(.iconst 0, 1), (.ireturn, 1)] := rfl
theorem uL_law_108 : uL_law 108 = none := rfl
theorem bL_law_110 : bL_law 110 = [(.aload_n 0, 1), (.bipush 6, 2), (.bipush 6, 2), (.invokestatic 64, 3), (.istore 8, 2)] := rfl
theorem uL_law_110 : uL_law 110 = some [true, true, true, true, true, true, true, true, false, false, false, false, false, false, false] := rfl
theorem bL_law_120 : bL_law 120 = [(.bipush 6, 2), (.newarray .int, 2), (.astore 9, 2), (.bipush 6, 2), (.newarray .int, 2), (.astore 10, 2)] := rfl
theorem uL_law_120 : uL_law 120 = some [true, true, true, true, true, true, true, true, true, false, false, false, false, false, false] := rfl
theorem bL_law_132 : bL_law 132 = [(.iconst 0, 1), (.istore 11, 2)] := rfl
theorem uL_law_132 : uL_law 132 = some [true, true, true, true, true, true, true, true, true, true, true, false, false, false, false] := rfl
theorem bL_law_135 : bL_law 135 = [(.iload 11, 2), (.iload 8, 2), (.if_icmp .ge 62, 3), (.aload 9, 2), (.iload 11, 2), (.aload_n 0, 1), (.bipush 7, 2), (.iload 11, 2), (.iadd, 1), (.iconst 5, 1), (.invokestatic 64, 3), (.iastore, 1), (.aload 10, 2), (.iload 11, 2), (.aload_n 0, 1), (.bipush 13, 2), (.iload 11, 2), (.iadd, 1), (.iconst 3, 1), (.invokestatic 64, 3), (.iastore, 1), (.aload_n 1, 1), (.aload 9, 2), (.iload 11, 2), (.iaload, 1), (.aload 10, 2), (.iload 11, 2), (.iaload, 1), (.invokevirtual 184, 3), (.iload 11, 2), (.iconst 1, 1), (.iadd, 1), (.if_icmp .eq 5, 3), (.iconst 0, 1), (.ireturn, 1)] := rfl
theorem uL_law_135 : uL_law 135 = some [true, true, true, true, true, true, true, true, true, true, true, true, false, false, false] := rfl
theorem bL_law_195 : bL_law 195 = [(.iinc 11 1, 3), (.goto (-63), 3)] := rfl
theorem uL_law_195 : uL_law 195 = none := rfl
theorem bL_law_201 : bL_law 201 = [(.iconst 0, 1), (.istore 11, 2)] := rfl
theorem uL_law_201 : uL_law 201 = none := rfl
theorem bL_law_204 : bL_law 204 = [(.iload 11, 2), (.iload 8, 2), (.if_icmp .ge 58, 3), (.aload_n 1, 1), (.iload 11, 2), (.invokevirtual 187, 3), (.aload 9, 2), (.aload 10, 2), (.iload 11, 2), (.iconst 0, 1), (.invokestatic 90, 3), (.bipush 10, 2), (.aload 9, 2), (.aload 10, 2), (.iload 11, 2), (.iconst 1, 1), (.invokestatic 90, 3), (.imul, 1), (.iadd, 1), (.bipush 100, 2), (.aload 9, 2), (.aload 10, 2), (.iload 11, 2), (.iconst 2, 1), (.invokestatic 90, 3), (.imul, 1), (.iadd, 1), (.if_icmp .eq 5, 3), (.iconst 0, 1), (.ireturn, 1)] := rfl
theorem uL_law_204 : uL_law 204 = some [true, true, true, true, true, true, true, true, true, true, true, true, false, false, false] := rfl
theorem bL_law_260 : bL_law 260 = [(.iinc 11 1, 3), (.goto (-59), 3)] := rfl
theorem uL_law_260 : uL_law 260 = none := rfl
theorem bL_law_266 : bL_law 266 = [(.iconst 0, 1), (.istore 11, 2)] := rfl
theorem uL_law_266 : uL_law 266 = none := rfl
theorem bL_law_269 : bL_law 269 = [(.iload 11, 2), (.iload 8, 2), (.if_icmp .gt 56, 3), (.aload_n 1, 1), (.iconst 0, 1), (.iload 11, 2), (.invokevirtual 190, 3), (.aload 6, 2), (.iload_n 2, 1), (.aload 9, 2), (.aload 10, 2), (.iload 11, 2), (.invokestatic 119, 3), (.if_icmp .ne 26, 3), (.aload_n 1, 1), (.iconst 1, 1), (.iload 11, 2), (.invokevirtual 190, 3), (.aload 7, 2), (.iload 4, 2), (.aload 9, 2), (.aload 10, 2), (.iload 11, 2), (.invokestatic 119, 3), (.if_icmp .eq 5, 3)] := rfl
theorem uL_law_269 : uL_law 269 = some [true, true, true, true, true, true, true, true, true, true, true, true, false, false, false] := rfl
theorem bL_law_321 : bL_law 321 = [(.iconst 0, 1), (.ireturn, 1)] := rfl
theorem uL_law_321 : uL_law 321 = none := rfl
theorem bL_law_323 : bL_law 323 = [(.iinc 11 1, 3), (.goto (-57), 3)] := rfl
theorem uL_law_323 : uL_law 323 = none := rfl
theorem bL_law_329 : bL_law 329 = [(.aload_n 1, 1), (.iconst 0, 1), (.invokevirtual 152, 3), (.aload 6, 2), (.iload_n 2, 1), (.aload 9, 2), (.aload 10, 2), (.iload 8, 2), (.invokestatic 119, 3), (.iload_n 3, 1), (.iand, 1), (.ifCond .eq 7, 3), (.iconst 1, 1), (.goto 4, 3)] := rfl
theorem uL_law_329 : uL_law 329 = some [true, true, true, true, true, true, true, true, true, true, true, false, false, false, false] := rfl
theorem bL_law_355 : bL_law 355 = [(.iconst 0, 1)] := rfl
theorem uL_law_355 : uL_law 355 = none := rfl
theorem bL_law_356 : bL_law 356 = [(.if_icmp .ne 35, 3)] := rfl
theorem uL_law_356 : uL_law 356 = none := rfl
theorem bL_law_359 : bL_law 359 = [(.aload_n 1, 1), (.iconst 1, 1), (.invokevirtual 152, 3), (.aload 7, 2), (.iload 4, 2), (.aload 9, 2), (.aload 10, 2), (.iload 8, 2), (.invokestatic 119, 3), (.iload 5, 2), (.iand, 1), (.ifCond .eq 7, 3), (.iconst 1, 1), (.goto 4, 3)] := rfl
theorem uL_law_359 : uL_law 359 = some [true, true, true, true, true, true, true, true, true, true, true, false, false, false, false] := rfl
theorem bL_law_387 : bL_law 387 = [(.iconst 0, 1)] := rfl
theorem uL_law_387 : uL_law 387 = none := rfl
theorem bL_law_388 : bL_law 388 = [(.if_icmp .eq 5, 3)] := rfl
theorem uL_law_388 : uL_law 388 = none := rfl
theorem bL_law_391 : bL_law 391 = [(.iconst 0, 1), (.ireturn, 1)] := rfl
theorem uL_law_391 : uL_law 391 = none := rfl
theorem bL_law_393 : bL_law 393 = [(.aload_n 1, 1), (.iconst 0, 1), (.aload_n 1, 1), (.iconst 0, 1), (.invokevirtual 193, 3), (.invokevirtual 158, 3), (.aload_n 1, 1), (.iconst 0, 1), (.iload 8, 2), (.invokevirtual 190, 3), (.if_icmp .ne 33, 3)] := rfl
theorem uL_law_393 : uL_law 393 = some [true, true, true, true, true, true, true, true, true, true, true, false, false, false, false] := rfl
theorem bL_law_413 : bL_law 413 = [(.aload_n 1, 1), (.iconst 1, 1), (.aload_n 1, 1), (.iconst 1, 1), (.invokevirtual 193, 3), (.invokevirtual 158, 3), (.aload_n 1, 1), (.iconst 1, 1), (.iload 8, 2), (.invokevirtual 190, 3), (.if_icmp .ne 13, 3)] := rfl
theorem uL_law_413 : uL_law 413 = some [true, true, true, true, true, true, true, true, true, true, true, false, false, false, false] := rfl
theorem bL_law_433 : bL_law 433 = [(.aload_n 1, 1), (.iconst 0, 1), (.iconst 0, 1), (.invokevirtual 158, 3), (.iload_n 2, 1), (.if_icmp .eq 5, 3)] := rfl
theorem uL_law_433 : uL_law 433 = some [true, true, true, true, true, true, true, true, false, true, true, false, false, false, false] := rfl
theorem bL_law_443 : bL_law 443 = [(.iconst 0, 1), (.ireturn, 1)] := rfl
theorem uL_law_443 : uL_law 443 = none := rfl
theorem bL_law_445 : bL_law 445 = [(.aload_n 0, 1), (.bipush 19, 2), (.iconst 5, 1), (.invokestatic 64, 3), (.istore 11, 2), (.lconst 0, 1), (.lstore 12, 2), (.iconst 0, 1), (.istore 14, 2)] := rfl
theorem uL_law_445 : uL_law 445 = some [true, true, true, true, true, true, true, true, false, true, true, false, false, false, false] := rfl
theorem bL_law_460 : bL_law 460 = [(.iload 14, 2), (.sipush 225, 3), (.if_icmp .ge 88, 3), (.aload 10, 2), (.iconst 0, 1), (.iload 14, 2), (.bipush 75, 2), (.idiv, 1), (.iastore, 1), (.aload 9, 2), (.iconst 0, 1), (.iload 14, 2), (.bipush 15, 2), (.idiv, 1), (.iconst 5, 1), (.irem, 1), (.iastore, 1), (.aload 10, 2), (.iconst 1, 1), (.iload 14, 2), (.bipush 15, 2), (.irem, 1), (.iconst 5, 1), (.idiv, 1), (.iastore, 1), (.aload 9, 2), (.iconst 1, 1), (.iload 14, 2), (.iconst 5, 1), (.irem, 1), (.iastore, 1), (.aload 9, 2), (.iconst 0, 1), (.iaload, 1), (.iload 11, 2), (.if_icmp .gt 34, 3), (.aload 9, 2), (.iconst 1, 1), (.iaload, 1), (.iload 11, 2), (.if_icmp .gt 25, 3), (.aload 6, 2), (.iload_n 2, 1), (.aload 9, 2), (.aload 10, 2), (.iconst 2, 1), (.invokestatic 119, 3), (.iload_n 3, 1), (.iand, 1), (.ifCond .eq 9, 3), (.lload 12, 2), (.lconst 1, 1), (.ladd, 1), (.lstore 12, 2)] := rfl
theorem uL_law_460 : uL_law 460 = some [false, true, true, true, true, true, true, true, false, true, true, true, true, false, true] := rfl
theorem bL_law_547 : bL_law 547 = [(.iinc 14 1, 3), (.goto (-90), 3)] := rfl
theorem uL_law_547 : uL_law 547 = none := rfl
theorem bL_law_553 : bL_law 553 = [(.aload_n 1, 1), (.iconst 0, 1), (.iconst 2, 1), (.iload 11, 2), (.invokevirtual 148, 3), (.lload 12, 2), (.lcmp, 1), (.ifCond .ne 48, 3)] := rfl
theorem uL_law_553 : uL_law 553 = some [false, true, true, true, true, true, true, true, false, false, false, true, true, false, false] := rfl
theorem bL_law_567 : bL_law 567 = [(.aload_n 1, 1), (.iconst 0, 1), (.iconst 0, 1), (.iload 11, 2), (.invokevirtual 148, 3), (.iload_n 2, 1), (.iload_n 3, 1), (.iand, 1), (.ifCond .eq 7, 3), (.lconst 1, 1), (.goto 4, 3)] := rfl
theorem uL_law_567 : uL_law 567 = some [false, true, true, true, true, true, true, true, false, false, false, true, false, false, false] := rfl
theorem bL_law_585 : bL_law 585 = [(.lconst 0, 1)] := rfl
theorem uL_law_585 : uL_law 585 = none := rfl
theorem bL_law_586 : bL_law 586 = [(.lcmp, 1), (.ifCond .ne 25, 3)] := rfl
theorem uL_law_586 : uL_law 586 = none := rfl
theorem bL_law_590 : bL_law 590 = [(.aload_n 1, 1), (.iconst 0, 1), (.iconst 2, 1), (.invokevirtual 196, 3), (.aload_n 1, 1), (.iconst 0, 1), (.iconst 2, 1), (.iconst 4, 1), (.invokevirtual 148, 3), (.l2d, 1), (.ldc2_w 200, 3), (.ddiv, 1), (.dcmp .l, 1), (.ifCond .eq 5, 3)] := rfl
theorem uL_law_590 : uL_law 590 = some [false, true, true, true, true, true, true, true, false, false, false, false, false, false, false] := rfl
theorem bL_law_612 : bL_law 612 = [(.iconst 0, 1), (.ireturn, 1)] := rfl
theorem uL_law_612 : uL_law 612 = none := rfl
theorem bL_law_614 : bL_law 614 = [(.aload_n 1, 1), (.iconst 0, 1), (.invokestatic 202, 3), (.ifCond .eq 11, 3), (.aload_n 1, 1), (.iconst 1, 1), (.invokestatic 202, 3), (.ifCond .ne 5, 3)] := rfl
theorem uL_law_614 : uL_law 614 = some [false, true, true, true, true, true, true, true, false, false, false, false, false, false, false] := rfl
theorem bL_law_630 : bL_law 630 = [(.iconst 0, 1), (.ireturn, 1)] := rfl
theorem uL_law_630 : uL_law 630 = none := rfl
theorem bL_law_632 : bL_law 632 = [(.aload_n 1, 1), (.iconst 0, 1), (.aload 6, 2), (.iload_n 2, 1), (.iload_n 3, 1), (.aload 7, 2), (.iload 4, 2), (.iload 5, 2), (.iconst 0, 1), (.invokestatic 206, 3), (.ifCond .eq 45, 3), (.aload_n 1, 1), (.iconst 0, 1), (.aload 6, 2), (.iload_n 2, 1), (.iload_n 3, 1), (.aload 7, 2), (.iload 4, 2), (.iload 5, 2), (.iconst 1, 1), (.invokestatic 206, 3), (.ifCond .eq 26, 3), (.aload_n 1, 1), (.iconst 1, 1), (.aload 7, 2), (.iload 4, 2), (.iload 5, 2), (.aload 6, 2), (.iload_n 2, 1), (.iload_n 3, 1), (.iconst 1, 1), (.invokestatic 206, 3), (.ifCond .eq 7, 3), (.iconst 1, 1), (.goto 4, 3)] := rfl
theorem uL_law_632 : uL_law 632 = none := rfl
theorem bL_law_693 : bL_law 693 = [(.iconst 0, 1)] := rfl
theorem uL_law_693 : uL_law 693 = none := rfl
theorem bL_law_694 : bL_law 694 = [(.ireturn, 1)] := rfl
theorem uL_law_694 : uL_law 694 = none := rfl
theorem aL_law_64 {lim : Nat → Prop} {sc : Nat × (Nat → Int)} : aL_law lim sc 64 = some (3, true, 0, 0, C_L_draw lim sc) := rfl
theorem aL_law_90 {lim : Nat → Prop} {sc : Nat × (Nat → Int)} : aL_law lim sc 90 = some (4, true, 0, 0, C_L_value lim sc) := rfl
theorem aL_law_119 {lim : Nat → Prop} {sc : Nat × (Nat → Int)} : aL_law lim sc 119 = some (5, true, 0, 0, C_L_after lim sc) := rfl
theorem aL_law_148 {lim : Nat → Prop} {sc : Nat × (Nat → Int)} : aL_law lim sc 148 = some (4, false, 8, 0, C_X9_acceptedWords) := rfl
theorem aL_law_152 {lim : Nat → Prop} {sc : Nat × (Nat → Int)} : aL_law lim sc 152 = some (2, false, 8, 0, C_X9_accepts) := rfl
theorem aL_law_158 {lim : Nat → Prop} {sc : Nat × (Nat → Int)} : aL_law lim sc 158 = some (3, false, 8, 0, C_X9_deterministicSet) := rfl
theorem aL_law_176 {lim : Nat → Prop} {sc : Nat × (Nat → Int)} : aL_law lim sc 176 = some (4, true, 0, 0, C_L_marks lim sc) := rfl
theorem aL_law_184 {lim : Nat → Prop} {sc : Nat × (Nat → Int)} : aL_law lim sc 184 = some (3, false, 8, 0, C_X9_appendEvent) := rfl
theorem aL_law_187 {lim : Nat → Prop} {sc : Nat × (Nat → Int)} : aL_law lim sc 187 = some (2, false, 8, 0, C_X9_valuationBefore) := rfl
theorem aL_law_190 {lim : Nat → Prop} {sc : Nat × (Nat → Int)} : aL_law lim sc 190 = some (3, false, 8, 0, C_X9_statesAfter) := rfl
theorem aL_law_193 {lim : Nat → Prop} {sc : Nat × (Nat → Int)} : aL_law lim sc 193 = some (2, false, 8, 0, C_X9_deterministicRun) := rfl
theorem aL_law_196 {lim : Nat → Prop} {sc : Nat × (Nat → Int)} : aL_law lim sc 196 = some (3, false, 8, 0, C_X9_acceptedShare) := rfl
theorem aL_law_202 {lim : Nat → Prop} {sc : Nat × (Nat → Int)} : aL_law lim sc 202 = some (2, true, 0, 0, C_L_areBranches lim sc) := rfl
theorem aL_law_206 {lim : Nat → Prop} {sc : Nat × (Nat → Int)} : aL_law lim sc 206 = some (9, true, 0, 10, C_L_isTaken lim sc) := rfl
set_option maxRecDepth 100000 in
set_option maxHeartbeats 4000000 in
theorem okL_law8 {lim : Nat → Prop} {sc : Nat × (Nat → Int)} {Gm : Nat} {Rt : Option pvV → pvM → Nat → Prop} {SW : pvJ} (hG : 1 ≤ Gm) (hc : pvCloG lim sc fL (aL_law lim sc) kL Gm Rt bL_law uL_law SW) {z : pvM} (h60 : lim 60) (h0 : lim 0) (hz : stG z z)
    (h76 : ∀ (ini fin ini2 fin2 m : Int) (z' : pvM), (1 ≤ ini ∧ ini ≤ 7) ∧ (1 ≤ fin ∧ fin ≤ 7) ∧ (0 ≤ ini2 ∧ ini2 ≤ 7) ∧ (0 ≤ fin2 ∧ fin2 ≤ 7) ∧ (1 ≤ m ∧ m ≤ 7) → stG z z' → autC (z'.1 2) = ((autC (z.1 2)).1, ini, fin, (autC (z.1 2)).2.2.2) → autC (z'.1 4) = ((autC (z.1 4)).1, ini2, fin2, (autC (z.1 4)).2.2.2) →
      SW 76 [some (vR 60), some (vR 0), some (vI ini), some (vI fin), some (vI ini2), some (vI fin2), none, none, none, none, none, none, none, none, none] [vI m, vI 0, vI 20, vR 60, vR 0] z' 0) :
    SW 8 [some (vR 60), some (vR 0), none, none, none, none, none, none, none, none, none, none, none, none, none] [] z 0 := by
  refine hc 20 _ _ _ _ _ fun _ _ _ => ?_
  clear hc
  simp only [pvStG]
  simp only [C_L_draw, C_L_marks, pvE_dup_i, pvE_dup_r, pvE_astore_n1, pvS1, List.length_cons, List.length_nil, pvClr_i, pvClr_r, pvClr_l, pvClr_d, pvClr_f, pvClr_n, pvE_iconst, pvE_aload_n0, pvLA_s, pvLd, pvE_bipush, pvE_invokestatic (Ex := fun _ => none) (h0 := rfl), pvC1_s, pvC2_s, pvAf_v, pvAf_x, pvPop, pvCs, pvCat, pvPush, aL_law_64, pvE_iadd, pvE_istore_n2, pvE_istore_n3, pvE_istore, pvE_aload_n1, pvE_iload_n2, pvLI_s, pvE_iload_n3, aL_law_176, pvE_iload, pvE_astore, pvE_aload, pvE_ifnull, pvE_ifnonnull, pvE_ireturn, pvE_icmp_ge, pvE_iastore, pvE_iaload, pvE_invokevirtual, aL_law_184, pvSh_0, pvSh_1, pvSh_2, pvSh_3, pvSh_4, pvSh_5, pvSh_6, pvSh_7, pvSh_8, pvSh_9, pvSh_10, pvSh_11, pvSh_12, pvSh_13, pvSh_14, pvSh_15, pvSh_16, pvSh_17, pvSh_18, pvSh_19, pvSh_20, pvSh_21, pvSh_22, pvSh_23, pvSh_24, pvSh_25, pvSh_26, pvSh_27, pvSh_28, pvSh_29, pvSh_30, pvSh_31, pvSh_32, pvSh_33, pvSh_34, pvSh_35, pvSh_36, pvSh_37, pvSh_38, pvE_icmp_eq, pvE_iinc, pvIc_s, pvE_goto, aL_law_187, aL_law_90, pvE_imul, pvE_icmp_gt, aL_law_190, aL_law_119, pvE_icmp_ne, aL_law_152, pvE_iand, pvE_if_eq, aL_law_193, aL_law_158, pvE_lconst0, pvE_lstore, pvS2, pvE_sipush, pvE_idiv, pvE_irem, pvE_lload, pvLL_s, pvE_lconst1, pvE_ladd, aL_law_148, pvE_lcmp, pvE_if_ne, aL_law_196, pvE_l2d, pvE_ldc2_w_d (h0 := kL_200), pvE_ddiv, pvE_dcmp, aL_law_202, aL_law_206, bL_law_0, uL_law_0, bL_law_8, uL_law_8, bL_law_76, uL_law_76, bL_law_81, uL_law_81, bL_law_93, uL_law_93, bL_law_108, uL_law_108, bL_law_110, uL_law_110, bL_law_120, uL_law_120, bL_law_132, uL_law_132, bL_law_135, uL_law_135, bL_law_195, uL_law_195, bL_law_201, uL_law_201, bL_law_204, uL_law_204, bL_law_260, uL_law_260, bL_law_266, uL_law_266, bL_law_269, uL_law_269, bL_law_321, uL_law_321, bL_law_323, uL_law_323, bL_law_329, uL_law_329, bL_law_355, uL_law_355, bL_law_356, uL_law_356, bL_law_359, uL_law_359, bL_law_387, uL_law_387, bL_law_388, uL_law_388, bL_law_391, uL_law_391, bL_law_393, uL_law_393, bL_law_413, uL_law_413, bL_law_433, uL_law_433, bL_law_443, uL_law_443, bL_law_445, uL_law_445, bL_law_460, uL_law_460, bL_law_547, uL_law_547, bL_law_553, uL_law_553, bL_law_567, uL_law_567, bL_law_585, uL_law_585, bL_law_586, uL_law_586, bL_law_590, uL_law_590, bL_law_612, uL_law_612, bL_law_614, uL_law_614, bL_law_630, uL_law_630, bL_law_632, uL_law_632, bL_law_693, uL_law_693, bL_law_694, uL_law_694, pvMk_t, pvMk_f, pvMk_n, pvRtG, pvRecv_r, pvUp_nl, pvUp_same, pvUp_ap, pvSt_ap, pvX_c, pvX_ms, pvX_mn, pvE_nil, pvEn_i, pvEn_r, pvEn_l, pvEn_0, pvEn_s, pvRt, pvRv, pvTh, pvKc, pvGo, pvTgt, Int.toNat_natCast, false_and, and_false, true_and, and_true, if_true, if_false, reduceIte, reduceCtorEq, forall_const, false_or, or_false, true_or, or_true, ne_eq, not_true_eq_false, not_false_eq_true, implies_true, false_implies, Nat.reduceAdd, Nat.reduceSub, Nat.reduceMul, Nat.reduceEqDiff, Nat.reduceLT, Nat.reduceLeDiff, Int.reduceAdd, Int.reduceSub, Int.reduceMul, Int.reduceNeg, Int.reduceToNat, Int.reduceLE, Int.reduceLT, Int.reduceEq, Int.reduceNe, and_self]
  have d7 := fun x => show 0 ≤ dwS sc x % 7 ∧ dwS sc x % 7 ≤ 6 by omega
  have d8 := fun x => show 0 ≤ dwS sc x % 8 ∧ dwS sc x % 8 ≤ 7 by omega
  have g0 := d7 0
  have g1 := d7 1
  have g2 := d8 2
  have g3 := d8 3
  have g4 := d7 4
  have p1 : ∀ x : Int, 0 ≤ x ∧ x ≤ 200 → pvR x := fun x hx => by unfold pvR; omega
  have sz : ∀ z' : pvM, stG z z' → stG z' z' := fun z' h => ⟨frF_0, h.2.1, h.2.2.1, fun _ _ => rfl, fun _ _ => rfl, h.2.2.2.2.2.1, h.2.2.2.2.2.2⟩
  have st : ∀ z1 z2 : pvM, stG z z1 → stG z1 z2 → stG z z2 := fun z1 z2 h h' => ⟨frF_tt h.1 h'.1, h'.2.1, h'.2.2.1, fun j hj => (h'.2.2.2.1 j hj).trans (h.2.2.2.1 j hj), fun j hj => (h'.2.2.2.2.1 j hj).trans (h.2.2.2.2.1 j hj), h'.2.2.2.2.2⟩
  refine ⟨p1 _ (by omega), p1 _ (by omega), hG, h60, p1 _ (by omega), p1 _ (by omega), p1 _ (by omega), hG, h60, p1 _ (by omega), p1 _ (by omega), hG, h60, p1 _ (by omega), hG, h60, p1 _ (by omega), hG, ⟨h0, by omega, by omega, hz⟩, fun z1 i1 i2 i3 => ?_⟩
  refine ⟨p1 _ (by omega), hG, ⟨h0, by omega, by omega, sz z1 i1⟩, fun z2 j1 j2 j3 => ?_⟩
  have j3' : z2.1 2 = z1.1 2 := j3
  have i3' : z1.1 4 = z.1 4 := i3
  have h9 := h76 (1 + dwS sc 0 % 7) (1 + dwS sc 1 % 7) (dwS sc 2 % 8) (dwS sc 3 % 8) (1 + dwS sc 4 % 7) z2 ⟨by omega, by omega, g2, g3, by omega⟩ (st z1 z2 i1 j1) (by rw [j3']; exact i2) (by rw [← i3']; exact j2)
  exact ⟨p1 _ (by omega), p1 _ (by omega), p1 _ (by omega), hG, h60, p1 _ (by omega), h9⟩
set_option maxRecDepth 100000 in
set_option maxHeartbeats 4000000 in
theorem okL_law81 {lim : Nat → Prop} {sc : Nat × (Nat → Int)} {Gm : Nat} {Rt : Option pvV → pvM → Nat → Prop} {SW : pvJ} (hG : 1 ≤ Gm) (hc : pvCloG lim sc fL (aL_law lim sc) kL Gm Rt bL_law uL_law SW) {z : pvM} {ini fin ini2 fin2 : Int} {t : Nat} (h60 : lim 60)
    (h93 : ∀ m : Int, 0 ≤ m ∧ m ≤ 6 → SW 93 [some (vR 60), some (vR 0), some (vI ini), some (vI fin), some (vI ini2), some (vI fin2), some (vR t), none, none, none, none, none, none, none, none] [vI m, vI 1, vI 70, vR 60, vR 0] z 0) :
    SW 81 [some (vR 60), some (vR 0), some (vI ini), some (vI fin), some (vI ini2), some (vI fin2), some (vR t), none, none, none, none, none, none, none, none] [] z 0 := by
  refine hc 20 _ _ _ _ _ fun _ _ _ => ?_
  clear hc
  simp only [pvStG]
  simp only [C_L_draw, pvE_dup_i, pvE_dup_r, pvE_astore_n1, pvS1, List.length_cons, List.length_nil, pvClr_i, pvClr_r, pvClr_l, pvClr_d, pvClr_f, pvClr_n, pvE_iconst, pvE_aload_n0, pvLA_s, pvLd, pvE_bipush, pvE_invokestatic (Ex := fun _ => none) (h0 := rfl), pvC1_s, pvC2_s, pvAf_v, pvAf_x, pvPop, pvCs, pvCat, pvPush, aL_law_64, pvE_iadd, pvE_istore_n2, pvE_istore_n3, pvE_istore, pvE_aload_n1, pvE_iload_n2, pvLI_s, pvE_iload_n3, aL_law_176, pvE_iload, pvE_astore, pvE_aload, pvE_ifnull, pvE_ifnonnull, pvE_ireturn, pvE_icmp_ge, pvE_iastore, pvE_iaload, pvE_invokevirtual, aL_law_184, pvSh_0, pvSh_1, pvSh_2, pvSh_3, pvSh_4, pvSh_5, pvSh_6, pvSh_7, pvSh_8, pvSh_9, pvSh_10, pvSh_11, pvSh_12, pvSh_13, pvSh_14, pvSh_15, pvSh_16, pvSh_17, pvSh_18, pvSh_19, pvSh_20, pvSh_21, pvSh_22, pvSh_23, pvSh_24, pvSh_25, pvSh_26, pvSh_27, pvSh_28, pvSh_29, pvSh_30, pvSh_31, pvSh_32, pvSh_33, pvSh_34, pvSh_35, pvSh_36, pvSh_37, pvSh_38, pvE_icmp_eq, pvE_iinc, pvIc_s, pvE_goto, aL_law_187, aL_law_90, pvE_imul, pvE_icmp_gt, aL_law_190, aL_law_119, pvE_icmp_ne, aL_law_152, pvE_iand, pvE_if_eq, aL_law_193, aL_law_158, pvE_lconst0, pvE_lstore, pvS2, pvE_sipush, pvE_idiv, pvE_irem, pvE_lload, pvLL_s, pvE_lconst1, pvE_ladd, aL_law_148, pvE_lcmp, pvE_if_ne, aL_law_196, pvE_l2d, pvE_ldc2_w_d (h0 := kL_200), pvE_ddiv, pvE_dcmp, aL_law_202, aL_law_206, bL_law_0, uL_law_0, bL_law_8, uL_law_8, bL_law_76, uL_law_76, bL_law_81, uL_law_81, bL_law_93, uL_law_93, bL_law_108, uL_law_108, bL_law_110, uL_law_110, bL_law_120, uL_law_120, bL_law_132, uL_law_132, bL_law_135, uL_law_135, bL_law_195, uL_law_195, bL_law_201, uL_law_201, bL_law_204, uL_law_204, bL_law_260, uL_law_260, bL_law_266, uL_law_266, bL_law_269, uL_law_269, bL_law_321, uL_law_321, bL_law_323, uL_law_323, bL_law_329, uL_law_329, bL_law_355, uL_law_355, bL_law_356, uL_law_356, bL_law_359, uL_law_359, bL_law_387, uL_law_387, bL_law_388, uL_law_388, bL_law_391, uL_law_391, bL_law_393, uL_law_393, bL_law_413, uL_law_413, bL_law_433, uL_law_433, bL_law_443, uL_law_443, bL_law_445, uL_law_445, bL_law_460, uL_law_460, bL_law_547, uL_law_547, bL_law_553, uL_law_553, bL_law_567, uL_law_567, bL_law_585, uL_law_585, bL_law_586, uL_law_586, bL_law_590, uL_law_590, bL_law_612, uL_law_612, bL_law_614, uL_law_614, bL_law_630, uL_law_630, bL_law_632, uL_law_632, bL_law_693, uL_law_693, bL_law_694, uL_law_694, pvMk_t, pvMk_f, pvMk_n, pvRtG, pvRecv_r, pvUp_nl, pvUp_same, pvUp_ap, pvSt_ap, pvX_c, pvX_ms, pvX_mn, pvE_nil, pvEn_i, pvEn_r, pvEn_l, pvEn_0, pvEn_s, pvRt, pvRv, pvTh, pvKc, pvGo, pvTgt, Int.toNat_natCast, false_and, and_false, true_and, and_true, if_true, if_false, reduceIte, reduceCtorEq, forall_const, false_or, or_false, true_or, or_true, ne_eq, not_true_eq_false, not_false_eq_true, implies_true, false_implies, Nat.reduceAdd, Nat.reduceSub, Nat.reduceMul, Nat.reduceEqDiff, Nat.reduceLT, Nat.reduceLeDiff, Int.reduceAdd, Int.reduceSub, Int.reduceMul, Int.reduceNeg, Int.reduceToNat, Int.reduceLE, Int.reduceLT, Int.reduceEq, Int.reduceNe, and_self]
  have p1 : ∀ x : Int, 0 ≤ x ∧ x ≤ 200 → pvR x := fun x hx => by unfold pvR; omega
  have g := show 0 ≤ dwS sc 5 % 7 ∧ dwS sc 5 % 7 ≤ 6 by omega
  exact ⟨p1 1 (by omega), p1 5 (by omega), hG, h60, h93 _ g⟩
set_option maxRecDepth 100000 in
set_option maxHeartbeats 4000000 in
theorem okL_law110 {lim : Nat → Prop} {sc : Nat × (Nat → Int)} {Gm : Nat} {Rt : Option pvV → pvM → Nat → Prop} {SW : pvJ} (hG : 1 ≤ Gm) (hc : pvCloG lim sc fL (aL_law lim sc) kL Gm Rt bL_law uL_law SW) {z : pvM} {ini fin ini2 fin2 : Int} {t u : Nat} (h60 : lim 60)
    (h120 : ∀ n : Int, 0 ≤ n ∧ n ≤ 5 → SW 120 [some (vR 60), some (vR 0), some (vI ini), some (vI fin), some (vI ini2), some (vI fin2), some (vR t), some (vR u), some (vI n), none, none, none, none, none, none] [] z 0) :
    SW 110 [some (vR 60), some (vR 0), some (vI ini), some (vI fin), some (vI ini2), some (vI fin2), some (vR t), some (vR u), none, none, none, none, none, none, none] [] z 0 := by
  refine hc 20 _ _ _ _ _ fun _ _ _ => ?_
  clear hc
  simp only [pvStG]
  simp only [C_L_draw, pvE_dup_i, pvE_dup_r, pvE_astore_n1, pvS1, List.length_cons, List.length_nil, pvClr_i, pvClr_r, pvClr_l, pvClr_d, pvClr_f, pvClr_n, pvE_iconst, pvE_aload_n0, pvLA_s, pvLd, pvE_bipush, pvE_invokestatic (Ex := fun _ => none) (h0 := rfl), pvC1_s, pvC2_s, pvAf_v, pvAf_x, pvPop, pvCs, pvCat, pvPush, aL_law_64, pvE_iadd, pvE_istore_n2, pvE_istore_n3, pvE_istore, pvE_aload_n1, pvE_iload_n2, pvLI_s, pvE_iload_n3, aL_law_176, pvE_iload, pvE_astore, pvE_aload, pvE_ifnull, pvE_ifnonnull, pvE_ireturn, pvE_icmp_ge, pvE_iastore, pvE_iaload, pvE_invokevirtual, aL_law_184, pvSh_0, pvSh_1, pvSh_2, pvSh_3, pvSh_4, pvSh_5, pvSh_6, pvSh_7, pvSh_8, pvSh_9, pvSh_10, pvSh_11, pvSh_12, pvSh_13, pvSh_14, pvSh_15, pvSh_16, pvSh_17, pvSh_18, pvSh_19, pvSh_20, pvSh_21, pvSh_22, pvSh_23, pvSh_24, pvSh_25, pvSh_26, pvSh_27, pvSh_28, pvSh_29, pvSh_30, pvSh_31, pvSh_32, pvSh_33, pvSh_34, pvSh_35, pvSh_36, pvSh_37, pvSh_38, pvE_icmp_eq, pvE_iinc, pvIc_s, pvE_goto, aL_law_187, aL_law_90, pvE_imul, pvE_icmp_gt, aL_law_190, aL_law_119, pvE_icmp_ne, aL_law_152, pvE_iand, pvE_if_eq, aL_law_193, aL_law_158, pvE_lconst0, pvE_lstore, pvS2, pvE_sipush, pvE_idiv, pvE_irem, pvE_lload, pvLL_s, pvE_lconst1, pvE_ladd, aL_law_148, pvE_lcmp, pvE_if_ne, aL_law_196, pvE_l2d, pvE_ldc2_w_d (h0 := kL_200), pvE_ddiv, pvE_dcmp, aL_law_202, aL_law_206, bL_law_0, uL_law_0, bL_law_8, uL_law_8, bL_law_76, uL_law_76, bL_law_81, uL_law_81, bL_law_93, uL_law_93, bL_law_108, uL_law_108, bL_law_110, uL_law_110, bL_law_120, uL_law_120, bL_law_132, uL_law_132, bL_law_135, uL_law_135, bL_law_195, uL_law_195, bL_law_201, uL_law_201, bL_law_204, uL_law_204, bL_law_260, uL_law_260, bL_law_266, uL_law_266, bL_law_269, uL_law_269, bL_law_321, uL_law_321, bL_law_323, uL_law_323, bL_law_329, uL_law_329, bL_law_355, uL_law_355, bL_law_356, uL_law_356, bL_law_359, uL_law_359, bL_law_387, uL_law_387, bL_law_388, uL_law_388, bL_law_391, uL_law_391, bL_law_393, uL_law_393, bL_law_413, uL_law_413, bL_law_433, uL_law_433, bL_law_443, uL_law_443, bL_law_445, uL_law_445, bL_law_460, uL_law_460, bL_law_547, uL_law_547, bL_law_553, uL_law_553, bL_law_567, uL_law_567, bL_law_585, uL_law_585, bL_law_586, uL_law_586, bL_law_590, uL_law_590, bL_law_612, uL_law_612, bL_law_614, uL_law_614, bL_law_630, uL_law_630, bL_law_632, uL_law_632, bL_law_693, uL_law_693, bL_law_694, uL_law_694, pvMk_t, pvMk_f, pvMk_n, pvRtG, pvRecv_r, pvUp_nl, pvUp_same, pvUp_ap, pvSt_ap, pvX_c, pvX_ms, pvX_mn, pvE_nil, pvEn_i, pvEn_r, pvEn_l, pvEn_0, pvEn_s, pvRt, pvRv, pvTh, pvKc, pvGo, pvTgt, Int.toNat_natCast, false_and, and_false, true_and, and_true, if_true, if_false, reduceIte, reduceCtorEq, forall_const, false_or, or_false, true_or, or_true, ne_eq, not_true_eq_false, not_false_eq_true, implies_true, false_implies, Nat.reduceAdd, Nat.reduceSub, Nat.reduceMul, Nat.reduceEqDiff, Nat.reduceLT, Nat.reduceLeDiff, Int.reduceAdd, Int.reduceSub, Int.reduceMul, Int.reduceNeg, Int.reduceToNat, Int.reduceLE, Int.reduceLT, Int.reduceEq, Int.reduceNe, and_self]
  have p1 : ∀ x : Int, 0 ≤ x ∧ x ≤ 200 → pvR x := fun x hx => by unfold pvR; omega
  have g := show 0 ≤ dwS sc 6 % 6 ∧ dwS sc 6 % 6 ≤ 5 by omega
  exact ⟨hG, h60, h120 _ g⟩
