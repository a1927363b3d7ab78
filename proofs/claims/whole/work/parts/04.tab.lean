/-- a method: its name, bytes, number of locals, what it returns, its handlers, its instructions in rows of sixteen -/
abbrev MI : Type := MethodName × ByteArray × Nat × Option FieldType × List (Nat × Nat × Nat × Nat) × List (List (Nat × Instr × Nat))
def tabOK (m : MI) : Bool := m.2.2.2.2.2.all (fun r => r.all (fun e => decide (decode m.2.1 e.1 = .ok e.2)))
def mX0_init : MI := (yX0_init, cX0_init, 1, none, [],
  [[(0, .aload_n 0, 1), (1, .invokespecial 3, 3), (4, .aload_n 0, 1), (5, .bipush 20, 2), (7, .newarray .int, 2), (9, .putfield 9, 3), (12, .aload_n 0, 1), (13, .bipush 20, 2), (15, .newarray .int, 2), (17, .putfield 15, 3), (20, .aload_n 0, 1), (21, .bipush 20, 2), (23, .newarray .boolean, 2), (25, .putfield 18, 3), (28, .aload_n 0, 1), (29, .iconst 0, 1)],
  [(30, .putfield 22, 3), (33, .return_, 1)]])
theorem tX0_init : tabOK mX0_init = true := by decide +kernel
def mX0_isFull : MI := (yX0_isFull, cX0_isFull, 1, (some .boolean), [],
  [[(0, .aload_n 0, 1), (1, .getfield 22, 3), (4, .bipush 20, 2), (6, .if_icmp .lt 7, 3), (9, .iconst 1, 1), (10, .goto 4, 3), (13, .iconst 0, 1), (14, .ireturn, 1)]])
theorem tX0_isFull : tabOK mX0_isFull = true := by decide +kernel
def mX0_has : MI := (yX0_has, cX0_has, 2, (some .boolean), [],
  [[(0, .iload_n 1, 1), (1, .aload_n 0, 1), (2, .getfield 22, 3), (5, .invokestatic 26, 3), (8, .ireturn, 1)]])
theorem tX0_has : tabOK mX0_has = true := by decide +kernel
def mX0_enroll : MI := (yX0_enroll, cX0_enroll, 3, (some .int), [],
  [[(0, .aload_n 0, 1), (1, .getfield 9, 3), (4, .aload_n 0, 1), (5, .getfield 22, 3), (8, .iload_n 1, 1), (9, .invokestatic 30, 3), (12, .aload_n 0, 1), (13, .getfield 15, 3), (16, .aload_n 0, 1), (17, .getfield 22, 3), (20, .iload_n 2, 1), (21, .invokestatic 30, 3), (24, .aload_n 0, 1), (25, .dup, 1), (26, .getfield 22, 3), (29, .iconst 1, 1)],
  [(30, .iadd, 1), (31, .putfield 22, 3), (34, .aload_n 0, 1), (35, .getfield 22, 3), (38, .iconst 1, 1), (39, .isub, 1), (40, .ireturn, 1)]])
theorem tX0_enroll : tabOK mX0_enroll = true := by decide +kernel
def mX0_kind : MI := (yX0_kind, cX0_kind, 2, (some .char), [],
  [[(0, .aload_n 0, 1), (1, .getfield 9, 3), (4, .iload_n 1, 1), (5, .invokestatic 34, 3), (8, .i2c, 1), (9, .ireturn, 1)]])
theorem tX0_kind : tabOK mX0_kind = true := by decide +kernel
def mX0_of : MI := (yX0_of, cX0_of, 2, (some .int), [],
  [[(0, .aload_n 0, 1), (1, .getfield 15, 3), (4, .iload_n 1, 1), (5, .invokestatic 34, 3), (8, .ireturn, 1)]])
theorem tX0_of : tabOK mX0_of = true := by decide +kernel
def mX0_isHeld : MI := (yX0_isHeld, cX0_isHeld, 2, (some .boolean), [],
  [[(0, .iload_n 1, 1), (1, .bipush 20, 2), (3, .invokestatic 26, 3), (6, .ifCond .eq 16, 3), (9, .aload_n 0, 1), (10, .getfield 18, 3), (13, .iload_n 1, 1), (14, .baload, 1), (15, .ifCond .eq 7, 3), (18, .iconst 1, 1), (19, .goto 4, 3), (22, .iconst 0, 1), (23, .ireturn, 1)]])
theorem tX0_isHeld : tabOK mX0_isHeld = true := by decide +kernel
def mX0_swapLocked : MI := (yX0_swapLocked, cX0_swapLocked, 4, (some .boolean), [],
  [[(0, .aload_n 0, 1), (1, .iload_n 1, 1), (2, .invokevirtual 38, 3), (5, .istore_n 3, 1), (6, .iload_n 1, 1), (7, .bipush 20, 2), (9, .invokestatic 26, 3), (12, .ifCond .eq 10, 3), (15, .aload_n 0, 1), (16, .getfield 18, 3), (19, .iload_n 1, 1), (20, .iload_n 2, 1), (21, .bastore, 1), (22, .iload_n 3, 1), (23, .ireturn, 1)]])
theorem tX0_swapLocked : tabOK mX0_swapLocked = true := by decide +kernel
def mX1_init : MI := (yX1_init, cX1_init, 1, none, [],
  [[(0, .aload_n 0, 1), (1, .invokespecial 3, 3), (4, .aload_n 0, 1), (5, .bipush 20, 2), (7, .putfield 9, 3), (10, .aload_n 0, 1), (11, .bipush 8, 2), (13, .putfield 15, 3), (16, .aload_n 0, 1), (17, .sipush 512, 3), (20, .newarray .boolean, 2), (22, .putfield 18, 3), (25, .aload_n 0, 1), (26, .sipush 512, 3), (29, .newarray .int, 2), (31, .putfield 22, 3)],
  [(34, .aload_n 0, 1), (35, .sipush 202, 3), (38, .newarray .int, 2), (40, .putfield 26, 3), (43, .aload_n 0, 1), (44, .sipush 202, 3), (47, .newarray .int, 2), (49, .putfield 29, 3), (52, .aload_n 0, 1), (53, .sipush 202, 3), (56, .newarray .int, 2), (58, .putfield 32, 3), (61, .aload_n 0, 1), (62, .sipush 202, 3), (65, .newarray .int, 2), (67, .putfield 35, 3)],
  [(70, .aload_n 0, 1), (71, .sipush 202, 3), (74, .newarray .boolean, 2), (76, .putfield 38, 3), (79, .aload_n 0, 1), (80, .sipush 1024, 3), (83, .newarray .int, 2), (85, .putfield 41, 3), (88, .aload_n 0, 1), (89, .sipush 1024, 3), (92, .newarray .int, 2), (94, .putfield 44, 3), (97, .aload_n 0, 1), (98, .iconst 0, 1), (99, .putfield 47, 3), (102, .aload_n 0, 1)],
  [(103, .iconst 0, 1), (104, .putfield 50, 3), (107, .aload_n 0, 1), (108, .iconst 0, 1), (109, .putfield 53, 3), (112, .aload_n 0, 1), (113, .iconst 0, 1), (114, .putfield 56, 3), (117, .aload_n 0, 1), (118, .iconst 0, 1), (119, .putfield 59, 3), (122, .return_, 1)]])
theorem tX1_init : tabOK mX1_init = true := by decide +kernel
def mX1_swapSize : MI := (yX1_swapSize, cX1_swapSize, 4, (some .int), [],
  [[(0, .bipush 100, 2), (2, .aload_n 0, 1), (3, .getfield 9, 3), (6, .imul, 1), (7, .aload_n 0, 1), (8, .getfield 15, 3), (11, .iadd, 1), (12, .istore_n 3, 1), (13, .aload_n 0, 1), (14, .iload_n 1, 1), (15, .putfield 9, 3), (18, .aload_n 0, 1), (19, .iload_n 2, 1), (20, .putfield 15, 3), (23, .iload_n 3, 1), (24, .ireturn, 1)]])
theorem tX1_swapSize : tabOK mX1_swapSize = true := by decide +kernel
def mX1_layOut : MI := (yX1_layOut, cX1_layOut, 4, none, [],
  [[(0, .aload_n 0, 1), (1, .aload_n 1, 1), (2, .aload_n 2, 1), (3, .aload_n 3, 1), (4, .invokevirtual 62, 3), (7, .aload_n 0, 1), (8, .invokevirtual 66, 3), (11, .aload_n 0, 1), (12, .invokevirtual 69, 3), (15, .return_, 1)]])
theorem tX1_layOut : tabOK mX1_layOut = true := by decide +kernel
def mX1_manyPages : MI := (yX1_manyPages, cX1_manyPages, 1, (some .int), [],
  [[(0, .aload_n 0, 1), (1, .getfield 56, 3), (4, .iconst 1, 1), (5, .iadd, 1), (6, .ireturn, 1)]])
theorem tX1_manyPages : tabOK mX1_manyPages = true := by decide +kernel
def mX1_pageAt : MI := (yX1_pageAt, cX1_pageAt, 2, (some .int), [],
  [[(0, .aload_n 0, 1), (1, .getfield 41, 3), (4, .aload_n 0, 1), (5, .iload_n 1, 1), (6, .invokevirtual 72, 3), (9, .invokestatic 76, 3), (12, .ireturn, 1)]])
theorem tX1_pageAt : tabOK mX1_pageAt = true := by decide +kernel
def mX1_lineAtPlace : MI := (yX1_lineAtPlace, cX1_lineAtPlace, 2, (some .int), [],
  [[(0, .aload_n 0, 1), (1, .getfield 44, 3), (4, .aload_n 0, 1), (5, .iload_n 1, 1), (6, .invokevirtual 72, 3), (9, .invokestatic 76, 3), (12, .ireturn, 1)]])
theorem tX1_lineAtPlace : tabOK mX1_lineAtPlace = true := by decide +kernel
def mX1_lineNumber : MI := (yX1_lineNumber, cX1_lineNumber, 6, (some .int), [],
  [[(0, .aload_n 0, 1), (1, .getfield 29, 3), (4, .iload_n 1, 1), (5, .invokestatic 76, 3), (8, .istore_n 2, 1), (9, .aload_n 0, 1), (10, .getfield 32, 3), (13, .iload_n 2, 1), (14, .invokestatic 76, 3), (17, .istore_n 3, 1), (18, .aload_n 0, 1), (19, .getfield 32, 3), (22, .iload_n 2, 1), (23, .iconst 1, 1), (24, .iadd, 1), (25, .invokestatic 76, 3)],
  [(28, .istore 4, 2), (30, .iload_n 3, 1), (31, .iload 4, 2), (33, .if_icmp .ne 12, 3), (36, .aload_n 0, 1), (37, .getfield 35, 3), (40, .iload_n 2, 1), (41, .invokestatic 76, 3), (44, .ireturn, 1), (45, .aload_n 0, 1), (46, .getfield 26, 3), (49, .iload_n 1, 1), (50, .invokestatic 76, 3), (53, .istore 5, 2), (55, .aload_n 0, 1), (56, .getfield 22, 3)],
  [(59, .iload 5, 2), (61, .iload 4, 2), (63, .if_icmp .ge 8, 3), (66, .iload 5, 2), (68, .goto 7, 3), (71, .iload 4, 2), (73, .iconst 1, 1), (74, .isub, 1), (75, .invokestatic 76, 3), (78, .ireturn, 1)]])
theorem tX1_lineNumber : tabOK mX1_lineNumber = true := by decide +kernel
def mX1_readSigns : MI := (yX1_readSigns, cX1_readSigns, 6, none, [],
  [[(0, .aload_n 0, 1), (1, .iconst 0, 1), (2, .putfield 47, 3), (5, .aload_n 0, 1), (6, .iconst 0, 1), (7, .putfield 50, 3), (10, .iconst 0, 1), (11, .istore 4, 2), (13, .aload_n 0, 1), (14, .getfield 32, 3), (17, .iconst 0, 1), (18, .iconst 0, 1), (19, .invokestatic 80, 3), (22, .iconst 0, 1), (23, .istore 5, 2), (25, .iload 5, 2)],
  [(27, .aload_n 1, 1), (28, .invokevirtual 84, 3), (31, .if_icmp .gt 85, 3), (34, .aload_n 1, 1), (35, .iload 5, 2), (37, .invokevirtual 90, 3), (40, .ifCond .eq 70, 3), (43, .aload_n 0, 1), (44, .getfield 26, 3), (47, .iload 4, 2), (49, .aload_n 0, 1), (50, .getfield 47, 3), (53, .invokestatic 80, 3), (56, .aload_n 0, 1), (57, .getfield 29, 3), (60, .iload 4, 2)],
  [(62, .aload_n 0, 1), (63, .getfield 50, 3), (66, .invokestatic 80, 3), (69, .iinc 4 1, 3), (72, .aload_n 1, 1), (73, .iconst 0, 1), (74, .iload 5, 2), (76, .invokevirtual 94, 3), (79, .bipush 47, 2), (81, .if_icmp .ne 21, 3), (84, .aload_n 0, 1), (85, .aload_n 3, 1), (86, .aload_n 1, 1), (87, .iconst 5, 1), (88, .iload 5, 2), (90, .invokevirtual 94, 3)],
  [(93, .invokevirtual 98, 3), (96, .invokevirtual 103, 3), (99, .goto 11, 3), (102, .aload_n 0, 1), (103, .aload_n 1, 1), (104, .iload 5, 2), (106, .aload_n 2, 1), (107, .invokevirtual 107, 3), (110, .iinc 5 1, 3), (113, .goto (-88), 3), (116, .return_, 1)]])
theorem tX1_readSigns : tabOK mX1_readSigns = true := by decide +kernel
def mX1_closeParagraph : MI := (yX1_closeParagraph, cX1_closeParagraph, 2, none, [],
  [[(0, .aload_n 0, 1), (1, .getfield 50, 3), (4, .sipush 202, 3), (7, .invokestatic 111, 3), (10, .ifCond .eq 13, 3), (13, .aload_n 0, 1), (14, .getfield 38, 3), (17, .aload_n 0, 1), (18, .getfield 50, 3), (21, .iload_n 1, 1), (22, .bastore, 1), (23, .aload_n 0, 1), (24, .dup, 1), (25, .getfield 50, 3), (28, .iconst 1, 1), (29, .iadd, 1)],
  [(30, .putfield 50, 3), (33, .aload_n 0, 1), (34, .getfield 32, 3), (37, .aload_n 0, 1), (38, .getfield 50, 3), (41, .aload_n 0, 1), (42, .getfield 47, 3), (45, .invokestatic 80, 3), (48, .return_, 1)]])
theorem tX1_closeParagraph : tabOK mX1_closeParagraph = true := by decide +kernel
def mX1_addSigns : MI := (yX1_addSigns, cX1_addSigns, 7, none, [],
  [[(0, .aload_n 1, 1), (1, .iconst 1, 1), (2, .iload_n 2, 1), (3, .invokevirtual 94, 3), (6, .istore 4, 2), (8, .iload 4, 2), (10, .iconst (-1), 1), (11, .if_icmp .ne 24, 3), (14, .aload_n 0, 1), (15, .aload_n 1, 1), (16, .iconst 0, 1), (17, .iload_n 2, 1), (18, .invokevirtual 94, 3), (21, .bipush 32, 2), (23, .if_icmp .ne 7, 3), (26, .iconst 1, 1)],
  [(27, .goto 4, 3), (30, .iconst 0, 1), (31, .invokevirtual 115, 3), (34, .return_, 1), (35, .aload_n 0, 1), (36, .iconst 0, 1), (37, .invokevirtual 115, 3), (40, .aload_n 3, 1), (41, .iload 4, 2), (43, .invokestatic 76, 3), (46, .bipush 10, 2), (48, .idiv, 1), (49, .istore 5, 2), (51, .iconst 0, 1), (52, .istore 6, 2), (54, .iload 6, 2)],
  [(56, .bipush 10, 2), (58, .if_icmp .ge 26, 3), (61, .iload 5, 2), (63, .ifCond .le 21, 3), (66, .aload_n 0, 1), (67, .iconst 0, 1), (68, .invokevirtual 115, 3), (71, .iload 5, 2), (73, .bipush 10, 2), (75, .idiv, 1), (76, .istore 5, 2), (78, .iinc 6 1, 3), (81, .goto (-27), 3), (84, .return_, 1)]])
theorem tX1_addSigns : tabOK mX1_addSigns = true := by decide +kernel
def mX1_addSign : MI := (yX1_addSign, cX1_addSign, 2, none, [],
  [[(0, .aload_n 0, 1), (1, .getfield 47, 3), (4, .ifCond .lt 33, 3), (7, .aload_n 0, 1), (8, .getfield 47, 3), (11, .sipush 512, 3), (14, .if_icmp .ge 23, 3), (17, .aload_n 0, 1), (18, .getfield 18, 3), (21, .aload_n 0, 1), (22, .getfield 47, 3), (25, .iload_n 1, 1), (26, .bastore, 1), (27, .aload_n 0, 1), (28, .dup, 1), (29, .getfield 47, 3)],
  [(32, .iconst 1, 1), (33, .iadd, 1), (34, .putfield 47, 3), (37, .return_, 1)]])
theorem tX1_addSign : tabOK mX1_addSign = true := by decide +kernel
def mX1_breakLines : MI := (yX1_breakLines, cX1_breakLines, 2, none, [],
  [[(0, .aload_n 0, 1), (1, .iconst 0, 1), (2, .putfield 53, 3), (5, .iconst 0, 1), (6, .istore_n 1, 1), (7, .iload_n 1, 1), (8, .aload_n 0, 1), (9, .getfield 50, 3), (12, .if_icmp .ge 43, 3), (15, .aload_n 0, 1), (16, .getfield 35, 3), (19, .iload_n 1, 1), (20, .aload_n 0, 1), (21, .getfield 53, 3), (24, .invokestatic 80, 3), (27, .aload_n 0, 1)],
  [(28, .aload_n 0, 1), (29, .getfield 32, 3), (32, .iload_n 1, 1), (33, .invokestatic 76, 3), (36, .aload_n 0, 1), (37, .getfield 32, 3), (40, .iload_n 1, 1), (41, .iconst 1, 1), (42, .iadd, 1), (43, .invokestatic 76, 3), (46, .invokevirtual 118, 3), (49, .iinc 1 1, 3), (52, .goto (-45), 3), (55, .aload_n 0, 1), (56, .getfield 35, 3), (59, .aload_n 0, 1)],
  [(60, .getfield 50, 3), (63, .aload_n 0, 1), (64, .getfield 53, 3), (67, .invokestatic 80, 3), (70, .return_, 1)]])
theorem tX1_breakLines : tabOK mX1_breakLines = true := by decide +kernel
def mX1_breakParagraph : MI := (yX1_breakParagraph, cX1_breakParagraph, 7, none, [],
  [[(0, .iload_n 1, 1), (1, .istore_n 3, 1), (2, .iconst 0, 1), (3, .istore 4, 2), (5, .iload 4, 2), (7, .sipush 512, 3), (10, .if_icmp .ge 67, 3), (13, .aload_n 0, 1), (14, .iload_n 3, 1), (15, .iload_n 2, 1), (16, .invokevirtual 122, 3), (19, .istore 5, 2), (21, .iload_n 3, 1), (22, .istore 6, 2), (24, .iload 6, 2), (26, .iload 5, 2)],
  [(28, .if_icmp .ge 22, 3), (31, .aload_n 0, 1), (32, .getfield 22, 3), (35, .iload 6, 2), (37, .aload_n 0, 1), (38, .getfield 53, 3), (41, .invokestatic 80, 3), (44, .iinc 6 1, 3), (47, .goto (-23), 3), (50, .aload_n 0, 1), (51, .dup, 1), (52, .getfield 53, 3), (55, .iconst 1, 1), (56, .iadd, 1), (57, .putfield 53, 3), (60, .iload 5, 2)],
  [(62, .istore_n 3, 1), (63, .iload_n 3, 1), (64, .iload_n 2, 1), (65, .if_icmp .lt 6, 3), (68, .goto 9, 3), (71, .iinc 4 1, 3), (74, .goto (-69), 3), (77, .return_, 1)]])
theorem tX1_breakParagraph : tabOK mX1_breakParagraph = true := by decide +kernel
def mX1_endOfLine : MI := (yX1_endOfLine, cX1_endOfLine, 4, (some .int), [],
  [[(0, .iload_n 2, 1), (1, .iload_n 1, 1), (2, .isub, 1), (3, .aload_n 0, 1), (4, .getfield 9, 3), (7, .if_icmp .gt 5, 3), (10, .iload_n 2, 1), (11, .ireturn, 1), (12, .iload_n 1, 1), (13, .aload_n 0, 1), (14, .getfield 9, 3), (17, .iadd, 1), (18, .iconst 1, 1), (19, .isub, 1), (20, .istore_n 3, 1), (21, .iload_n 3, 1)],
  [(22, .iload_n 1, 1), (23, .if_icmp .lt 32, 3), (26, .iload_n 3, 1), (27, .sipush 512, 3), (30, .invokestatic 111, 3), (33, .ifCond .eq 16, 3), (36, .aload_n 0, 1), (37, .getfield 18, 3), (40, .iload_n 3, 1), (41, .baload, 1), (42, .ifCond .eq 7, 3), (45, .iload_n 3, 1), (46, .iconst 1, 1), (47, .iadd, 1), (48, .ireturn, 1), (49, .iinc 3 (-1), 3)],
  [(52, .goto (-31), 3), (55, .iload_n 1, 1), (56, .aload_n 0, 1), (57, .getfield 9, 3), (60, .iadd, 1), (61, .ireturn, 1)]])
theorem tX1_endOfLine : tabOK mX1_endOfLine = true := by decide +kernel
def mX1_fillPages : MI := (yX1_fillPages, cX1_fillPages, 4, none, [],
  [[(0, .aload_n 0, 1), (1, .iconst 0, 1), (2, .putfield 56, 3), (5, .aload_n 0, 1), (6, .iconst 0, 1), (7, .putfield 59, 3), (10, .iconst 0, 1), (11, .istore_n 1, 1), (12, .iload_n 1, 1), (13, .aload_n 0, 1), (14, .getfield 50, 3), (17, .if_icmp .ge 72, 3), (20, .aload_n 0, 1), (21, .iload_n 1, 1), (22, .invokevirtual 125, 3), (25, .ifCond .eq 22, 3)],
  [(28, .aload_n 0, 1), (29, .iload_n 1, 1), (30, .iconst 1, 1), (31, .isub, 1), (32, .invokevirtual 125, 3), (35, .ifCond .ne 12, 3), (38, .aload_n 0, 1), (39, .aload_n 0, 1), (40, .iload_n 1, 1), (41, .invokevirtual 128, 3), (44, .invokevirtual 131, 3), (47, .aload_n 0, 1), (48, .getfield 35, 3), (51, .iload_n 1, 1), (52, .iconst 1, 1), (53, .iadd, 1)],
  [(54, .invokestatic 76, 3), (57, .istore_n 2, 1), (58, .aload_n 0, 1), (59, .getfield 35, 3), (62, .iload_n 1, 1), (63, .invokestatic 76, 3), (66, .istore_n 3, 1), (67, .iload_n 3, 1), (68, .iload_n 2, 1), (69, .if_icmp .ge 14, 3), (72, .aload_n 0, 1), (73, .iload_n 3, 1), (74, .invokevirtual 135, 3), (77, .iinc 3 1, 3), (80, .goto (-13), 3), (83, .iinc 1 1, 3)],
  [(86, .goto (-74), 3), (89, .return_, 1)]])
theorem tX1_fillPages : tabOK mX1_fillPages = true := by decide +kernel
def mX1_keepsAt : MI := (yX1_keepsAt, cX1_keepsAt, 2, (some .boolean), [],
  [[(0, .iload_n 1, 1), (1, .sipush 202, 3), (4, .invokestatic 111, 3), (7, .ifCond .eq 16, 3), (10, .aload_n 0, 1), (11, .getfield 38, 3), (14, .iload_n 1, 1), (15, .baload, 1), (16, .ifCond .eq 7, 3), (19, .iconst 1, 1), (20, .goto 4, 3), (23, .iconst 0, 1), (24, .ireturn, 1)]])
theorem tX1_keepsAt : tabOK mX1_keepsAt = true := by decide +kernel
def mX1_linesTogether : MI := (yX1_linesTogether, cX1_linesTogether, 4, (some .int), [],
  [[(0, .iload_n 1, 1), (1, .istore_n 2, 1), (2, .iload_n 1, 1), (3, .istore_n 3, 1), (4, .iload_n 3, 1), (5, .aload_n 0, 1), (6, .getfield 50, 3), (9, .if_icmp .ge 20, 3), (12, .aload_n 0, 1), (13, .iload_n 3, 1), (14, .invokevirtual 125, 3), (17, .ifCond .eq 12, 3), (20, .iinc 2 1, 3), (23, .iinc 3 1, 3), (26, .goto (-22), 3), (29, .aload_n 0, 1)],
  [(30, .getfield 35, 3), (33, .iload_n 2, 1), (34, .invokestatic 76, 3), (37, .aload_n 0, 1), (38, .getfield 35, 3), (41, .iload_n 1, 1), (42, .invokestatic 76, 3), (45, .isub, 1), (46, .istore_n 3, 1), (47, .iload_n 2, 1), (48, .aload_n 0, 1), (49, .getfield 50, 3), (52, .if_icmp .ge 9, 3), (55, .iload_n 3, 1), (56, .iconst 1, 1), (57, .iadd, 1)],
  [(58, .goto 4, 3), (61, .iload_n 3, 1), (62, .ireturn, 1)]])
theorem tX1_linesTogether : tabOK mX1_linesTogether = true := by decide +kernel
def mX1_turnPageFor : MI := (yX1_turnPageFor, cX1_turnPageFor, 3, none, [],
  [[(0, .aload_n 0, 1), (1, .getfield 59, 3), (4, .aload_n 0, 1), (5, .getfield 15, 3), (8, .if_icmp .lt 10, 3), (11, .aload_n 0, 1), (12, .getfield 15, 3), (15, .goto 12, 3), (18, .aload_n 0, 1), (19, .getfield 15, 3), (22, .aload_n 0, 1), (23, .getfield 59, 3), (26, .isub, 1), (27, .istore_n 2, 1), (28, .iload_n 1, 1), (29, .iload_n 2, 1)],
  [(30, .if_icmp .le 26, 3), (33, .iload_n 1, 1), (34, .aload_n 0, 1), (35, .getfield 15, 3), (38, .if_icmp .gt 18, 3), (41, .aload_n 0, 1), (42, .dup, 1), (43, .getfield 56, 3), (46, .iconst 1, 1), (47, .iadd, 1), (48, .putfield 56, 3), (51, .aload_n 0, 1), (52, .iconst 0, 1), (53, .putfield 59, 3), (56, .return_, 1)]])
theorem tX1_turnPageFor : tabOK mX1_turnPageFor = true := by decide +kernel
def mX1_placeLine : MI := (yX1_placeLine, cX1_placeLine, 2, none, [],
  [[(0, .aload_n 0, 1), (1, .getfield 59, 3), (4, .aload_n 0, 1), (5, .getfield 15, 3), (8, .if_icmp .lt 18, 3), (11, .aload_n 0, 1), (12, .dup, 1), (13, .getfield 56, 3), (16, .iconst 1, 1), (17, .iadd, 1), (18, .putfield 56, 3), (21, .aload_n 0, 1), (22, .iconst 0, 1), (23, .putfield 59, 3), (26, .aload_n 0, 1), (27, .getfield 41, 3)],
  [(30, .iload_n 1, 1), (31, .aload_n 0, 1), (32, .getfield 56, 3), (35, .invokestatic 80, 3), (38, .aload_n 0, 1), (39, .getfield 44, 3), (42, .iload_n 1, 1), (43, .aload_n 0, 1), (44, .getfield 59, 3), (47, .invokestatic 80, 3), (50, .aload_n 0, 1), (51, .dup, 1), (52, .getfield 59, 3), (55, .iconst 1, 1), (56, .iadd, 1), (57, .putfield 59, 3)],
  [(60, .return_, 1)]])
theorem tX1_placeLine : tabOK mX1_placeLine = true := by decide +kernel
def mX2_init : MI := (yX2_init, cX2_init, 1, none, [],
  [[(0, .aload_n 0, 1), (1, .invokespecial 3, 3), (4, .aload_n 0, 1), (5, .bipush 60, 2), (7, .newarray .int, 2), (9, .putfield 9, 3), (12, .aload_n 0, 1), (13, .bipush 60, 2), (15, .newarray .int, 2), (17, .putfield 15, 3), (20, .aload_n 0, 1), (21, .bipush 60, 2), (23, .newarray .int, 2), (25, .putfield 18, 3), (28, .aload_n 0, 1), (29, .iconst 0, 1)],
  [(30, .putfield 21, 3), (33, .return_, 1)]])
theorem tX2_init : tabOK mX2_init = true := by decide +kernel
def mX2_takeLog : MI := (yX2_takeLog, cX2_takeLog, 2, none, [],
  [[(0, .aload_n 1, 1), (1, .getfield 9, 3), (4, .iconst 0, 1), (5, .aload_n 0, 1), (6, .getfield 9, 3), (9, .iconst 0, 1), (10, .bipush 60, 2), (12, .invokestatic 25, 3), (15, .aload_n 1, 1), (16, .getfield 15, 3), (19, .iconst 0, 1), (20, .aload_n 0, 1), (21, .getfield 15, 3), (24, .iconst 0, 1), (25, .bipush 60, 2), (27, .invokestatic 25, 3)],
  [(30, .aload_n 1, 1), (31, .getfield 18, 3), (34, .iconst 0, 1), (35, .aload_n 0, 1), (36, .getfield 18, 3), (39, .iconst 0, 1), (40, .bipush 60, 2), (42, .invokestatic 25, 3), (45, .aload_n 0, 1), (46, .aload_n 1, 1), (47, .getfield 21, 3), (50, .putfield 21, 3), (53, .return_, 1)]])
theorem tX2_takeLog : tabOK mX2_takeLog = true := by decide +kernel
def mX2_many : MI := (yX2_many, cX2_many, 1, (some .int), [],
  [[(0, .aload_n 0, 1), (1, .getfield 21, 3), (4, .ireturn, 1)]])
theorem tX2_many : tabOK mX2_many = true := by decide +kernel
def mX2_isFull : MI := (yX2_isFull, cX2_isFull, 1, (some .boolean), [],
  [[(0, .aload_n 0, 1), (1, .getfield 21, 3), (4, .bipush 60, 2), (6, .if_icmp .lt 7, 3), (9, .iconst 1, 1), (10, .goto 4, 3), (13, .iconst 0, 1), (14, .ireturn, 1)]])
theorem tX2_isFull : tabOK mX2_isFull = true := by decide +kernel
def mX2_enroll : MI := (yX2_enroll, cX2_enroll, 3, (some .int), [],
  [[(0, .aload_n 0, 1), (1, .invokevirtual 31, 3), (4, .ifCond .eq 5, 3), (7, .iconst (-1), 1), (8, .ireturn, 1), (9, .aload_n 0, 1), (10, .getfield 9, 3), (13, .aload_n 0, 1), (14, .getfield 21, 3), (17, .iload_n 1, 1), (18, .invokestatic 35, 3), (21, .aload_n 0, 1), (22, .getfield 15, 3), (25, .aload_n 0, 1), (26, .getfield 21, 3), (29, .iload_n 2, 1)],
  [(30, .invokestatic 35, 3), (33, .aload_n 0, 1), (34, .getfield 18, 3), (37, .aload_n 0, 1), (38, .getfield 21, 3), (41, .bipush 119, 2), (43, .invokestatic 35, 3), (46, .aload_n 0, 1), (47, .dup, 1), (48, .getfield 21, 3), (51, .iconst 1, 1), (52, .iadd, 1), (53, .putfield 21, 3), (56, .aload_n 0, 1), (57, .getfield 21, 3), (60, .iconst 1, 1)],
  [(61, .isub, 1), (62, .ireturn, 1)]])
theorem tX2_enroll : tabOK mX2_enroll = true := by decide +kernel
def mX2_kind : MI := (yX2_kind, cX2_kind, 2, (some .char), [],
  [[(0, .aload_n 0, 1), (1, .getfield 9, 3), (4, .iload_n 1, 1), (5, .invokestatic 39, 3), (8, .i2c, 1), (9, .ireturn, 1)]])
theorem tX2_kind : tabOK mX2_kind = true := by decide +kernel
def mX2_author : MI := (yX2_author, cX2_author, 2, (some .int), [],
  [[(0, .aload_n 0, 1), (1, .getfield 15, 3), (4, .iload_n 1, 1), (5, .invokestatic 39, 3), (8, .ireturn, 1)]])
theorem tX2_author : tabOK mX2_author = true := by decide +kernel
def mX2_state : MI := (yX2_state, cX2_state, 2, (some .char), [],
  [[(0, .aload_n 0, 1), (1, .getfield 18, 3), (4, .iload_n 1, 1), (5, .invokestatic 39, 3), (8, .i2c, 1), (9, .ireturn, 1)]])
theorem tX2_state : tabOK mX2_state = true := by decide +kernel
def mX2_setState : MI := (yX2_setState, cX2_setState, 3, none, [],
  [[(0, .aload_n 0, 1), (1, .getfield 18, 3), (4, .iload_n 1, 1), (5, .iload_n 2, 1), (6, .invokestatic 35, 3), (9, .return_, 1)]])
theorem tX2_setState : tabOK mX2_setState = true := by decide +kernel
def mX2_isWaitingOf : MI := (yX2_isWaitingOf, cX2_isWaitingOf, 3, (some .boolean), [],
  [[(0, .iload_n 1, 1), (1, .aload_n 0, 1), (2, .getfield 21, 3), (5, .invokestatic 43, 3), (8, .ifCond .eq 26, 3), (11, .aload_n 0, 1), (12, .iload_n 1, 1), (13, .invokevirtual 47, 3), (16, .bipush 119, 2), (18, .if_icmp .ne 16, 3), (21, .aload_n 0, 1), (22, .iload_n 1, 1), (23, .invokevirtual 51, 3), (26, .iload_n 2, 1), (27, .if_icmp .ne 7, 3), (30, .iconst 1, 1)],
  [(31, .goto 4, 3), (34, .iconst 0, 1), (35, .ireturn, 1)]])
theorem tX2_isWaitingOf : tabOK mX2_isWaitingOf = true := by decide +kernel
def mX2_isAuthored : MI := (yX2_isAuthored, cX2_isAuthored, 2, (some .boolean), [],
  [[(0, .iconst 0, 1), (1, .istore_n 1, 1), (2, .iload_n 1, 1), (3, .aload_n 0, 1), (4, .getfield 21, 3), (7, .if_icmp .ge 33, 3), (10, .aload_n 0, 1), (11, .iload_n 1, 1), (12, .invokevirtual 47, 3), (15, .bipush 119, 2), (17, .if_icmp .ne 17, 3), (20, .aload_n 0, 1), (21, .iload_n 1, 1), (22, .invokevirtual 51, 3), (25, .iconst 4, 1), (26, .invokestatic 43, 3)],
  [(29, .ifCond .ne 5, 3), (32, .iconst 0, 1), (33, .ireturn, 1), (34, .iinc 1 1, 3), (37, .goto (-35), 3), (40, .iconst 1, 1), (41, .ireturn, 1)]])
theorem tX2_isAuthored : tabOK mX2_isAuthored = true := by decide +kernel
def mX3_init : MI := (yX3_init, cX3_init, 2, none, [],
  [[(0, .aload_n 0, 1), (1, .invokespecial 3, 3), (4, .aload_n 0, 1), (5, .bipush 9, 2), (7, .newarray .int, 2), (9, .putfield 9, 3), (12, .aload_n 0, 1), (13, .iconst 3, 1), (14, .newarray .boolean, 2), (16, .putfield 15, 3), (19, .aload_n 0, 1), (20, .iconst 3, 1), (21, .newarray .int, 2), (23, .putfield 19, 3), (26, .aload_n 0, 1), (27, .sipush 128, 3)],
  [(30, .newarray .char, 2), (32, .putfield 22, 3), (35, .aload_n 0, 1), (36, .iconst 0, 1), (37, .putfield 26, 3), (40, .iconst 0, 1), (41, .istore_n 1, 1), (42, .iload_n 1, 1), (43, .bipush 9, 2), (45, .if_icmp .ge 17, 3), (48, .aload_n 0, 1), (49, .getfield 9, 3), (52, .iload_n 1, 1), (53, .bipush 100, 2), (55, .iastore, 1), (56, .iinc 1 1, 3)],
  [(59, .goto (-17), 3), (62, .return_, 1)]])
theorem tX3_init : tabOK mX3_init = true := by decide +kernel
def mX3_swapKind : MI := (yX3_swapKind, cX3_swapKind, 5, (some .char), [],
  [[(0, .aload_n 0, 1), (1, .getfield 9, 3), (4, .iload_n 1, 1), (5, .iconst 3, 1), (6, .imul, 1), (7, .iload_n 2, 1), (8, .iadd, 1), (9, .invokestatic 30, 3), (12, .i2c, 1), (13, .istore 4, 2), (15, .aload_n 0, 1), (16, .getfield 9, 3), (19, .iload_n 1, 1), (20, .iconst 3, 1), (21, .imul, 1), (22, .iload_n 2, 1)],
  [(23, .iadd, 1), (24, .iload_n 3, 1), (25, .invokestatic 34, 3), (28, .iload 4, 2), (30, .ireturn, 1)]])
theorem tX3_swapKind : tabOK mX3_swapKind = true := by decide +kernel
def mX3_swapLegal : MI := (yX3_swapLegal, cX3_swapLegal, 4, (some .boolean), [],
  [[(0, .iload_n 1, 1), (1, .iconst 3, 1), (2, .invokestatic 38, 3), (5, .ifCond .ne 5, 3), (8, .iconst 0, 1), (9, .ireturn, 1), (10, .aload_n 0, 1), (11, .getfield 15, 3), (14, .iload_n 1, 1), (15, .baload, 1), (16, .istore_n 3, 1), (17, .aload_n 0, 1), (18, .getfield 15, 3), (21, .iload_n 1, 1), (22, .iload_n 2, 1), (23, .bastore, 1)],
  [(24, .iload_n 3, 1), (25, .ireturn, 1)]])
theorem tX3_swapLegal : tabOK mX3_swapLegal = true := by decide +kernel
def mX3_lineLength : MI := (yX3_lineLength, cX3_lineLength, 1, (some .int), [],
  [[(0, .aload_n 0, 1), (1, .getfield 26, 3), (4, .ireturn, 1)]])
theorem tX3_lineLength : tabOK mX3_lineLength = true := by decide +kernel
def mX3_lineSign : MI := (yX3_lineSign, cX3_lineSign, 2, (some .char), [],
  [[(0, .iload_n 1, 1), (1, .sipush 128, 3), (4, .invokestatic 38, 3), (7, .ifCond .eq 12, 3), (10, .aload_n 0, 1), (11, .getfield 22, 3), (14, .iload_n 1, 1), (15, .caload, 1), (16, .goto 5, 3), (19, .bipush 32, 2), (21, .ireturn, 1)]])
theorem tX3_lineSign : tabOK mX3_lineSign = true := by decide +kernel
def mX3_ownNumber : MI := (yX3_ownNumber, cX3_ownNumber, 3, (some .int), [],
  [[(0, .aload_n 1, 1), (1, .bipush 7, 2), (3, .iload_n 2, 1), (4, .invokevirtual 44, 3), (7, .iconst (-1), 1), (8, .if_icmp .ne 5, 3), (11, .iconst 0, 1), (12, .ireturn, 1), (13, .aload_n 0, 1), (14, .aload_n 1, 1), (15, .iload_n 2, 1), (16, .invokevirtual 48, 3), (19, .aload_n 0, 1), (20, .getfield 19, 3), (23, .aload_n 1, 1), (24, .bipush 8, 2)],
  [(26, .iload_n 2, 1), (27, .invokevirtual 44, 3), (30, .invokestatic 30, 3), (33, .ireturn, 1)]])
theorem tX3_ownNumber : tabOK mX3_ownNumber = true := by decide +kernel
def mX3_countTo : MI := (yX3_countTo, cX3_countTo, 5, none, [],
  [[(0, .aload_n 1, 1), (1, .bipush 7, 2), (3, .iload_n 2, 1), (4, .invokevirtual 44, 3), (7, .istore_n 3, 1), (8, .iconst 0, 1), (9, .istore 4, 2), (11, .iload 4, 2), (13, .iconst 3, 1), (14, .if_icmp .ge 17, 3), (17, .aload_n 0, 1), (18, .getfield 19, 3), (21, .iload 4, 2), (23, .iconst 0, 1), (24, .iastore, 1), (25, .iinc 4 1, 3)],
  [(28, .goto (-17), 3), (31, .iconst 0, 1), (32, .istore 4, 2), (34, .iload 4, 2), (36, .iload_n 2, 1), (37, .if_icmp .gt 50, 3), (40, .aload_n 1, 1), (41, .iload 4, 2), (43, .invokevirtual 52, 3), (46, .ifCond .eq 35, 3), (49, .aload_n 1, 1), (50, .bipush 7, 2), (52, .iload 4, 2), (54, .invokevirtual 44, 3), (57, .iload_n 3, 1), (58, .if_icmp .ne 23, 3)],
  [(61, .aload_n 0, 1), (62, .aload_n 1, 1), (63, .bipush 8, 2), (65, .iload 4, 2), (67, .invokevirtual 44, 3), (70, .aload_n 1, 1), (71, .bipush 9, 2), (73, .iload 4, 2), (75, .invokevirtual 44, 3), (78, .invokevirtual 56, 3), (81, .iinc 4 1, 3), (84, .goto (-50), 3), (87, .return_, 1)]])
theorem tX3_countTo : tabOK mX3_countTo = true := by decide +kernel
def mX3_countOne : MI := (yX3_countOne, cX3_countOne, 4, none, [],
  [[(0, .aload_n 0, 1), (1, .getfield 19, 3), (4, .iload_n 1, 1), (5, .iload_n 2, 1), (6, .ifCond .le 7, 3), (9, .iload_n 2, 1), (10, .goto 13, 3), (13, .aload_n 0, 1), (14, .getfield 19, 3), (17, .iload_n 1, 1), (18, .invokestatic 30, 3), (21, .iconst 1, 1), (22, .iadd, 1), (23, .invokestatic 34, 3), (26, .iload_n 1, 1), (27, .iconst 1, 1)],
  [(28, .iadd, 1), (29, .istore_n 3, 1), (30, .iload_n 3, 1), (31, .iconst 3, 1), (32, .if_icmp .ge 18, 3), (35, .aload_n 0, 1), (36, .getfield 19, 3), (39, .iload_n 3, 1), (40, .iconst 0, 1), (41, .invokestatic 34, 3), (44, .iinc 3 1, 3), (47, .goto (-17), 3), (50, .return_, 1)]])
theorem tX3_countOne : tabOK mX3_countOne = true := by decide +kernel
def mX3_writeLine : MI := (yX3_writeLine, cX3_writeLine, 6, (some .int), [],
  [[(0, .aload_n 0, 1), (1, .aload_n 1, 1), (2, .iload_n 2, 1), (3, .invokevirtual 48, 3), (6, .aload_n 1, 1), (7, .bipush 7, 2), (9, .iload_n 2, 1), (10, .invokevirtual 44, 3), (13, .istore_n 3, 1), (14, .aload_n 1, 1), (15, .bipush 8, 2), (17, .iload_n 2, 1), (18, .invokevirtual 44, 3), (21, .istore 4, 2), (23, .aload_n 0, 1), (24, .iconst 0, 1)],
  [(25, .putfield 26, 3), (28, .iconst 0, 1), (29, .istore 5, 2), (31, .iload 5, 2), (33, .iload 4, 2), (35, .if_icmp .gt 44, 3), (38, .iload 5, 2), (40, .iconst 3, 1), (41, .if_icmp .ge 38, 3), (44, .iload 5, 2), (46, .ifCond .le 9, 3), (49, .aload_n 0, 1), (50, .bipush 46, 2), (52, .invokevirtual 60, 3), (55, .aload_n 0, 1), (56, .iload_n 3, 1)],
  [(57, .iload 5, 2), (59, .iconst 1, 1), (60, .aload_n 0, 1), (61, .getfield 19, 3), (64, .iload 5, 2), (66, .iaload, 1), (67, .invokestatic 64, 3), (70, .invokevirtual 69, 3), (73, .iinc 5 1, 3), (76, .goto (-45), 3), (79, .aload_n 0, 1), (80, .getfield 26, 3), (83, .ireturn, 1)]])
theorem tX3_writeLine : tabOK mX3_writeLine = true := by decide +kernel
def mX3_addNumber : MI := (yX3_addNumber, cX3_addNumber, 5, none, [],
  [[(0, .iload_n 1, 1), (1, .iconst 3, 1), (2, .invokestatic 38, 3), (5, .ifCond .eq 17, 3), (8, .aload_n 0, 1), (9, .getfield 15, 3), (12, .iload_n 1, 1), (13, .baload, 1), (14, .ifCond .eq 8, 3), (17, .bipush 100, 2), (19, .goto 15, 3), (22, .aload_n 0, 1), (23, .getfield 9, 3), (26, .iload_n 1, 1), (27, .iconst 3, 1), (28, .imul, 1)],
  [(29, .iload_n 2, 1), (30, .iadd, 1), (31, .invokestatic 30, 3), (34, .istore 4, 2), (36, .iload 4, 2), (38, .lookupswitch 42 #[(97, 26), (114, 34)], 26), (64, .aload_n 0, 1), (65, .iload_n 3, 1), (66, .invokevirtual 73, 3), (69, .goto 16, 3), (72, .aload_n 0, 1), (73, .iload_n 3, 1), (74, .invokevirtual 77, 3), (77, .goto 8, 3), (80, .aload_n 0, 1), (81, .iload_n 3, 1)],
  [(82, .invokevirtual 80, 3), (85, .return_, 1)]])
theorem tX3_addNumber : tabOK mX3_addNumber = true := by decide +kernel
def mX3_addSign : MI := (yX3_addSign, cX3_addSign, 2, none, [],
  [[(0, .aload_n 0, 1), (1, .getfield 26, 3), (4, .sipush 128, 3), (7, .invokestatic 38, 3), (10, .ifCond .eq 23, 3), (13, .aload_n 0, 1), (14, .getfield 22, 3), (17, .aload_n 0, 1), (18, .getfield 26, 3), (21, .iload_n 1, 1), (22, .castore, 1), (23, .aload_n 0, 1), (24, .dup, 1), (25, .getfield 26, 3), (28, .iconst 1, 1), (29, .iadd, 1)],
  [(30, .putfield 26, 3), (33, .return_, 1)]])
theorem tX3_addSign : tabOK mX3_addSign = true := by decide +kernel
def mX3_addDigits : MI := (yX3_addDigits, cX3_addDigits, 5, none, [],
  [[(0, .iconst 1, 1), (1, .istore_n 2, 1), (2, .iconst 0, 1), (3, .istore_n 3, 1), (4, .iload_n 3, 1), (5, .bipush 8, 2), (7, .if_icmp .ge 22, 3), (10, .iload_n 1, 1), (11, .bipush 10, 2), (13, .idiv, 1), (14, .iload_n 2, 1), (15, .if_icmp .lt 14, 3), (18, .iload_n 2, 1), (19, .bipush 10, 2), (21, .imul, 1), (22, .istore_n 2, 1)],
  [(23, .iinc 3 1, 3), (26, .goto (-22), 3), (29, .iload_n 1, 1), (30, .istore_n 3, 1), (31, .iconst 0, 1), (32, .istore 4, 2), (34, .iload 4, 2), (36, .bipush 9, 2), (38, .if_icmp .ge 33, 3), (41, .iload_n 2, 1), (42, .ifCond .le 29, 3), (45, .aload_n 0, 1), (46, .bipush 48, 2), (48, .iload_n 3, 1), (49, .iload_n 2, 1), (50, .idiv, 1)],
  [(51, .iadd, 1), (52, .i2c, 1), (53, .invokevirtual 60, 3), (56, .iload_n 3, 1), (57, .iload_n 2, 1), (58, .irem, 1), (59, .istore_n 3, 1), (60, .iload_n 2, 1), (61, .bipush 10, 2), (63, .idiv, 1), (64, .istore_n 2, 1), (65, .iinc 4 1, 3), (68, .goto (-34), 3), (71, .return_, 1)]])
theorem tX3_addDigits : tabOK mX3_addDigits = true := by decide +kernel
def mX3_addLetters : MI := (yX3_addLetters, cX3_addLetters, 5, none, [],
  [[(0, .bipush 97, 2), (2, .iload_n 1, 1), (3, .iconst 1, 1), (4, .isub, 1), (5, .bipush 26, 2), (7, .irem, 1), (8, .iadd, 1), (9, .i2c, 1), (10, .istore_n 2, 1), (11, .iload_n 1, 1), (12, .iconst 1, 1), (13, .isub, 1), (14, .bipush 26, 2), (16, .idiv, 1), (17, .iconst 1, 1), (18, .iadd, 1)],
  [(19, .istore_n 3, 1), (20, .iconst 0, 1), (21, .istore 4, 2), (23, .iload 4, 2), (25, .iload_n 3, 1), (26, .if_icmp .ge 22, 3), (29, .iload 4, 2), (31, .sipush 128, 3), (34, .if_icmp .ge 14, 3), (37, .aload_n 0, 1), (38, .iload_n 2, 1), (39, .invokevirtual 60, 3), (42, .iinc 4 1, 3), (45, .goto (-22), 3), (48, .return_, 1)]])
theorem tX3_addLetters : tabOK mX3_addLetters = true := by decide +kernel
def mX3_addRoman : MI := (yX3_addRoman, cX3_addRoman, 4, none, [],
  [[(0, .iload_n 1, 1), (1, .sipush 1000, 3), (4, .idiv, 1), (5, .istore_n 2, 1), (6, .iconst 0, 1), (7, .istore_n 3, 1), (8, .iload_n 3, 1), (9, .iload_n 2, 1), (10, .if_icmp .ge 22, 3), (13, .iload_n 3, 1), (14, .sipush 128, 3), (17, .if_icmp .ge 15, 3), (20, .aload_n 0, 1), (21, .bipush 109, 2), (23, .invokevirtual 60, 3), (26, .iinc 3 1, 3)],
  [(29, .goto (-21), 3), (32, .aload_n 0, 1), (33, .iload_n 1, 1), (34, .bipush 100, 2), (36, .idiv, 1), (37, .bipush 10, 2), (39, .irem, 1), (40, .bipush 99, 2), (42, .bipush 100, 2), (44, .bipush 109, 2), (46, .invokevirtual 83, 3), (49, .aload_n 0, 1), (50, .iload_n 1, 1), (51, .bipush 10, 2), (53, .idiv, 1), (54, .bipush 10, 2)],
  [(56, .irem, 1), (57, .bipush 120, 2), (59, .bipush 108, 2), (61, .bipush 99, 2), (63, .invokevirtual 83, 3), (66, .aload_n 0, 1), (67, .iload_n 1, 1), (68, .bipush 10, 2), (70, .irem, 1), (71, .bipush 105, 2), (73, .bipush 118, 2), (75, .bipush 120, 2), (77, .invokevirtual 83, 3), (80, .return_, 1)]])
theorem tX3_addRoman : tabOK mX3_addRoman = true := by decide +kernel
def mX3_addRomanDigit : MI := (yX3_addRomanDigit, cX3_addRomanDigit, 6, none, [],
  [[(0, .iload_n 1, 1), (1, .iconst 5, 1), (2, .irem, 1), (3, .iconst 4, 1), (4, .if_icmp .ne 24, 3), (7, .aload_n 0, 1), (8, .iload_n 2, 1), (9, .invokevirtual 60, 3), (12, .aload_n 0, 1), (13, .iload_n 1, 1), (14, .iconst 4, 1), (15, .if_icmp .ne 7, 3), (18, .iload_n 3, 1), (19, .goto 5, 3), (22, .iload 4, 2), (24, .invokevirtual 60, 3)],
  [(27, .return_, 1), (28, .iload_n 1, 1), (29, .iconst 5, 1), (30, .if_icmp .lt 8, 3), (33, .aload_n 0, 1), (34, .iload_n 3, 1), (35, .invokevirtual 60, 3), (38, .iconst 0, 1), (39, .istore 5, 2), (41, .iload 5, 2), (43, .iload_n 1, 1), (44, .iconst 5, 1), (45, .irem, 1), (46, .if_icmp .ge 14, 3), (49, .aload_n 0, 1), (50, .iload_n 2, 1)],
  [(51, .invokevirtual 60, 3), (54, .iinc 5 1, 3), (57, .goto (-16), 3), (60, .return_, 1)]])
theorem tX3_addRomanDigit : tabOK mX3_addRomanDigit = true := by decide +kernel
def mX4_init : MI := (yX4_init, cX4_init, 1, none, [],
  [[(0, .aload_n 0, 1), (1, .invokespecial 3, 3), (4, .aload_n 0, 1), (5, .new 9, 3), (8, .dup, 1), (9, .invokespecial 11, 3), (12, .putfield 12, 3), (15, .aload_n 0, 1), (16, .new 18, 3), (19, .dup, 1), (20, .invokespecial 20, 3), (23, .putfield 21, 3), (26, .aload_n 0, 1), (27, .bipush 20, 2), (29, .newarray .int, 2), (31, .putfield 25, 3)],
  [(34, .return_, 1)]])
theorem tX4_init : tabOK mX4_init = true := by decide +kernel
def mX4_takeFrom : MI := (yX4_takeFrom, cX4_takeFrom, 2, none, [],
  [[(0, .aload_n 0, 1), (1, .getfield 12, 3), (4, .aload_n 1, 1), (5, .getfield 12, 3), (8, .invokevirtual 29, 3), (11, .aload_n 0, 1), (12, .getfield 21, 3), (15, .aload_n 1, 1), (16, .getfield 21, 3), (19, .invokevirtual 33, 3), (22, .aload_n 1, 1), (23, .getfield 25, 3), (26, .iconst 0, 1), (27, .aload_n 0, 1), (28, .getfield 25, 3), (31, .iconst 0, 1)],
  [(32, .bipush 20, 2), (34, .invokestatic 37, 3), (37, .return_, 1)]])
theorem tX4_takeFrom : tabOK mX4_takeFrom = true := by decide +kernel
def mX4_found : MI := (yX4_found, cX4_found, 2, (some .int), [],
  [[(0, .aload_n 0, 1), (1, .getfield 25, 3), (4, .iload_n 1, 1), (5, .invokestatic 43, 3), (8, .ireturn, 1)]])
theorem tX4_found : tabOK mX4_found = true := by decide +kernel
def mX4_changeAhead : MI := (yX4_changeAhead, cX4_changeAhead, 4, (some .int), [],
  [[(0, .aload_n 0, 1), (1, .getfield 12, 3), (4, .iconst 2, 1), (5, .iload_n 2, 1), (6, .iconst 1, 1), (7, .isub, 1), (8, .invokevirtual 47, 3), (11, .istore_n 3, 1), (12, .aload_n 0, 1), (13, .getfield 21, 3), (16, .iload_n 3, 1), (17, .iload_n 1, 1), (18, .invokevirtual 51, 3), (21, .ifCond .eq 7, 3), (24, .iload_n 3, 1), (25, .goto 4, 3)],
  [(28, .iconst (-1), 1), (29, .ireturn, 1)]])
theorem tX4_changeAhead : tabOK mX4_changeAhead = true := by decide +kernel
def mX4_isOwn : MI := (yX4_isOwn, cX4_isOwn, 3, (some .boolean), [],
  [[(0, .aload_n 0, 1), (1, .getfield 21, 3), (4, .aload_n 0, 1), (5, .getfield 12, 3), (8, .iconst 2, 1), (9, .iload_n 2, 1), (10, .invokevirtual 47, 3), (13, .iload_n 1, 1), (14, .invokevirtual 51, 3), (17, .ireturn, 1)]])
theorem tX4_isOwn : tabOK mX4_isOwn = true := by decide +kernel
def mX4_hasOthers : MI := (yX4_hasOthers, cX4_hasOthers, 5, (some .boolean), [],
  [[(0, .iload_n 2, 1), (1, .istore 4, 2), (3, .iload 4, 2), (5, .iload_n 3, 1), (6, .if_icmp .ge 33, 3), (9, .aload_n 0, 1), (10, .getfield 12, 3), (13, .iload 4, 2), (15, .invokevirtual 55, 3), (18, .ifCond .eq 15, 3), (21, .aload_n 0, 1), (22, .iload_n 1, 1), (23, .iload 4, 2), (25, .invokevirtual 59, 3), (28, .ifCond .ne 5, 3), (31, .iconst 1, 1)],
  [(32, .ireturn, 1), (33, .iinc 4 1, 3), (36, .goto (-33), 3), (39, .iconst 0, 1), (40, .ireturn, 1)]])
theorem tX4_hasOthers : tabOK mX4_hasOthers = true := by decide +kernel
def mX4_strike : MI := (yX4_strike, cX4_strike, 6, (some .int), [],
  [[(0, .aload_n 0, 1), (1, .iload_n 1, 1), (2, .iload_n 2, 1), (3, .iload_n 3, 1), (4, .invokevirtual 62, 3), (7, .ifCond .eq 16, 3), (10, .aload_n 0, 1), (11, .getfield 21, 3), (14, .bipush 101, 2), (16, .iload_n 1, 1), (17, .invokevirtual 66, 3), (20, .goto 4, 3), (23, .iconst (-1), 1), (24, .istore 4, 2), (26, .iload_n 3, 1), (27, .iconst 1, 1)],
  [(28, .isub, 1), (29, .istore 5, 2), (31, .iload 5, 2), (33, .iload_n 2, 1), (34, .if_icmp .lt 60, 3), (37, .iload 5, 2), (39, .ifCond .lt 55, 3), (42, .aload_n 0, 1), (43, .getfield 12, 3), (46, .iload 5, 2), (48, .invokevirtual 55, 3), (51, .ifCond .eq 37, 3), (54, .aload_n 0, 1), (55, .iload_n 1, 1), (56, .iload 5, 2), (58, .invokevirtual 59, 3)],
  [(61, .ifCond .eq 15, 3), (64, .aload_n 0, 1), (65, .getfield 12, 3), (68, .iload 5, 2), (70, .invokevirtual 70, 3), (73, .goto 15, 3), (76, .aload_n 0, 1), (77, .getfield 12, 3), (80, .iconst 3, 1), (81, .iload 5, 2), (83, .iload 4, 2), (85, .invokevirtual 74, 3), (88, .iinc 5 (-1), 3), (91, .goto (-60), 3), (94, .iload 4, 2), (96, .ireturn, 1)]])
theorem tX4_strike : tabOK mX4_strike = true := by decide +kernel
def mX4_restyle : MI := (yX4_restyle, cX4_restyle, 5, (some .int), [],
  [[(0, .aload_n 0, 1), (1, .getfield 12, 3), (4, .iconst 4, 1), (5, .iload_n 2, 1), (6, .invokevirtual 47, 3), (9, .istore 4, 2), (11, .iload 4, 2), (13, .iconst (-1), 1), (14, .if_icmp .ne 45, 3), (17, .aload_n 0, 1), (18, .getfield 21, 3), (21, .bipush 115, 2), (23, .iload_n 1, 1), (24, .invokevirtual 66, 3), (27, .istore 4, 2), (29, .aload_n 0, 1)],
  [(30, .getfield 12, 3), (33, .iconst 4, 1), (34, .iload_n 2, 1), (35, .iload 4, 2), (37, .invokevirtual 74, 3), (40, .aload_n 0, 1), (41, .getfield 12, 3), (44, .bipush 6, 2), (46, .iload_n 2, 1), (47, .aload_n 0, 1), (48, .getfield 12, 3), (51, .iconst 5, 1), (52, .iload_n 2, 1), (53, .invokevirtual 47, 3), (56, .invokevirtual 74, 3), (59, .aload_n 0, 1)],
  [(60, .getfield 12, 3), (63, .iconst 5, 1), (64, .iload_n 2, 1), (65, .iload_n 3, 1), (66, .invokevirtual 74, 3), (69, .iload 4, 2), (71, .ireturn, 1)]])
theorem tX4_restyle : tabOK mX4_restyle = true := by decide +kernel
def mX4_restyleAtOnce : MI := (yX4_restyleAtOnce, cX4_restyleAtOnce, 4, none, [],
  [[(0, .aload_n 0, 1), (1, .getfield 12, 3), (4, .iconst 4, 1), (5, .iload_n 1, 1), (6, .invokevirtual 47, 3), (9, .istore_n 3, 1), (10, .iload_n 3, 1), (11, .iconst (-1), 1), (12, .if_icmp .eq 10, 3), (15, .aload_n 0, 1), (16, .iload_n 3, 1), (17, .iconst 1, 1), (18, .invokevirtual 78, 3), (21, .pop, 1), (22, .aload_n 0, 1), (23, .getfield 12, 3)],
  [(26, .iconst 5, 1), (27, .iload_n 1, 1), (28, .iload_n 2, 1), (29, .invokevirtual 74, 3), (32, .return_, 1)]])
theorem tX4_restyleAtOnce : tabOK mX4_restyleAtOnce = true := by decide +kernel
def mX4_settle : MI := (yX4_settle, cX4_settle, 4, (some .int), [],
  [[(0, .aload_n 0, 1), (1, .getfield 12, 3), (4, .iload_n 1, 1), (5, .invokevirtual 82, 3), (8, .istore_n 3, 1), (9, .aload_n 0, 1), (10, .getfield 21, 3), (13, .iload_n 1, 1), (14, .invokevirtual 86, 3), (17, .lookupswitch 55 #[(101, 37), (105, 27)], 27), (44, .aload_n 0, 1), (45, .iconst 2, 1), (46, .iload_n 1, 1), (47, .iload_n 2, 1), (48, .invokevirtual 90, 3), (51, .goto 30, 3)],
  [(54, .aload_n 0, 1), (55, .iconst 3, 1), (56, .iload_n 1, 1), (57, .iload_n 2, 1), (58, .ifCond .ne 7, 3), (61, .iconst 1, 1), (62, .goto 4, 3), (65, .iconst 0, 1), (66, .invokevirtual 90, 3), (69, .goto 12, 3), (72, .aload_n 0, 1), (73, .getfield 12, 3), (76, .iload_n 1, 1), (77, .iload_n 2, 1), (78, .invokevirtual 94, 3), (81, .aload_n 0, 1)],
  [(82, .getfield 21, 3), (85, .iload_n 1, 1), (86, .iload_n 2, 1), (87, .ifCond .eq 8, 3), (90, .bipush 97, 2), (92, .goto 5, 3), (95, .bipush 114, 2), (97, .invokevirtual 98, 3), (100, .iload_n 3, 1), (101, .ireturn, 1)]])
theorem tX4_settle : tabOK mX4_settle = true := by decide +kernel
def mX4_settleUnits : MI := (yX4_settleUnits, cX4_settleUnits, 4, none, [],
  [[(0, .iload_n 3, 1), (1, .ifCond .eq 15, 3), (4, .aload_n 0, 1), (5, .getfield 12, 3), (8, .iload_n 1, 1), (9, .iload_n 2, 1), (10, .invokevirtual 102, 3), (13, .goto 12, 3), (16, .aload_n 0, 1), (17, .getfield 12, 3), (20, .iload_n 1, 1), (21, .iload_n 2, 1), (22, .invokevirtual 106, 3), (25, .return_, 1)]])
theorem tX4_settleUnits : tabOK mX4_settleUnits = true := by decide +kernel
def mX4_settleAll : MI := (yX4_settleAll, cX4_settleAll, 5, (some .int), [],
  [[(0, .iconst 0, 1), (1, .istore_n 3, 1), (2, .iconst 0, 1), (3, .istore 4, 2), (5, .iload 4, 2), (7, .aload_n 0, 1), (8, .getfield 21, 3), (11, .invokevirtual 109, 3), (14, .if_icmp .ge 52, 3), (17, .aload_n 0, 1), (18, .getfield 21, 3), (21, .iload 4, 2), (23, .invokevirtual 113, 3), (26, .bipush 119, 2), (28, .if_icmp .ne 32, 3), (31, .iload_n 1, 1)],
  [(32, .iconst (-1), 1), (33, .if_icmp .eq 16, 3), (36, .aload_n 0, 1), (37, .getfield 21, 3), (40, .iload 4, 2), (42, .invokevirtual 116, 3), (45, .iload_n 1, 1), (46, .if_icmp .ne 14, 3), (49, .aload_n 0, 1), (50, .iload 4, 2), (52, .iload_n 2, 1), (53, .invokevirtual 78, 3), (56, .pop, 1), (57, .iinc 3 1, 3), (60, .iinc 4 1, 3), (63, .goto (-58), 3)],
  [(66, .iload_n 3, 1), (67, .ireturn, 1)]])
theorem tX4_settleAll : tabOK mX4_settleAll = true := by decide +kernel
def mX5_init : MI := (yX5_init, cX5_init, 2, none, [],
  [[(0, .aload_n 0, 1), (1, .invokespecial 3, 3), (4, .aload_n 0, 1), (5, .bipush 7, 2), (7, .anewarray 9, 3), (10, .putfield 11, 3), (13, .aload_n 0, 1), (14, .iconst 0, 1), (15, .putfield 17, 3), (18, .aload_n 0, 1), (19, .iconst 0, 1), (20, .putfield 21, 3), (23, .iconst 0, 1), (24, .istore_n 1, 1), (25, .iload_n 1, 1), (26, .bipush 6, 2)],
  [(28, .if_icmp .gt 22, 3), (31, .aload_n 0, 1), (32, .getfield 11, 3), (35, .iload_n 1, 1), (36, .new 9, 3), (39, .dup, 1), (40, .invokespecial 24, 3), (43, .aastore, 1), (44, .iinc 1 1, 3), (47, .goto (-22), 3), (50, .return_, 1)]])
theorem tX5_init : tabOK mX5_init = true := by decide +kernel
def mX5_now : MI := (yX5_now, cX5_now, 1, (some (.object "SealOffice$Paper")), [],
  [[(0, .aload_n 0, 1), (1, .getfield 11, 3), (4, .aload_n 0, 1), (5, .getfield 17, 3), (8, .aload_n 0, 1), (9, .getfield 11, 3), (12, .arraylength, 1), (13, .invokestatic 25, 3), (16, .ifCond .eq 10, 3), (19, .aload_n 0, 1), (20, .getfield 17, 3), (23, .goto 4, 3), (26, .iconst 0, 1), (27, .aaload, 1), (28, .areturn, 1)]])
theorem tX5_now : tabOK mX5_now = true := by decide +kernel
def mX5_begin : MI := (yX5_begin, cX5_begin, 3, (some (.object "SealOffice$Paper")), [],
  [[(0, .aload_n 0, 1), (1, .invokevirtual 29, 3), (4, .astore_n 1, 1), (5, .aload_n 0, 1), (6, .getfield 17, 3), (9, .bipush 6, 2), (11, .if_icmp .lt 7, 3), (14, .aload_n 0, 1), (15, .invokevirtual 33, 3), (18, .aload_n 0, 1), (19, .dup, 1), (20, .getfield 17, 3), (23, .iconst 1, 1), (24, .iadd, 1), (25, .putfield 17, 3), (28, .aload_n 0, 1)],
  [(29, .iconst 0, 1), (30, .putfield 21, 3), (33, .aload_n 0, 1), (34, .invokevirtual 29, 3), (37, .astore_n 2, 1), (38, .aload_n 2, 1), (39, .aload_n 1, 1), (40, .invokevirtual 36, 3), (43, .aload_n 2, 1), (44, .areturn, 1)]])
theorem tX5_begin : tabOK mX5_begin = true := by decide +kernel
def mX5_forgetFirst : MI := (yX5_forgetFirst, cX5_forgetFirst, 3, none, [],
  [[(0, .aload_n 0, 1), (1, .getfield 11, 3), (4, .iconst 0, 1), (5, .aaload, 1), (6, .astore_n 1, 1), (7, .iconst 0, 1), (8, .istore_n 2, 1), (9, .iload_n 2, 1), (10, .bipush 6, 2), (12, .if_icmp .ge 23, 3), (15, .aload_n 0, 1), (16, .getfield 11, 3), (19, .iload_n 2, 1), (20, .aload_n 0, 1), (21, .getfield 11, 3), (24, .iload_n 2, 1)],
  [(25, .iconst 1, 1), (26, .iadd, 1), (27, .aaload, 1), (28, .aastore, 1), (29, .iinc 2 1, 3), (32, .goto (-23), 3), (35, .aload_n 0, 1), (36, .getfield 11, 3), (39, .bipush 6, 2), (41, .aload_n 1, 1), (42, .aastore, 1), (43, .aload_n 0, 1), (44, .dup, 1), (45, .getfield 17, 3), (48, .iconst 1, 1), (49, .isub, 1)],
  [(50, .putfield 17, 3), (53, .return_, 1)]])
theorem tX5_forgetFirst : tabOK mX5_forgetFirst = true := by decide +kernel
def mX5_canGoBack : MI := (yX5_canGoBack, cX5_canGoBack, 1, (some .boolean), [],
  [[(0, .aload_n 0, 1), (1, .getfield 17, 3), (4, .ifCond .le 7, 3), (7, .iconst 1, 1), (8, .goto 4, 3), (11, .iconst 0, 1), (12, .ireturn, 1)]])
theorem tX5_canGoBack : tabOK mX5_canGoBack = true := by decide +kernel
def mX5_canGoOn : MI := (yX5_canGoOn, cX5_canGoOn, 1, (some .boolean), [],
  [[(0, .aload_n 0, 1), (1, .getfield 21, 3), (4, .ifCond .le 7, 3), (7, .iconst 1, 1), (8, .goto 4, 3), (11, .iconst 0, 1), (12, .ireturn, 1)]])
theorem tX5_canGoOn : tabOK mX5_canGoOn = true := by decide +kernel
def mX5_goBack : MI := (yX5_goBack, cX5_goBack, 1, (some .int), [],
  [[(0, .aload_n 0, 1), (1, .dup, 1), (2, .getfield 17, 3), (5, .iconst 1, 1), (6, .isub, 1), (7, .putfield 17, 3), (10, .aload_n 0, 1), (11, .dup, 1), (12, .getfield 21, 3), (15, .iconst 1, 1), (16, .iadd, 1), (17, .putfield 21, 3), (20, .aload_n 0, 1), (21, .getfield 17, 3), (24, .ireturn, 1)]])
theorem tX5_goBack : tabOK mX5_goBack = true := by decide +kernel
def mX5_goOn : MI := (yX5_goOn, cX5_goOn, 1, (some .int), [],
  [[(0, .aload_n 0, 1), (1, .dup, 1), (2, .getfield 17, 3), (5, .iconst 1, 1), (6, .iadd, 1), (7, .putfield 17, 3), (10, .aload_n 0, 1), (11, .dup, 1), (12, .getfield 21, 3), (15, .iconst 1, 1), (16, .isub, 1), (17, .putfield 21, 3), (20, .aload_n 0, 1), (21, .getfield 21, 3), (24, .ireturn, 1)]])
theorem tX5_goOn : tabOK mX5_goOn = true := by decide +kernel
def mX6_init : MI := (yX6_init, cX6_init, 1, none, [],
  [[(0, .aload_n 0, 1), (1, .invokespecial 3, 3), (4, .aload_n 0, 1), (5, .bipush 15, 2), (7, .newarray .int, 2), (9, .putfield 9, 3), (12, .aload_n 0, 1), (13, .iconst 0, 1), (14, .putfield 15, 3), (17, .return_, 1)]])
theorem tX6_init : tabOK mX6_init = true := by decide +kernel
def mX6_value : MI := (yX6_value, cX6_value, 3, (some .int), [],
  [[(0, .aload_n 0, 1), (1, .getfield 9, 3), (4, .iload_n 1, 1), (5, .iconst 3, 1), (6, .imul, 1), (7, .iload_n 2, 1), (8, .iadd, 1), (9, .invokestatic 19, 3), (12, .ireturn, 1)]])
theorem tX6_value : tabOK mX6_value = true := by decide +kernel
def mX6_swap : MI := (yX6_swap, cX6_swap, 5, (some .int), [],
  [[(0, .aload_n 0, 1), (1, .iload_n 1, 1), (2, .iload_n 2, 1), (3, .invokevirtual 23, 3), (6, .istore 4, 2), (8, .aload_n 0, 1), (9, .getfield 9, 3), (12, .iload_n 1, 1), (13, .iconst 3, 1), (14, .imul, 1), (15, .iload_n 2, 1), (16, .iadd, 1), (17, .iload_n 3, 1), (18, .invokestatic 27, 3), (21, .iload 4, 2), (23, .ireturn, 1)]])
theorem tX6_swap : tabOK mX6_swap = true := by decide +kernel
def mX6_chosenOne : MI := (yX6_chosenOne, cX6_chosenOne, 1, (some .int), [],
  [[(0, .aload_n 0, 1), (1, .getfield 15, 3), (4, .ireturn, 1)]])
theorem tX6_chosenOne : tabOK mX6_chosenOne = true := by decide +kernel
def mX6_swapChosen : MI := (yX6_swapChosen, cX6_swapChosen, 3, (some .int), [],
  [[(0, .aload_n 0, 1), (1, .getfield 15, 3), (4, .istore_n 2, 1), (5, .aload_n 0, 1), (6, .iload_n 1, 1), (7, .putfield 15, 3), (10, .iload_n 2, 1), (11, .ireturn, 1)]])
theorem tX6_swapChosen : tabOK mX6_swapChosen = true := by decide +kernel
def mX7_init : MI := (yX7_init, cX7_init, 2, none, [],
  [[(0, .aload_n 0, 1), (1, .invokespecial 3, 3), (4, .aload_n 0, 1), (5, .sipush 2211, 3), (8, .newarray .int, 2), (10, .putfield 11, 3), (13, .aload_n 0, 1), (14, .bipush 6, 2), (16, .newarray .int, 2), (18, .putfield 15, 3), (21, .aload_n 0, 1), (22, .bipush 6, 2), (24, .newarray .int, 2), (26, .putfield 18, 3), (29, .aload_n 0, 1), (30, .iconst 0, 1)],
  [(31, .putfield 21, 3), (34, .iconst 0, 1), (35, .istore_n 1, 1), (36, .iload_n 1, 1), (37, .bipush 6, 2), (39, .if_icmp .ge 23, 3), (42, .aload_n 0, 1), (43, .getfield 15, 3), (46, .iload_n 1, 1), (47, .iconst (-1), 1), (48, .iastore, 1), (49, .aload_n 0, 1), (50, .getfield 18, 3), (53, .iload_n 1, 1), (54, .iconst (-1), 1), (55, .iastore, 1)],
  [(56, .iinc 1 1, 3), (59, .goto (-23), 3), (62, .aload_n 0, 1), (63, .getfield 11, 3), (66, .iconst 0, 1), (67, .bipush 47, 2), (69, .iastore, 1), (70, .aload_n 0, 1), (71, .getfield 11, 3), (74, .sipush 201, 3), (77, .iconst (-1), 1), (78, .iastore, 1), (79, .aload_n 0, 1), (80, .getfield 11, 3), (83, .sipush 402, 3), (86, .iconst (-1), 1)],
  [(87, .iastore, 1), (88, .aload_n 0, 1), (89, .getfield 11, 3), (92, .sipush 603, 3), (95, .iconst (-1), 1), (96, .iastore, 1), (97, .aload_n 0, 1), (98, .getfield 11, 3), (101, .sipush 804, 3), (104, .iconst (-1), 1), (105, .iastore, 1), (106, .aload_n 0, 1), (107, .getfield 11, 3), (110, .sipush 1407, 3), (113, .iconst (-1), 1), (114, .iastore, 1)],
  [(115, .return_, 1)]])
theorem tX7_init : tabOK mX7_init = true := by decide +kernel
def mX7_takeRow : MI := (yX7_takeRow, cX7_takeRow, 2, none, [],
  [[(0, .aload_n 1, 1), (1, .getfield 11, 3), (4, .iconst 0, 1), (5, .aload_n 0, 1), (6, .getfield 11, 3), (9, .iconst 0, 1), (10, .sipush 2211, 3), (13, .invokestatic 25, 3), (16, .aload_n 1, 1), (17, .getfield 15, 3), (20, .iconst 0, 1), (21, .aload_n 0, 1), (22, .getfield 15, 3), (25, .iconst 0, 1), (26, .bipush 6, 2), (28, .invokestatic 25, 3)],
  [(31, .aload_n 1, 1), (32, .getfield 18, 3), (35, .iconst 0, 1), (36, .aload_n 0, 1), (37, .getfield 18, 3), (40, .iconst 0, 1), (41, .bipush 6, 2), (43, .invokestatic 25, 3), (46, .aload_n 0, 1), (47, .aload_n 1, 1), (48, .getfield 21, 3), (51, .putfield 21, 3), (54, .return_, 1)]])
theorem tX7_takeRow : tabOK mX7_takeRow = true := by decide +kernel
def mX7_fact : MI := (yX7_fact, cX7_fact, 4, (some .int), [],
  [[(0, .iload_n 1, 1), (1, .sipush 201, 3), (4, .imul, 1), (5, .iload_n 2, 1), (6, .iadd, 1), (7, .istore_n 3, 1), (8, .iload_n 2, 1), (9, .ifCond .lt 32, 3), (12, .iload_n 2, 1), (13, .sipush 201, 3), (16, .if_icmp .ge 25, 3), (19, .iload_n 3, 1), (20, .ifCond .lt 21, 3), (23, .iload_n 3, 1), (24, .aload_n 0, 1), (25, .getfield 11, 3)],
  [(28, .arraylength, 1), (29, .if_icmp .ge 12, 3), (32, .aload_n 0, 1), (33, .getfield 11, 3), (36, .iload_n 3, 1), (37, .iaload, 1), (38, .goto 4, 3), (41, .iconst (-1), 1), (42, .ireturn, 1)]])
theorem tX7_fact : tabOK mX7_fact = true := by decide +kernel
def mX7_setFact : MI := (yX7_setFact, cX7_setFact, 5, none, [],
  [[(0, .iload_n 1, 1), (1, .sipush 201, 3), (4, .imul, 1), (5, .iload_n 2, 1), (6, .iadd, 1), (7, .istore 4, 2), (9, .iload_n 2, 1), (10, .ifCond .lt 33, 3), (13, .iload_n 2, 1), (14, .sipush 201, 3), (17, .if_icmp .ge 26, 3), (20, .iload 4, 2), (22, .ifCond .lt 21, 3), (25, .iload 4, 2), (27, .aload_n 0, 1), (28, .getfield 11, 3)],
  [(31, .arraylength, 1), (32, .if_icmp .ge 11, 3), (35, .aload_n 0, 1), (36, .getfield 11, 3), (39, .iload 4, 2), (41, .iload_n 3, 1), (42, .iastore, 1), (43, .return_, 1)]])
theorem tX7_setFact : tabOK mX7_setFact = true := by decide +kernel
def mX7_allUnits : MI := (yX7_allUnits, cX7_allUnits, 1, (some .int), [],
  [[(0, .aload_n 0, 1), (1, .getfield 21, 3), (4, .ireturn, 1)]])
theorem tX7_allUnits : tabOK mX7_allUnits = true := by decide +kernel
def mX7_isSeen : MI := (yX7_isSeen, cX7_isSeen, 2, (some .boolean), [],
  [[(0, .iload_n 1, 1), (1, .ifCond .lt 25, 3), (4, .iload_n 1, 1), (5, .aload_n 0, 1), (6, .getfield 21, 3), (9, .if_icmp .gt 17, 3), (12, .aload_n 0, 1), (13, .iconst 3, 1), (14, .iload_n 1, 1), (15, .invokevirtual 31, 3), (18, .iconst (-1), 1), (19, .if_icmp .ne 7, 3), (22, .iconst 1, 1), (23, .goto 4, 3), (26, .iconst 0, 1), (27, .ireturn, 1)]])
theorem tX7_isSeen : tabOK mX7_isSeen = true := by decide +kernel
def mX7_isOld : MI := (yX7_isOld, cX7_isOld, 2, (some .boolean), [],
  [[(0, .iload_n 1, 1), (1, .ifCond .lt 25, 3), (4, .iload_n 1, 1), (5, .aload_n 0, 1), (6, .getfield 21, 3), (9, .if_icmp .ge 17, 3), (12, .aload_n 0, 1), (13, .iconst 2, 1), (14, .iload_n 1, 1), (15, .invokevirtual 31, 3), (18, .iconst (-1), 1), (19, .if_icmp .ne 7, 3), (22, .iconst 1, 1), (23, .goto 4, 3), (26, .iconst 0, 1), (27, .ireturn, 1)]])
theorem tX7_isOld : tabOK mX7_isOld = true := by decide +kernel
def mX7_isSeenEnd : MI := (yX7_isSeenEnd, cX7_isSeenEnd, 2, (some .boolean), [],
  [[(0, .iload_n 1, 1), (1, .ifCond .lt 36, 3), (4, .iload_n 1, 1), (5, .aload_n 0, 1), (6, .getfield 21, 3), (9, .if_icmp .gt 28, 3), (12, .aload_n 0, 1), (13, .iconst 3, 1), (14, .iload_n 1, 1), (15, .invokevirtual 31, 3), (18, .iconst (-1), 1), (19, .if_icmp .ne 18, 3), (22, .aload_n 0, 1), (23, .iconst 0, 1), (24, .iload_n 1, 1), (25, .invokevirtual 31, 3)],
  [(28, .bipush 47, 2), (30, .if_icmp .ne 7, 3), (33, .iconst 1, 1), (34, .goto 4, 3), (37, .iconst 0, 1), (38, .ireturn, 1)]])
theorem tX7_isSeenEnd : tabOK mX7_isSeenEnd = true := by decide +kernel
def mX7_indexOf : MI := (yX7_indexOf, cX7_indexOf, 4, (some .int), [],
  [[(0, .iconst 0, 1), (1, .istore_n 2, 1), (2, .iconst 0, 1), (3, .istore_n 3, 1), (4, .iload_n 3, 1), (5, .aload_n 0, 1), (6, .getfield 21, 3), (9, .if_icmp .gt 27, 3), (12, .aload_n 0, 1), (13, .iload_n 3, 1), (14, .invokevirtual 35, 3), (17, .ifCond .eq 13, 3), (20, .iload_n 2, 1), (21, .iload_n 1, 1), (22, .if_icmp .ne 5, 3), (25, .iload_n 3, 1)],
  [(26, .ireturn, 1), (27, .iinc 2 1, 3), (30, .iinc 3 1, 3), (33, .goto (-29), 3), (36, .iconst (-1), 1), (37, .ireturn, 1)]])
theorem tX7_indexOf : tabOK mX7_indexOf = true := by decide +kernel
def mX7_indexOfOld : MI := (yX7_indexOfOld, cX7_indexOfOld, 4, (some .int), [],
  [[(0, .iconst 0, 1), (1, .istore_n 2, 1), (2, .iconst 0, 1), (3, .istore_n 3, 1), (4, .iload_n 3, 1), (5, .aload_n 0, 1), (6, .getfield 21, 3), (9, .if_icmp .ge 27, 3), (12, .aload_n 0, 1), (13, .iload_n 3, 1), (14, .invokevirtual 39, 3), (17, .ifCond .eq 13, 3), (20, .iload_n 2, 1), (21, .iload_n 1, 1), (22, .if_icmp .ne 5, 3), (25, .iload_n 3, 1)],
  [(26, .ireturn, 1), (27, .iinc 2 1, 3), (30, .iinc 3 1, 3), (33, .goto (-29), 3), (36, .iconst (-1), 1), (37, .ireturn, 1)]])
theorem tX7_indexOfOld : tabOK mX7_indexOfOld = true := by decide +kernel
def mX7_indexOfEnd : MI := (yX7_indexOfEnd, cX7_indexOfEnd, 4, (some .int), [],
  [[(0, .iconst 0, 1), (1, .istore_n 2, 1), (2, .iconst 0, 1), (3, .istore_n 3, 1), (4, .iload_n 3, 1), (5, .aload_n 0, 1), (6, .getfield 21, 3), (9, .if_icmp .gt 27, 3), (12, .aload_n 0, 1), (13, .iload_n 3, 1), (14, .invokevirtual 42, 3), (17, .ifCond .eq 13, 3), (20, .iload_n 2, 1), (21, .iload_n 1, 1), (22, .if_icmp .ne 5, 3), (25, .iload_n 3, 1)],
  [(26, .ireturn, 1), (27, .iinc 2 1, 3), (30, .iinc 3 1, 3), (33, .goto (-29), 3), (36, .iconst (-1), 1), (37, .ireturn, 1)]])
theorem tX7_indexOfEnd : tabOK mX7_indexOfEnd = true := by decide +kernel
def mX7_endFrom : MI := (yX7_endFrom, cX7_endFrom, 3, (some .int), [],
  [[(0, .iload_n 1, 1), (1, .ifCond .ge 7, 3), (4, .iconst 0, 1), (5, .goto 4, 3), (8, .iload_n 1, 1), (9, .istore_n 2, 1), (10, .iload_n 2, 1), (11, .aload_n 0, 1), (12, .getfield 21, 3), (15, .if_icmp .ge 19, 3), (18, .aload_n 0, 1), (19, .iload_n 2, 1), (20, .invokevirtual 42, 3), (23, .ifCond .eq 5, 3), (26, .iload_n 2, 1), (27, .ireturn, 1)],
  [(28, .iinc 2 1, 3), (31, .goto (-21), 3), (34, .aload_n 0, 1), (35, .getfield 21, 3), (38, .ireturn, 1)]])
theorem tX7_endFrom : tabOK mX7_endFrom = true := by decide +kernel
def mX7_placeOf : MI := (yX7_placeOf, cX7_placeOf, 4, (some .int), [],
  [[(0, .iconst 0, 1), (1, .istore_n 2, 1), (2, .iconst 0, 1), (3, .istore_n 3, 1), (4, .iload_n 3, 1), (5, .iload_n 1, 1), (6, .if_icmp .ge 30, 3), (9, .iload_n 3, 1), (10, .aload_n 0, 1), (11, .getfield 21, 3), (14, .if_icmp .ge 22, 3), (17, .aload_n 0, 1), (18, .iconst 3, 1), (19, .iload_n 3, 1), (20, .invokevirtual 31, 3), (23, .iconst (-1), 1)],
  [(24, .if_icmp .ne 6, 3), (27, .iinc 2 1, 3), (30, .iinc 3 1, 3), (33, .goto (-29), 3), (36, .iload_n 2, 1), (37, .ireturn, 1)]])
theorem tX7_placeOf : tabOK mX7_placeOf = true := by decide +kernel
def mX7_endsAhead : MI := (yX7_endsAhead, cX7_endsAhead, 4, (some .int), [],
  [[(0, .iconst 0, 1), (1, .istore_n 2, 1), (2, .iconst 0, 1), (3, .istore_n 3, 1), (4, .iload_n 3, 1), (5, .iload_n 1, 1), (6, .if_icmp .ge 28, 3), (9, .iload_n 3, 1), (10, .aload_n 0, 1), (11, .getfield 21, 3), (14, .if_icmp .ge 20, 3), (17, .aload_n 0, 1), (18, .iload_n 3, 1), (19, .invokevirtual 42, 3), (22, .ifCond .eq 6, 3), (25, .iinc 2 1, 3)],
  [(28, .iinc 3 1, 3), (31, .goto (-27), 3), (34, .iload_n 2, 1), (35, .ireturn, 1)]])
theorem tX7_endsAhead : tabOK mX7_endsAhead = true := by decide +kernel
def mX7_placeOfParagraph : MI := (yX7_placeOfParagraph, cX7_placeOfParagraph, 2, (some .int), [],
  [[(0, .iload_n 1, 1), (1, .ifCond .gt 7, 3), (4, .iconst 0, 1), (5, .goto 16, 3), (8, .aload_n 0, 1), (9, .aload_n 0, 1), (10, .iload_n 1, 1), (11, .iconst 1, 1), (12, .isub, 1), (13, .invokevirtual 45, 3), (16, .invokevirtual 49, 3), (19, .iconst 1, 1), (20, .iadd, 1), (21, .ireturn, 1)]])
theorem tX7_placeOfParagraph : tabOK mX7_placeOfParagraph = true := by decide +kernel
def mX7_seenUnits : MI := (yX7_seenUnits, cX7_seenUnits, 1, (some .int), [],
  [[(0, .aload_n 0, 1), (1, .aload_n 0, 1), (2, .getfield 21, 3), (5, .invokevirtual 49, 3), (8, .ireturn, 1)]])
theorem tX7_seenUnits : tabOK mX7_seenUnits = true := by decide +kernel
def mX7_seenParagraphs : MI := (yX7_seenParagraphs, cX7_seenParagraphs, 1, (some .int), [],
  [[(0, .aload_n 0, 1), (1, .aload_n 0, 1), (2, .getfield 21, 3), (5, .invokevirtual 52, 3), (8, .iconst 1, 1), (9, .iadd, 1), (10, .ireturn, 1)]])
theorem tX7_seenParagraphs : tabOK mX7_seenParagraphs = true := by decide +kernel
def mX7_oldUnits : MI := (yX7_oldUnits, cX7_oldUnits, 3, (some .int), [],
  [[(0, .iconst 0, 1), (1, .istore_n 1, 1), (2, .iconst 0, 1), (3, .istore_n 2, 1), (4, .iload_n 2, 1), (5, .aload_n 0, 1), (6, .getfield 21, 3), (9, .if_icmp .ge 20, 3), (12, .aload_n 0, 1), (13, .iload_n 2, 1), (14, .invokevirtual 39, 3), (17, .ifCond .eq 6, 3), (20, .iinc 1 1, 3), (23, .iinc 2 1, 3), (26, .goto (-22), 3), (29, .iload_n 1, 1)],
  [(30, .ireturn, 1)]])
theorem tX7_oldUnits : tabOK mX7_oldUnits = true := by decide +kernel
def mX7_waitingUnits : MI := (yX7_waitingUnits, cX7_waitingUnits, 3, (some .int), [],
  [[(0, .iconst 0, 1), (1, .istore_n 1, 1), (2, .iconst 0, 1), (3, .istore_n 2, 1), (4, .iload_n 2, 1), (5, .aload_n 0, 1), (6, .getfield 21, 3), (9, .if_icmp .ge 32, 3), (12, .aload_n 0, 1), (13, .iconst 2, 1), (14, .iload_n 2, 1), (15, .invokevirtual 31, 3), (18, .iconst (-1), 1), (19, .if_icmp .ne 13, 3), (22, .aload_n 0, 1), (23, .iconst 3, 1)],
  [(24, .iload_n 2, 1), (25, .invokevirtual 31, 3), (28, .iconst (-1), 1), (29, .if_icmp .eq 6, 3), (32, .iinc 1 1, 3), (35, .iinc 2 1, 3), (38, .goto (-34), 3), (41, .iload_n 1, 1), (42, .ireturn, 1)]])
theorem tX7_waitingUnits : tabOK mX7_waitingUnits = true := by decide +kernel
def mX7_concerned : MI := (yX7_concerned, cX7_concerned, 4, (some .int), [],
  [[(0, .iconst 0, 1), (1, .istore_n 2, 1), (2, .iconst 0, 1), (3, .istore_n 3, 1), (4, .iload_n 3, 1), (5, .aload_n 0, 1), (6, .getfield 21, 3), (9, .if_icmp .gt 42, 3), (12, .aload_n 0, 1), (13, .iconst 2, 1), (14, .iload_n 3, 1), (15, .invokevirtual 31, 3), (18, .iload_n 1, 1), (19, .if_icmp .eq 23, 3), (22, .aload_n 0, 1), (23, .iconst 3, 1)],
  [(24, .iload_n 3, 1), (25, .invokevirtual 31, 3), (28, .iload_n 1, 1), (29, .if_icmp .eq 13, 3), (32, .aload_n 0, 1), (33, .iconst 4, 1), (34, .iload_n 3, 1), (35, .invokevirtual 31, 3), (38, .iload_n 1, 1), (39, .if_icmp .ne 6, 3), (42, .iinc 2 1, 3), (45, .iinc 3 1, 3), (48, .goto (-44), 3), (51, .iload_n 2, 1), (52, .ireturn, 1)]])
theorem tX7_concerned : tabOK mX7_concerned = true := by decide +kernel
def mX7_isGuarded : MI := (yX7_isGuarded, cX7_isGuarded, 4, (some .boolean), [],
  [[(0, .iload_n 1, 1), (1, .istore_n 3, 1), (2, .iload_n 3, 1), (3, .aload_n 0, 1), (4, .getfield 21, 3), (7, .if_icmp .gt 37, 3), (10, .aload_n 0, 1), (11, .iload_n 3, 1), (12, .invokevirtual 42, 3), (15, .ifCond .eq 23, 3), (18, .aload_n 0, 1), (19, .bipush 10, 2), (21, .iload_n 3, 1), (22, .invokevirtual 31, 3), (25, .iconst 1, 1), (26, .if_icmp .ne 5, 3)],
  [(29, .iconst 1, 1), (30, .ireturn, 1), (31, .iload_n 3, 1), (32, .iload_n 2, 1), (33, .if_icmp .lt 5, 3), (36, .iconst 0, 1), (37, .ireturn, 1), (38, .iinc 3 1, 3), (41, .goto (-39), 3), (44, .iconst 0, 1), (45, .ireturn, 1)]])
theorem tX7_isGuarded : tabOK mX7_isGuarded = true := by decide +kernel
def mX7_putUnit : MI := (yX7_putUnit, cX7_putUnit, 6, none, [],
  [[(0, .aload_n 0, 1), (1, .getfield 21, 3), (4, .sipush 200, 3), (7, .if_icmp .ge 15, 3), (10, .iload_n 1, 1), (11, .ifCond .lt 11, 3), (14, .iload_n 1, 1), (15, .aload_n 0, 1), (16, .getfield 21, 3), (19, .if_icmp .le 4, 3), (22, .return_, 1), (23, .aload_n 0, 1), (24, .iload_n 1, 1), (25, .invokevirtual 55, 3), (28, .iconst 1, 1), (29, .iadd, 1)],
  [(30, .istore 5, 2), (32, .aload_n 0, 1), (33, .iload_n 1, 1), (34, .invokevirtual 58, 3), (37, .aload_n 0, 1), (38, .iconst 0, 1), (39, .iload_n 1, 1), (40, .iload_n 2, 1), (41, .invokevirtual 62, 3), (44, .aload_n 0, 1), (45, .iconst 1, 1), (46, .iload_n 1, 1), (47, .iload_n 3, 1), (48, .invokevirtual 62, 3), (51, .aload_n 0, 1), (52, .iconst 2, 1)],
  [(53, .iload_n 1, 1), (54, .iload 4, 2), (56, .invokevirtual 62, 3), (59, .aload_n 0, 1), (60, .iconst 3, 1), (61, .iload_n 1, 1), (62, .iconst (-1), 1), (63, .invokevirtual 62, 3), (66, .aload_n 0, 1), (67, .iconst 4, 1), (68, .iload_n 1, 1), (69, .iconst (-1), 1), (70, .invokevirtual 62, 3), (73, .aload_n 0, 1), (74, .bipush 6, 2), (76, .iload_n 1, 1)],
  [(77, .iconst 0, 1), (78, .invokevirtual 62, 3), (81, .aload_n 0, 1), (82, .bipush 9, 2), (84, .iload_n 1, 1), (85, .iconst 0, 1), (86, .invokevirtual 62, 3), (89, .aload_n 0, 1), (90, .iconst 5, 1), (91, .iload_n 1, 1), (92, .aload_n 0, 1), (93, .iconst 5, 1), (94, .iload 5, 2), (96, .invokevirtual 31, 3), (99, .invokevirtual 62, 3), (102, .aload_n 0, 1)],
  [(103, .bipush 7, 2), (105, .iload_n 1, 1), (106, .aload_n 0, 1), (107, .bipush 7, 2), (109, .iload 5, 2), (111, .invokevirtual 31, 3), (114, .invokevirtual 62, 3), (117, .aload_n 0, 1), (118, .bipush 8, 2), (120, .iload_n 1, 1), (121, .aload_n 0, 1), (122, .bipush 8, 2), (124, .iload 5, 2), (126, .invokevirtual 31, 3), (129, .invokevirtual 62, 3), (132, .aload_n 0, 1)],
  [(133, .bipush 10, 2), (135, .iload_n 1, 1), (136, .aload_n 0, 1), (137, .bipush 10, 2), (139, .iload 5, 2), (141, .invokevirtual 31, 3), (144, .invokevirtual 62, 3), (147, .return_, 1)]])
theorem tX7_putUnit : tabOK mX7_putUnit = true := by decide +kernel
def mX7_makeRoom : MI := (yX7_makeRoom, cX7_makeRoom, 4, none, [],
  [[(0, .iconst 0, 1), (1, .istore_n 2, 1), (2, .iload_n 2, 1), (3, .bipush 11, 2), (5, .if_icmp .ge 40, 3), (8, .iload_n 2, 1), (9, .sipush 201, 3), (12, .imul, 1), (13, .iload_n 1, 1), (14, .iadd, 1), (15, .istore_n 3, 1), (16, .aload_n 0, 1), (17, .getfield 11, 3), (20, .iload_n 3, 1), (21, .aload_n 0, 1), (22, .getfield 11, 3)],
  [(25, .iload_n 3, 1), (26, .iconst 1, 1), (27, .iadd, 1), (28, .aload_n 0, 1), (29, .getfield 21, 3), (32, .iload_n 1, 1), (33, .isub, 1), (34, .iconst 1, 1), (35, .iadd, 1), (36, .invokestatic 25, 3), (39, .iinc 2 1, 3), (42, .goto (-40), 3), (45, .aload_n 0, 1), (46, .dup, 1), (47, .getfield 21, 3), (50, .iconst 1, 1)],
  [(51, .iadd, 1), (52, .putfield 21, 3), (55, .iconst 0, 1), (56, .istore_n 2, 1), (57, .iload_n 2, 1), (58, .bipush 6, 2), (60, .if_icmp .ge 57, 3), (63, .aload_n 0, 1), (64, .getfield 15, 3), (67, .iload_n 2, 1), (68, .dup2, 1), (69, .iaload, 1), (70, .aload_n 0, 1), (71, .getfield 15, 3), (74, .iload_n 2, 1), (75, .iaload, 1)],
  [(76, .iload_n 1, 1), (77, .if_icmp .lt 7, 3), (80, .iconst 1, 1), (81, .goto 4, 3), (84, .iconst 0, 1), (85, .iadd, 1), (86, .iastore, 1), (87, .aload_n 0, 1), (88, .getfield 18, 3), (91, .iload_n 2, 1), (92, .dup2, 1), (93, .iaload, 1), (94, .aload_n 0, 1), (95, .getfield 18, 3), (98, .iload_n 2, 1), (99, .iaload, 1)],
  [(100, .iload_n 1, 1), (101, .if_icmp .lt 7, 3), (104, .iconst 1, 1), (105, .goto 4, 3), (108, .iconst 0, 1), (109, .iadd, 1), (110, .iastore, 1), (111, .iinc 2 1, 3), (114, .goto (-57), 3), (117, .return_, 1)]])
theorem tX7_makeRoom : tabOK mX7_makeRoom = true := by decide +kernel
def mX7_drop : MI := (yX7_drop, cX7_drop, 4, none, [],
  [[(0, .iload_n 1, 1), (1, .ifCond .lt 11, 3), (4, .iload_n 1, 1), (5, .aload_n 0, 1), (6, .getfield 21, 3), (9, .if_icmp .lt 4, 3), (12, .return_, 1), (13, .iconst 0, 1), (14, .istore_n 2, 1), (15, .iload_n 2, 1), (16, .bipush 11, 2), (18, .if_icmp .ge 38, 3), (21, .iload_n 2, 1), (22, .sipush 201, 3), (25, .imul, 1), (26, .iload_n 1, 1)],
  [(27, .iadd, 1), (28, .istore_n 3, 1), (29, .aload_n 0, 1), (30, .getfield 11, 3), (33, .iload_n 3, 1), (34, .iconst 1, 1), (35, .iadd, 1), (36, .aload_n 0, 1), (37, .getfield 11, 3), (40, .iload_n 3, 1), (41, .aload_n 0, 1), (42, .getfield 21, 3), (45, .iload_n 1, 1), (46, .isub, 1), (47, .invokestatic 25, 3), (50, .iinc 2 1, 3)],
  [(53, .goto (-38), 3), (56, .aload_n 0, 1), (57, .dup, 1), (58, .getfield 21, 3), (61, .iconst 1, 1), (62, .isub, 1), (63, .putfield 21, 3), (66, .iconst 0, 1), (67, .istore_n 2, 1), (68, .iload_n 2, 1), (69, .bipush 6, 2), (71, .if_icmp .ge 57, 3), (74, .aload_n 0, 1), (75, .getfield 15, 3), (78, .iload_n 2, 1), (79, .dup2, 1)],
  [(80, .iaload, 1), (81, .aload_n 0, 1), (82, .getfield 15, 3), (85, .iload_n 2, 1), (86, .iaload, 1), (87, .iload_n 1, 1), (88, .if_icmp .le 7, 3), (91, .iconst 1, 1), (92, .goto 4, 3), (95, .iconst 0, 1), (96, .isub, 1), (97, .iastore, 1), (98, .aload_n 0, 1), (99, .getfield 18, 3), (102, .iload_n 2, 1), (103, .dup2, 1)],
  [(104, .iaload, 1), (105, .aload_n 0, 1), (106, .getfield 18, 3), (109, .iload_n 2, 1), (110, .iaload, 1), (111, .iload_n 1, 1), (112, .if_icmp .le 7, 3), (115, .iconst 1, 1), (116, .goto 4, 3), (119, .iconst 0, 1), (120, .isub, 1), (121, .iastore, 1), (122, .iinc 2 1, 3), (125, .goto (-57), 3), (128, .return_, 1)]])
theorem tX7_drop : tabOK mX7_drop = true := by decide +kernel
def mX7_dropSeen : MI := (yX7_dropSeen, cX7_dropSeen, 4, none, [],
  [[(0, .iload_n 2, 1), (1, .iconst 1, 1), (2, .isub, 1), (3, .istore_n 3, 1), (4, .iload_n 3, 1), (5, .iload_n 1, 1), (6, .if_icmp .lt 26, 3), (9, .iload_n 3, 1), (10, .ifCond .lt 22, 3), (13, .aload_n 0, 1), (14, .iload_n 3, 1), (15, .invokevirtual 35, 3), (18, .ifCond .eq 8, 3), (21, .aload_n 0, 1), (22, .iload_n 3, 1), (23, .invokevirtual 66, 3)],
  [(26, .iinc 3 (-1), 3), (29, .goto (-25), 3), (32, .return_, 1)]])
theorem tX7_dropSeen : tabOK mX7_dropSeen = true := by decide +kernel
def mX7_dropAll : MI := (yX7_dropAll, cX7_dropAll, 4, none, [],
  [[(0, .aload_n 0, 1), (1, .getfield 21, 3), (4, .iconst 1, 1), (5, .isub, 1), (6, .istore_n 3, 1), (7, .iload_n 3, 1), (8, .ifCond .lt 24, 3), (11, .aload_n 0, 1), (12, .iload_n 1, 1), (13, .iload_n 3, 1), (14, .invokevirtual 31, 3), (17, .iload_n 2, 1), (18, .if_icmp .ne 8, 3), (21, .aload_n 0, 1), (22, .iload_n 3, 1), (23, .invokevirtual 66, 3)],
  [(26, .iinc 3 (-1), 3), (29, .goto (-22), 3), (32, .return_, 1)]])
theorem tX7_dropAll : tabOK mX7_dropAll = true := by decide +kernel
def mX7_releaseAll : MI := (yX7_releaseAll, cX7_releaseAll, 4, none, [],
  [[(0, .iconst 0, 1), (1, .istore_n 3, 1), (2, .iload_n 3, 1), (3, .aload_n 0, 1), (4, .getfield 21, 3), (7, .if_icmp .ge 26, 3), (10, .aload_n 0, 1), (11, .iload_n 1, 1), (12, .iload_n 3, 1), (13, .invokevirtual 31, 3), (16, .iload_n 2, 1), (17, .if_icmp .ne 10, 3), (20, .aload_n 0, 1), (21, .iload_n 1, 1), (22, .iload_n 3, 1), (23, .iconst (-1), 1)],
  [(24, .invokevirtual 62, 3), (27, .iinc 3 1, 3), (30, .goto (-28), 3), (33, .return_, 1)]])
theorem tX7_releaseAll : tabOK mX7_releaseAll = true := by decide +kernel
def mX7_settleStyle : MI := (yX7_settleStyle, cX7_settleStyle, 4, none, [],
  [[(0, .iconst 0, 1), (1, .istore_n 3, 1), (2, .iload_n 3, 1), (3, .aload_n 0, 1), (4, .getfield 21, 3), (7, .if_icmp .gt 43, 3), (10, .aload_n 0, 1), (11, .iconst 4, 1), (12, .iload_n 3, 1), (13, .invokevirtual 31, 3), (16, .iload_n 1, 1), (17, .if_icmp .ne 27, 3), (20, .aload_n 0, 1), (21, .iconst 4, 1), (22, .iload_n 3, 1), (23, .iconst (-1), 1)],
  [(24, .invokevirtual 62, 3), (27, .iload_n 2, 1), (28, .ifCond .ne 16, 3), (31, .aload_n 0, 1), (32, .iconst 5, 1), (33, .iload_n 3, 1), (34, .aload_n 0, 1), (35, .bipush 6, 2), (37, .iload_n 3, 1), (38, .invokevirtual 31, 3), (41, .invokevirtual 62, 3), (44, .iinc 3 1, 3), (47, .goto (-45), 3), (50, .return_, 1)]])
theorem tX7_settleStyle : tabOK mX7_settleStyle = true := by decide +kernel
def mX7_putBookmark : MI := (yX7_putBookmark, cX7_putBookmark, 4, none, [],
  [[(0, .aload_n 0, 1), (1, .getfield 15, 3), (4, .iload_n 1, 1), (5, .iload_n 2, 1), (6, .invokestatic 69, 3), (9, .aload_n 0, 1), (10, .getfield 18, 3), (13, .iload_n 1, 1), (14, .iload_n 3, 1), (15, .invokestatic 69, 3), (18, .return_, 1)]])
theorem tX7_putBookmark : tabOK mX7_putBookmark = true := by decide +kernel
def mX7_hasBookmark : MI := (yX7_hasBookmark, cX7_hasBookmark, 2, (some .boolean), [],
  [[(0, .aload_n 0, 1), (1, .getfield 15, 3), (4, .iload_n 1, 1), (5, .invokestatic 73, 3), (8, .iconst (-1), 1), (9, .if_icmp .eq 7, 3), (12, .iconst 1, 1), (13, .goto 4, 3), (16, .iconst 0, 1), (17, .ireturn, 1)]])
theorem tX7_hasBookmark : tabOK mX7_hasBookmark = true := by decide +kernel
def mX7_bookmarkBegin : MI := (yX7_bookmarkBegin, cX7_bookmarkBegin, 2, (some .int), [],
  [[(0, .aload_n 0, 1), (1, .aload_n 0, 1), (2, .getfield 15, 3), (5, .iload_n 1, 1), (6, .invokestatic 73, 3), (9, .invokevirtual 49, 3), (12, .ireturn, 1)]])
theorem tX7_bookmarkBegin : tabOK mX7_bookmarkBegin = true := by decide +kernel
def mX7_bookmarkEnd : MI := (yX7_bookmarkEnd, cX7_bookmarkEnd, 4, (some .int), [],
  [[(0, .aload_n 0, 1), (1, .iload_n 1, 1), (2, .invokevirtual 77, 3), (5, .istore_n 2, 1), (6, .aload_n 0, 1), (7, .aload_n 0, 1), (8, .getfield 18, 3), (11, .iload_n 1, 1), (12, .invokestatic 73, 3), (15, .invokevirtual 49, 3), (18, .istore_n 3, 1), (19, .iload_n 3, 1), (20, .iload_n 2, 1), (21, .if_icmp .ge 7, 3), (24, .iload_n 2, 1), (25, .goto 4, 3)],
  [(28, .iload_n 3, 1), (29, .ireturn, 1)]])
theorem tX7_bookmarkEnd : tabOK mX7_bookmarkEnd = true := by decide +kernel
def mX7_areBookmarksOrdered : MI := (yX7_areBookmarksOrdered, cX7_areBookmarksOrdered, 2, (some .boolean), [],
  [[(0, .iconst 0, 1), (1, .istore_n 1, 1), (2, .iload_n 1, 1), (3, .bipush 6, 2), (5, .if_icmp .ge 32, 3), (8, .aload_n 0, 1), (9, .iload_n 1, 1), (10, .invokevirtual 80, 3), (13, .ifCond .eq 18, 3), (16, .aload_n 0, 1), (17, .iload_n 1, 1), (18, .invokevirtual 83, 3), (21, .aload_n 0, 1), (22, .iload_n 1, 1), (23, .invokevirtual 77, 3), (26, .if_icmp .ge 5, 3)],
  [(29, .iconst 0, 1), (30, .ireturn, 1), (31, .iinc 1 1, 3), (34, .goto (-32), 3), (37, .iconst 1, 1), (38, .ireturn, 1)]])
theorem tX7_areBookmarksOrdered : tabOK mX7_areBookmarksOrdered = true := by decide +kernel
def mX7_isTextOf : MI := (yX7_isTextOf, cX7_isTextOf, 5, (some .boolean), [],
  [[(0, .iconst 0, 1), (1, .istore_n 3, 1), (2, .iconst 0, 1), (3, .istore 4, 2), (5, .iload 4, 2), (7, .aload_n 1, 1), (8, .getfield 21, 3), (11, .if_icmp .ge 63, 3), (14, .iload_n 2, 1), (15, .ifCond .eq 15, 3), (18, .aload_n 1, 1), (19, .iload 4, 2), (21, .invokevirtual 39, 3), (24, .ifCond .eq 44, 3), (27, .goto 12, 3), (30, .aload_n 1, 1)],
  [(31, .iload 4, 2), (33, .invokevirtual 35, 3), (36, .ifCond .eq 32, 3), (39, .iload_n 3, 1), (40, .aload_n 0, 1), (41, .getfield 21, 3), (44, .if_icmp .ge 19, 3), (47, .aload_n 0, 1), (48, .iconst 0, 1), (49, .iload_n 3, 1), (50, .invokevirtual 31, 3), (53, .aload_n 1, 1), (54, .iconst 0, 1), (55, .iload 4, 2), (57, .invokevirtual 31, 3), (60, .if_icmp .eq 5, 3)],
  [(63, .iconst 0, 1), (64, .ireturn, 1), (65, .iinc 3 1, 3), (68, .iinc 4 1, 3), (71, .goto (-66), 3), (74, .iload_n 3, 1), (75, .aload_n 0, 1), (76, .getfield 21, 3), (79, .if_icmp .ne 7, 3), (82, .iconst 1, 1), (83, .goto 4, 3), (86, .iconst 0, 1), (87, .ireturn, 1)]])
theorem tX7_isTextOf : tabOK mX7_isTextOf = true := by decide +kernel
def mX8_init : MI := (yX8_init, cX8_init, 1, none, [],
  [[(0, .aload_n 0, 1), (1, .invokespecial 3, 3), (4, .aload_n 0, 1), (5, .bipush 8, 2), (7, .newarray .int, 2), (9, .putfield 9, 3), (12, .aload_n 0, 1), (13, .bipush 8, 2), (15, .newarray .int, 2), (17, .putfield 15, 3), (20, .aload_n 0, 1), (21, .bipush 8, 2), (23, .newarray .int, 2), (25, .putfield 18, 3), (28, .aload_n 0, 1), (29, .iconst 1, 1)],
  [(30, .putfield 21, 3), (33, .aload_n 0, 1), (34, .getfield 9, 3), (37, .iconst 0, 1), (38, .iconst (-1), 1), (39, .iastore, 1), (40, .return_, 1)]])
theorem tX8_init : tabOK mX8_init = true := by decide +kernel
def mX8_has : MI := (yX8_has, cX8_has, 2, (some .boolean), [],
  [[(0, .iload_n 1, 1), (1, .aload_n 0, 1), (2, .getfield 21, 3), (5, .invokestatic 25, 3), (8, .ireturn, 1)]])
theorem tX8_has : tabOK mX8_has = true := by decide +kernel
def mX8_isFull : MI := (yX8_isFull, cX8_isFull, 1, (some .boolean), [],
  [[(0, .aload_n 0, 1), (1, .getfield 21, 3), (4, .bipush 8, 2), (6, .if_icmp .lt 7, 3), (9, .iconst 1, 1), (10, .goto 4, 3), (13, .iconst 0, 1), (14, .ireturn, 1)]])
theorem tX8_isFull : tabOK mX8_isFull = true := by decide +kernel
def mX8_enroll : MI := (yX8_enroll, cX8_enroll, 4, (some .int), [],
  [[(0, .aload_n 0, 1), (1, .getfield 9, 3), (4, .aload_n 0, 1), (5, .getfield 21, 3), (8, .iload_n 1, 1), (9, .invokestatic 29, 3), (12, .aload_n 0, 1), (13, .getfield 15, 3), (16, .aload_n 0, 1), (17, .getfield 21, 3), (20, .iload_n 2, 1), (21, .ifCond .eq 7, 3), (24, .iconst 1, 1), (25, .goto 4, 3), (28, .iconst 0, 1), (29, .invokestatic 29, 3)],
  [(32, .aload_n 0, 1), (33, .getfield 18, 3), (36, .aload_n 0, 1), (37, .getfield 21, 3), (40, .iload_n 3, 1), (41, .invokestatic 29, 3), (44, .aload_n 0, 1), (45, .dup, 1), (46, .getfield 21, 3), (49, .iconst 1, 1), (50, .iadd, 1), (51, .putfield 21, 3), (54, .aload_n 0, 1), (55, .getfield 21, 3), (58, .iconst 1, 1), (59, .isub, 1)],
  [(60, .ireturn, 1)]])
theorem tX8_enroll : tabOK mX8_enroll = true := by decide +kernel
def mX8_turnsBold : MI := (yX8_turnsBold, cX8_turnsBold, 5, (some .boolean), [],
  [[(0, .iconst 0, 1), (1, .istore_n 2, 1), (2, .iload_n 1, 1), (3, .istore_n 3, 1), (4, .iconst 0, 1), (5, .istore 4, 2), (7, .iload 4, 2), (9, .bipush 8, 2), (11, .if_icmp .ge 45, 3), (14, .iload_n 3, 1), (15, .iconst (-1), 1), (16, .if_icmp .eq 40, 3), (19, .aload_n 0, 1), (20, .getfield 15, 3), (23, .iload_n 3, 1), (24, .invokestatic 33, 3)],
  [(27, .iconst 1, 1), (28, .if_icmp .ne 13, 3), (31, .iload_n 2, 1), (32, .ifCond .ne 7, 3), (35, .iconst 1, 1), (36, .goto 4, 3), (39, .iconst 0, 1), (40, .istore_n 2, 1), (41, .aload_n 0, 1), (42, .getfield 9, 3), (45, .iload_n 3, 1), (46, .invokestatic 33, 3), (49, .istore_n 3, 1), (50, .iinc 4 1, 3), (53, .goto (-46), 3), (56, .iload_n 2, 1)],
  [(57, .ireturn, 1)]])
theorem tX8_turnsBold : tabOK mX8_turnsBold = true := by decide +kernel
def mX8_keepsWithNext : MI := (yX8_keepsWithNext, cX8_keepsWithNext, 4, (some .boolean), [],
  [[(0, .iload_n 1, 1), (1, .istore_n 2, 1), (2, .iconst 0, 1), (3, .istore_n 3, 1), (4, .iload_n 3, 1), (5, .bipush 8, 2), (7, .if_icmp .ge 53, 3), (10, .iload_n 2, 1), (11, .iconst (-1), 1), (12, .if_icmp .eq 48, 3), (15, .aload_n 0, 1), (16, .getfield 18, 3), (19, .iload_n 2, 1), (20, .invokestatic 33, 3), (23, .iconst (-1), 1), (24, .if_icmp .eq 21, 3)],
  [(27, .aload_n 0, 1), (28, .getfield 18, 3), (31, .iload_n 2, 1), (32, .invokestatic 33, 3), (35, .iconst 1, 1), (36, .if_icmp .ne 7, 3), (39, .iconst 1, 1), (40, .goto 4, 3), (43, .iconst 0, 1), (44, .ireturn, 1), (45, .aload_n 0, 1), (46, .getfield 9, 3), (49, .iload_n 2, 1), (50, .invokestatic 33, 3), (53, .istore_n 2, 1), (54, .iinc 3 1, 3)],
  [(57, .goto (-53), 3), (60, .iconst 0, 1), (61, .ireturn, 1)]])
theorem tX8_keepsWithNext : tabOK mX8_keepsWithNext = true := by decide +kernel
def mX9_init : MI := (yX9_init, cX9_init, 1, none, [],
  [[(0, .aload_n 0, 1), (1, .invokespecial 1, 3), (4, .aload_n 0, 1), (5, .iconst 1, 1), (6, .putfield 7, 3), (9, .aload_n 0, 1), (10, .new 13, 3), (13, .dup, 1), (14, .invokespecial 15, 3), (17, .putfield 16, 3), (20, .aload_n 0, 1), (21, .new 20, 3), (24, .dup, 1), (25, .invokespecial 22, 3), (28, .putfield 23, 3), (31, .aload_n 0, 1)],
  [(32, .new 27, 3), (35, .dup, 1), (36, .invokespecial 29, 3), (39, .putfield 30, 3), (42, .aload_n 0, 1), (43, .new 34, 3), (46, .dup, 1), (47, .invokespecial 36, 3), (50, .putfield 37, 3), (53, .aload_n 0, 1), (54, .new 41, 3), (57, .dup, 1), (58, .invokespecial 43, 3), (61, .putfield 44, 3), (64, .aload_n 0, 1), (65, .new 48, 3)],
  [(68, .dup, 1), (69, .invokespecial 50, 3), (72, .putfield 51, 3), (75, .aload_n 0, 1), (76, .new 55, 3), (79, .dup, 1), (80, .invokespecial 57, 3), (83, .putfield 58, 3), (86, .aload_n 0, 1), (87, .bipush 20, 2), (89, .newarray .int, 2), (91, .putfield 62, 3), (94, .return_, 1)]])
theorem tX9_init : tabOK mX9_init = true := by decide +kernel
def mX9_setTracking : MI := (yX9_setTracking, cX9_setTracking, 3, (some .boolean), [],
  [[(0, .aload_n 0, 1), (1, .getfield 7, 3), (4, .istore_n 2, 1), (5, .aload_n 0, 1), (6, .iload_n 1, 1), (7, .putfield 7, 3), (10, .iload_n 2, 1), (11, .ireturn, 1)]])
theorem tX9_setTracking : tabOK mX9_setTracking = true := by decide +kernel
def mX9_insert : MI := (yX9_insert, cX9_insert, 5, (some .int), [],
  [[(0, .iload_n 1, 1), (1, .invokestatic 66, 3), (4, .aload_n 0, 1), (5, .iload_n 2, 1), (6, .invokevirtual 70, 3), (9, .istore 4, 2), (11, .iload_n 3, 1), (12, .invokestatic 74, 3), (15, .ifCond .ne 13, 3), (18, .new 78, 3), (21, .dup, 1), (22, .ldc 80, 2), (24, .invokespecial 82, 3), (27, .athrow, 1), (28, .aload_n 0, 1), (29, .iload_n 1, 1)],
  [(30, .iload 4, 2), (32, .invokevirtual 85, 3), (35, .aload_n 0, 1), (36, .iload_n 1, 1), (37, .iload 4, 2), (39, .iload_n 3, 1), (40, .iconst (-1), 1), (41, .invokevirtual 89, 3), (44, .ireturn, 1)]])
theorem tX9_insert : tabOK mX9_insert = true := by decide +kernel
def mX9_addField : MI := (yX9_addField, cX9_addField, 7, (some .int), [],
  [[(0, .iload_n 1, 1), (1, .invokestatic 66, 3), (4, .aload_n 0, 1), (5, .iload_n 2, 1), (6, .invokevirtual 70, 3), (9, .istore 5, 2), (11, .iload_n 3, 1), (12, .iload 4, 2), (14, .invokestatic 93, 3), (17, .ifCond .ne 13, 3), (20, .new 78, 3), (23, .dup, 1), (24, .ldc 97, 2), (26, .invokespecial 82, 3), (29, .athrow, 1), (30, .aload_n 0, 1)],
  [(31, .getfield 44, 3), (34, .invokevirtual 99, 3), (37, .ifCond .eq 13, 3), (40, .new 103, 3), (43, .dup, 1), (44, .ldc 105, 2), (46, .invokespecial 107, 3), (49, .athrow, 1), (50, .aload_n 0, 1), (51, .iload_n 1, 1), (52, .iload 5, 2), (54, .invokevirtual 85, 3), (57, .aload_n 0, 1), (58, .getfield 44, 3), (61, .iload_n 3, 1), (62, .iload 4, 2)],
  [(64, .invokevirtual 108, 3), (67, .istore 6, 2), (69, .aload_n 0, 1), (70, .iload_n 1, 1), (71, .iload 5, 2), (73, .bipush 64, 2), (75, .iload 6, 2), (77, .invokevirtual 89, 3), (80, .pop, 1), (81, .iload 6, 2), (83, .ireturn, 1)]])
theorem tX9_addField : tabOK mX9_addField = true := by decide +kernel
def mX9_erase : MI := (yX9_erase, cX9_erase, 8, (some .int), [],
  [[(0, .iload_n 1, 1), (1, .invokestatic 66, 3), (4, .aload_n 0, 1), (5, .iload_n 2, 1), (6, .invokevirtual 70, 3), (9, .istore 4, 2), (11, .aload_n 0, 1), (12, .iload_n 3, 1), (13, .invokevirtual 70, 3), (16, .istore 5, 2), (18, .iload_n 2, 1), (19, .iload_n 3, 1), (20, .if_icmp .lt 13, 3), (23, .new 78, 3), (26, .dup, 1), (27, .ldc 112, 2)],
  [(29, .invokespecial 82, 3), (32, .athrow, 1), (33, .aload_n 0, 1), (34, .getfield 16, 3), (37, .invokevirtual 114, 3), (40, .astore 6, 2), (42, .aload_n 0, 1), (43, .getfield 7, 3), (46, .ifCond .eq 37, 3), (49, .aload 6, 2), (51, .getfield 118, 3), (54, .invokevirtual 122, 3), (57, .ifCond .eq 26, 3), (60, .aload 6, 2), (62, .iload_n 1, 1), (63, .iload 4, 2)],
  [(65, .iload 5, 2), (67, .invokevirtual 125, 3), (70, .ifCond .eq 13, 3), (73, .new 103, 3), (76, .dup, 1), (77, .ldc 129, 2), (79, .invokespecial 107, 3), (82, .athrow, 1), (83, .aload 6, 2), (85, .getfield 131, 3), (88, .iload 4, 2), (90, .iload 5, 2), (92, .invokevirtual 135, 3), (95, .ifCond .eq 13, 3), (98, .new 141, 3), (101, .dup, 1)],
  [(102, .ldc 143, 2), (104, .invokespecial 145, 3), (107, .athrow, 1), (108, .aload_n 0, 1), (109, .getfield 16, 3), (112, .invokevirtual 146, 3), (115, .astore 7, 2), (117, .aload_n 0, 1), (118, .getfield 7, 3), (121, .ifCond .eq 14, 3), (124, .aload 7, 2), (126, .iload_n 1, 1), (127, .iload 4, 2), (129, .iload 5, 2), (131, .invokevirtual 149, 3), (134, .ireturn, 1)],
  [(135, .aload 7, 2), (137, .getfield 131, 3), (140, .iload 4, 2), (142, .iload 5, 2), (144, .invokevirtual 153, 3), (147, .iconst (-1), 1), (148, .ireturn, 1)]])
theorem tX9_erase : tabOK mX9_erase = true := by decide +kernel
def mX9_setStyle : MI := (yX9_setStyle, cX9_setStyle, 7, (some .int), [],
  [[(0, .iload_n 1, 1), (1, .invokestatic 66, 3), (4, .aload_n 0, 1), (5, .iload_n 2, 1), (6, .invokevirtual 156, 3), (9, .istore 4, 2), (11, .aload_n 0, 1), (12, .getfield 30, 3), (15, .iload_n 3, 1), (16, .invokevirtual 159, 3), (19, .ifCond .ne 13, 3), (22, .new 163, 3), (25, .dup, 1), (26, .ldc 165, 2), (28, .invokespecial 167, 3), (31, .athrow, 1)],
  [(32, .aload_n 0, 1), (33, .getfield 16, 3), (36, .invokevirtual 114, 3), (39, .astore 5, 2), (41, .aload_n 0, 1), (42, .getfield 7, 3), (45, .ifCond .eq 39, 3), (48, .aload 5, 2), (50, .getfield 118, 3), (53, .invokevirtual 122, 3), (56, .ifCond .eq 28, 3), (59, .aload 5, 2), (61, .getfield 131, 3), (64, .iconst 4, 1), (65, .iload 4, 2), (67, .invokevirtual 168, 3)],
  [(70, .iconst (-1), 1), (71, .if_icmp .ne 13, 3), (74, .new 103, 3), (77, .dup, 1), (78, .ldc 129, 2), (80, .invokespecial 107, 3), (83, .athrow, 1), (84, .aload_n 0, 1), (85, .iload 4, 2), (87, .invokevirtual 172, 3), (90, .aload_n 0, 1), (91, .getfield 16, 3), (94, .invokevirtual 146, 3), (97, .astore 6, 2), (99, .aload_n 0, 1), (100, .getfield 7, 3)],
  [(103, .ifCond .eq 13, 3), (106, .aload 6, 2), (108, .iload_n 1, 1), (109, .iload 4, 2), (111, .iload_n 3, 1), (112, .invokevirtual 175, 3), (115, .ireturn, 1), (116, .aload 6, 2), (118, .iload 4, 2), (120, .iload_n 3, 1), (121, .invokevirtual 178, 3), (124, .iconst (-1), 1), (125, .ireturn, 1)]])
theorem tX9_setStyle : tabOK mX9_setStyle = true := by decide +kernel
def mX9_protect : MI := (yX9_protect, cX9_protect, 5, (some .boolean), [],
  [[(0, .aload_n 0, 1), (1, .iload_n 1, 1), (2, .invokevirtual 156, 3), (5, .istore_n 3, 1), (6, .aload_n 0, 1), (7, .getfield 16, 3), (10, .invokevirtual 114, 3), (13, .getfield 131, 3), (16, .bipush 10, 2), (18, .iload_n 3, 1), (19, .invokevirtual 168, 3), (22, .iconst 1, 1), (23, .if_icmp .ne 7, 3), (26, .iconst 1, 1), (27, .goto 4, 3), (30, .iconst 0, 1)],
  [(31, .istore 4, 2), (33, .aload_n 0, 1), (34, .getfield 16, 3), (37, .invokevirtual 146, 3), (40, .getfield 131, 3), (43, .bipush 10, 2), (45, .iload_n 3, 1), (46, .iload_n 2, 1), (47, .ifCond .eq 7, 3), (50, .iconst 1, 1), (51, .goto 4, 3), (54, .iconst 0, 1), (55, .invokevirtual 181, 3), (58, .iload 4, 2), (60, .ireturn, 1)]])
theorem tX9_protect : tabOK mX9_protect = true := by decide +kernel
def mX9_undo : MI := (yX9_undo, cX9_undo, 1, (some .int), [],
  [[(0, .aload_n 0, 1), (1, .getfield 16, 3), (4, .invokevirtual 185, 3), (7, .ifCond .ne 13, 3), (10, .new 188, 3), (13, .dup, 1), (14, .ldc 190, 2), (16, .invokespecial 192, 3), (19, .athrow, 1), (20, .aload_n 0, 1), (21, .getfield 16, 3), (24, .invokevirtual 193, 3), (27, .ireturn, 1)]])
theorem tX9_undo : tabOK mX9_undo = true := by decide +kernel
def mX9_redo : MI := (yX9_redo, cX9_redo, 1, (some .int), [],
  [[(0, .aload_n 0, 1), (1, .getfield 16, 3), (4, .invokevirtual 197, 3), (7, .ifCond .ne 13, 3), (10, .new 188, 3), (13, .dup, 1), (14, .ldc 200, 2), (16, .invokespecial 192, 3), (19, .athrow, 1), (20, .aload_n 0, 1), (21, .getfield 16, 3), (24, .invokevirtual 202, 3), (27, .ireturn, 1)]])
theorem tX9_redo : tabOK mX9_redo = true := by decide +kernel
def mX9_length : MI := (yX9_length, cX9_length, 1, (some .int), [],
  [[(0, .aload_n 0, 1), (1, .getfield 16, 3), (4, .invokevirtual 114, 3), (7, .getfield 131, 3), (10, .invokevirtual 205, 3), (13, .ireturn, 1)]])
theorem tX9_length : tabOK mX9_length = true := by decide +kernel
def mX9_unitAt : MI := (yX9_unitAt, cX9_unitAt, 2, (some .char), [],
  [[(0, .aload_n 0, 1), (1, .getfield 16, 3), (4, .invokevirtual 114, 3), (7, .getfield 131, 3), (10, .iconst 0, 1), (11, .aload_n 0, 1), (12, .iload_n 1, 1), (13, .invokevirtual 208, 3), (16, .invokevirtual 168, 3), (19, .i2c, 1), (20, .ireturn, 1)]])
theorem tX9_unitAt : tabOK mX9_unitAt = true := by decide +kernel
def mX9_oldLength : MI := (yX9_oldLength, cX9_oldLength, 1, (some .int), [],
  [[(0, .aload_n 0, 1), (1, .getfield 16, 3), (4, .invokevirtual 114, 3), (7, .getfield 131, 3), (10, .invokevirtual 211, 3), (13, .ireturn, 1)]])
theorem tX9_oldLength : tabOK mX9_oldLength = true := by decide +kernel
def mX9_oldAt : MI := (yX9_oldAt, cX9_oldAt, 4, (some .char), [],
  [[(0, .aload_n 0, 1), (1, .getfield 16, 3), (4, .invokevirtual 114, 3), (7, .getfield 131, 3), (10, .astore_n 2, 1), (11, .aload_n 2, 1), (12, .iload_n 1, 1), (13, .invokevirtual 214, 3), (16, .istore_n 3, 1), (17, .iload_n 3, 1), (18, .iconst (-1), 1), (19, .if_icmp .ne 13, 3), (22, .new 163, 3), (25, .dup, 1), (26, .ldc 217, 2), (28, .invokespecial 167, 3)],
  [(31, .athrow, 1), (32, .aload_n 2, 1), (33, .iconst 0, 1), (34, .iload_n 3, 1), (35, .invokevirtual 168, 3), (38, .i2c, 1), (39, .ireturn, 1)]])
theorem tX9_oldAt : tabOK mX9_oldAt = true := by decide +kernel
def mX9_paragraphs : MI := (yX9_paragraphs, cX9_paragraphs, 1, (some .int), [],
  [[(0, .aload_n 0, 1), (1, .getfield 16, 3), (4, .invokevirtual 114, 3), (7, .getfield 131, 3), (10, .invokevirtual 219, 3), (13, .ireturn, 1)]])
theorem tX9_paragraphs : tabOK mX9_paragraphs = true := by decide +kernel
def mX9_paragraphOf : MI := (yX9_paragraphOf, cX9_paragraphOf, 2, (some .int), [],
  [[(0, .aload_n 0, 1), (1, .getfield 16, 3), (4, .invokevirtual 114, 3), (7, .getfield 131, 3), (10, .aload_n 0, 1), (11, .iload_n 1, 1), (12, .invokevirtual 70, 3), (15, .invokevirtual 222, 3), (18, .ireturn, 1)]])
theorem tX9_paragraphOf : tabOK mX9_paragraphOf = true := by decide +kernel
def mX9_startOf : MI := (yX9_startOf, cX9_startOf, 2, (some .int), [],
  [[(0, .aload_n 0, 1), (1, .iload_n 1, 1), (2, .invokevirtual 156, 3), (5, .pop, 1), (6, .aload_n 0, 1), (7, .getfield 16, 3), (10, .invokevirtual 114, 3), (13, .getfield 131, 3), (16, .iload_n 1, 1), (17, .invokevirtual 225, 3), (20, .ireturn, 1)]])
theorem tX9_startOf : tabOK mX9_startOf = true := by decide +kernel
def mX9_changes : MI := (yX9_changes, cX9_changes, 1, (some .int), [],
  [[(0, .aload_n 0, 1), (1, .getfield 16, 3), (4, .invokevirtual 114, 3), (7, .getfield 118, 3), (10, .invokevirtual 228, 3), (13, .ireturn, 1)]])
theorem tX9_changes : tabOK mX9_changes = true := by decide +kernel
def mX9_kindOf : MI := (yX9_kindOf, cX9_kindOf, 2, (some .char), [],
  [[(0, .aload_n 0, 1), (1, .iload_n 1, 1), (2, .invokevirtual 231, 3), (5, .aload_n 0, 1), (6, .getfield 16, 3), (9, .invokevirtual 114, 3), (12, .getfield 118, 3), (15, .iload_n 1, 1), (16, .invokevirtual 234, 3), (19, .ireturn, 1)]])
theorem tX9_kindOf : tabOK mX9_kindOf = true := by decide +kernel
def mX9_authorOf : MI := (yX9_authorOf, cX9_authorOf, 2, (some .int), [],
  [[(0, .aload_n 0, 1), (1, .iload_n 1, 1), (2, .invokevirtual 231, 3), (5, .aload_n 0, 1), (6, .getfield 16, 3), (9, .invokevirtual 114, 3), (12, .getfield 118, 3), (15, .iload_n 1, 1), (16, .invokevirtual 238, 3), (19, .ireturn, 1)]])
theorem tX9_authorOf : tabOK mX9_authorOf = true := by decide +kernel
def mX9_stateOf : MI := (yX9_stateOf, cX9_stateOf, 2, (some .char), [],
  [[(0, .aload_n 0, 1), (1, .iload_n 1, 1), (2, .invokevirtual 231, 3), (5, .aload_n 0, 1), (6, .getfield 16, 3), (9, .invokevirtual 114, 3), (12, .getfield 118, 3), (15, .iload_n 1, 1), (16, .invokevirtual 241, 3), (19, .ireturn, 1)]])
theorem tX9_stateOf : tabOK mX9_stateOf = true := by decide +kernel
def mX9_unitsOf : MI := (yX9_unitsOf, cX9_unitsOf, 2, (some .int), [],
  [[(0, .aload_n 0, 1), (1, .iload_n 1, 1), (2, .invokevirtual 231, 3), (5, .aload_n 0, 1), (6, .getfield 16, 3), (9, .invokevirtual 114, 3), (12, .getfield 131, 3), (15, .iload_n 1, 1), (16, .invokevirtual 244, 3), (19, .ireturn, 1)]])
theorem tX9_unitsOf : tabOK mX9_unitsOf = true := by decide +kernel
def mX9_changeAt : MI := (yX9_changeAt, cX9_changeAt, 3, (some .int), [],
  [[(0, .aload_n 0, 1), (1, .getfield 16, 3), (4, .invokevirtual 114, 3), (7, .getfield 131, 3), (10, .iconst 2, 1), (11, .aload_n 0, 1), (12, .iload_n 1, 1), (13, .invokevirtual 208, 3), (16, .invokevirtual 168, 3), (19, .istore_n 2, 1), (20, .iload_n 2, 1), (21, .iconst (-1), 1), (22, .if_icmp .ne 13, 3), (25, .new 188, 3), (28, .dup, 1), (29, .ldc 247, 2)],
  [(31, .invokespecial 192, 3), (34, .athrow, 1), (35, .iload_n 2, 1), (36, .ireturn, 1)]])
theorem tX9_changeAt : tabOK mX9_changeAt = true := by decide +kernel
def mX9_accept : MI := (yX9_accept, cX9_accept, 2, (some .int), [],
  [[(0, .aload_n 0, 1), (1, .iload_n 1, 1), (2, .invokevirtual 249, 3), (5, .aload_n 0, 1), (6, .getfield 16, 3), (9, .invokevirtual 146, 3), (12, .iload_n 1, 1), (13, .iconst 1, 1), (14, .invokevirtual 252, 3), (17, .ireturn, 1)]])
theorem tX9_accept : tabOK mX9_accept = true := by decide +kernel
def mX9_refuse : MI := (yX9_refuse, cX9_refuse, 2, (some .int), [],
  [[(0, .aload_n 0, 1), (1, .iload_n 1, 1), (2, .invokevirtual 249, 3), (5, .aload_n 0, 1), (6, .getfield 16, 3), (9, .invokevirtual 146, 3), (12, .iload_n 1, 1), (13, .iconst 0, 1), (14, .invokevirtual 252, 3), (17, .ireturn, 1)]])
theorem tX9_refuse : tabOK mX9_refuse = true := by decide +kernel
def mX9_judge : MI := (yX9_judge, cX9_judge, 3, (some .int), [],
  [[(0, .iload_n 1, 1), (1, .iconst (-1), 1), (2, .if_icmp .eq 7, 3), (5, .iload_n 1, 1), (6, .invokestatic 66, 3), (9, .aload_n 0, 1), (10, .getfield 16, 3), (13, .invokevirtual 146, 3), (16, .iload_n 1, 1), (17, .iload_n 2, 1), (18, .invokevirtual 256, 3), (21, .ireturn, 1)]])
theorem tX9_judge : tabOK mX9_judge = true := by decide +kernel
def mX9_addStyle : MI := (yX9_addStyle, cX9_addStyle, 4, (some .int), [],
  [[(0, .iload_n 1, 1), (1, .iconst (-1), 1), (2, .if_icmp .eq 24, 3), (5, .aload_n 0, 1), (6, .getfield 30, 3), (9, .iload_n 1, 1), (10, .invokevirtual 159, 3), (13, .ifCond .ne 13, 3), (16, .new 78, 3), (19, .dup, 1), (20, .ldc 165, 2), (22, .invokespecial 82, 3), (25, .athrow, 1), (26, .iload_n 3, 1), (27, .iconst (-1), 1), (28, .if_icmp .lt 8, 3)],
  [(31, .iload_n 3, 1), (32, .iconst 1, 1), (33, .if_icmp .le 14, 3), (36, .new 78, 3), (39, .dup, 1), (40, .ldc_w 259, 3), (43, .invokespecial 82, 3), (46, .athrow, 1), (47, .aload_n 0, 1), (48, .getfield 30, 3), (51, .invokevirtual 261, 3), (54, .ifCond .eq 14, 3), (57, .new 103, 3), (60, .dup, 1), (61, .ldc_w 262, 3), (64, .invokespecial 107, 3)],
  [(67, .athrow, 1), (68, .aload_n 0, 1), (69, .getfield 30, 3), (72, .iload_n 1, 1), (73, .iload_n 2, 1), (74, .iload_n 3, 1), (75, .invokevirtual 264, 3), (78, .ireturn, 1)]])
theorem tX9_addStyle : tabOK mX9_addStyle = true := by decide +kernel
def mX9_styleOf : MI := (yX9_styleOf, cX9_styleOf, 2, (some .int), [],
  [[(0, .aload_n 0, 1), (1, .getfield 16, 3), (4, .invokevirtual 114, 3), (7, .getfield 131, 3), (10, .iconst 5, 1), (11, .aload_n 0, 1), (12, .iload_n 1, 1), (13, .invokevirtual 156, 3), (16, .invokevirtual 168, 3), (19, .ireturn, 1)]])
theorem tX9_styleOf : tabOK mX9_styleOf = true := by decide +kernel
def mX9_isBold : MI := (yX9_isBold, cX9_isBold, 2, (some .boolean), [],
  [[(0, .aload_n 0, 1), (1, .getfield 30, 3), (4, .aload_n 0, 1), (5, .getfield 16, 3), (8, .invokevirtual 114, 3), (11, .getfield 131, 3), (14, .iconst 5, 1), (15, .aload_n 0, 1), (16, .iload_n 1, 1), (17, .invokevirtual 156, 3), (20, .invokevirtual 168, 3), (23, .invokevirtual 267, 3), (26, .ireturn, 1)]])
theorem tX9_isBold : tabOK mX9_isBold = true := by decide +kernel
def mX9_setList : MI := (yX9_setList, cX9_setList, 7, (some .int), [],
  [[(0, .aload_n 0, 1), (1, .iload_n 1, 1), (2, .invokevirtual 156, 3), (5, .istore 4, 2), (7, .iload_n 2, 1), (8, .iconst (-1), 1), (9, .if_icmp .eq 30, 3), (12, .iload_n 2, 1), (13, .iconst 3, 1), (14, .invokestatic 270, 3), (17, .ifCond .eq 11, 3), (20, .iload_n 3, 1), (21, .iconst 3, 1), (22, .invokestatic 270, 3), (25, .ifCond .ne 14, 3), (28, .new 78, 3)],
  [(31, .dup, 1), (32, .ldc_w 273, 3), (35, .invokespecial 82, 3), (38, .athrow, 1), (39, .aload_n 0, 1), (40, .iload 4, 2), (42, .invokevirtual 172, 3), (45, .aload_n 0, 1), (46, .getfield 16, 3), (49, .invokevirtual 114, 3), (52, .getfield 131, 3), (55, .bipush 7, 2), (57, .iload 4, 2), (59, .invokevirtual 168, 3), (62, .istore 5, 2), (64, .aload_n 0, 1)],
  [(65, .getfield 16, 3), (68, .invokevirtual 146, 3), (71, .getfield 131, 3), (74, .astore 6, 2), (76, .aload 6, 2), (78, .bipush 7, 2), (80, .iload 4, 2), (82, .iload_n 2, 1), (83, .invokevirtual 181, 3), (86, .aload 6, 2), (88, .bipush 8, 2), (90, .iload 4, 2), (92, .iload_n 2, 1), (93, .iconst (-1), 1), (94, .if_icmp .ne 7, 3), (97, .iconst 0, 1)],
  [(98, .goto 4, 3), (101, .iload_n 3, 1), (102, .invokevirtual 181, 3), (105, .iload 5, 2), (107, .ireturn, 1)]])
theorem tX9_setList : tabOK mX9_setList = true := by decide +kernel
def mX9_restart : MI := (yX9_restart, cX9_restart, 5, (some .int), [],
  [[(0, .aload_n 0, 1), (1, .iload_n 1, 1), (2, .invokevirtual 156, 3), (5, .istore_n 3, 1), (6, .iload_n 2, 1), (7, .ifCond .lt 9, 3), (10, .iload_n 2, 1), (11, .bipush 99, 2), (13, .if_icmp .le 14, 3), (16, .new 78, 3), (19, .dup, 1), (20, .ldc_w 259, 3), (23, .invokespecial 82, 3), (26, .athrow, 1), (27, .aload_n 0, 1), (28, .iload_n 3, 1)],
  [(29, .invokevirtual 172, 3), (32, .aload_n 0, 1), (33, .getfield 16, 3), (36, .invokevirtual 114, 3), (39, .getfield 131, 3), (42, .bipush 9, 2), (44, .iload_n 3, 1), (45, .invokevirtual 168, 3), (48, .istore 4, 2), (50, .aload_n 0, 1), (51, .getfield 16, 3), (54, .invokevirtual 146, 3), (57, .getfield 131, 3), (60, .bipush 9, 2), (62, .iload_n 3, 1), (63, .iload_n 2, 1)],
  [(64, .invokevirtual 181, 3), (67, .iload 4, 2), (69, .ireturn, 1)]])
theorem tX9_restart : tabOK mX9_restart = true := by decide +kernel
def mX9_setKind : MI := (yX9_setKind, cX9_setKind, 4, (some .char), [],
  [[(0, .iload_n 1, 1), (1, .iconst 3, 1), (2, .invokestatic 270, 3), (5, .ifCond .eq 11, 3), (8, .iload_n 2, 1), (9, .iconst 3, 1), (10, .invokestatic 270, 3), (13, .ifCond .ne 14, 3), (16, .new 78, 3), (19, .dup, 1), (20, .ldc_w 273, 3), (23, .invokespecial 82, 3), (26, .athrow, 1), (27, .iload_n 3, 1), (28, .bipush 100, 2), (30, .if_icmp .eq 26, 3)],
  [(33, .iload_n 3, 1), (34, .bipush 97, 2), (36, .if_icmp .eq 20, 3), (39, .iload_n 3, 1), (40, .bipush 114, 2), (42, .if_icmp .eq 14, 3), (45, .new 78, 3), (48, .dup, 1), (49, .ldc_w 275, 3), (52, .invokespecial 82, 3), (55, .athrow, 1), (56, .aload_n 0, 1), (57, .getfield 37, 3), (60, .iload_n 1, 1), (61, .iload_n 2, 1), (62, .iload_n 3, 1)],
  [(63, .invokevirtual 277, 3), (66, .ireturn, 1)]])
theorem tX9_setKind : tabOK mX9_setKind = true := by decide +kernel
def mX9_setLegal : MI := (yX9_setLegal, cX9_setLegal, 3, (some .boolean), [],
  [[(0, .iload_n 1, 1), (1, .iconst 3, 1), (2, .invokestatic 270, 3), (5, .ifCond .ne 14, 3), (8, .new 78, 3), (11, .dup, 1), (12, .ldc_w 281, 3), (15, .invokespecial 82, 3), (18, .athrow, 1), (19, .aload_n 0, 1), (20, .getfield 37, 3), (23, .iload_n 1, 1), (24, .iload_n 2, 1), (25, .invokevirtual 283, 3), (28, .ireturn, 1)]])
theorem tX9_setLegal : tabOK mX9_setLegal = true := by decide +kernel
def mX9_numberOf : MI := (yX9_numberOf, cX9_numberOf, 2, (some .int), [],
  [[(0, .aload_n 0, 1), (1, .getfield 37, 3), (4, .aload_n 0, 1), (5, .getfield 16, 3), (8, .invokevirtual 114, 3), (11, .getfield 131, 3), (14, .aload_n 0, 1), (15, .iload_n 1, 1), (16, .invokevirtual 156, 3), (19, .invokevirtual 287, 3), (22, .ireturn, 1)]])
theorem tX9_numberOf : tabOK mX9_numberOf = true := by decide +kernel
def mX9_writeNumber : MI := (yX9_writeNumber, cX9_writeNumber, 4, (some .int), [],
  [[(0, .aload_n 0, 1), (1, .iload_n 1, 1), (2, .invokevirtual 156, 3), (5, .istore_n 2, 1), (6, .aload_n 0, 1), (7, .getfield 16, 3), (10, .invokevirtual 114, 3), (13, .getfield 131, 3), (16, .astore_n 3, 1), (17, .aload_n 3, 1), (18, .bipush 7, 2), (20, .iload_n 2, 1), (21, .invokevirtual 168, 3), (24, .iconst (-1), 1), (25, .if_icmp .ne 14, 3), (28, .new 188, 3)],
  [(31, .dup, 1), (32, .ldc_w 291, 3), (35, .invokespecial 192, 3), (38, .athrow, 1), (39, .aload_n 0, 1), (40, .getfield 37, 3), (43, .aload_n 3, 1), (44, .iload_n 2, 1), (45, .invokevirtual 293, 3), (48, .ireturn, 1)]])
theorem tX9_writeNumber : tabOK mX9_writeNumber = true := by decide +kernel
def mX9_lineAt : MI := (yX9_lineAt, cX9_lineAt, 2, (some .char), [],
  [[(0, .iload_n 1, 1), (1, .aload_n 0, 1), (2, .getfield 37, 3), (5, .invokevirtual 296, 3), (8, .invokestatic 270, 3), (11, .ifCond .ne 14, 3), (14, .new 163, 3), (17, .dup, 1), (18, .ldc_w 299, 3), (21, .invokespecial 167, 3), (24, .athrow, 1), (25, .aload_n 0, 1), (26, .getfield 37, 3), (29, .iload_n 1, 1), (30, .invokevirtual 301, 3), (33, .ireturn, 1)]])
theorem tX9_lineAt : tabOK mX9_lineAt = true := by decide +kernel
def mX9_setBookmark : MI := (yX9_setBookmark, cX9_setBookmark, 6, (some .int), [],
  [[(0, .iload_n 1, 1), (1, .invokestatic 304, 3), (4, .aload_n 0, 1), (5, .iload_n 2, 1), (6, .invokevirtual 70, 3), (9, .istore 4, 2), (11, .aload_n 0, 1), (12, .iload_n 3, 1), (13, .invokevirtual 70, 3), (16, .istore 5, 2), (18, .iload_n 3, 1), (19, .iload_n 2, 1), (20, .if_icmp .ge 14, 3), (23, .new 78, 3), (26, .dup, 1), (27, .ldc_w 307, 3)],
  [(30, .invokespecial 82, 3), (33, .athrow, 1), (34, .aload_n 0, 1), (35, .getfield 16, 3), (38, .invokevirtual 146, 3), (41, .getfield 131, 3), (44, .iload_n 1, 1), (45, .iload 4, 2), (47, .iload 5, 2), (49, .invokevirtual 309, 3), (52, .iload_n 3, 1), (53, .iload_n 2, 1), (54, .isub, 1), (55, .ireturn, 1)]])
theorem tX9_setBookmark : tabOK mX9_setBookmark = true := by decide +kernel
def mX9_bookmarkFrom : MI := (yX9_bookmarkFrom, cX9_bookmarkFrom, 2, (some .int), [],
  [[(0, .aload_n 0, 1), (1, .iload_n 1, 1), (2, .invokevirtual 312, 3), (5, .aload_n 0, 1), (6, .getfield 16, 3), (9, .invokevirtual 114, 3), (12, .getfield 131, 3), (15, .iload_n 1, 1), (16, .invokevirtual 315, 3), (19, .ireturn, 1)]])
theorem tX9_bookmarkFrom : tabOK mX9_bookmarkFrom = true := by decide +kernel
def mX9_bookmarkTo : MI := (yX9_bookmarkTo, cX9_bookmarkTo, 2, (some .int), [],
  [[(0, .aload_n 0, 1), (1, .iload_n 1, 1), (2, .invokevirtual 312, 3), (5, .aload_n 0, 1), (6, .getfield 16, 3), (9, .invokevirtual 114, 3), (12, .getfield 131, 3), (15, .iload_n 1, 1), (16, .invokevirtual 318, 3), (19, .ireturn, 1)]])
theorem tX9_bookmarkTo : tabOK mX9_bookmarkTo = true := by decide +kernel
def mX9_lock : MI := (yX9_lock, cX9_lock, 3, (some .boolean), [],
  [[(0, .aload_n 0, 1), (1, .iload_n 1, 1), (2, .invokevirtual 321, 3), (5, .aload_n 0, 1), (6, .getfield 44, 3), (9, .iload_n 1, 1), (10, .iload_n 2, 1), (11, .invokevirtual 324, 3), (14, .ireturn, 1)]])
theorem tX9_lock : tabOK mX9_lock = true := by decide +kernel
def mX9_result : MI := (yX9_result, cX9_result, 2, (some .int), [],
  [[(0, .aload_n 0, 1), (1, .iload_n 1, 1), (2, .invokevirtual 321, 3), (5, .aload_n 0, 1), (6, .getfield 16, 3), (9, .invokevirtual 114, 3), (12, .iload_n 1, 1), (13, .invokevirtual 327, 3), (16, .ireturn, 1)]])
theorem tX9_result : tabOK mX9_result = true := by decide +kernel
def mX9_update : MI := (yX9_update, cX9_update, 1, (some .int), [],
  [[(0, .aload_n 0, 1), (1, .aload_n 0, 1), (2, .getfield 51, 3), (5, .invokevirtual 330, 3), (8, .invokevirtual 333, 3), (11, .ireturn, 1)]])
theorem tX9_update : tabOK mX9_update = true := by decide +kernel
def mX9_setRecord : MI := (yX9_setRecord, cX9_setRecord, 4, (some .int), [],
  [[(0, .iload_n 1, 1), (1, .iconst 5, 1), (2, .invokestatic 270, 3), (5, .ifCond .eq 22, 3), (8, .iload_n 2, 1), (9, .iconst 3, 1), (10, .invokestatic 270, 3), (13, .ifCond .eq 14, 3), (16, .iload_n 3, 1), (17, .ifCond .lt 10, 3), (20, .iload_n 3, 1), (21, .sipush 9999, 3), (24, .if_icmp .le 14, 3), (27, .new 78, 3), (30, .dup, 1), (31, .ldc_w 336, 3)],
  [(34, .invokespecial 82, 3), (37, .athrow, 1), (38, .aload_n 0, 1), (39, .getfield 51, 3), (42, .iload_n 1, 1), (43, .iload_n 2, 1), (44, .iload_n 3, 1), (45, .invokevirtual 338, 3), (48, .ireturn, 1)]])
theorem tX9_setRecord : tabOK mX9_setRecord = true := by decide +kernel
def mX9_choose : MI := (yX9_choose, cX9_choose, 2, (some .int), [],
  [[(0, .iload_n 1, 1), (1, .iconst 5, 1), (2, .invokestatic 270, 3), (5, .ifCond .ne 14, 3), (8, .new 78, 3), (11, .dup, 1), (12, .ldc_w 341, 3), (15, .invokespecial 82, 3), (18, .athrow, 1), (19, .aload_n 0, 1), (20, .getfield 51, 3), (23, .iload_n 1, 1), (24, .invokevirtual 343, 3), (27, .ireturn, 1)]])
theorem tX9_choose : tabOK mX9_choose = true := by decide +kernel
def mX9_merge : MI := (yX9_merge, cX9_merge, 6, (some .int), [],
  [[(0, .iload_n 1, 1), (1, .iconst 3, 1), (2, .invokestatic 270, 3), (5, .ifCond .ne 14, 3), (8, .new 78, 3), (11, .dup, 1), (12, .ldc_w 346, 3), (15, .invokespecial 82, 3), (18, .athrow, 1), (19, .aload_n 0, 1), (20, .getfield 16, 3), (23, .invokevirtual 114, 3), (26, .getfield 348, 3), (29, .astore_n 3, 1), (30, .iconst 0, 1), (31, .istore 4, 2)],
  [(33, .iconst 0, 1), (34, .istore 5, 2), (36, .iload 5, 2), (38, .iconst 5, 1), (39, .if_icmp .ge 63, 3), (42, .aload_n 0, 1), (43, .getfield 51, 3), (46, .iload 5, 2), (48, .iload_n 1, 1), (49, .invokevirtual 351, 3), (52, .iload_n 2, 1), (53, .if_icmp .eq 43, 3), (56, .aload_n 3, 1), (57, .iconst 0, 1), (58, .aload_n 0, 1), (59, .getfield 62, 3)],
  [(62, .iconst 0, 1), (63, .bipush 20, 2), (65, .invokestatic 354, 3), (68, .aload_n 0, 1), (69, .iload 5, 2), (71, .invokevirtual 333, 3), (74, .pop, 1), (75, .iload 4, 2), (77, .aload_n 0, 1), (78, .invokevirtual 360, 3), (81, .iadd, 1), (82, .istore 4, 2), (84, .aload_n 0, 1), (85, .getfield 62, 3), (88, .iconst 0, 1), (89, .aload_n 3, 1)],
  [(90, .iconst 0, 1), (91, .bipush 20, 2), (93, .invokestatic 354, 3), (96, .iinc 5 1, 3), (99, .goto (-63), 3), (102, .iload 4, 2), (104, .ireturn, 1)]])
theorem tX9_merge : tabOK mX9_merge = true := by decide +kernel
def mX9_setPage : MI := (yX9_setPage, cX9_setPage, 3, (some .int), [],
  [[(0, .iload_n 1, 1), (1, .iconst 5, 1), (2, .if_icmp .lt 20, 3), (5, .iload_n 1, 1), (6, .bipush 60, 2), (8, .if_icmp .gt 14, 3), (11, .iload_n 2, 1), (12, .iconst 2, 1), (13, .if_icmp .lt 9, 3), (16, .iload_n 2, 1), (17, .bipush 40, 2), (19, .if_icmp .le 14, 3), (22, .new 78, 3), (25, .dup, 1), (26, .ldc_w 336, 3), (29, .invokespecial 82, 3)],
  [(32, .athrow, 1), (33, .aload_n 0, 1), (34, .getfield 58, 3), (37, .iload_n 1, 1), (38, .iload_n 2, 1), (39, .invokevirtual 363, 3), (42, .ireturn, 1)]])
theorem tX9_setPage : tabOK mX9_setPage = true := by decide +kernel
def mX9_pages : MI := (yX9_pages, cX9_pages, 1, (some .int), [],
  [[(0, .aload_n 0, 1), (1, .invokevirtual 366, 3), (4, .aload_n 0, 1), (5, .getfield 58, 3), (8, .invokevirtual 369, 3), (11, .ireturn, 1)]])
theorem tX9_pages : tabOK mX9_pages = true := by decide +kernel
def mX9_pageOf : MI := (yX9_pageOf, cX9_pageOf, 2, (some .int), [],
  [[(0, .aload_n 0, 1), (1, .iload_n 1, 1), (2, .invokevirtual 70, 3), (5, .pop, 1), (6, .aload_n 0, 1), (7, .invokevirtual 366, 3), (10, .aload_n 0, 1), (11, .getfield 58, 3), (14, .iload_n 1, 1), (15, .invokevirtual 372, 3), (18, .ireturn, 1)]])
theorem tX9_pageOf : tabOK mX9_pageOf = true := by decide +kernel
def mX9_lineOf : MI := (yX9_lineOf, cX9_lineOf, 2, (some .int), [],
  [[(0, .aload_n 0, 1), (1, .iload_n 1, 1), (2, .invokevirtual 70, 3), (5, .pop, 1), (6, .aload_n 0, 1), (7, .invokevirtual 366, 3), (10, .aload_n 0, 1), (11, .getfield 58, 3), (14, .iload_n 1, 1), (15, .invokevirtual 375, 3), (18, .ireturn, 1)]])
theorem tX9_lineOf : tabOK mX9_lineOf = true := by decide +kernel
def mX9_waitingShare : MI := (yX9_waitingShare, cX9_waitingShare, 3, (some .float), [],
  [[(0, .aload_n 0, 1), (1, .getfield 16, 3), (4, .invokevirtual 114, 3), (7, .getfield 131, 3), (10, .astore_n 1, 1), (11, .aload_n 1, 1), (12, .invokevirtual 378, 3), (15, .istore_n 2, 1), (16, .iload_n 2, 1), (17, .ifCond .gt 14, 3), (20, .new 381, 3), (23, .dup, 1), (24, .ldc_w 383, 3), (27, .invokespecial 385, 3), (30, .athrow, 1), (31, .aload_n 1, 1)],
  [(32, .invokevirtual 386, 3), (35, .i2f, 1), (36, .iload_n 2, 1), (37, .i2f, 1), (38, .fdiv, 1), (39, .freturn, 1)]])
theorem tX9_waitingShare : tabOK mX9_waitingShare = true := by decide +kernel
def mX9_shareBits : MI := (yX9_shareBits, cX9_shareBits, 1, (some .int), [],
  [[(0, .aload_n 0, 1), (1, .invokevirtual 389, 3), (4, .invokestatic 393, 3), (7, .ireturn, 1)]])
theorem tX9_shareBits : tabOK mX9_shareBits = true := by decide +kernel
def mX9_meanParagraph : MI := (yX9_meanParagraph, cX9_meanParagraph, 3, (some .double), [],
  [[(0, .aload_n 0, 1), (1, .getfield 16, 3), (4, .invokevirtual 114, 3), (7, .getfield 131, 3), (10, .astore_n 1, 1), (11, .aload_n 1, 1), (12, .invokevirtual 219, 3), (15, .istore_n 2, 1), (16, .iload_n 2, 1), (17, .ifCond .gt 5, 3), (20, .dconst 0, 1), (21, .dreturn, 1), (22, .aload_n 1, 1), (23, .invokevirtual 205, 3), (26, .iload_n 2, 1), (27, .iconst 1, 1)],
  [(28, .isub, 1), (29, .isub, 1), (30, .i2d, 1), (31, .iload_n 2, 1), (32, .i2d, 1), (33, .ddiv, 1), (34, .dreturn, 1)]])
theorem tX9_meanParagraph : tabOK mX9_meanParagraph = true := by decide +kernel
def mX9_meanBits : MI := (yX9_meanBits, cX9_meanBits, 1, (some .long), [],
  [[(0, .aload_n 0, 1), (1, .invokevirtual 397, 3), (4, .invokestatic 401, 3), (7, .lreturn, 1)]])
theorem tX9_meanBits : tabOK mX9_meanBits = true := by decide +kernel
def mX9_isSound : MI := (yX9_isSound, cX9_isSound, 1, (some .boolean), [],
  [[(0, .aload_n 0, 1), (1, .iconst 0, 1), (2, .iconst 1, 1), (3, .invokevirtual 405, 3), (6, .ifCond .eq 73, 3), (9, .aload_n 0, 1), (10, .iconst 0, 1), (11, .iconst 0, 1), (12, .invokevirtual 405, 3), (15, .ifCond .eq 64, 3), (18, .aload_n 0, 1), (19, .iconst 1, 1), (20, .iconst 1, 1), (21, .invokevirtual 405, 3), (24, .ifCond .eq 55, 3), (27, .aload_n 0, 1)],
  [(28, .iconst 1, 1), (29, .iconst 0, 1), (30, .invokevirtual 405, 3), (33, .ifCond .eq 46, 3), (36, .aload_n 0, 1), (37, .getfield 16, 3), (40, .invokevirtual 114, 3), (43, .getfield 118, 3), (46, .invokevirtual 409, 3), (49, .ifCond .eq 30, 3), (52, .aload_n 0, 1), (53, .getfield 16, 3), (56, .invokevirtual 114, 3), (59, .getfield 131, 3), (62, .invokevirtual 412, 3), (65, .ifCond .eq 14, 3)],
  [(68, .aload_n 0, 1), (69, .invokevirtual 415, 3), (72, .ifCond .eq 7, 3), (75, .iconst 1, 1), (76, .goto 4, 3), (79, .iconst 0, 1), (80, .ireturn, 1)]])
theorem tX9_isSound : tabOK mX9_isSound = true := by decide +kernel
def mX9_isWithin : MI := (yX9_isWithin, cX9_isWithin, 2, (some .boolean), [],
  [[(0, .iload_n 0, 1), (1, .ifCond .lt 12, 3), (4, .iload_n 0, 1), (5, .iload_n 1, 1), (6, .if_icmp .ge 7, 3), (9, .iconst 1, 1), (10, .goto 4, 3), (13, .iconst 0, 1), (14, .ireturn, 1)]])
theorem tX9_isWithin : tabOK mX9_isWithin = true := by decide +kernel
def mX9_cell : MI := (yX9_cell, cX9_cell, 2, (some .int), [],
  [[(0, .iload_n 1, 1), (1, .ifCond .lt 15, 3), (4, .iload_n 1, 1), (5, .aload_n 0, 1), (6, .arraylength, 1), (7, .if_icmp .ge 9, 3), (10, .aload_n 0, 1), (11, .iload_n 1, 1), (12, .iaload, 1), (13, .goto 4, 3), (16, .iconst (-1), 1), (17, .ireturn, 1)]])
theorem tX9_cell : tabOK mX9_cell = true := by decide +kernel
def mX9_setCell : MI := (yX9_setCell, cX9_setCell, 3, none, [],
  [[(0, .iload_n 1, 1), (1, .ifCond .lt 13, 3), (4, .iload_n 1, 1), (5, .aload_n 0, 1), (6, .arraylength, 1), (7, .if_icmp .ge 7, 3), (10, .aload_n 0, 1), (11, .iload_n 1, 1), (12, .iload_n 2, 1), (13, .iastore, 1), (14, .return_, 1)]])
theorem tX9_setCell : tabOK mX9_setCell = true := by decide +kernel
def mX9_isLetter : MI := (yX9_isLetter, cX9_isLetter, 1, (some .boolean), [],
  [[(0, .iload_n 0, 1), (1, .bipush 97, 2), (3, .if_icmp .lt 9, 3), (6, .iload_n 0, 1), (7, .bipush 122, 2), (9, .if_icmp .le 15, 3), (12, .iload_n 0, 1), (13, .bipush 32, 2), (15, .if_icmp .eq 9, 3), (18, .iload_n 0, 1), (19, .bipush 47, 2), (21, .if_icmp .ne 7, 3), (24, .iconst 1, 1), (25, .goto 4, 3), (28, .iconst 0, 1), (29, .ireturn, 1)]])
theorem tX9_isLetter : tabOK mX9_isLetter = true := by decide +kernel
def mX9_isFieldKind : MI := (yX9_isFieldKind, cX9_isFieldKind, 2, (some .boolean), [],
  [[(0, .iload_n 0, 1), (1, .tableswitch 56 108 114 #[43, 56, 43, 56, 43, 56, 50], 43), (44, .iload_n 1, 1), (45, .bipush 6, 2), (47, .invokestatic 270, 3), (50, .ireturn, 1), (51, .iload_n 1, 1), (52, .iconst 3, 1), (53, .invokestatic 270, 3), (56, .ireturn, 1), (57, .iload_n 0, 1), (58, .bipush 99, 2), (60, .if_icmp .ne 7, 3), (63, .iconst 1, 1), (64, .goto 4, 3), (67, .iconst 0, 1)],
  [(68, .ireturn, 1)]])
theorem tX9_isFieldKind : tabOK mX9_isFieldKind = true := by decide +kernel
def mX9_checkAuthor : MI := (yX9_checkAuthor, cX9_checkAuthor, 1, none, [],
  [[(0, .iload_n 0, 1), (1, .iconst 4, 1), (2, .invokestatic 270, 3), (5, .ifCond .ne 14, 3), (8, .new 163, 3), (11, .dup, 1), (12, .ldc_w 418, 3), (15, .invokespecial 167, 3), (18, .athrow, 1), (19, .return_, 1)]])
theorem tX9_checkAuthor : tabOK mX9_checkAuthor = true := by decide +kernel
def mX9_checkBookmark : MI := (yX9_checkBookmark, cX9_checkBookmark, 1, none, [],
  [[(0, .iload_n 0, 1), (1, .bipush 6, 2), (3, .invokestatic 270, 3), (6, .ifCond .ne 14, 3), (9, .new 163, 3), (12, .dup, 1), (13, .ldc_w 420, 3), (16, .invokespecial 167, 3), (19, .athrow, 1), (20, .return_, 1)]])
theorem tX9_checkBookmark : tabOK mX9_checkBookmark = true := by decide +kernel
def mX9_checkSetBookmark : MI := (yX9_checkSetBookmark, cX9_checkSetBookmark, 2, none, [],
  [[(0, .iload_n 1, 1), (1, .invokestatic 304, 3), (4, .aload_n 0, 1), (5, .getfield 16, 3), (8, .invokevirtual 114, 3), (11, .getfield 131, 3), (14, .iload_n 1, 1), (15, .invokevirtual 422, 3), (18, .ifCond .ne 14, 3), (21, .new 188, 3), (24, .dup, 1), (25, .ldc_w 425, 3), (28, .invokespecial 192, 3), (31, .athrow, 1), (32, .return_, 1)]])
theorem tX9_checkSetBookmark : tabOK mX9_checkSetBookmark = true := by decide +kernel
def mX9_checkField : MI := (yX9_checkField, cX9_checkField, 2, none, [],
  [[(0, .aload_n 0, 1), (1, .getfield 44, 3), (4, .iload_n 1, 1), (5, .invokevirtual 427, 3), (8, .ifCond .ne 14, 3), (11, .new 163, 3), (14, .dup, 1), (15, .ldc_w 428, 3), (18, .invokespecial 167, 3), (21, .athrow, 1), (22, .return_, 1)]])
theorem tX9_checkField : tabOK mX9_checkField = true := by decide +kernel
def mX9_checkChange : MI := (yX9_checkChange, cX9_checkChange, 2, none, [],
  [[(0, .iload_n 1, 1), (1, .aload_n 0, 1), (2, .getfield 16, 3), (5, .invokevirtual 114, 3), (8, .getfield 118, 3), (11, .invokevirtual 228, 3), (14, .invokestatic 270, 3), (17, .ifCond .ne 14, 3), (20, .new 163, 3), (23, .dup, 1), (24, .ldc_w 430, 3), (27, .invokespecial 167, 3), (30, .athrow, 1), (31, .return_, 1)]])
theorem tX9_checkChange : tabOK mX9_checkChange = true := by decide +kernel
def mX9_checkWaiting : MI := (yX9_checkWaiting, cX9_checkWaiting, 2, none, [],
  [[(0, .aload_n 0, 1), (1, .iload_n 1, 1), (2, .invokevirtual 231, 3), (5, .aload_n 0, 1), (6, .getfield 16, 3), (9, .invokevirtual 114, 3), (12, .getfield 118, 3), (15, .iload_n 1, 1), (16, .invokevirtual 241, 3), (19, .bipush 119, 2), (21, .if_icmp .eq 14, 3), (24, .new 103, 3), (27, .dup, 1), (28, .ldc_w 432, 3), (31, .invokespecial 107, 3), (34, .athrow, 1)],
  [(35, .return_, 1)]])
theorem tX9_checkWaiting : tabOK mX9_checkWaiting = true := by decide +kernel
def mX9_checkUnguarded : MI := (yX9_checkUnguarded, cX9_checkUnguarded, 2, none, [],
  [[(0, .aload_n 0, 1), (1, .getfield 16, 3), (4, .invokevirtual 114, 3), (7, .getfield 131, 3), (10, .bipush 10, 2), (12, .iload_n 1, 1), (13, .invokevirtual 168, 3), (16, .iconst 1, 1), (17, .if_icmp .ne 14, 3), (20, .new 141, 3), (23, .dup, 1), (24, .ldc_w 434, 3), (27, .invokespecial 145, 3), (30, .athrow, 1), (31, .return_, 1)]])
theorem tX9_checkUnguarded : tabOK mX9_checkUnguarded = true := by decide +kernel
def mX9_checkWriting : MI := (yX9_checkWriting, cX9_checkWriting, 4, none, [],
  [[(0, .aload_n 0, 1), (1, .getfield 16, 3), (4, .invokevirtual 114, 3), (7, .astore_n 3, 1), (8, .aload_n 3, 1), (9, .getfield 131, 3), (12, .invokevirtual 378, 3), (15, .sipush 200, 3), (18, .if_icmp .lt 14, 3), (21, .new 103, 3), (24, .dup, 1), (25, .ldc_w 436, 3), (28, .invokespecial 107, 3), (31, .athrow, 1), (32, .aload_n 0, 1), (33, .getfield 7, 3)],
  [(36, .ifCond .eq 33, 3), (39, .aload_n 3, 1), (40, .getfield 118, 3), (43, .invokevirtual 122, 3), (46, .ifCond .eq 23, 3), (49, .aload_n 3, 1), (50, .iload_n 1, 1), (51, .iload_n 2, 1), (52, .invokevirtual 438, 3), (55, .iconst (-1), 1), (56, .if_icmp .ne 13, 3), (59, .new 103, 3), (62, .dup, 1), (63, .ldc 129, 2), (65, .invokespecial 107, 3), (68, .athrow, 1)],
  [(69, .aload_n 0, 1), (70, .aload_n 3, 1), (71, .getfield 131, 3), (74, .iload_n 2, 1), (75, .invokevirtual 441, 3), (78, .invokevirtual 172, 3), (81, .return_, 1)]])
theorem tX9_checkWriting : tabOK mX9_checkWriting = true := by decide +kernel
def mX9_indexOfPlace : MI := (yX9_indexOfPlace, cX9_indexOfPlace, 3, (some .int), [],
  [[(0, .aload_n 0, 1), (1, .getfield 16, 3), (4, .invokevirtual 114, 3), (7, .getfield 131, 3), (10, .iload_n 1, 1), (11, .invokevirtual 444, 3), (14, .istore_n 2, 1), (15, .iload_n 2, 1), (16, .iconst (-1), 1), (17, .if_icmp .ne 14, 3), (20, .new 163, 3), (23, .dup, 1), (24, .ldc_w 447, 3), (27, .invokespecial 167, 3), (30, .athrow, 1), (31, .iload_n 2, 1)],
  [(32, .ireturn, 1)]])
theorem tX9_indexOfPlace : tabOK mX9_indexOfPlace = true := by decide +kernel
def mX9_indexOfUnit : MI := (yX9_indexOfUnit, cX9_indexOfUnit, 3, (some .int), [],
  [[(0, .aload_n 0, 1), (1, .iload_n 1, 1), (2, .invokevirtual 70, 3), (5, .istore_n 2, 1), (6, .iload_n 2, 1), (7, .aload_n 0, 1), (8, .getfield 16, 3), (11, .invokevirtual 114, 3), (14, .getfield 131, 3), (17, .invokevirtual 378, 3), (20, .if_icmp .lt 13, 3), (23, .new 163, 3), (26, .dup, 1), (27, .ldc 217, 2), (29, .invokespecial 167, 3), (32, .athrow, 1)],
  [(33, .iload_n 2, 1), (34, .ireturn, 1)]])
theorem tX9_indexOfUnit : tabOK mX9_indexOfUnit = true := by decide +kernel
def mX9_endOfParagraph : MI := (yX9_endOfParagraph, cX9_endOfParagraph, 3, (some .int), [],
  [[(0, .aload_n 0, 1), (1, .getfield 16, 3), (4, .invokevirtual 114, 3), (7, .getfield 131, 3), (10, .iload_n 1, 1), (11, .invokevirtual 449, 3), (14, .istore_n 2, 1), (15, .iload_n 2, 1), (16, .iconst (-1), 1), (17, .if_icmp .ne 14, 3), (20, .new 163, 3), (23, .dup, 1), (24, .ldc_w 452, 3), (27, .invokespecial 167, 3), (30, .athrow, 1), (31, .iload_n 2, 1)],
  [(32, .ireturn, 1)]])
theorem tX9_endOfParagraph : tabOK mX9_endOfParagraph = true := by decide +kernel
def mX9_write : MI := (yX9_write, cX9_write, 7, (some .int), [],
  [[(0, .aload_n 0, 1), (1, .getfield 16, 3), (4, .invokevirtual 146, 3), (7, .astore 5, 2), (9, .iconst (-1), 1), (10, .istore 6, 2), (12, .aload_n 0, 1), (13, .getfield 7, 3), (16, .ifCond .eq 31, 3), (19, .aload 5, 2), (21, .iload_n 1, 1), (22, .iload_n 2, 1), (23, .invokevirtual 438, 3), (26, .istore 6, 2), (28, .iload 6, 2), (30, .iconst (-1), 1)],
  [(31, .if_icmp .ne 16, 3), (34, .aload 5, 2), (36, .getfield 118, 3), (39, .bipush 105, 2), (41, .iload_n 1, 1), (42, .invokevirtual 454, 3), (45, .istore 6, 2), (47, .aload 5, 2), (49, .getfield 131, 3), (52, .iload_n 2, 1), (53, .iload_n 3, 1), (54, .iload 4, 2), (56, .iload 6, 2), (58, .invokevirtual 455, 3), (61, .iload 6, 2), (63, .ireturn, 1)]])
theorem tX9_write : tabOK mX9_write = true := by decide +kernel
def mX9_arrange : MI := (yX9_arrange, cX9_arrange, 2, none, [],
  [[(0, .aload_n 0, 1), (1, .getfield 16, 3), (4, .invokevirtual 114, 3), (7, .astore_n 1, 1), (8, .aload_n 0, 1), (9, .getfield 58, 3), (12, .aload_n 1, 1), (13, .getfield 131, 3), (16, .aload_n 1, 1), (17, .getfield 348, 3), (20, .aload_n 0, 1), (21, .getfield 30, 3), (24, .invokevirtual 459, 3), (27, .return_, 1)]])
theorem tX9_arrange : tabOK mX9_arrange = true := by decide +kernel
def mX9_workOut : MI := (yX9_workOut, cX9_workOut, 4, (some .int), [],
  [[(0, .iconst 0, 1), (1, .istore_n 2, 1), (2, .iconst 0, 1), (3, .istore_n 3, 1), (4, .iload_n 3, 1), (5, .bipush 10, 2), (7, .if_icmp .ge 23, 3), (10, .aload_n 0, 1), (11, .iload_n 1, 1), (12, .invokevirtual 463, 3), (15, .ifCond .ne 6, 3), (18, .goto 12, 3), (21, .iinc 2 1, 3), (24, .iinc 3 1, 3), (27, .goto (-23), 3), (30, .iload_n 2, 1)],
  [(31, .ireturn, 1)]])
theorem tX9_workOut : tabOK mX9_workOut = true := by decide +kernel
def mX9_workRound : MI := (yX9_workRound, cX9_workRound, 7, (some .boolean), [],
  [[(0, .aload_n 0, 1), (1, .getfield 16, 3), (4, .invokevirtual 114, 3), (7, .astore_n 2, 1), (8, .aload_n 0, 1), (9, .getfield 58, 3), (12, .aload_n 2, 1), (13, .getfield 131, 3), (16, .aload_n 2, 1), (17, .getfield 348, 3), (20, .aload_n 0, 1), (21, .getfield 30, 3), (24, .invokevirtual 459, 3), (27, .iconst 0, 1), (28, .istore_n 3, 1), (29, .iconst 0, 1)],
  [(30, .istore 4, 2), (32, .iload 4, 2), (34, .aload_n 2, 1), (35, .getfield 131, 3), (38, .invokevirtual 378, 3), (41, .if_icmp .ge 84, 3), (44, .aload_n 2, 1), (45, .getfield 131, 3), (48, .iconst 1, 1), (49, .iload 4, 2), (51, .invokevirtual 168, 3), (54, .istore 5, 2), (56, .iload 5, 2), (58, .iconst (-1), 1), (59, .if_icmp .eq 60, 3), (62, .aload_n 0, 1)],
  [(63, .getfield 44, 3), (66, .iload 5, 2), (68, .invokevirtual 466, 3), (71, .ifCond .ne 48, 3), (74, .aload_n 0, 1), (75, .aload_n 2, 1), (76, .getfield 131, 3), (79, .iload 5, 2), (81, .iload_n 1, 1), (82, .invokevirtual 469, 3), (85, .istore 6, 2), (87, .iload_n 3, 1), (88, .ifCond .ne 14, 3), (91, .iload 6, 2), (93, .aload_n 2, 1), (94, .iload 5, 2)],
  [(96, .invokevirtual 327, 3), (99, .if_icmp .eq 7, 3), (102, .iconst 1, 1), (103, .goto 4, 3), (106, .iconst 0, 1), (107, .istore_n 3, 1), (108, .aload_n 2, 1), (109, .getfield 348, 3), (112, .iload 5, 2), (114, .iload 6, 2), (116, .invokestatic 473, 3), (119, .iinc 4 1, 3), (122, .goto (-90), 3), (125, .iload_n 3, 1), (126, .ireturn, 1)]])
theorem tX9_workRound : tabOK mX9_workRound = true := by decide +kernel
def mX9_resultNow : MI := (yX9_resultNow, cX9_resultNow, 7, (some .int), [],
  [[(0, .aload_n 0, 1), (1, .getfield 44, 3), (4, .iload_n 2, 1), (5, .invokevirtual 477, 3), (8, .istore 4, 2), (10, .aload_n 0, 1), (11, .getfield 44, 3), (14, .iload_n 2, 1), (15, .invokevirtual 478, 3), (18, .istore 5, 2), (20, .iload 4, 2), (22, .bipush 99, 2), (24, .if_icmp .ne 8, 3), (27, .aload_n 1, 1), (28, .invokevirtual 219, 3), (31, .ireturn, 1)],
  [(32, .iload 4, 2), (34, .bipush 114, 2), (36, .if_icmp .ne 14, 3), (39, .aload_n 0, 1), (40, .getfield 51, 3), (43, .iload_n 3, 1), (44, .iload 5, 2), (46, .invokevirtual 351, 3), (49, .ireturn, 1), (50, .aload_n 1, 1), (51, .iload 5, 2), (53, .invokevirtual 422, 3), (56, .ifCond .ne 5, 3), (59, .iconst 0, 1), (60, .ireturn, 1), (61, .aload_n 1, 1)],
  [(62, .iload 5, 2), (64, .invokevirtual 315, 3), (67, .istore 6, 2), (69, .iload 4, 2), (71, .lookupswitch 56 #[(110, 25), (112, 44)], 25), (96, .aload_n 0, 1), (97, .getfield 37, 3), (100, .aload_n 1, 1), (101, .aload_n 1, 1), (102, .aload_n 1, 1), (103, .iload 6, 2), (105, .invokevirtual 444, 3), (108, .invokevirtual 441, 3), (111, .invokevirtual 287, 3), (114, .ireturn, 1), (115, .aload_n 0, 1)],
  [(116, .getfield 58, 3), (119, .iload 6, 2), (121, .invokevirtual 372, 3), (124, .iconst 1, 1), (125, .iadd, 1), (126, .ireturn, 1), (127, .aload_n 1, 1), (128, .iload 5, 2), (130, .invokevirtual 318, 3), (133, .iload 6, 2), (135, .isub, 1), (136, .ireturn, 1)]])
theorem tX9_resultNow : tabOK mX9_resultNow = true := by decide +kernel
def mX9_bitsOfShare : MI := (yX9_bitsOfShare, cX9_bitsOfShare, 4, (some .int), [],
  [[(0, .fload_n 0, 1), (1, .fconst 0, 1), (2, .fcmp .g, 1), (3, .ifCond .gt 5, 3), (6, .iconst 0, 1), (7, .ireturn, 1), (8, .fload_n 0, 1), (9, .fstore_n 1, 1), (10, .bipush 127, 2), (12, .istore_n 2, 1), (13, .iconst 0, 1), (14, .istore_n 3, 1), (15, .iload_n 3, 1), (16, .bipush 126, 2), (18, .if_icmp .ge 22, 3), (21, .fload_n 1, 1)],
  [(22, .fconst 1, 1), (23, .fcmp .g, 1), (24, .ifCond .ge 16, 3), (27, .fload_n 1, 1), (28, .fconst 2, 1), (29, .fmul, 1), (30, .fstore_n 1, 1), (31, .iinc 2 (-1), 3), (34, .iinc 3 1, 3), (37, .goto (-22), 3), (40, .iload_n 2, 1), (41, .bipush 23, 2), (43, .ishl, 1), (44, .fload_n 1, 1), (45, .fconst 1, 1), (46, .fsub, 1)],
  [(47, .ldc_w 481, 3), (50, .fmul, 1), (51, .f2i, 1), (52, .iadd, 1), (53, .ireturn, 1)]])
theorem tX9_bitsOfShare : tabOK mX9_bitsOfShare = true := by decide +kernel
def mX9_bitsOfMean : MI := (yX9_bitsOfMean, cX9_bitsOfMean, 7, (some .long), [],
  [[(0, .dload_n 0, 1), (1, .dconst 0, 1), (2, .dcmp .g, 1), (3, .ifCond .gt 5, 3), (6, .lconst 0, 1), (7, .lreturn, 1), (8, .dload_n 0, 1), (9, .dstore_n 2, 1), (10, .ldc2_w 482, 3), (13, .lstore 4, 2), (15, .iconst 0, 1), (16, .istore 6, 2), (18, .iload 6, 2), (20, .sipush 1000, 3), (23, .if_icmp .ge 27, 3), (26, .dload_n 2, 1)],
  [(27, .dconst 1, 1), (28, .dcmp .g, 1), (29, .ifCond .ge 21, 3), (32, .dload_n 2, 1), (33, .ldc2_w 484, 3), (36, .dmul, 1), (37, .dstore_n 2, 1), (38, .lload 4, 2), (40, .lconst 1, 1), (41, .lsub, 1), (42, .lstore 4, 2), (44, .iinc 6 1, 3), (47, .goto (-29), 3), (50, .iconst 0, 1), (51, .istore 6, 2), (53, .iload 6, 2)],
  [(55, .sipush 1000, 3), (58, .if_icmp .ge 29, 3), (61, .dload_n 2, 1), (62, .ldc2_w 484, 3), (65, .dcmp .l, 1), (66, .ifCond .lt 21, 3), (69, .dload_n 2, 1), (70, .ldc2_w 484, 3), (73, .ddiv, 1), (74, .dstore_n 2, 1), (75, .lload 4, 2), (77, .lconst 1, 1), (78, .ladd, 1), (79, .lstore 4, 2), (81, .iinc 6 1, 3), (84, .goto (-31), 3)],
  [(87, .lload 4, 2), (89, .bipush 52, 2), (91, .lshl, 1), (92, .dload_n 2, 1), (93, .dconst 1, 1), (94, .dsub, 1), (95, .ldc2_w 486, 3), (98, .dmul, 1), (99, .d2l, 1), (100, .ladd, 1), (101, .lreturn, 1)]])
theorem tX9_bitsOfMean : tabOK mX9_bitsOfMean = true := by decide +kernel
def mX9_isJudgedSoundly : MI := (yX9_isJudgedSoundly, cX9_isJudgedSoundly, 7, (some .boolean), [],
  [[(0, .aload_n 0, 1), (1, .getfield 16, 3), (4, .invokevirtual 114, 3), (7, .astore_n 3, 1), (8, .aload_n 0, 1), (9, .getfield 23, 3), (12, .aload_n 3, 1), (13, .invokevirtual 488, 3), (16, .aload_n 0, 1), (17, .getfield 23, 3), (20, .getfield 118, 3), (23, .invokevirtual 228, 3), (26, .istore 4, 2), (28, .iconst 0, 1), (29, .istore 5, 2), (31, .iload 5, 2)],
  [(33, .iload 4, 2), (35, .if_icmp .ge 55, 3), (38, .iload_n 2, 1), (39, .ifCond .eq 8, 3), (42, .iload 5, 2), (44, .goto 10, 3), (47, .iload 4, 2), (49, .iconst 1, 1), (50, .isub, 1), (51, .iload 5, 2), (53, .isub, 1), (54, .istore 6, 2), (56, .aload_n 0, 1), (57, .getfield 23, 3), (60, .getfield 118, 3), (63, .iload 6, 2)],
  [(65, .invokevirtual 241, 3), (68, .bipush 119, 2), (70, .if_icmp .ne 14, 3), (73, .aload_n 0, 1), (74, .getfield 23, 3), (77, .iload 6, 2), (79, .iload_n 1, 1), (80, .invokevirtual 252, 3), (83, .pop, 1), (84, .iinc 5 1, 3), (87, .goto (-56), 3), (90, .aload_n 0, 1), (91, .getfield 23, 3), (94, .getfield 131, 3), (97, .aload_n 3, 1), (98, .getfield 131, 3)],
  [(101, .iload_n 1, 1), (102, .ifCond .ne 7, 3), (105, .iconst 1, 1), (106, .goto 4, 3), (109, .iconst 0, 1), (110, .invokevirtual 492, 3), (113, .ireturn, 1)]])
theorem tX9_isJudgedSoundly : tabOK mX9_isJudgedSoundly = true := by decide +kernel
def mX9_isEachPlaceOnPage : MI := (yX9_isEachPlaceOnPage, cX9_isEachPlaceOnPage, 3, (some .boolean), [],
  [[(0, .aload_n 0, 1), (1, .invokevirtual 366, 3), (4, .aload_n 0, 1), (5, .getfield 16, 3), (8, .invokevirtual 114, 3), (11, .getfield 131, 3), (14, .invokevirtual 205, 3), (17, .istore_n 1, 1), (18, .iconst 0, 1), (19, .istore_n 2, 1), (20, .iload_n 2, 1), (21, .iload_n 1, 1), (22, .if_icmp .gt 32, 3), (25, .aload_n 0, 1), (26, .getfield 58, 3), (29, .iload_n 2, 1)],
  [(30, .invokevirtual 372, 3), (33, .aload_n 0, 1), (34, .getfield 58, 3), (37, .invokevirtual 369, 3), (40, .invokestatic 270, 3), (43, .ifCond .ne 5, 3), (46, .iconst 0, 1), (47, .ireturn, 1), (48, .iinc 2 1, 3), (51, .goto (-31), 3), (54, .iconst 1, 1), (55, .ireturn, 1)]])
theorem tX9_isEachPlaceOnPage : tabOK mX9_isEachPlaceOnPage = true := by decide +kernel
def mX10_init : MI := (yX10_init, cX10_init, 2, none, [],
  [[(0, .aload_n 0, 1), (1, .invokespecial 1, 3), (4, .aload_n 0, 1), (5, .sipush 3225, 3), (8, .newarray .int, 2), (10, .putfield 7, 3), (13, .aload_n 0, 1), (14, .sipush 19350, 3), (17, .newarray .int, 2), (19, .putfield 13, 3), (22, .aload_n 0, 1), (23, .sipush 19350, 3), (26, .newarray .int, 2), (28, .putfield 16, 3), (31, .aload_n 0, 1), (32, .iconst 1, 1)],
  [(33, .putfield 19, 3), (36, .aload_n 0, 1), (37, .iconst 1, 1), (38, .putfield 23, 3), (41, .aload_n 0, 1), (42, .bipush 8, 2), (44, .newarray .int, 2), (46, .putfield 27, 3), (49, .aload_n 0, 1), (50, .bipush 8, 2), (52, .newarray .boolean, 2), (54, .putfield 30, 3), (57, .aload_n 0, 1), (58, .bipush 8, 2), (60, .newarray .int, 2), (62, .putfield 34, 3)],
  [(65, .aload_n 0, 1), (66, .bipush 9, 2), (68, .newarray .char, 2), (70, .putfield 37, 3), (73, .aload_n 0, 1), (74, .iconst 3, 1), (75, .newarray .boolean, 2), (77, .putfield 41, 3), (80, .aload_n 0, 1), (81, .bipush 20, 2), (83, .newarray .char, 2), (85, .putfield 44, 3), (88, .aload_n 0, 1), (89, .bipush 20, 2), (91, .newarray .int, 2), (93, .putfield 47, 3)],
  [(96, .aload_n 0, 1), (97, .bipush 20, 2), (99, .newarray .boolean, 2), (101, .putfield 50, 3), (104, .aload_n 0, 1), (105, .bipush 15, 2), (107, .newarray .int, 2), (109, .putfield 53, 3), (112, .aload_n 0, 1), (113, .bipush 20, 2), (115, .putfield 56, 3), (118, .aload_n 0, 1), (119, .bipush 8, 2), (121, .putfield 59, 3), (124, .aload_n 0, 1), (125, .sipush 200, 3)],
  [(128, .newarray .char, 2), (130, .putfield 62, 3), (133, .aload_n 0, 1), (134, .iconst 3, 1), (135, .newarray .int, 2), (137, .putfield 65, 3), (140, .aload_n 0, 1), (141, .bipush 20, 2), (143, .newarray .int, 2), (145, .putfield 68, 3), (148, .aload_n 0, 1), (149, .bipush 20, 2), (151, .newarray .int, 2), (153, .putfield 71, 3), (156, .aload_n 0, 1), (157, .sipush 301, 3)],
  [(160, .newarray .int, 2), (162, .putfield 74, 3), (165, .aload_n 0, 1), (166, .sipush 301, 3), (169, .newarray .int, 2), (171, .putfield 77, 3), (174, .aload_n 0, 1), (175, .sipush 301, 3), (178, .newarray .int, 2), (180, .putfield 80, 3), (183, .aload_n 0, 1), (184, .sipush 301, 3), (187, .newarray .int, 2), (189, .putfield 83, 3), (192, .aload_n 0, 1), (193, .sipush 301, 3)],
  [(196, .newarray .int, 2), (198, .putfield 86, 3), (201, .aload_n 0, 1), (202, .sipush 3000, 3), (205, .newarray .int, 2), (207, .putfield 89, 3), (210, .aload_n 0, 1), (211, .sipush 3000, 3), (214, .newarray .boolean, 2), (216, .putfield 92, 3), (219, .aload_n 0, 1), (220, .getfield 27, 3), (223, .iconst 0, 1), (224, .iconst (-1), 1), (225, .iastore, 1), (226, .iconst 0, 1)],
  [(227, .istore_n 1, 1), (228, .iload_n 1, 1), (229, .bipush 9, 2), (231, .if_icmp .ge 17, 3), (234, .aload_n 0, 1), (235, .getfield 37, 3), (238, .iload_n 1, 1), (239, .bipush 100, 2), (241, .castore, 1), (242, .iinc 1 1, 3), (245, .goto (-17), 3), (248, .iconst 0, 1), (249, .istore_n 1, 1), (250, .iload_n 1, 1), (251, .bipush 6, 2), (253, .if_icmp .ge 31, 3)],
  [(256, .aload_n 0, 1), (257, .getfield 7, 3), (260, .sipush 3193, 3), (263, .iload_n 1, 1), (264, .iadd, 1), (265, .iconst (-1), 1), (266, .iastore, 1), (267, .aload_n 0, 1), (268, .getfield 7, 3), (271, .sipush 3199, 3), (274, .iload_n 1, 1), (275, .iadd, 1), (276, .iconst (-1), 1), (277, .iastore, 1), (278, .iinc 1 1, 3), (281, .goto (-31), 3)],
  [(284, .aload_n 0, 1), (285, .iconst 0, 1), (286, .invokevirtual 95, 3), (289, .aload_n 0, 1), (290, .iconst 0, 1), (291, .iconst 0, 1), (292, .bipush 47, 2), (294, .invokevirtual 99, 3), (297, .return_, 1)]])
theorem tX10_init : tabOK mX10_init = true := by decide +kernel
def mX10_thrown : MI := (yX10_thrown, cX10_thrown, 1, (some .int), [],
  [[(0, .aload_n 0, 1), (1, .getfield 103, 3), (4, .ireturn, 1)]])
theorem tX10_thrown : tabOK mX10_thrown = true := by decide +kernel
def mX10_in : MI := (yX10_in, cX10_in, 3, (some .boolean), [],
  [[(0, .iload_n 0, 1), (1, .iload_n 1, 1), (2, .if_icmp .lt 12, 3), (5, .iload_n 0, 1), (6, .iload_n 2, 1), (7, .if_icmp .gt 7, 3), (10, .iconst 1, 1), (11, .goto 4, 3), (14, .iconst 0, 1), (15, .ireturn, 1)]])
theorem tX10_in : tabOK mX10_in = true := by decide +kernel
def mX10_goesOn : MI := (yX10_goesOn, cX10_goesOn, 2, (some .boolean), [],
  [[(0, .aload_n 0, 1), (1, .iload_n 1, 1), (2, .putfield 103, 3), (5, .iload_n 1, 1), (6, .ifCond .ne 7, 3), (9, .iconst 1, 1), (10, .goto 4, 3), (13, .iconst 0, 1), (14, .ireturn, 1)]])
theorem tX10_goesOn : tabOK mX10_goesOn = true := by decide +kernel
def mX10_at : MI := (yX10_at, cX10_at, 3, (some .int), [],
  [[(0, .aload_n 0, 1), (1, .getfield 7, 3), (4, .bipush 10, 2), (6, .iload_n 1, 1), (7, .imul, 1), (8, .iload_n 2, 1), (9, .iadd, 1), (10, .iaload, 1), (11, .ireturn, 1)]])
theorem tX10_at : tabOK mX10_at = true := by decide +kernel
def mX10_setAt : MI := (yX10_setAt, cX10_setAt, 4, none, [],
  [[(0, .aload_n 0, 1), (1, .getfield 7, 3), (4, .bipush 10, 2), (6, .iload_n 1, 1), (7, .imul, 1), (8, .iload_n 2, 1), (9, .iadd, 1), (10, .iload_n 3, 1), (11, .iastore, 1), (12, .return_, 1)]])
theorem tX10_setAt : tabOK mX10_setAt = true := by decide +kernel
def mX10_bares : MI := (yX10_bares, cX10_bares, 3, none, [],
  [[(0, .iconst 0, 1), (1, .istore_n 2, 1), (2, .iload_n 2, 1), (3, .bipush 10, 2), (5, .if_icmp .ge 48, 3), (8, .aload_n 0, 1), (9, .iload_n 1, 1), (10, .iload_n 2, 1), (11, .iload_n 2, 1), (12, .iconst 3, 1), (13, .if_icmp .eq 26, 3), (16, .iload_n 2, 1), (17, .iconst 5, 1), (18, .if_icmp .eq 21, 3), (21, .iload_n 2, 1), (22, .bipush 6, 2)],
  [(24, .if_icmp .eq 15, 3), (27, .iload_n 2, 1), (28, .bipush 7, 2), (30, .if_icmp .eq 9, 3), (33, .iload_n 2, 1), (34, .bipush 8, 2), (36, .if_icmp .ne 7, 3), (39, .iconst 0, 1), (40, .goto 4, 3), (43, .iconst (-1), 1), (44, .invokevirtual 99, 3), (47, .iinc 2 1, 3), (50, .goto (-48), 3), (53, .return_, 1)]])
theorem tX10_bares : tabOK mX10_bares = true := by decide +kernel
def mX10_many : MI := (yX10_many, cX10_many, 1, (some .int), [],
  [[(0, .aload_n 0, 1), (1, .getfield 7, 3), (4, .sipush 3010, 3), (7, .iaload, 1), (8, .ireturn, 1)]])
theorem tX10_many : tabOK mX10_many = true := by decide +kernel
def mX10_isSeen : MI := (yX10_isSeen, cX10_isSeen, 2, (some .boolean), [],
  [[(0, .aload_n 0, 1), (1, .iload_n 1, 1), (2, .iconst 2, 1), (3, .invokevirtual 106, 3), (6, .iconst (-1), 1), (7, .if_icmp .ne 7, 3), (10, .iconst 1, 1), (11, .goto 4, 3), (14, .iconst 0, 1), (15, .ireturn, 1)]])
theorem tX10_isSeen : tabOK mX10_isSeen = true := by decide +kernel
def mX10_isEnd : MI := (yX10_isEnd, cX10_isEnd, 2, (some .boolean), [],
  [[(0, .aload_n 0, 1), (1, .iload_n 1, 1), (2, .iconst 0, 1), (3, .invokevirtual 106, 3), (6, .bipush 47, 2), (8, .if_icmp .ne 7, 3), (11, .iconst 1, 1), (12, .goto 4, 3), (15, .iconst 0, 1), (16, .ireturn, 1)]])
theorem tX10_isEnd : tabOK mX10_isEnd = true := by decide +kernel
def mX10_seen : MI := (yX10_seen, cX10_seen, 3, (some .int), [],
  [[(0, .iconst 0, 1), (1, .istore_n 1, 1), (2, .iconst 0, 1), (3, .istore_n 2, 1), (4, .iload_n 2, 1), (5, .aload_n 0, 1), (6, .invokevirtual 110, 3), (9, .if_icmp .ge 25, 3), (12, .iload_n 1, 1), (13, .aload_n 0, 1), (14, .iload_n 2, 1), (15, .invokevirtual 114, 3), (18, .ifCond .eq 7, 3), (21, .iconst 1, 1), (22, .goto 4, 3), (25, .iconst 0, 1)],
  [(26, .iadd, 1), (27, .istore_n 1, 1), (28, .iinc 2 1, 3), (31, .goto (-27), 3), (34, .iload_n 1, 1), (35, .ireturn, 1)]])
theorem tX10_seen : tabOK mX10_seen = true := by decide +kernel
def mX10_unitOf : MI := (yX10_unitOf, cX10_unitOf, 4, (some .int), [],
  [[(0, .iload_n 1, 1), (1, .istore_n 2, 1), (2, .iconst 0, 1), (3, .istore_n 3, 1), (4, .iload_n 3, 1), (5, .aload_n 0, 1), (6, .invokevirtual 110, 3), (9, .if_icmp .ge 39, 3), (12, .aload_n 0, 1), (13, .iload_n 3, 1), (14, .invokevirtual 114, 3), (17, .ifCond .eq 9, 3), (20, .iload_n 2, 1), (21, .ifCond .ne 5, 3), (24, .iload_n 3, 1), (25, .ireturn, 1)],
  [(26, .iload_n 2, 1), (27, .aload_n 0, 1), (28, .iload_n 3, 1), (29, .invokevirtual 114, 3), (32, .ifCond .eq 7, 3), (35, .iconst 1, 1), (36, .goto 4, 3), (39, .iconst 0, 1), (40, .isub, 1), (41, .istore_n 2, 1), (42, .iinc 3 1, 3), (45, .goto (-41), 3), (48, .aload_n 0, 1), (49, .invokevirtual 110, 3), (52, .ireturn, 1)]])
theorem tX10_unitOf : tabOK mX10_unitOf = true := by decide +kernel
def mX10_placeOf : MI := (yX10_placeOf, cX10_placeOf, 4, (some .int), [],
  [[(0, .iconst 0, 1), (1, .istore_n 2, 1), (2, .iconst 0, 1), (3, .istore_n 3, 1), (4, .iload_n 3, 1), (5, .iload_n 1, 1), (6, .if_icmp .ge 25, 3), (9, .iload_n 2, 1), (10, .aload_n 0, 1), (11, .iload_n 3, 1), (12, .invokevirtual 114, 3), (15, .ifCond .eq 7, 3), (18, .iconst 1, 1), (19, .goto 4, 3), (22, .iconst 0, 1), (23, .iadd, 1)],
  [(24, .istore_n 2, 1), (25, .iinc 3 1, 3), (28, .goto (-24), 3), (31, .iload_n 2, 1), (32, .ireturn, 1)]])
theorem tX10_placeOf : tabOK mX10_placeOf = true := by decide +kernel
def mX10_endOf : MI := (yX10_endOf, cX10_endOf, 3, (some .int), [],
  [[(0, .iload_n 1, 1), (1, .istore_n 2, 1), (2, .iload_n 2, 1), (3, .aload_n 0, 1), (4, .invokevirtual 110, 3), (7, .if_icmp .ge 25, 3), (10, .aload_n 0, 1), (11, .iload_n 2, 1), (12, .invokevirtual 114, 3), (15, .ifCond .eq 11, 3), (18, .aload_n 0, 1), (19, .iload_n 2, 1), (20, .invokevirtual 118, 3), (23, .ifCond .ne 9, 3), (26, .iinc 2 1, 3), (29, .goto (-27), 3)],
  [(32, .iload_n 2, 1), (33, .ireturn, 1)]])
theorem tX10_endOf : tabOK mX10_endOf = true := by decide +kernel
def mX10_endOfParagraph : MI := (yX10_endOfParagraph, cX10_endOfParagraph, 5, (some .int), [],
  [[(0, .iload_n 1, 1), (1, .istore_n 2, 1), (2, .iconst 0, 1), (3, .istore_n 3, 1), (4, .iload_n 3, 1), (5, .aload_n 0, 1), (6, .invokevirtual 110, 3), (9, .if_icmp .ge 56, 3), (12, .aload_n 0, 1), (13, .iload_n 3, 1), (14, .invokevirtual 114, 3), (17, .ifCond .eq 15, 3), (20, .aload_n 0, 1), (21, .iload_n 3, 1), (22, .invokevirtual 118, 3), (25, .ifCond .eq 7, 3)],
  [(28, .iconst 1, 1), (29, .goto 4, 3), (32, .iconst 0, 1), (33, .istore 4, 2), (35, .iload 4, 2), (37, .ifCond .eq 9, 3), (40, .iload_n 2, 1), (41, .ifCond .ne 5, 3), (44, .iload_n 3, 1), (45, .ireturn, 1), (46, .iload_n 2, 1), (47, .iload 4, 2), (49, .ifCond .eq 7, 3), (52, .iconst 1, 1), (53, .goto 4, 3), (56, .iconst 0, 1)],
  [(57, .isub, 1), (58, .istore_n 2, 1), (59, .iinc 3 1, 3), (62, .goto (-58), 3), (65, .aload_n 0, 1), (66, .invokevirtual 110, 3), (69, .ireturn, 1)]])
theorem tX10_endOfParagraph : tabOK mX10_endOfParagraph = true := by decide +kernel
def mX10_paragraphsNow : MI := (yX10_paragraphsNow, cX10_paragraphsNow, 3, (some .int), [],
  [[(0, .iconst 1, 1), (1, .istore_n 1, 1), (2, .iconst 0, 1), (3, .istore_n 2, 1), (4, .iload_n 2, 1), (5, .aload_n 0, 1), (6, .invokevirtual 110, 3), (9, .if_icmp .ge 33, 3), (12, .iload_n 1, 1), (13, .aload_n 0, 1), (14, .iload_n 2, 1), (15, .invokevirtual 114, 3), (18, .ifCond .eq 15, 3), (21, .aload_n 0, 1), (22, .iload_n 2, 1), (23, .invokevirtual 118, 3)],
  [(26, .ifCond .eq 7, 3), (29, .iconst 1, 1), (30, .goto 4, 3), (33, .iconst 0, 1), (34, .iadd, 1), (35, .istore_n 1, 1), (36, .iinc 2 1, 3), (39, .goto (-35), 3), (42, .iload_n 1, 1), (43, .ireturn, 1)]])
theorem tX10_paragraphsNow : tabOK mX10_paragraphsNow = true := by decide +kernel
def mX10_isParagraph : MI := (yX10_isParagraph, cX10_isParagraph, 2, (some .boolean), [],
  [[(0, .iload_n 1, 1), (1, .iconst 0, 1), (2, .aload_n 0, 1), (3, .invokevirtual 121, 3), (6, .iconst 1, 1), (7, .isub, 1), (8, .invokestatic 124, 3), (11, .ireturn, 1)]])
theorem tX10_isParagraph : tabOK mX10_isParagraph = true := by decide +kernel
def mX10_isAuthor : MI := (yX10_isAuthor, cX10_isAuthor, 1, (some .boolean), [],
  [[(0, .iload_n 0, 1), (1, .iconst 0, 1), (2, .iconst 3, 1), (3, .invokestatic 124, 3), (6, .ireturn, 1)]])
theorem tX10_isAuthor : tabOK mX10_isAuthor = true := by decide +kernel
def mX10_isPlace : MI := (yX10_isPlace, cX10_isPlace, 2, (some .boolean), [],
  [[(0, .iload_n 1, 1), (1, .iconst 0, 1), (2, .aload_n 0, 1), (3, .invokevirtual 128, 3), (6, .invokestatic 124, 3), (9, .ireturn, 1)]])
theorem tX10_isPlace : tabOK mX10_isPlace = true := by decide +kernel
def mX10_waits : MI := (yX10_waits, cX10_waits, 2, (some .boolean), [],
  [[(0, .iload_n 1, 1), (1, .iconst (-1), 1), (2, .if_icmp .eq 22, 3), (5, .aload_n 0, 1), (6, .getfield 7, 3), (9, .sipush 3073, 3), (12, .iload_n 1, 1), (13, .iadd, 1), (14, .iaload, 1), (15, .bipush 119, 2), (17, .if_icmp .ne 7, 3), (20, .iconst 1, 1), (21, .goto 4, 3), (24, .iconst 0, 1), (25, .ireturn, 1)]])
theorem tX10_waits : tabOK mX10_waits = true := by decide +kernel
def mX10_opens : MI := (yX10_opens, cX10_opens, 3, none, [],
  [[(0, .aload_n 0, 1), (1, .invokevirtual 110, 3), (4, .iconst 1, 1), (5, .iadd, 1), (6, .bipush 10, 2), (8, .imul, 1), (9, .iconst 1, 1), (10, .isub, 1), (11, .istore_n 2, 1), (12, .iload_n 2, 1), (13, .iload_n 1, 1), (14, .bipush 10, 2), (16, .imul, 1), (17, .if_icmp .lt 24, 3), (20, .aload_n 0, 1), (21, .getfield 7, 3)],
  [(24, .iload_n 2, 1), (25, .bipush 10, 2), (27, .iadd, 1), (28, .aload_n 0, 1), (29, .getfield 7, 3), (32, .iload_n 2, 1), (33, .iaload, 1), (34, .iastore, 1), (35, .iinc 2 (-1), 3), (38, .goto (-26), 3), (41, .aload_n 0, 1), (42, .getfield 7, 3), (45, .sipush 3010, 3), (48, .dup2, 1), (49, .iaload, 1), (50, .iconst 1, 1)],
  [(51, .iadd, 1), (52, .iastore, 1), (53, .sipush 3193, 3), (56, .istore_n 2, 1), (57, .iload_n 2, 1), (58, .sipush 3205, 3), (61, .if_icmp .ge 33, 3), (64, .aload_n 0, 1), (65, .getfield 7, 3), (68, .iload_n 2, 1), (69, .dup2, 1), (70, .iaload, 1), (71, .aload_n 0, 1), (72, .getfield 7, 3), (75, .iload_n 2, 1), (76, .iaload, 1)],
  [(77, .iload_n 1, 1), (78, .if_icmp .lt 7, 3), (81, .iconst 1, 1), (82, .goto 4, 3), (85, .iconst 0, 1), (86, .iadd, 1), (87, .iastore, 1), (88, .iinc 2 1, 3), (91, .goto (-34), 3), (94, .aload_n 0, 1), (95, .iload_n 1, 1), (96, .invokevirtual 95, 3), (99, .return_, 1)]])
theorem tX10_opens : tabOK mX10_opens = true := by decide +kernel
def mX10_closes : MI := (yX10_closes, cX10_closes, 3, none, [],
  [[(0, .iload_n 1, 1), (1, .bipush 10, 2), (3, .imul, 1), (4, .istore_n 2, 1), (5, .iload_n 2, 1), (6, .aload_n 0, 1), (7, .invokevirtual 110, 3), (10, .bipush 10, 2), (12, .imul, 1), (13, .if_icmp .ge 24, 3), (16, .aload_n 0, 1), (17, .getfield 7, 3), (20, .iload_n 2, 1), (21, .aload_n 0, 1), (22, .getfield 7, 3), (25, .iload_n 2, 1)],
  [(26, .bipush 10, 2), (28, .iadd, 1), (29, .iaload, 1), (30, .iastore, 1), (31, .iinc 2 1, 3), (34, .goto (-29), 3), (37, .aload_n 0, 1), (38, .getfield 7, 3), (41, .sipush 3010, 3), (44, .dup2, 1), (45, .iaload, 1), (46, .iconst 1, 1), (47, .isub, 1), (48, .iastore, 1), (49, .sipush 3193, 3), (52, .istore_n 2, 1)],
  [(53, .iload_n 2, 1), (54, .sipush 3205, 3), (57, .if_icmp .ge 33, 3), (60, .aload_n 0, 1), (61, .getfield 7, 3), (64, .iload_n 2, 1), (65, .dup2, 1), (66, .iaload, 1), (67, .aload_n 0, 1), (68, .getfield 7, 3), (71, .iload_n 2, 1), (72, .iaload, 1), (73, .iload_n 1, 1), (74, .if_icmp .le 7, 3), (77, .iconst 1, 1), (78, .goto 4, 3)],
  [(81, .iconst 0, 1), (82, .isub, 1), (83, .iastore, 1), (84, .iinc 2 1, 3), (87, .goto (-34), 3), (90, .return_, 1)]])
theorem tX10_closes : tabOK mX10_closes = true := by decide +kernel
def mX10_copies : MI := (yX10_copies, cX10_copies, 6, none, [],
  [[(0, .iconst 0, 1), (1, .istore 5, 2), (3, .iload 5, 2), (5, .sipush 3225, 3), (8, .if_icmp .ge 30, 3), (11, .aload_n 3, 1), (12, .sipush 3225, 3), (15, .iload 4, 2), (17, .imul, 1), (18, .iload 5, 2), (20, .iadd, 1), (21, .aload_n 1, 1), (22, .sipush 3225, 3), (25, .iload_n 2, 1), (26, .imul, 1), (27, .iload 5, 2)],
  [(29, .iadd, 1), (30, .iaload, 1), (31, .iastore, 1), (32, .iinc 5 1, 3), (35, .goto (-32), 3), (38, .return_, 1)]])
theorem tX10_copies : tabOK mX10_copies = true := by decide +kernel
def mX10_edits : MI := (yX10_edits, cX10_edits, 2, none, [],
  [[(0, .aload_n 0, 1), (1, .getfield 131, 3), (4, .bipush 6, 2), (6, .if_icmp .ne 43, 3), (9, .iconst 1, 1), (10, .istore_n 1, 1), (11, .iload_n 1, 1), (12, .bipush 6, 2), (14, .if_icmp .ge 25, 3), (17, .aload_n 0, 1), (18, .aload_n 0, 1), (19, .getfield 13, 3), (22, .iload_n 1, 1), (23, .aload_n 0, 1), (24, .getfield 13, 3), (27, .iload_n 1, 1)],
  [(28, .iconst 1, 1), (29, .isub, 1), (30, .invokevirtual 134, 3), (33, .iinc 1 1, 3), (36, .goto (-25), 3), (39, .aload_n 0, 1), (40, .dup, 1), (41, .getfield 131, 3), (44, .iconst 1, 1), (45, .isub, 1), (46, .putfield 131, 3), (49, .aload_n 0, 1), (50, .aload_n 0, 1), (51, .getfield 7, 3), (54, .iconst 0, 1), (55, .aload_n 0, 1)],
  [(56, .getfield 13, 3), (59, .aload_n 0, 1), (60, .getfield 131, 3), (63, .invokevirtual 134, 3), (66, .aload_n 0, 1), (67, .dup, 1), (68, .getfield 131, 3), (71, .iconst 1, 1), (72, .iadd, 1), (73, .putfield 131, 3), (76, .aload_n 0, 1), (77, .iconst 0, 1), (78, .putfield 138, 3), (81, .return_, 1)]])
theorem tX10_edits : tabOK mX10_edits = true := by decide +kernel
def mX10_undo : MI := (yX10_undo, cX10_undo, 1, (some .int), [],
  [[(0, .aload_n 0, 1), (1, .aload_n 0, 1), (2, .getfield 131, 3), (5, .ifCond .ne 7, 3), (8, .iconst 1, 1), (9, .goto 4, 3), (12, .iconst 0, 1), (13, .invokevirtual 141, 3), (16, .ifCond .ne 5, 3), (19, .iconst 0, 1), (20, .ireturn, 1), (21, .aload_n 0, 1), (22, .aload_n 0, 1), (23, .getfield 7, 3), (26, .iconst 0, 1), (27, .aload_n 0, 1)],
  [(28, .getfield 16, 3), (31, .aload_n 0, 1), (32, .getfield 138, 3), (35, .invokevirtual 134, 3), (38, .aload_n 0, 1), (39, .dup, 1), (40, .getfield 138, 3), (43, .iconst 1, 1), (44, .iadd, 1), (45, .putfield 138, 3), (48, .aload_n 0, 1), (49, .dup, 1), (50, .getfield 131, 3), (53, .iconst 1, 1), (54, .isub, 1), (55, .putfield 131, 3)],
  [(58, .aload_n 0, 1), (59, .aload_n 0, 1), (60, .getfield 13, 3), (63, .aload_n 0, 1), (64, .getfield 131, 3), (67, .aload_n 0, 1), (68, .getfield 7, 3), (71, .iconst 0, 1), (72, .invokevirtual 134, 3), (75, .aload_n 0, 1), (76, .getfield 131, 3), (79, .ireturn, 1)]])
theorem tX10_undo : tabOK mX10_undo = true := by decide +kernel
def mX10_redo : MI := (yX10_redo, cX10_redo, 1, (some .int), [],
  [[(0, .aload_n 0, 1), (1, .aload_n 0, 1), (2, .getfield 138, 3), (5, .ifCond .ne 7, 3), (8, .iconst 1, 1), (9, .goto 4, 3), (12, .iconst 0, 1), (13, .invokevirtual 141, 3), (16, .ifCond .ne 5, 3), (19, .iconst 0, 1), (20, .ireturn, 1), (21, .aload_n 0, 1), (22, .aload_n 0, 1), (23, .getfield 7, 3), (26, .iconst 0, 1), (27, .aload_n 0, 1)],
  [(28, .getfield 13, 3), (31, .aload_n 0, 1), (32, .getfield 131, 3), (35, .invokevirtual 134, 3), (38, .aload_n 0, 1), (39, .dup, 1), (40, .getfield 131, 3), (43, .iconst 1, 1), (44, .iadd, 1), (45, .putfield 131, 3), (48, .aload_n 0, 1), (49, .dup, 1), (50, .getfield 138, 3), (53, .iconst 1, 1), (54, .isub, 1), (55, .putfield 138, 3)],
  [(58, .aload_n 0, 1), (59, .aload_n 0, 1), (60, .getfield 16, 3), (63, .aload_n 0, 1), (64, .getfield 138, 3), (67, .aload_n 0, 1), (68, .getfield 7, 3), (71, .iconst 0, 1), (72, .invokevirtual 134, 3), (75, .aload_n 0, 1), (76, .getfield 138, 3), (79, .ireturn, 1)]])
theorem tX10_redo : tabOK mX10_redo = true := by decide +kernel
def mX10_newChange : MI := (yX10_newChange, cX10_newChange, 4, (some .int), [],
  [[(0, .aload_n 0, 1), (1, .getfield 7, 3), (4, .sipush 3011, 3), (7, .iaload, 1), (8, .istore_n 3, 1), (9, .aload_n 0, 1), (10, .getfield 7, 3), (13, .sipush 3013, 3), (16, .iload_n 3, 1), (17, .iadd, 1), (18, .iload_n 1, 1), (19, .iastore, 1), (20, .aload_n 0, 1), (21, .getfield 7, 3), (24, .sipush 3073, 3), (27, .iload_n 3, 1)],
  [(28, .iadd, 1), (29, .bipush 119, 2), (31, .iastore, 1), (32, .aload_n 0, 1), (33, .getfield 7, 3), (36, .sipush 3133, 3), (39, .iload_n 3, 1), (40, .iadd, 1), (41, .iload_n 2, 1), (42, .iastore, 1), (43, .aload_n 0, 1), (44, .getfield 7, 3), (47, .sipush 3011, 3), (50, .dup2, 1), (51, .iaload, 1), (52, .iconst 1, 1)],
  [(53, .iadd, 1), (54, .iastore, 1), (55, .iload_n 3, 1), (56, .ireturn, 1)]])
theorem tX10_newChange : tabOK mX10_newChange = true := by decide +kernel
def mX10_setTracking : MI := (yX10_setTracking, cX10_setTracking, 3, (some .boolean), [],
  [[(0, .aload_n 0, 1), (1, .iconst 0, 1), (2, .putfield 103, 3), (5, .aload_n 0, 1), (6, .getfield 19, 3), (9, .istore_n 2, 1), (10, .aload_n 0, 1), (11, .iload_n 1, 1), (12, .putfield 19, 3), (15, .iload_n 2, 1), (16, .ireturn, 1)]])
theorem tX10_setTracking : tabOK mX10_setTracking = true := by decide +kernel
def mX10_changeAhead : MI := (yX10_changeAhead, cX10_changeAhead, 4, (some .int), [],
  [[(0, .iload_n 1, 1), (1, .ifCond .ne 7, 3), (4, .iconst (-1), 1), (5, .goto 11, 3), (8, .aload_n 0, 1), (9, .iload_n 1, 1), (10, .iconst 1, 1), (11, .isub, 1), (12, .iconst 1, 1), (13, .invokevirtual 106, 3), (16, .istore_n 3, 1), (17, .aload_n 0, 1), (18, .iload_n 3, 1), (19, .invokevirtual 144, 3), (22, .ifCond .eq 21, 3), (25, .aload_n 0, 1)],
  [(26, .getfield 7, 3), (29, .sipush 3013, 3), (32, .iload_n 3, 1), (33, .iadd, 1), (34, .iaload, 1), (35, .iload_n 2, 1), (36, .if_icmp .ne 7, 3), (39, .iload_n 3, 1), (40, .goto 4, 3), (43, .iconst (-1), 1), (44, .ireturn, 1)]])
theorem tX10_changeAhead : tabOK mX10_changeAhead = true := by decide +kernel
def mX10_isGuarded : MI := (yX10_isGuarded, cX10_isGuarded, 2, (some .boolean), [],
  [[(0, .aload_n 0, 1), (1, .aload_n 0, 1), (2, .iload_n 1, 1), (3, .invokevirtual 147, 3), (6, .bipush 7, 2), (8, .invokevirtual 106, 3), (11, .iconst 1, 1), (12, .if_icmp .ne 7, 3), (15, .iconst 1, 1), (16, .goto 4, 3), (19, .iconst 0, 1), (20, .ireturn, 1)]])
theorem tX10_isGuarded : tabOK mX10_isGuarded = true := by decide +kernel
def mX10_writeFault : MI := (yX10_writeFault, cX10_writeFault, 8, (some .int), [],
  [[(0, .iload_n 1, 1), (1, .invokestatic 151, 3), (4, .ifCond .eq 11, 3), (7, .aload_n 0, 1), (8, .iload_n 2, 1), (9, .invokevirtual 154, 3), (12, .ifCond .ne 5, 3), (15, .iconst 1, 1), (16, .ireturn, 1), (17, .iload_n 3, 1), (18, .ifCond .ne 5, 3), (21, .iconst 2, 1), (22, .ireturn, 1), (23, .aload_n 0, 1), (24, .iload_n 2, 1), (25, .invokevirtual 157, 3)],
  [(28, .istore 5, 2), (30, .aload_n 0, 1), (31, .getfield 19, 3), (34, .ifCond .eq 18, 3), (37, .aload_n 0, 1), (38, .iload 5, 2), (40, .iload_n 1, 1), (41, .invokevirtual 160, 3), (44, .iconst (-1), 1), (45, .if_icmp .ne 7, 3), (48, .iconst 1, 1), (49, .goto 4, 3), (52, .iconst 0, 1), (53, .istore 6, 2), (55, .iload 4, 2), (57, .ifCond .ne 31, 3)],
  [(60, .aload_n 0, 1), (61, .invokevirtual 110, 3), (64, .sipush 200, 3), (67, .if_icmp .eq 21, 3), (70, .iload 6, 2), (72, .ifCond .eq 20, 3), (75, .aload_n 0, 1), (76, .getfield 7, 3), (79, .sipush 3011, 3), (82, .iaload, 1), (83, .bipush 60, 2), (85, .if_icmp .ne 7, 3), (88, .iconst 1, 1), (89, .goto 4, 3), (92, .iconst 0, 1), (93, .istore 7, 2)],
  [(95, .iload 7, 2), (97, .ifCond .eq 7, 3), (100, .iconst 3, 1), (101, .goto 17, 3), (104, .aload_n 0, 1), (105, .iload 5, 2), (107, .invokevirtual 163, 3), (110, .ifCond .eq 7, 3), (113, .iconst 4, 1), (114, .goto 4, 3), (117, .iconst 0, 1), (118, .ireturn, 1)]])
theorem tX10_writeFault : tabOK mX10_writeFault = true := by decide +kernel
def mX10_writes : MI := (yX10_writes, cX10_writes, 7, (some .int), [],
  [[(0, .aload_n 0, 1), (1, .invokevirtual 166, 3), (4, .aload_n 0, 1), (5, .iload_n 2, 1), (6, .invokevirtual 157, 3), (9, .istore 4, 2), (11, .aload_n 0, 1), (12, .getfield 19, 3), (15, .ifCond .ne 7, 3), (18, .iconst (-1), 1), (19, .goto 10, 3), (22, .aload_n 0, 1), (23, .iload 4, 2), (25, .iload_n 1, 1), (26, .invokevirtual 160, 3), (29, .istore 5, 2)],
  [(31, .aload_n 0, 1), (32, .getfield 19, 3), (35, .ifCond .eq 18, 3), (38, .iload 5, 2), (40, .iconst (-1), 1), (41, .if_icmp .ne 12, 3), (44, .aload_n 0, 1), (45, .iload_n 1, 1), (46, .bipush 105, 2), (48, .invokevirtual 169, 3), (51, .istore 5, 2), (53, .aload_n 0, 1), (54, .iload 4, 2), (56, .invokevirtual 147, 3), (59, .iconst 1, 1), (60, .iadd, 1)],
  [(61, .istore 6, 2), (63, .aload_n 0, 1), (64, .iload 4, 2), (66, .invokevirtual 173, 3), (69, .aload_n 0, 1), (70, .iload 4, 2), (72, .iconst 0, 1), (73, .iload_n 3, 1), (74, .invokevirtual 99, 3), (77, .aload_n 0, 1), (78, .iload 4, 2), (80, .iconst 1, 1), (81, .iload 5, 2), (83, .invokevirtual 99, 3), (86, .iload_n 3, 1), (87, .bipush 47, 2)],
  [(89, .if_icmp .ne 61, 3), (92, .aload_n 0, 1), (93, .iload 4, 2), (95, .iconst 3, 1), (96, .aload_n 0, 1), (97, .iload 6, 2), (99, .iconst 3, 1), (100, .invokevirtual 106, 3), (103, .invokevirtual 99, 3), (106, .aload_n 0, 1), (107, .iload 4, 2), (109, .iconst 4, 1), (110, .aload_n 0, 1), (111, .iload 6, 2), (113, .iconst 4, 1), (114, .invokevirtual 106, 3)],
  [(117, .invokevirtual 99, 3), (120, .aload_n 0, 1), (121, .iload 4, 2), (123, .iconst 5, 1), (124, .aload_n 0, 1), (125, .iload 6, 2), (127, .iconst 5, 1), (128, .invokevirtual 106, 3), (131, .invokevirtual 99, 3), (134, .aload_n 0, 1), (135, .iload 4, 2), (137, .bipush 7, 2), (139, .aload_n 0, 1), (140, .iload 6, 2), (142, .bipush 7, 2), (144, .invokevirtual 106, 3)],
  [(147, .invokevirtual 99, 3), (150, .iload 5, 2), (152, .ireturn, 1)]])
theorem tX10_writes : tabOK mX10_writes = true := by decide +kernel
def mX10_insert : MI := (yX10_insert, cX10_insert, 5, (some .int), [],
  [[(0, .iload_n 3, 1), (1, .bipush 97, 2), (3, .bipush 122, 2), (5, .invokestatic 124, 3), (8, .ifCond .ne 15, 3), (11, .iload_n 3, 1), (12, .bipush 32, 2), (14, .if_icmp .eq 9, 3), (17, .iload_n 3, 1), (18, .bipush 47, 2), (20, .if_icmp .ne 7, 3), (23, .iconst 1, 1), (24, .goto 4, 3), (27, .iconst 0, 1), (28, .istore 4, 2), (30, .aload_n 0, 1)],
  [(31, .aload_n 0, 1), (32, .iload_n 1, 1), (33, .iload_n 2, 1), (34, .iload 4, 2), (36, .iconst 0, 1), (37, .invokevirtual 176, 3), (40, .invokevirtual 141, 3), (43, .ifCond .eq 13, 3), (46, .aload_n 0, 1), (47, .iload_n 1, 1), (48, .iload_n 2, 1), (49, .iload_n 3, 1), (50, .invokevirtual 180, 3), (53, .goto 4, 3), (56, .iconst 0, 1), (57, .ireturn, 1)]])
theorem tX10_insert : tabOK mX10_insert = true := by decide +kernel
def mX10_isBookmark : MI := (yX10_isBookmark, cX10_isBookmark, 1, (some .boolean), [],
  [[(0, .iload_n 0, 1), (1, .iconst 0, 1), (2, .iconst 5, 1), (3, .invokestatic 124, 3), (6, .ireturn, 1)]])
theorem tX10_isBookmark : tabOK mX10_isBookmark = true := by decide +kernel
def mX10_addField : MI := (yX10_addField, cX10_addField, 8, (some .int), [],
  [[(0, .iload_n 3, 1), (1, .bipush 99, 2), (3, .if_icmp .eq 45, 3), (6, .iload_n 3, 1), (7, .bipush 114, 2), (9, .if_icmp .ne 13, 3), (12, .iload 4, 2), (14, .iconst 0, 1), (15, .iconst 2, 1), (16, .invokestatic 124, 3), (19, .ifCond .ne 29, 3), (22, .iload_n 3, 1), (23, .bipush 110, 2), (25, .if_icmp .eq 15, 3), (28, .iload_n 3, 1), (29, .bipush 112, 2)],
  [(31, .if_icmp .eq 9, 3), (34, .iload_n 3, 1), (35, .bipush 108, 2), (37, .if_icmp .ne 15, 3), (40, .iload 4, 2), (42, .invokestatic 184, 3), (45, .ifCond .eq 7, 3), (48, .iconst 1, 1), (49, .goto 4, 3), (52, .iconst 0, 1), (53, .istore 5, 2), (55, .aload_n 0, 1), (56, .aload_n 0, 1), (57, .iload_n 1, 1), (58, .iload_n 2, 1), (59, .iload 5, 2)],
  [(61, .aload_n 0, 1), (62, .getfield 187, 3), (65, .bipush 20, 2), (67, .if_icmp .ne 7, 3), (70, .iconst 1, 1), (71, .goto 4, 3), (74, .iconst 0, 1), (75, .invokevirtual 176, 3), (78, .invokevirtual 141, 3), (81, .ifCond .ne 5, 3), (84, .iconst 0, 1), (85, .ireturn, 1), (86, .aload_n 0, 1), (87, .getfield 187, 3), (90, .istore 6, 2), (92, .aload_n 0, 1)],
  [(93, .iload_n 1, 1), (94, .iload_n 2, 1), (95, .sipush 1000, 3), (98, .iload 6, 2), (100, .iadd, 1), (101, .invokevirtual 180, 3), (104, .istore 7, 2), (106, .aload_n 0, 1), (107, .dup, 1), (108, .getfield 187, 3), (111, .iconst 1, 1), (112, .iadd, 1), (113, .putfield 187, 3), (116, .aload_n 0, 1), (117, .getfield 7, 3), (120, .sipush 3205, 3)],
  [(123, .iload 6, 2), (125, .iadd, 1), (126, .iconst 0, 1), (127, .iastore, 1), (128, .aload_n 0, 1), (129, .getfield 44, 3), (132, .iload 6, 2), (134, .iload_n 3, 1), (135, .castore, 1), (136, .aload_n 0, 1), (137, .getfield 47, 3), (140, .iload 6, 2), (142, .iload 4, 2), (144, .iastore, 1), (145, .aload_n 0, 1), (146, .getfield 50, 3)],
  [(149, .iload 6, 2), (151, .iconst 0, 1), (152, .bastore, 1), (153, .iload 6, 2), (155, .ireturn, 1)]])
theorem tX10_addField : tabOK mX10_addField = true := by decide +kernel
def mX10_isOwn : MI := (yX10_isOwn, cX10_isOwn, 4, (some .boolean), [],
  [[(0, .aload_n 0, 1), (1, .iload_n 1, 1), (2, .iconst 1, 1), (3, .invokevirtual 106, 3), (6, .istore_n 3, 1), (7, .aload_n 0, 1), (8, .iload_n 3, 1), (9, .invokevirtual 144, 3), (12, .ifCond .eq 21, 3), (15, .aload_n 0, 1), (16, .getfield 7, 3), (19, .sipush 3013, 3), (22, .iload_n 3, 1), (23, .iadd, 1), (24, .iaload, 1), (25, .iload_n 2, 1)],
  [(26, .if_icmp .ne 7, 3), (29, .iconst 1, 1), (30, .goto 4, 3), (33, .iconst 0, 1), (34, .ireturn, 1)]])
theorem tX10_isOwn : tabOK mX10_isOwn = true := by decide +kernel
def mX10_erase : MI := (yX10_erase, cX10_erase, 10, (some .int), [],
  [[(0, .aload_n 0, 1), (1, .iload_n 1, 1), (2, .invokestatic 151, 3), (5, .ifCond .eq 19, 3), (8, .aload_n 0, 1), (9, .iload_n 2, 1), (10, .invokevirtual 154, 3), (13, .ifCond .eq 11, 3), (16, .aload_n 0, 1), (17, .iload_n 3, 1), (18, .invokevirtual 154, 3), (21, .ifCond .ne 7, 3), (24, .iconst 1, 1), (25, .goto 13, 3), (28, .iload_n 3, 1), (29, .iload_n 2, 1)],
  [(30, .if_icmp .gt 7, 3), (33, .iconst 2, 1), (34, .goto 4, 3), (37, .iconst 0, 1), (38, .invokevirtual 141, 3), (41, .ifCond .ne 5, 3), (44, .iconst 0, 1), (45, .ireturn, 1), (46, .aload_n 0, 1), (47, .iload_n 2, 1), (48, .invokevirtual 157, 3), (51, .istore 4, 2), (53, .aload_n 0, 1), (54, .iload_n 3, 1), (55, .iconst 1, 1), (56, .isub, 1)],
  [(57, .invokevirtual 157, 3), (60, .istore 5, 2), (62, .iconst 0, 1), (63, .istore 6, 2), (65, .iconst 0, 1), (66, .istore 7, 2), (68, .iload 4, 2), (70, .istore 8, 2), (72, .iload 8, 2), (74, .iload 5, 2), (76, .if_icmp .gt 40, 3), (79, .iload 6, 2), (81, .ifCond .ne 22, 3), (84, .aload_n 0, 1), (85, .iload 8, 2), (87, .invokevirtual 114, 3)],
  [(90, .ifCond .eq 17, 3), (93, .aload_n 0, 1), (94, .iload 8, 2), (96, .iload_n 1, 1), (97, .invokevirtual 190, 3), (100, .ifCond .ne 7, 3), (103, .iconst 1, 1), (104, .goto 4, 3), (107, .iconst 0, 1), (108, .istore 6, 2), (110, .iinc 8 1, 3), (113, .goto (-41), 3), (116, .aload_n 0, 1), (117, .iload_n 2, 1), (118, .invokevirtual 194, 3), (121, .istore 8, 2)],
  [(123, .iload 8, 2), (125, .aload_n 0, 1), (126, .iload_n 3, 1), (127, .invokevirtual 194, 3), (130, .if_icmp .gt 37, 3), (133, .iload 7, 2), (135, .ifCond .ne 19, 3), (138, .aload_n 0, 1), (139, .aload_n 0, 1), (140, .iload 8, 2), (142, .invokevirtual 197, 3), (145, .bipush 7, 2), (147, .invokevirtual 106, 3), (150, .iconst 1, 1), (151, .if_icmp .ne 7, 3), (154, .iconst 1, 1)],
  [(155, .goto 4, 3), (158, .iconst 0, 1), (159, .istore 7, 2), (161, .iinc 8 1, 3), (164, .goto (-41), 3), (167, .iload 6, 2), (169, .ifCond .eq 14, 3), (172, .aload_n 0, 1), (173, .getfield 19, 3), (176, .ifCond .eq 7, 3), (179, .iconst 1, 1), (180, .goto 4, 3), (183, .iconst 0, 1), (184, .istore 6, 2), (186, .aload_n 0, 1), (187, .iload 6, 2)],
  [(189, .ifCond .eq 20, 3), (192, .aload_n 0, 1), (193, .getfield 7, 3), (196, .sipush 3011, 3), (199, .iaload, 1), (200, .bipush 60, 2), (202, .if_icmp .ne 7, 3), (205, .iconst 3, 1), (206, .goto 13, 3), (209, .iload 7, 2), (211, .ifCond .eq 7, 3), (214, .iconst 4, 1), (215, .goto 4, 3), (218, .iconst 0, 1), (219, .invokevirtual 141, 3), (222, .ifCond .ne 5, 3)],
  [(225, .iconst 0, 1), (226, .ireturn, 1), (227, .aload_n 0, 1), (228, .invokevirtual 166, 3), (231, .iload 6, 2), (233, .ifCond .eq 13, 3), (236, .aload_n 0, 1), (237, .iload_n 1, 1), (238, .bipush 101, 2), (240, .invokevirtual 169, 3), (243, .goto 4, 3), (246, .iconst (-1), 1), (247, .istore 8, 2), (249, .iload 5, 2), (251, .istore 9, 2), (253, .iload 9, 2)],
  [(255, .iload 4, 2), (257, .if_icmp .lt 56, 3), (260, .aload_n 0, 1), (261, .iload 9, 2), (263, .invokevirtual 114, 3), (266, .ifCond .ne 6, 3), (269, .goto 38, 3), (272, .aload_n 0, 1), (273, .getfield 19, 3), (276, .ifCond .eq 25, 3), (279, .aload_n 0, 1), (280, .iload 9, 2), (282, .iload_n 1, 1), (283, .invokevirtual 190, 3), (286, .ifCond .ne 15, 3), (289, .aload_n 0, 1)],
  [(290, .iload 9, 2), (292, .iconst 2, 1), (293, .iload 8, 2), (295, .invokevirtual 99, 3), (298, .goto 9, 3), (301, .aload_n 0, 1), (302, .iload 9, 2), (304, .invokevirtual 200, 3), (307, .iinc 9 (-1), 3), (310, .goto (-57), 3), (313, .iload 8, 2), (315, .ireturn, 1)]])
theorem tX10_erase : tabOK mX10_erase = true := by decide +kernel
def mX10_setStyle : MI := (yX10_setStyle, cX10_setStyle, 7, (some .int), [],
  [[(0, .iload_n 1, 1), (1, .invokestatic 151, 3), (4, .ifCond .eq 29, 3), (7, .aload_n 0, 1), (8, .iload_n 2, 1), (9, .invokevirtual 203, 3), (12, .ifCond .eq 21, 3), (15, .iload_n 3, 1), (16, .iconst 0, 1), (17, .aload_n 0, 1), (18, .getfield 23, 3), (21, .iconst 1, 1), (22, .isub, 1), (23, .invokestatic 124, 3), (26, .ifCond .eq 7, 3), (29, .iconst 1, 1)],
  [(30, .goto 4, 3), (33, .iconst 0, 1), (34, .istore 4, 2), (36, .iload 4, 2), (38, .ifCond .eq 11, 3), (41, .aload_n 0, 1), (42, .iload_n 2, 1), (43, .invokevirtual 197, 3), (46, .goto 4, 3), (49, .iconst 0, 1), (50, .istore 5, 2), (52, .iload 4, 2), (54, .ifCond .eq 26, 3), (57, .aload_n 0, 1), (58, .getfield 19, 3), (61, .ifCond .eq 19, 3)],
  [(64, .aload_n 0, 1), (65, .iload 5, 2), (67, .bipush 9, 2), (69, .invokevirtual 106, 3), (72, .iconst (-1), 1), (73, .if_icmp .ne 7, 3), (76, .iconst 1, 1), (77, .goto 4, 3), (80, .iconst 0, 1), (81, .istore 6, 2), (83, .aload_n 0, 1), (84, .iload 4, 2), (86, .ifCond .ne 7, 3), (89, .iconst 1, 1), (90, .goto 42, 3), (93, .iload 6, 2)],
  [(95, .ifCond .eq 20, 3), (98, .aload_n 0, 1), (99, .getfield 7, 3), (102, .sipush 3011, 3), (105, .iaload, 1), (106, .bipush 60, 2), (108, .if_icmp .ne 7, 3), (111, .iconst 2, 1), (112, .goto 20, 3), (115, .aload_n 0, 1), (116, .iload 5, 2), (118, .bipush 7, 2), (120, .invokevirtual 106, 3), (123, .iconst 1, 1), (124, .if_icmp .ne 7, 3), (127, .iconst 3, 1)],
  [(128, .goto 4, 3), (131, .iconst 0, 1), (132, .invokevirtual 141, 3), (135, .ifCond .ne 5, 3), (138, .iconst 0, 1), (139, .ireturn, 1), (140, .aload_n 0, 1), (141, .invokevirtual 166, 3), (144, .iload 6, 2), (146, .ifCond .eq 33, 3), (149, .aload_n 0, 1), (150, .iload 5, 2), (152, .bipush 8, 2), (154, .aload_n 0, 1), (155, .iload 5, 2), (157, .iconst 3, 1)],
  [(158, .invokevirtual 106, 3), (161, .invokevirtual 99, 3), (164, .aload_n 0, 1), (165, .iload 5, 2), (167, .bipush 9, 2), (169, .aload_n 0, 1), (170, .iload_n 1, 1), (171, .bipush 115, 2), (173, .invokevirtual 169, 3), (176, .invokevirtual 99, 3), (179, .aload_n 0, 1), (180, .getfield 19, 3), (183, .ifCond .ne 43, 3), (186, .aload_n 0, 1), (187, .iload 5, 2), (189, .bipush 9, 2)],
  [(191, .invokevirtual 106, 3), (194, .iconst (-1), 1), (195, .if_icmp .eq 31, 3), (198, .aload_n 0, 1), (199, .getfield 7, 3), (202, .sipush 3073, 3), (205, .aload_n 0, 1), (206, .iload 5, 2), (208, .bipush 9, 2), (210, .invokevirtual 106, 3), (213, .iadd, 1), (214, .bipush 97, 2), (216, .iastore, 1), (217, .aload_n 0, 1), (218, .iload 5, 2), (220, .bipush 9, 2)],
  [(222, .iconst (-1), 1), (223, .invokevirtual 99, 3), (226, .aload_n 0, 1), (227, .iload 5, 2), (229, .iconst 3, 1), (230, .iload_n 3, 1), (231, .invokevirtual 99, 3), (234, .aload_n 0, 1), (235, .getfield 19, 3), (238, .ifCond .eq 14, 3), (241, .aload_n 0, 1), (242, .iload 5, 2), (244, .bipush 9, 2), (246, .invokevirtual 106, 3), (249, .goto 4, 3), (252, .iconst (-1), 1)],
  [(253, .ireturn, 1)]])
theorem tX10_setStyle : tabOK mX10_setStyle = true := by decide +kernel
def mX10_protect : MI := (yX10_protect, cX10_protect, 5, (some .boolean), [],
  [[(0, .aload_n 0, 1), (1, .aload_n 0, 1), (2, .iload_n 1, 1), (3, .invokevirtual 203, 3), (6, .ifCond .eq 7, 3), (9, .iconst 0, 1), (10, .goto 4, 3), (13, .iconst 1, 1), (14, .invokevirtual 141, 3), (17, .ifCond .ne 5, 3), (20, .iconst 0, 1), (21, .ireturn, 1), (22, .aload_n 0, 1), (23, .invokevirtual 166, 3), (26, .aload_n 0, 1), (27, .iload_n 1, 1)],
  [(28, .invokevirtual 197, 3), (31, .istore_n 3, 1), (32, .aload_n 0, 1), (33, .iload_n 3, 1), (34, .bipush 7, 2), (36, .invokevirtual 106, 3), (39, .iconst 1, 1), (40, .if_icmp .ne 7, 3), (43, .iconst 1, 1), (44, .goto 4, 3), (47, .iconst 0, 1), (48, .istore 4, 2), (50, .aload_n 0, 1), (51, .iload_n 3, 1), (52, .bipush 7, 2), (54, .iload_n 2, 1)],
  [(55, .ifCond .eq 7, 3), (58, .iconst 1, 1), (59, .goto 4, 3), (62, .iconst 0, 1), (63, .invokevirtual 99, 3), (66, .iload 4, 2), (68, .ireturn, 1)]])
theorem tX10_protect : tabOK mX10_protect = true := by decide +kernel
def mX10_told : MI := (yX10_told, cX10_told, 1, (some .char), [],
  [[(0, .iload_n 0, 1), (1, .sipush 1000, 3), (4, .if_icmp .lt 8, 3), (7, .bipush 64, 2), (9, .goto 5, 3), (12, .iload_n 0, 1), (13, .i2c, 1), (14, .ireturn, 1)]])
theorem tX10_told : tabOK mX10_told = true := by decide +kernel
def mX10_length : MI := (yX10_length, cX10_length, 1, (some .int), [],
  [[(0, .aload_n 0, 1), (1, .iconst 0, 1), (2, .putfield 103, 3), (5, .aload_n 0, 1), (6, .invokevirtual 128, 3), (9, .ireturn, 1)]])
theorem tX10_length : tabOK mX10_length = true := by decide +kernel
def mX10_unitAt : MI := (yX10_unitAt, cX10_unitAt, 2, (some .char), [],
  [[(0, .aload_n 0, 1), (1, .iload_n 1, 1), (2, .iconst 0, 1), (3, .aload_n 0, 1), (4, .invokevirtual 128, 3), (7, .iconst 1, 1), (8, .isub, 1), (9, .invokestatic 124, 3), (12, .ifCond .eq 7, 3), (15, .iconst 0, 1), (16, .goto 4, 3), (19, .iconst 1, 1), (20, .invokevirtual 141, 3), (23, .ifCond .eq 19, 3), (26, .aload_n 0, 1), (27, .aload_n 0, 1)],
  [(28, .iload_n 1, 1), (29, .invokevirtual 157, 3), (32, .iconst 0, 1), (33, .invokevirtual 106, 3), (36, .invokestatic 206, 3), (39, .goto 4, 3), (42, .iconst 0, 1), (43, .ireturn, 1)]])
theorem tX10_unitAt : tabOK mX10_unitAt = true := by decide +kernel
def mX10_old : MI := (yX10_old, cX10_old, 4, (some .int), [],
  [[(0, .iload_n 1, 1), (1, .istore_n 2, 1), (2, .iconst 0, 1), (3, .istore_n 3, 1), (4, .iload_n 3, 1), (5, .aload_n 0, 1), (6, .invokevirtual 110, 3), (9, .if_icmp .ge 43, 3), (12, .aload_n 0, 1), (13, .iload_n 3, 1), (14, .iconst 1, 1), (15, .invokevirtual 106, 3), (18, .iconst (-1), 1), (19, .if_icmp .ne 9, 3), (22, .iload_n 2, 1), (23, .ifCond .ne 5, 3)],
  [(26, .iload_n 3, 1), (27, .ireturn, 1), (28, .iload_n 2, 1), (29, .aload_n 0, 1), (30, .iload_n 3, 1), (31, .iconst 1, 1), (32, .invokevirtual 106, 3), (35, .iconst (-1), 1), (36, .if_icmp .ne 7, 3), (39, .iconst 1, 1), (40, .goto 4, 3), (43, .iconst 0, 1), (44, .isub, 1), (45, .istore_n 2, 1), (46, .iinc 3 1, 3), (49, .goto (-45), 3)],
  [(52, .iconst (-1), 1), (53, .ireturn, 1)]])
theorem tX10_old : tabOK mX10_old = true := by decide +kernel
def mX10_oldLength : MI := (yX10_oldLength, cX10_oldLength, 3, (some .int), [],
  [[(0, .aload_n 0, 1), (1, .iconst 0, 1), (2, .putfield 103, 3), (5, .iconst 0, 1), (6, .istore_n 1, 1), (7, .iconst 0, 1), (8, .istore_n 2, 1), (9, .iload_n 2, 1), (10, .aload_n 0, 1), (11, .invokevirtual 110, 3), (14, .if_icmp .ge 27, 3), (17, .iload_n 1, 1), (18, .aload_n 0, 1), (19, .iload_n 2, 1), (20, .iconst 1, 1), (21, .invokevirtual 106, 3)],
  [(24, .iconst (-1), 1), (25, .if_icmp .ne 7, 3), (28, .iconst 1, 1), (29, .goto 4, 3), (32, .iconst 0, 1), (33, .iadd, 1), (34, .istore_n 1, 1), (35, .iinc 2 1, 3), (38, .goto (-29), 3), (41, .iload_n 1, 1), (42, .ireturn, 1)]])
theorem tX10_oldLength : tabOK mX10_oldLength = true := by decide +kernel
def mX10_oldAt : MI := (yX10_oldAt, cX10_oldAt, 3, (some .char), [],
  [[(0, .iload_n 1, 1), (1, .ifCond .ge 7, 3), (4, .iconst (-1), 1), (5, .goto 8, 3), (8, .aload_n 0, 1), (9, .iload_n 1, 1), (10, .invokevirtual 210, 3), (13, .istore_n 2, 1), (14, .aload_n 0, 1), (15, .iload_n 2, 1), (16, .iconst (-1), 1), (17, .if_icmp .ne 7, 3), (20, .iconst 1, 1), (21, .goto 4, 3), (24, .iconst 0, 1), (25, .invokevirtual 141, 3)],
  [(28, .ifCond .eq 15, 3), (31, .aload_n 0, 1), (32, .iload_n 2, 1), (33, .iconst 0, 1), (34, .invokevirtual 106, 3), (37, .invokestatic 206, 3), (40, .goto 4, 3), (43, .iconst 0, 1), (44, .ireturn, 1)]])
theorem tX10_oldAt : tabOK mX10_oldAt = true := by decide +kernel
def mX10_paragraphs : MI := (yX10_paragraphs, cX10_paragraphs, 1, (some .int), [],
  [[(0, .aload_n 0, 1), (1, .iconst 0, 1), (2, .putfield 103, 3), (5, .aload_n 0, 1), (6, .invokevirtual 121, 3), (9, .ireturn, 1)]])
theorem tX10_paragraphs : tabOK mX10_paragraphs = true := by decide +kernel
def mX10_paragraphAt : MI := (yX10_paragraphAt, cX10_paragraphAt, 5, (some .int), [],
  [[(0, .iconst 0, 1), (1, .istore_n 2, 1), (2, .aload_n 0, 1), (3, .iload_n 1, 1), (4, .invokevirtual 157, 3), (7, .istore_n 3, 1), (8, .iconst 0, 1), (9, .istore 4, 2), (11, .iload 4, 2), (13, .iload_n 3, 1), (14, .if_icmp .ge 35, 3), (17, .iload_n 2, 1), (18, .aload_n 0, 1), (19, .iload 4, 2), (21, .invokevirtual 114, 3), (24, .ifCond .eq 16, 3)],
  [(27, .aload_n 0, 1), (28, .iload 4, 2), (30, .invokevirtual 118, 3), (33, .ifCond .eq 7, 3), (36, .iconst 1, 1), (37, .goto 4, 3), (40, .iconst 0, 1), (41, .iadd, 1), (42, .istore_n 2, 1), (43, .iinc 4 1, 3), (46, .goto (-35), 3), (49, .iload_n 2, 1), (50, .ireturn, 1)]])
theorem tX10_paragraphAt : tabOK mX10_paragraphAt = true := by decide +kernel
def mX10_paragraphOf : MI := (yX10_paragraphOf, cX10_paragraphOf, 2, (some .int), [],
  [[(0, .aload_n 0, 1), (1, .aload_n 0, 1), (2, .iload_n 1, 1), (3, .invokevirtual 154, 3), (6, .ifCond .eq 7, 3), (9, .iconst 0, 1), (10, .goto 4, 3), (13, .iconst 1, 1), (14, .invokevirtual 141, 3), (17, .ifCond .eq 11, 3), (20, .aload_n 0, 1), (21, .iload_n 1, 1), (22, .invokevirtual 194, 3), (25, .goto 4, 3), (28, .iconst 0, 1), (29, .ireturn, 1)]])
theorem tX10_paragraphOf : tabOK mX10_paragraphOf = true := by decide +kernel
def mX10_startAt : MI := (yX10_startAt, cX10_startAt, 2, (some .int), [],
  [[(0, .iload_n 1, 1), (1, .ifCond .ne 7, 3), (4, .iconst 0, 1), (5, .goto 16, 3), (8, .aload_n 0, 1), (9, .aload_n 0, 1), (10, .iload_n 1, 1), (11, .iconst 1, 1), (12, .isub, 1), (13, .invokevirtual 197, 3), (16, .invokevirtual 213, 3), (19, .iconst 1, 1), (20, .iadd, 1), (21, .ireturn, 1)]])
theorem tX10_startAt : tabOK mX10_startAt = true := by decide +kernel
def mX10_startOf : MI := (yX10_startOf, cX10_startOf, 2, (some .int), [],
  [[(0, .aload_n 0, 1), (1, .aload_n 0, 1), (2, .iload_n 1, 1), (3, .invokevirtual 203, 3), (6, .ifCond .eq 7, 3), (9, .iconst 0, 1), (10, .goto 4, 3), (13, .iconst 1, 1), (14, .invokevirtual 141, 3), (17, .ifCond .eq 11, 3), (20, .aload_n 0, 1), (21, .iload_n 1, 1), (22, .invokevirtual 216, 3), (25, .goto 4, 3), (28, .iconst 0, 1), (29, .ireturn, 1)]])
theorem tX10_startOf : tabOK mX10_startOf = true := by decide +kernel
def mX10_isChange : MI := (yX10_isChange, cX10_isChange, 2, (some .boolean), [],
  [[(0, .iload_n 1, 1), (1, .iconst 0, 1), (2, .aload_n 0, 1), (3, .getfield 7, 3), (6, .sipush 3011, 3), (9, .iaload, 1), (10, .iconst 1, 1), (11, .isub, 1), (12, .invokestatic 124, 3), (15, .ireturn, 1)]])
theorem tX10_isChange : tabOK mX10_isChange = true := by decide +kernel
def mX10_changes : MI := (yX10_changes, cX10_changes, 1, (some .int), [],
  [[(0, .aload_n 0, 1), (1, .iconst 0, 1), (2, .putfield 103, 3), (5, .aload_n 0, 1), (6, .getfield 7, 3), (9, .sipush 3011, 3), (12, .iaload, 1), (13, .ireturn, 1)]])
theorem tX10_changes : tabOK mX10_changes = true := by decide +kernel
def mX10_kindOf : MI := (yX10_kindOf, cX10_kindOf, 2, (some .char), [],
  [[(0, .aload_n 0, 1), (1, .aload_n 0, 1), (2, .iload_n 1, 1), (3, .invokevirtual 219, 3), (6, .ifCond .eq 7, 3), (9, .iconst 0, 1), (10, .goto 4, 3), (13, .iconst 1, 1), (14, .invokevirtual 141, 3), (17, .ifCond .eq 17, 3), (20, .aload_n 0, 1), (21, .getfield 7, 3), (24, .sipush 3133, 3), (27, .iload_n 1, 1), (28, .iadd, 1), (29, .iaload, 1)],
  [(30, .i2c, 1), (31, .goto 4, 3), (34, .iconst 0, 1), (35, .ireturn, 1)]])
theorem tX10_kindOf : tabOK mX10_kindOf = true := by decide +kernel
def mX10_authorOf : MI := (yX10_authorOf, cX10_authorOf, 2, (some .int), [],
  [[(0, .aload_n 0, 1), (1, .aload_n 0, 1), (2, .iload_n 1, 1), (3, .invokevirtual 219, 3), (6, .ifCond .eq 7, 3), (9, .iconst 0, 1), (10, .goto 4, 3), (13, .iconst 1, 1), (14, .invokevirtual 141, 3), (17, .ifCond .eq 16, 3), (20, .aload_n 0, 1), (21, .getfield 7, 3), (24, .sipush 3013, 3), (27, .iload_n 1, 1), (28, .iadd, 1), (29, .iaload, 1)],
  [(30, .goto 4, 3), (33, .iconst 0, 1), (34, .ireturn, 1)]])
theorem tX10_authorOf : tabOK mX10_authorOf = true := by decide +kernel
def mX10_stateOf : MI := (yX10_stateOf, cX10_stateOf, 2, (some .char), [],
  [[(0, .aload_n 0, 1), (1, .aload_n 0, 1), (2, .iload_n 1, 1), (3, .invokevirtual 219, 3), (6, .ifCond .eq 7, 3), (9, .iconst 0, 1), (10, .goto 4, 3), (13, .iconst 1, 1), (14, .invokevirtual 141, 3), (17, .ifCond .eq 17, 3), (20, .aload_n 0, 1), (21, .getfield 7, 3), (24, .sipush 3073, 3), (27, .iload_n 1, 1), (28, .iadd, 1), (29, .iaload, 1)],
  [(30, .i2c, 1), (31, .goto 4, 3), (34, .iconst 0, 1), (35, .ireturn, 1)]])
theorem tX10_stateOf : tabOK mX10_stateOf = true := by decide +kernel
def mX10_concerns : MI := (yX10_concerns, cX10_concerns, 4, (some .int), [],
  [[(0, .iconst 0, 1), (1, .istore_n 2, 1), (2, .iconst 0, 1), (3, .istore_n 3, 1), (4, .iload_n 3, 1), (5, .aload_n 0, 1), (6, .invokevirtual 110, 3), (9, .if_icmp .gt 48, 3), (12, .iload_n 2, 1), (13, .aload_n 0, 1), (14, .iload_n 3, 1), (15, .iconst 1, 1), (16, .invokevirtual 106, 3), (19, .iload_n 1, 1), (20, .if_icmp .eq 24, 3), (23, .aload_n 0, 1)],
  [(24, .iload_n 3, 1), (25, .iconst 2, 1), (26, .invokevirtual 106, 3), (29, .iload_n 1, 1), (30, .if_icmp .eq 14, 3), (33, .aload_n 0, 1), (34, .iload_n 3, 1), (35, .bipush 9, 2), (37, .invokevirtual 106, 3), (40, .iload_n 1, 1), (41, .if_icmp .ne 7, 3), (44, .iconst 1, 1), (45, .goto 4, 3), (48, .iconst 0, 1), (49, .iadd, 1), (50, .istore_n 2, 1)],
  [(51, .iinc 3 1, 3), (54, .goto (-50), 3), (57, .iload_n 2, 1), (58, .ireturn, 1)]])
theorem tX10_concerns : tabOK mX10_concerns = true := by decide +kernel
def mX10_unitsOf : MI := (yX10_unitsOf, cX10_unitsOf, 2, (some .int), [],
  [[(0, .aload_n 0, 1), (1, .aload_n 0, 1), (2, .iload_n 1, 1), (3, .invokevirtual 219, 3), (6, .ifCond .eq 7, 3), (9, .iconst 0, 1), (10, .goto 4, 3), (13, .iconst 1, 1), (14, .invokevirtual 141, 3), (17, .ifCond .eq 11, 3), (20, .aload_n 0, 1), (21, .iload_n 1, 1), (22, .invokevirtual 222, 3), (25, .goto 4, 3), (28, .iconst 0, 1), (29, .ireturn, 1)]])
theorem tX10_unitsOf : tabOK mX10_unitsOf = true := by decide +kernel
def mX10_changeAt : MI := (yX10_changeAt, cX10_changeAt, 4, (some .int), [],
  [[(0, .iload_n 1, 1), (1, .iconst 0, 1), (2, .aload_n 0, 1), (3, .invokevirtual 128, 3), (6, .iconst 1, 1), (7, .isub, 1), (8, .invokestatic 124, 3), (11, .istore_n 2, 1), (12, .iload_n 2, 1), (13, .ifCond .eq 16, 3), (16, .aload_n 0, 1), (17, .aload_n 0, 1), (18, .iload_n 1, 1), (19, .invokevirtual 157, 3), (22, .iconst 1, 1), (23, .invokevirtual 106, 3)],
  [(26, .goto 4, 3), (29, .iconst (-1), 1), (30, .istore_n 3, 1), (31, .aload_n 0, 1), (32, .iload_n 2, 1), (33, .ifCond .ne 7, 3), (36, .iconst 1, 1), (37, .goto 13, 3), (40, .iload_n 3, 1), (41, .iconst (-1), 1), (42, .if_icmp .ne 7, 3), (45, .iconst 2, 1), (46, .goto 4, 3), (49, .iconst 0, 1), (50, .invokevirtual 141, 3), (53, .ifCond .eq 7, 3)],
  [(56, .iload_n 3, 1), (57, .goto 4, 3), (60, .iconst 0, 1), (61, .ireturn, 1)]])
theorem tX10_changeAt : tabOK mX10_changeAt = true := by decide +kernel
def mX10_judges : MI := (yX10_judges, cX10_judges, 7, (some .int), [],
  [[(0, .aload_n 0, 1), (1, .iload_n 1, 1), (2, .invokevirtual 222, 3), (5, .istore_n 3, 1), (6, .aload_n 0, 1), (7, .invokevirtual 110, 3), (10, .istore 4, 2), (12, .iload 4, 2), (14, .ifCond .lt 168, 3), (17, .aload_n 0, 1), (18, .iload 4, 2), (20, .iconst 1, 1), (21, .invokevirtual 106, 3), (24, .iload_n 1, 1), (25, .if_icmp .ne 7, 3), (28, .iconst 1, 1)],
  [(29, .goto 4, 3), (32, .iconst 0, 1), (33, .istore 5, 2), (35, .aload_n 0, 1), (36, .iload 4, 2), (38, .iconst 2, 1), (39, .invokevirtual 106, 3), (42, .iload_n 1, 1), (43, .if_icmp .ne 7, 3), (46, .iconst 1, 1), (47, .goto 4, 3), (50, .iconst 0, 1), (51, .istore 6, 2), (53, .aload_n 0, 1), (54, .iload 4, 2), (56, .bipush 9, 2)],
  [(58, .invokevirtual 106, 3), (61, .iload_n 1, 1), (62, .if_icmp .ne 41, 3), (65, .aload_n 0, 1), (66, .iload 4, 2), (68, .iconst 3, 1), (69, .iload_n 2, 1), (70, .ifCond .eq 13, 3), (73, .aload_n 0, 1), (74, .iload 4, 2), (76, .iconst 3, 1), (77, .invokevirtual 106, 3), (80, .goto 11, 3), (83, .aload_n 0, 1), (84, .iload 4, 2), (86, .bipush 8, 2)],
  [(88, .invokevirtual 106, 3), (91, .invokevirtual 99, 3), (94, .aload_n 0, 1), (95, .iload 4, 2), (97, .bipush 9, 2), (99, .iconst (-1), 1), (100, .invokevirtual 99, 3), (103, .iload 5, 2), (105, .ifCond .eq 7, 3), (108, .iload_n 2, 1), (109, .ifCond .eq 12, 3), (112, .iload 6, 2), (114, .ifCond .eq 16, 3), (117, .iload_n 2, 1), (118, .ifCond .eq 12, 3), (121, .aload_n 0, 1)],
  [(122, .iload 4, 2), (124, .invokevirtual 200, 3), (127, .goto 49, 3), (130, .aload_n 0, 1), (131, .iload 4, 2), (133, .iconst 1, 1), (134, .iload 5, 2), (136, .ifCond .eq 7, 3), (139, .iconst (-1), 1), (140, .goto 10, 3), (143, .aload_n 0, 1), (144, .iload 4, 2), (146, .iconst 1, 1), (147, .invokevirtual 106, 3), (150, .invokevirtual 99, 3), (153, .aload_n 0, 1)],
  [(154, .iload 4, 2), (156, .iconst 2, 1), (157, .iload 6, 2), (159, .ifCond .eq 7, 3), (162, .iconst (-1), 1), (163, .goto 10, 3), (166, .aload_n 0, 1), (167, .iload 4, 2), (169, .iconst 2, 1), (170, .invokevirtual 106, 3), (173, .invokevirtual 99, 3), (176, .iinc 4 (-1), 3), (179, .goto (-167), 3), (182, .aload_n 0, 1), (183, .getfield 7, 3), (186, .sipush 3073, 3)],
  [(189, .iload_n 1, 1), (190, .iadd, 1), (191, .iload_n 2, 1), (192, .ifCond .eq 8, 3), (195, .bipush 97, 2), (197, .goto 5, 3), (200, .bipush 114, 2), (202, .iastore, 1), (203, .iload_n 3, 1), (204, .ireturn, 1)]])
theorem tX10_judges : tabOK mX10_judges = true := by decide +kernel
def mX10_judged : MI := (yX10_judged, cX10_judged, 3, (some .int), [],
  [[(0, .aload_n 0, 1), (1, .aload_n 0, 1), (2, .iload_n 1, 1), (3, .invokevirtual 219, 3), (6, .ifCond .ne 7, 3), (9, .iconst 1, 1), (10, .goto 23, 3), (13, .aload_n 0, 1), (14, .getfield 7, 3), (17, .sipush 3073, 3), (20, .iload_n 1, 1), (21, .iadd, 1), (22, .iaload, 1), (23, .bipush 119, 2), (25, .if_icmp .eq 7, 3), (28, .iconst 2, 1)],
  [(29, .goto 4, 3), (32, .iconst 0, 1), (33, .invokevirtual 141, 3), (36, .ifCond .ne 5, 3), (39, .iconst 0, 1), (40, .ireturn, 1), (41, .aload_n 0, 1), (42, .invokevirtual 166, 3), (45, .aload_n 0, 1), (46, .iload_n 1, 1), (47, .iload_n 2, 1), (48, .invokevirtual 225, 3), (51, .ireturn, 1)]])
theorem tX10_judged : tabOK mX10_judged = true := by decide +kernel
def mX10_accept : MI := (yX10_accept, cX10_accept, 2, (some .int), [],
  [[(0, .aload_n 0, 1), (1, .iload_n 1, 1), (2, .iconst 1, 1), (3, .invokevirtual 229, 3), (6, .ireturn, 1)]])
theorem tX10_accept : tabOK mX10_accept = true := by decide +kernel
def mX10_refuse : MI := (yX10_refuse, cX10_refuse, 2, (some .int), [],
  [[(0, .aload_n 0, 1), (1, .iload_n 1, 1), (2, .iconst 0, 1), (3, .invokevirtual 229, 3), (6, .ireturn, 1)]])
theorem tX10_refuse : tabOK mX10_refuse = true := by decide +kernel
def mX10_judge : MI := (yX10_judge, cX10_judge, 7, (some .int), [],
  [[(0, .aload_n 0, 1), (1, .iload_n 1, 1), (2, .iconst (-1), 1), (3, .if_icmp .eq 10, 3), (6, .iload_n 1, 1), (7, .invokestatic 151, 3), (10, .ifCond .eq 7, 3), (13, .iconst 0, 1), (14, .goto 4, 3), (17, .iconst 1, 1), (18, .invokevirtual 141, 3), (21, .ifCond .ne 5, 3), (24, .iconst 0, 1), (25, .ireturn, 1), (26, .aload_n 0, 1), (27, .invokevirtual 166, 3)],
  [(30, .iconst 0, 1), (31, .istore_n 3, 1), (32, .iconst 0, 1), (33, .istore 4, 2), (35, .iload 4, 2), (37, .aload_n 0, 1), (38, .getfield 7, 3), (41, .sipush 3011, 3), (44, .iaload, 1), (45, .if_icmp .ge 83, 3), (48, .aload_n 0, 1), (49, .getfield 7, 3), (52, .sipush 3073, 3), (55, .iload 4, 2), (57, .iadd, 1), (58, .iaload, 1)],
  [(59, .bipush 119, 2), (61, .if_icmp .ne 27, 3), (64, .iload_n 1, 1), (65, .iconst (-1), 1), (66, .if_icmp .eq 18, 3), (69, .aload_n 0, 1), (70, .getfield 7, 3), (73, .sipush 3013, 3), (76, .iload 4, 2), (78, .iadd, 1), (79, .iaload, 1), (80, .iload_n 1, 1), (81, .if_icmp .ne 7, 3), (84, .iconst 1, 1), (85, .goto 4, 3), (88, .iconst 0, 1)],
  [(89, .istore 5, 2), (91, .iload 5, 2), (93, .ifCond .eq 13, 3), (96, .aload_n 0, 1), (97, .iload 4, 2), (99, .iload_n 2, 1), (100, .invokevirtual 225, 3), (103, .goto 4, 3), (106, .iconst 0, 1), (107, .istore 6, 2), (109, .iload_n 3, 1), (110, .iload 5, 2), (112, .ifCond .eq 7, 3), (115, .iconst 1, 1), (116, .goto 4, 3), (119, .iconst 0, 1)],
  [(120, .iadd, 1), (121, .istore_n 3, 1), (122, .iinc 4 1, 3), (125, .goto (-90), 3), (128, .iload_n 3, 1), (129, .ireturn, 1)]])
theorem tX10_judge : tabOK mX10_judge = true := by decide +kernel
def mX10_addStyle : MI := (yX10_addStyle, cX10_addStyle, 5, (some .int), [],
  [[(0, .iload_n 1, 1), (1, .iconst (-1), 1), (2, .aload_n 0, 1), (3, .getfield 23, 3), (6, .iconst 1, 1), (7, .isub, 1), (8, .invokestatic 124, 3), (11, .ifCond .eq 16, 3), (14, .iload_n 3, 1), (15, .iconst (-1), 1), (16, .iconst 1, 1), (17, .invokestatic 124, 3), (20, .ifCond .eq 7, 3), (23, .iconst 1, 1), (24, .goto 4, 3), (27, .iconst 0, 1)],
  [(28, .istore 4, 2), (30, .aload_n 0, 1), (31, .iload 4, 2), (33, .ifCond .ne 7, 3), (36, .iconst 1, 1), (37, .goto 17, 3), (40, .aload_n 0, 1), (41, .getfield 23, 3), (44, .bipush 8, 2), (46, .if_icmp .ne 7, 3), (49, .iconst 2, 1), (50, .goto 4, 3), (53, .iconst 0, 1), (54, .invokevirtual 141, 3), (57, .ifCond .ne 5, 3), (60, .iconst 0, 1)],
  [(61, .ireturn, 1), (62, .aload_n 0, 1), (63, .getfield 27, 3), (66, .aload_n 0, 1), (67, .getfield 23, 3), (70, .iload_n 1, 1), (71, .iastore, 1), (72, .aload_n 0, 1), (73, .getfield 30, 3), (76, .aload_n 0, 1), (77, .getfield 23, 3), (80, .iload_n 2, 1), (81, .bastore, 1), (82, .aload_n 0, 1), (83, .getfield 34, 3), (86, .aload_n 0, 1)],
  [(87, .getfield 23, 3), (90, .iload_n 3, 1), (91, .iastore, 1), (92, .aload_n 0, 1), (93, .dup, 1), (94, .getfield 23, 3), (97, .iconst 1, 1), (98, .iadd, 1), (99, .putfield 23, 3), (102, .aload_n 0, 1), (103, .getfield 23, 3), (106, .iconst 1, 1), (107, .isub, 1), (108, .ireturn, 1)]])
theorem tX10_addStyle : tabOK mX10_addStyle = true := by decide +kernel
def mX10_styleOf : MI := (yX10_styleOf, cX10_styleOf, 2, (some .int), [],
  [[(0, .aload_n 0, 1), (1, .aload_n 0, 1), (2, .iload_n 1, 1), (3, .invokevirtual 203, 3), (6, .ifCond .eq 7, 3), (9, .iconst 0, 1), (10, .goto 4, 3), (13, .iconst 1, 1), (14, .invokevirtual 141, 3), (17, .ifCond .eq 16, 3), (20, .aload_n 0, 1), (21, .aload_n 0, 1), (22, .iload_n 1, 1), (23, .invokevirtual 197, 3), (26, .iconst 3, 1), (27, .invokevirtual 106, 3)],
  [(30, .goto 4, 3), (33, .iconst 0, 1), (34, .ireturn, 1)]])
theorem tX10_styleOf : tabOK mX10_styleOf = true := by decide +kernel
def mX10_isBold : MI := (yX10_isBold, cX10_isBold, 4, (some .boolean), [],
  [[(0, .aload_n 0, 1), (1, .aload_n 0, 1), (2, .iload_n 1, 1), (3, .invokevirtual 203, 3), (6, .ifCond .eq 7, 3), (9, .iconst 0, 1), (10, .goto 4, 3), (13, .iconst 1, 1), (14, .invokevirtual 141, 3), (17, .ifCond .ne 5, 3), (20, .iconst 0, 1), (21, .ireturn, 1), (22, .iconst 0, 1), (23, .istore_n 2, 1), (24, .aload_n 0, 1), (25, .aload_n 0, 1)],
  [(26, .iload_n 1, 1), (27, .invokevirtual 197, 3), (30, .iconst 3, 1), (31, .invokevirtual 106, 3), (34, .istore_n 3, 1), (35, .iload_n 3, 1), (36, .iconst (-1), 1), (37, .if_icmp .eq 29, 3), (40, .iload_n 2, 1), (41, .aload_n 0, 1), (42, .getfield 30, 3), (45, .iload_n 3, 1), (46, .baload, 1), (47, .if_icmp .eq 7, 3), (50, .iconst 1, 1), (51, .goto 4, 3)],
  [(54, .iconst 0, 1), (55, .istore_n 2, 1), (56, .aload_n 0, 1), (57, .getfield 27, 3), (60, .iload_n 3, 1), (61, .iaload, 1), (62, .istore_n 3, 1), (63, .goto (-28), 3), (66, .iload_n 2, 1), (67, .ireturn, 1)]])
theorem tX10_isBold : tabOK mX10_isBold = true := by decide +kernel
def mX10_isKept : MI := (yX10_isKept, cX10_isKept, 3, (some .boolean), [],
  [[(0, .aload_n 0, 1), (1, .iload_n 1, 1), (2, .iconst 3, 1), (3, .invokevirtual 106, 3), (6, .istore_n 2, 1), (7, .iload_n 2, 1), (8, .iconst (-1), 1), (9, .if_icmp .eq 23, 3), (12, .aload_n 0, 1), (13, .getfield 34, 3), (16, .iload_n 2, 1), (17, .iaload, 1), (18, .iconst (-1), 1), (19, .if_icmp .ne 13, 3), (22, .aload_n 0, 1), (23, .getfield 27, 3)],
  [(26, .iload_n 2, 1), (27, .iaload, 1), (28, .istore_n 2, 1), (29, .goto (-22), 3), (32, .iload_n 2, 1), (33, .iconst (-1), 1), (34, .if_icmp .eq 17, 3), (37, .aload_n 0, 1), (38, .getfield 34, 3), (41, .iload_n 2, 1), (42, .iaload, 1), (43, .iconst 1, 1), (44, .if_icmp .ne 7, 3), (47, .iconst 1, 1), (48, .goto 4, 3), (51, .iconst 0, 1)],
  [(52, .ireturn, 1)]])
theorem tX10_isKept : tabOK mX10_isKept = true := by decide +kernel
def mX10_listFault : MI := (yX10_listFault, cX10_listFault, 3, (some .int), [],
  [[(0, .aload_n 0, 1), (1, .iload_n 1, 1), (2, .invokevirtual 203, 3), (5, .ifCond .ne 7, 3), (8, .iconst 1, 1), (9, .goto 31, 3), (12, .iload_n 2, 1), (13, .ifCond .ne 7, 3), (16, .iconst 2, 1), (17, .goto 23, 3), (20, .aload_n 0, 1), (21, .aload_n 0, 1), (22, .iload_n 1, 1), (23, .invokevirtual 197, 3), (26, .bipush 7, 2), (28, .invokevirtual 106, 3)],
  [(31, .iconst 1, 1), (32, .if_icmp .ne 7, 3), (35, .iconst 3, 1), (36, .goto 4, 3), (39, .iconst 0, 1), (40, .ireturn, 1)]])
theorem tX10_listFault : tabOK mX10_listFault = true := by decide +kernel
def mX10_setList : MI := (yX10_setList, cX10_setList, 7, (some .int), [],
  [[(0, .iload_n 2, 1), (1, .iconst (-1), 1), (2, .if_icmp .eq 21, 3), (5, .iload_n 2, 1), (6, .iconst 0, 1), (7, .iconst 2, 1), (8, .invokestatic 124, 3), (11, .ifCond .eq 16, 3), (14, .iload_n 3, 1), (15, .iconst 0, 1), (16, .iconst 2, 1), (17, .invokestatic 124, 3), (20, .ifCond .eq 7, 3), (23, .iconst 1, 1), (24, .goto 4, 3), (27, .iconst 0, 1)],
  [(28, .istore 4, 2), (30, .aload_n 0, 1), (31, .aload_n 0, 1), (32, .iload_n 1, 1), (33, .iload 4, 2), (35, .invokevirtual 232, 3), (38, .invokevirtual 141, 3), (41, .ifCond .ne 5, 3), (44, .iconst 0, 1), (45, .ireturn, 1), (46, .aload_n 0, 1), (47, .invokevirtual 166, 3), (50, .aload_n 0, 1), (51, .iload_n 1, 1), (52, .invokevirtual 197, 3), (55, .istore 5, 2)],
  [(57, .aload_n 0, 1), (58, .iload 5, 2), (60, .iconst 4, 1), (61, .invokevirtual 106, 3), (64, .istore 6, 2), (66, .aload_n 0, 1), (67, .iload 5, 2), (69, .iconst 4, 1), (70, .iload_n 2, 1), (71, .invokevirtual 99, 3), (74, .aload_n 0, 1), (75, .iload 5, 2), (77, .iconst 5, 1), (78, .iload_n 2, 1), (79, .iconst (-1), 1), (80, .if_icmp .ne 7, 3)],
  [(83, .iconst 0, 1), (84, .goto 4, 3), (87, .iload_n 3, 1), (88, .invokevirtual 99, 3), (91, .iload 6, 2), (93, .ireturn, 1)]])
theorem tX10_setList : tabOK mX10_setList = true := by decide +kernel
def mX10_restart : MI := (yX10_restart, cX10_restart, 5, (some .int), [],
  [[(0, .aload_n 0, 1), (1, .aload_n 0, 1), (2, .iload_n 1, 1), (3, .iload_n 2, 1), (4, .iconst 0, 1), (5, .bipush 99, 2), (7, .invokestatic 124, 3), (10, .invokevirtual 232, 3), (13, .invokevirtual 141, 3), (16, .ifCond .ne 5, 3), (19, .iconst 0, 1), (20, .ireturn, 1), (21, .aload_n 0, 1), (22, .invokevirtual 166, 3), (25, .aload_n 0, 1), (26, .iload_n 1, 1)],
  [(27, .invokevirtual 197, 3), (30, .istore_n 3, 1), (31, .aload_n 0, 1), (32, .iload_n 3, 1), (33, .bipush 6, 2), (35, .invokevirtual 106, 3), (38, .istore 4, 2), (40, .aload_n 0, 1), (41, .iload_n 3, 1), (42, .bipush 6, 2), (44, .iload_n 2, 1), (45, .invokevirtual 99, 3), (48, .iload 4, 2), (50, .ireturn, 1)]])
theorem tX10_restart : tabOK mX10_restart = true := by decide +kernel
def mX10_isList : MI := (yX10_isList, cX10_isList, 1, (some .boolean), [],
  [[(0, .iload_n 0, 1), (1, .iconst 0, 1), (2, .iconst 2, 1), (3, .invokestatic 124, 3), (6, .ireturn, 1)]])
theorem tX10_isList : tabOK mX10_isList = true := by decide +kernel
def mX10_setKind : MI := (yX10_setKind, cX10_setKind, 6, (some .char), [],
  [[(0, .iload_n 1, 1), (1, .invokestatic 235, 3), (4, .ifCond .eq 34, 3), (7, .iload_n 2, 1), (8, .iconst 0, 1), (9, .iconst 2, 1), (10, .invokestatic 124, 3), (13, .ifCond .eq 25, 3), (16, .iload_n 3, 1), (17, .bipush 100, 2), (19, .if_icmp .eq 15, 3), (22, .iload_n 3, 1), (23, .bipush 97, 2), (25, .if_icmp .eq 9, 3), (28, .iload_n 3, 1), (29, .bipush 114, 2)],
  [(31, .if_icmp .ne 7, 3), (34, .iconst 1, 1), (35, .goto 4, 3), (38, .iconst 0, 1), (39, .istore 4, 2), (41, .aload_n 0, 1), (42, .iload 4, 2), (44, .ifCond .eq 7, 3), (47, .iconst 0, 1), (48, .goto 4, 3), (51, .iconst 1, 1), (52, .invokevirtual 141, 3), (55, .ifCond .ne 5, 3), (58, .iconst 0, 1), (59, .ireturn, 1), (60, .aload_n 0, 1)],
  [(61, .getfield 37, 3), (64, .iconst 3, 1), (65, .iload_n 1, 1), (66, .imul, 1), (67, .iload_n 2, 1), (68, .iadd, 1), (69, .caload, 1), (70, .istore 5, 2), (72, .aload_n 0, 1), (73, .getfield 37, 3), (76, .iconst 3, 1), (77, .iload_n 1, 1), (78, .imul, 1), (79, .iload_n 2, 1), (80, .iadd, 1), (81, .iload_n 3, 1)],
  [(82, .castore, 1), (83, .iload 5, 2), (85, .ireturn, 1)]])
theorem tX10_setKind : tabOK mX10_setKind = true := by decide +kernel
def mX10_setLegal : MI := (yX10_setLegal, cX10_setLegal, 4, (some .boolean), [],
  [[(0, .aload_n 0, 1), (1, .iload_n 1, 1), (2, .invokestatic 235, 3), (5, .ifCond .eq 7, 3), (8, .iconst 0, 1), (9, .goto 4, 3), (12, .iconst 1, 1), (13, .invokevirtual 141, 3), (16, .ifCond .ne 5, 3), (19, .iconst 0, 1), (20, .ireturn, 1), (21, .aload_n 0, 1), (22, .getfield 41, 3), (25, .iload_n 1, 1), (26, .baload, 1), (27, .istore_n 3, 1)],
  [(28, .aload_n 0, 1), (29, .getfield 41, 3), (32, .iload_n 1, 1), (33, .iload_n 2, 1), (34, .bastore, 1), (35, .iload_n 3, 1), (36, .ireturn, 1)]])
theorem tX10_setLegal : tabOK mX10_setLegal = true := by decide +kernel
def mX10_counts : MI := (yX10_counts, cX10_counts, 8, (some .int), [],
  [[(0, .iconst 0, 1), (1, .istore_n 2, 1), (2, .iload_n 2, 1), (3, .iconst 3, 1), (4, .if_icmp .ge 16, 3), (7, .aload_n 0, 1), (8, .getfield 65, 3), (11, .iload_n 2, 1), (12, .iconst 0, 1), (13, .iastore, 1), (14, .iinc 2 1, 3), (17, .goto (-15), 3), (20, .aload_n 0, 1), (21, .iload_n 1, 1), (22, .iconst 4, 1), (23, .invokevirtual 106, 3)],
  [(26, .istore_n 2, 1), (27, .iconst 0, 1), (28, .istore_n 3, 1), (29, .iconst 0, 1), (30, .istore 4, 2), (32, .iload 4, 2), (34, .iload_n 1, 1), (35, .if_icmp .gt 139, 3), (38, .iload_n 2, 1), (39, .iconst (-1), 1), (40, .if_icmp .eq 134, 3), (43, .iload 4, 2), (45, .aload_n 0, 1), (46, .invokevirtual 110, 3), (49, .if_icmp .eq 21, 3), (52, .aload_n 0, 1)],
  [(53, .iload 4, 2), (55, .invokevirtual 114, 3), (58, .ifCond .eq 27, 3), (61, .aload_n 0, 1), (62, .iload 4, 2), (64, .invokevirtual 118, 3), (67, .ifCond .eq 18, 3), (70, .aload_n 0, 1), (71, .iload 4, 2), (73, .iconst 4, 1), (74, .invokevirtual 106, 3), (77, .iload_n 2, 1), (78, .if_icmp .ne 7, 3), (81, .iconst 1, 1), (82, .goto 4, 3), (85, .iconst 0, 1)],
  [(86, .istore 5, 2), (88, .iload 5, 2), (90, .ifCond .eq 78, 3), (93, .aload_n 0, 1), (94, .iload 4, 2), (96, .iconst 5, 1), (97, .invokevirtual 106, 3), (100, .istore 6, 2), (102, .aload_n 0, 1), (103, .iload 4, 2), (105, .bipush 6, 2), (107, .invokevirtual 106, 3), (110, .ifCond .le 14, 3), (113, .aload_n 0, 1), (114, .iload 4, 2), (116, .bipush 6, 2)],
  [(118, .invokevirtual 106, 3), (121, .goto 12, 3), (124, .aload_n 0, 1), (125, .getfield 65, 3), (128, .iload 6, 2), (130, .iaload, 1), (131, .iconst 1, 1), (132, .iadd, 1), (133, .istore_n 3, 1), (134, .aload_n 0, 1), (135, .getfield 65, 3), (138, .iload 6, 2), (140, .iload_n 3, 1), (141, .iastore, 1), (142, .iload 6, 2), (144, .iconst 1, 1)],
  [(145, .iadd, 1), (146, .istore 7, 2), (148, .iload 7, 2), (150, .iconst 3, 1), (151, .if_icmp .ge 17, 3), (154, .aload_n 0, 1), (155, .getfield 65, 3), (158, .iload 7, 2), (160, .iconst 0, 1), (161, .iastore, 1), (162, .iinc 7 1, 3), (165, .goto (-17), 3), (168, .iinc 4 1, 3), (171, .goto (-139), 3), (174, .iload_n 3, 1), (175, .ireturn, 1)]])
theorem tX10_counts : tabOK mX10_counts = true := by decide +kernel
def mX10_numberOf : MI := (yX10_numberOf, cX10_numberOf, 2, (some .int), [],
  [[(0, .aload_n 0, 1), (1, .aload_n 0, 1), (2, .iload_n 1, 1), (3, .invokevirtual 203, 3), (6, .ifCond .eq 7, 3), (9, .iconst 0, 1), (10, .goto 4, 3), (13, .iconst 1, 1), (14, .invokevirtual 141, 3), (17, .ifCond .eq 15, 3), (20, .aload_n 0, 1), (21, .aload_n 0, 1), (22, .iload_n 1, 1), (23, .invokevirtual 197, 3), (26, .invokevirtual 238, 3), (29, .goto 4, 3)],
  [(32, .iconst 0, 1), (33, .ireturn, 1)]])
theorem tX10_numberOf : tabOK mX10_numberOf = true := by decide +kernel
def mX10_puts : MI := (yX10_puts, cX10_puts, 2, none, [],
  [[(0, .aload_n 0, 1), (1, .getfield 62, 3), (4, .aload_n 0, 1), (5, .getfield 241, 3), (8, .iload_n 1, 1), (9, .castore, 1), (10, .aload_n 0, 1), (11, .dup, 1), (12, .getfield 241, 3), (15, .iconst 1, 1), (16, .iadd, 1), (17, .putfield 241, 3), (20, .return_, 1)]])
theorem tX10_puts : tabOK mX10_puts = true := by decide +kernel
def mX10_putsDigits : MI := (yX10_putsDigits, cX10_putsDigits, 2, none, [],
  [[(0, .iload_n 1, 1), (1, .bipush 9, 2), (3, .if_icmp .le 11, 3), (6, .aload_n 0, 1), (7, .iload_n 1, 1), (8, .bipush 10, 2), (10, .idiv, 1), (11, .invokevirtual 244, 3), (14, .aload_n 0, 1), (15, .bipush 48, 2), (17, .iload_n 1, 1), (18, .bipush 10, 2), (20, .irem, 1), (21, .iadd, 1), (22, .i2c, 1), (23, .invokevirtual 247, 3)],
  [(26, .return_, 1)]])
theorem tX10_putsDigits : tabOK mX10_putsDigits = true := by decide +kernel
def mX10_putsLetters : MI := (yX10_putsLetters, cX10_putsLetters, 3, none, [],
  [[(0, .iconst 0, 1), (1, .istore_n 2, 1), (2, .iload_n 2, 1), (3, .iload_n 1, 1), (4, .iconst 1, 1), (5, .isub, 1), (6, .bipush 26, 2), (8, .idiv, 1), (9, .if_icmp .gt 23, 3), (12, .aload_n 0, 1), (13, .bipush 97, 2), (15, .iload_n 1, 1), (16, .iconst 1, 1), (17, .isub, 1), (18, .bipush 26, 2), (20, .irem, 1)],
  [(21, .iadd, 1), (22, .i2c, 1), (23, .invokevirtual 247, 3), (26, .iinc 2 1, 3), (29, .goto (-27), 3), (32, .return_, 1)]])
theorem tX10_putsLetters : tabOK mX10_putsLetters = true := by decide +kernel
def mX10_putsRoman : MI := (yX10_putsRoman, cX10_putsRoman, 3, none, [],
  [[(0, .iload_n 1, 1), (1, .istore_n 2, 1), (2, .iload_n 2, 1), (3, .ifCond .le 156, 3), (6, .iload_n 2, 1), (7, .bipush 100, 2), (9, .if_icmp .lt 15, 3), (12, .aload_n 0, 1), (13, .bipush 99, 2), (15, .invokevirtual 247, 3), (18, .iinc 2 (-100), 3), (21, .goto (-19), 3), (24, .iload_n 2, 1), (25, .bipush 90, 2), (27, .if_icmp .lt 15, 3), (30, .aload_n 0, 1)],
  [(31, .bipush 120, 2), (33, .invokevirtual 247, 3), (36, .iinc 2 10, 3), (39, .goto (-37), 3), (42, .iload_n 2, 1), (43, .bipush 50, 2), (45, .if_icmp .lt 15, 3), (48, .aload_n 0, 1), (49, .bipush 108, 2), (51, .invokevirtual 247, 3), (54, .iinc 2 (-50), 3), (57, .goto (-55), 3), (60, .iload_n 2, 1), (61, .bipush 40, 2), (63, .if_icmp .lt 15, 3), (66, .aload_n 0, 1)],
  [(67, .bipush 120, 2), (69, .invokevirtual 247, 3), (72, .iinc 2 10, 3), (75, .goto (-73), 3), (78, .iload_n 2, 1), (79, .bipush 10, 2), (81, .if_icmp .lt 15, 3), (84, .aload_n 0, 1), (85, .bipush 120, 2), (87, .invokevirtual 247, 3), (90, .iinc 2 (-10), 3), (93, .goto (-91), 3), (96, .iload_n 2, 1), (97, .bipush 9, 2), (99, .if_icmp .ne 15, 3), (102, .aload_n 0, 1)],
  [(103, .bipush 105, 2), (105, .invokevirtual 247, 3), (108, .bipush 10, 2), (110, .istore_n 2, 1), (111, .goto (-109), 3), (114, .iload_n 2, 1), (115, .iconst 5, 1), (116, .if_icmp .lt 15, 3), (119, .aload_n 0, 1), (120, .bipush 118, 2), (122, .invokevirtual 247, 3), (125, .iinc 2 (-5), 3), (128, .goto (-126), 3), (131, .iload_n 2, 1), (132, .iconst 4, 1), (133, .if_icmp .ne 14, 3)],
  [(136, .aload_n 0, 1), (137, .bipush 105, 2), (139, .invokevirtual 247, 3), (142, .iconst 5, 1), (143, .istore_n 2, 1), (144, .goto (-142), 3), (147, .aload_n 0, 1), (148, .bipush 105, 2), (150, .invokevirtual 247, 3), (153, .iinc 2 (-1), 3), (156, .goto (-154), 3), (159, .return_, 1)]])
theorem tX10_putsRoman : tabOK mX10_putsRoman = true := by decide +kernel
def mX10_writeNumber : MI := (yX10_writeNumber, cX10_writeNumber, 9, (some .int), [],
  [[(0, .aload_n 0, 1), (1, .iload_n 1, 1), (2, .invokevirtual 203, 3), (5, .istore_n 2, 1), (6, .iload_n 2, 1), (7, .ifCond .eq 11, 3), (10, .aload_n 0, 1), (11, .iload_n 1, 1), (12, .invokevirtual 197, 3), (15, .goto 4, 3), (18, .iconst 0, 1), (19, .istore_n 3, 1), (20, .aload_n 0, 1), (21, .iload_n 2, 1), (22, .ifCond .ne 7, 3), (25, .iconst 1, 1)],
  [(26, .goto 18, 3), (29, .aload_n 0, 1), (30, .iload_n 3, 1), (31, .iconst 4, 1), (32, .invokevirtual 106, 3), (35, .iconst (-1), 1), (36, .if_icmp .ne 7, 3), (39, .iconst 2, 1), (40, .goto 4, 3), (43, .iconst 0, 1), (44, .invokevirtual 141, 3), (47, .ifCond .ne 5, 3), (50, .iconst 0, 1), (51, .ireturn, 1), (52, .aload_n 0, 1), (53, .iload_n 3, 1)],
  [(54, .invokevirtual 238, 3), (57, .istore 4, 2), (59, .aload_n 0, 1), (60, .iload_n 3, 1), (61, .iconst 4, 1), (62, .invokevirtual 106, 3), (65, .istore 5, 2), (67, .aload_n 0, 1), (68, .iconst 0, 1), (69, .putfield 241, 3), (72, .iconst 0, 1), (73, .istore 6, 2), (75, .iload 6, 2), (77, .aload_n 0, 1), (78, .iload_n 3, 1), (79, .iconst 5, 1)],
  [(80, .invokevirtual 106, 3), (83, .if_icmp .gt 126, 3), (86, .iload 6, 2), (88, .aload_n 0, 1), (89, .iload_n 3, 1), (90, .iconst 5, 1), (91, .invokevirtual 106, 3), (94, .if_icmp .ne 8, 3), (97, .iload 4, 2), (99, .goto 24, 3), (102, .aload_n 0, 1), (103, .getfield 65, 3), (106, .iload 6, 2), (108, .iaload, 1), (109, .ifCond .ne 7, 3), (112, .iconst 1, 1)],
  [(113, .goto 10, 3), (116, .aload_n 0, 1), (117, .getfield 65, 3), (120, .iload 6, 2), (122, .iaload, 1), (123, .istore 7, 2), (125, .aload_n 0, 1), (126, .getfield 41, 3), (129, .iload 5, 2), (131, .baload, 1), (132, .ifCond .eq 8, 3), (135, .bipush 100, 2), (137, .goto 15, 3), (140, .aload_n 0, 1), (141, .getfield 37, 3), (144, .iconst 3, 1)],
  [(145, .iload 5, 2), (147, .imul, 1), (148, .iload 6, 2), (150, .iadd, 1), (151, .caload, 1), (152, .istore 8, 2), (154, .iload 6, 2), (156, .ifCond .le 9, 3), (159, .aload_n 0, 1), (160, .bipush 46, 2), (162, .invokevirtual 247, 3), (165, .iload 8, 2), (167, .bipush 100, 2), (169, .if_icmp .ne 12, 3), (172, .aload_n 0, 1), (173, .iload 7, 2)],
  [(175, .invokevirtual 244, 3), (178, .goto 25, 3), (181, .iload 8, 2), (183, .bipush 97, 2), (185, .if_icmp .ne 12, 3), (188, .aload_n 0, 1), (189, .iload 7, 2), (191, .invokevirtual 251, 3), (194, .goto 9, 3), (197, .aload_n 0, 1), (198, .iload 7, 2), (200, .invokevirtual 254, 3), (203, .iinc 6 1, 3), (206, .goto (-131), 3), (209, .aload_n 0, 1), (210, .getfield 241, 3)],
  [(213, .ireturn, 1)]])
theorem tX10_writeNumber : tabOK mX10_writeNumber = true := by decide +kernel
def mX10_lineAt : MI := (yX10_lineAt, cX10_lineAt, 2, (some .char), [],
  [[(0, .aload_n 0, 1), (1, .iload_n 1, 1), (2, .iconst 0, 1), (3, .aload_n 0, 1), (4, .getfield 241, 3), (7, .iconst 1, 1), (8, .isub, 1), (9, .invokestatic 124, 3), (12, .ifCond .eq 7, 3), (15, .iconst 0, 1), (16, .goto 4, 3), (19, .iconst 1, 1), (20, .invokevirtual 141, 3), (23, .ifCond .eq 12, 3), (26, .aload_n 0, 1), (27, .getfield 62, 3)],
  [(30, .iload_n 1, 1), (31, .caload, 1), (32, .goto 4, 3), (35, .iconst 0, 1), (36, .ireturn, 1)]])
theorem tX10_lineAt : tabOK mX10_lineAt = true := by decide +kernel
def mX10_setBookmark : MI := (yX10_setBookmark, cX10_setBookmark, 4, (some .int), [],
  [[(0, .aload_n 0, 1), (1, .iload_n 1, 1), (2, .invokestatic 184, 3), (5, .ifCond .eq 19, 3), (8, .aload_n 0, 1), (9, .iload_n 2, 1), (10, .invokevirtual 154, 3), (13, .ifCond .eq 11, 3), (16, .aload_n 0, 1), (17, .iload_n 3, 1), (18, .invokevirtual 154, 3), (21, .ifCond .ne 7, 3), (24, .iconst 1, 1), (25, .goto 13, 3), (28, .iload_n 3, 1), (29, .iload_n 2, 1)],
  [(30, .if_icmp .ge 7, 3), (33, .iconst 2, 1), (34, .goto 4, 3), (37, .iconst 0, 1), (38, .invokevirtual 141, 3), (41, .ifCond .ne 5, 3), (44, .iconst 0, 1), (45, .ireturn, 1), (46, .aload_n 0, 1), (47, .invokevirtual 166, 3), (50, .aload_n 0, 1), (51, .getfield 7, 3), (54, .sipush 3193, 3), (57, .iload_n 1, 1), (58, .iadd, 1), (59, .aload_n 0, 1)],
  [(60, .iload_n 2, 1), (61, .invokevirtual 157, 3), (64, .iastore, 1), (65, .aload_n 0, 1), (66, .getfield 7, 3), (69, .sipush 3199, 3), (72, .iload_n 1, 1), (73, .iadd, 1), (74, .aload_n 0, 1), (75, .iload_n 3, 1), (76, .invokevirtual 157, 3), (79, .iastore, 1), (80, .iload_n 3, 1), (81, .iload_n 2, 1), (82, .isub, 1), (83, .ireturn, 1)]])
theorem tX10_setBookmark : tabOK mX10_setBookmark = true := by decide +kernel
def mX10_fromPlace : MI := (yX10_fromPlace, cX10_fromPlace, 2, (some .int), [],
  [[(0, .aload_n 0, 1), (1, .aload_n 0, 1), (2, .getfield 7, 3), (5, .sipush 3193, 3), (8, .iload_n 1, 1), (9, .iadd, 1), (10, .iaload, 1), (11, .invokevirtual 213, 3), (14, .ireturn, 1)]])
theorem tX10_fromPlace : tabOK mX10_fromPlace = true := by decide +kernel
def mX10_toPlace : MI := (yX10_toPlace, cX10_toPlace, 3, (some .int), [],
  [[(0, .aload_n 0, 1), (1, .aload_n 0, 1), (2, .getfield 7, 3), (5, .sipush 3199, 3), (8, .iload_n 1, 1), (9, .iadd, 1), (10, .iaload, 1), (11, .invokevirtual 213, 3), (14, .istore_n 2, 1), (15, .iload_n 2, 1), (16, .aload_n 0, 1), (17, .iload_n 1, 1), (18, .invokevirtual 257, 3), (21, .if_icmp .ge 11, 3), (24, .aload_n 0, 1), (25, .iload_n 1, 1)],
  [(26, .invokevirtual 257, 3), (29, .goto 4, 3), (32, .iload_n 2, 1), (33, .ireturn, 1)]])
theorem tX10_toPlace : tabOK mX10_toPlace = true := by decide +kernel
def mX10_bookmarkFault : MI := (yX10_bookmarkFault, cX10_bookmarkFault, 2, (some .int), [],
  [[(0, .iload_n 1, 1), (1, .invokestatic 184, 3), (4, .ifCond .ne 7, 3), (7, .iconst 1, 1), (8, .goto 22, 3), (11, .aload_n 0, 1), (12, .getfield 7, 3), (15, .sipush 3193, 3), (18, .iload_n 1, 1), (19, .iadd, 1), (20, .iaload, 1), (21, .iconst (-1), 1), (22, .if_icmp .ne 7, 3), (25, .iconst 2, 1), (26, .goto 4, 3), (29, .iconst 0, 1)],
  [(30, .ireturn, 1)]])
theorem tX10_bookmarkFault : tabOK mX10_bookmarkFault = true := by decide +kernel
def mX10_bookmarkFrom : MI := (yX10_bookmarkFrom, cX10_bookmarkFrom, 2, (some .int), [],
  [[(0, .aload_n 0, 1), (1, .aload_n 0, 1), (2, .iload_n 1, 1), (3, .invokevirtual 260, 3), (6, .invokevirtual 141, 3), (9, .ifCond .eq 11, 3), (12, .aload_n 0, 1), (13, .iload_n 1, 1), (14, .invokevirtual 257, 3), (17, .goto 4, 3), (20, .iconst 0, 1), (21, .ireturn, 1)]])
theorem tX10_bookmarkFrom : tabOK mX10_bookmarkFrom = true := by decide +kernel
def mX10_bookmarkTo : MI := (yX10_bookmarkTo, cX10_bookmarkTo, 2, (some .int), [],
  [[(0, .aload_n 0, 1), (1, .aload_n 0, 1), (2, .iload_n 1, 1), (3, .invokevirtual 260, 3), (6, .invokevirtual 141, 3), (9, .ifCond .eq 11, 3), (12, .aload_n 0, 1), (13, .iload_n 1, 1), (14, .invokevirtual 263, 3), (17, .goto 4, 3), (20, .iconst 0, 1), (21, .ireturn, 1)]])
theorem tX10_bookmarkTo : tabOK mX10_bookmarkTo = true := by decide +kernel
def mX10_isField : MI := (yX10_isField, cX10_isField, 2, (some .boolean), [],
  [[(0, .iload_n 1, 1), (1, .iconst 0, 1), (2, .aload_n 0, 1), (3, .getfield 187, 3), (6, .iconst 1, 1), (7, .isub, 1), (8, .invokestatic 124, 3), (11, .ireturn, 1)]])
theorem tX10_isField : tabOK mX10_isField = true := by decide +kernel
def mX10_lock : MI := (yX10_lock, cX10_lock, 4, (some .boolean), [],
  [[(0, .aload_n 0, 1), (1, .aload_n 0, 1), (2, .iload_n 1, 1), (3, .invokevirtual 266, 3), (6, .ifCond .eq 7, 3), (9, .iconst 0, 1), (10, .goto 4, 3), (13, .iconst 1, 1), (14, .invokevirtual 141, 3), (17, .ifCond .ne 5, 3), (20, .iconst 0, 1), (21, .ireturn, 1), (22, .aload_n 0, 1), (23, .getfield 50, 3), (26, .iload_n 1, 1), (27, .baload, 1)],
  [(28, .istore_n 3, 1), (29, .aload_n 0, 1), (30, .getfield 50, 3), (33, .iload_n 1, 1), (34, .iload_n 2, 1), (35, .bastore, 1), (36, .iload_n 3, 1), (37, .ireturn, 1)]])
theorem tX10_lock : tabOK mX10_lock = true := by decide +kernel
def mX10_result : MI := (yX10_result, cX10_result, 2, (some .int), [],
  [[(0, .aload_n 0, 1), (1, .aload_n 0, 1), (2, .iload_n 1, 1), (3, .invokevirtual 266, 3), (6, .ifCond .eq 7, 3), (9, .iconst 0, 1), (10, .goto 4, 3), (13, .iconst 1, 1), (14, .invokevirtual 141, 3), (17, .ifCond .eq 16, 3), (20, .aload_n 0, 1), (21, .getfield 7, 3), (24, .sipush 3205, 3), (27, .iload_n 1, 1), (28, .iadd, 1), (29, .iaload, 1)],
  [(30, .goto 4, 3), (33, .iconst 0, 1), (34, .ireturn, 1)]])
theorem tX10_result : tabOK mX10_result = true := by decide +kernel
def mX10_isThere : MI := (yX10_isThere, cX10_isThere, 4, (some .boolean), [],
  [[(0, .iconst 0, 1), (1, .istore_n 2, 1), (2, .iconst 0, 1), (3, .istore_n 3, 1), (4, .iload_n 3, 1), (5, .aload_n 0, 1), (6, .invokevirtual 110, 3), (9, .if_icmp .ge 33, 3), (12, .iload_n 2, 1), (13, .ifCond .ne 17, 3), (16, .aload_n 0, 1), (17, .iload_n 3, 1), (18, .iconst 0, 1), (19, .invokevirtual 106, 3), (22, .sipush 1000, 3), (25, .iload_n 1, 1)],
  [(26, .iadd, 1), (27, .if_icmp .ne 7, 3), (30, .iconst 1, 1), (31, .goto 4, 3), (34, .iconst 0, 1), (35, .istore_n 2, 1), (36, .iinc 3 1, 3), (39, .goto (-35), 3), (42, .iload_n 2, 1), (43, .ireturn, 1)]])
theorem tX10_isThere : tabOK mX10_isThere = true := by decide +kernel
def mX10_found : MI := (yX10_found, cX10_found, 4, (some .int), [],
  [[(0, .aload_n 0, 1), (1, .getfield 44, 3), (4, .iload_n 1, 1), (5, .caload, 1), (6, .istore_n 2, 1), (7, .iload_n 2, 1), (8, .bipush 99, 2), (10, .if_icmp .ne 8, 3), (13, .aload_n 0, 1), (14, .invokevirtual 121, 3), (17, .ireturn, 1), (18, .iload_n 2, 1), (19, .bipush 114, 2), (21, .if_icmp .ne 22, 3), (24, .aload_n 0, 1), (25, .getfield 53, 3)],
  [(28, .iconst 3, 1), (29, .aload_n 0, 1), (30, .getfield 269, 3), (33, .imul, 1), (34, .aload_n 0, 1), (35, .getfield 47, 3), (38, .iload_n 1, 1), (39, .iaload, 1), (40, .iadd, 1), (41, .iaload, 1), (42, .ireturn, 1), (43, .aload_n 0, 1), (44, .getfield 47, 3), (47, .iload_n 1, 1), (48, .iaload, 1), (49, .istore_n 3, 1)],
  [(50, .aload_n 0, 1), (51, .getfield 7, 3), (54, .sipush 3193, 3), (57, .iload_n 3, 1), (58, .iadd, 1), (59, .iaload, 1), (60, .iconst (-1), 1), (61, .if_icmp .ne 5, 3), (64, .iconst 0, 1), (65, .ireturn, 1), (66, .iload_n 2, 1), (67, .bipush 108, 2), (69, .if_icmp .ne 15, 3), (72, .aload_n 0, 1), (73, .iload_n 3, 1), (74, .invokevirtual 263, 3)],
  [(77, .aload_n 0, 1), (78, .iload_n 3, 1), (79, .invokevirtual 257, 3), (82, .isub, 1), (83, .ireturn, 1), (84, .iload_n 2, 1), (85, .bipush 110, 2), (87, .if_icmp .ne 23, 3), (90, .aload_n 0, 1), (91, .aload_n 0, 1), (92, .aload_n 0, 1), (93, .aload_n 0, 1), (94, .iload_n 3, 1), (95, .invokevirtual 257, 3), (98, .invokevirtual 194, 3), (101, .invokevirtual 197, 3)],
  [(104, .invokevirtual 238, 3), (107, .goto 14, 3), (110, .aload_n 0, 1), (111, .aload_n 0, 1), (112, .iload_n 3, 1), (113, .invokevirtual 257, 3), (116, .invokevirtual 272, 3), (119, .iconst 1, 1), (120, .iadd, 1), (121, .ireturn, 1)]])
theorem tX10_found : tabOK mX10_found = true := by decide +kernel
def mX10_updates : MI := (yX10_updates, cX10_updates, 3, (some .boolean), [],
  [[(0, .aload_n 0, 1), (1, .invokevirtual 275, 3), (4, .iconst 0, 1), (5, .istore_n 1, 1), (6, .iconst 0, 1), (7, .istore_n 2, 1), (8, .iload_n 2, 1), (9, .aload_n 0, 1), (10, .getfield 187, 3), (13, .if_icmp .ge 79, 3), (16, .aload_n 0, 1), (17, .getfield 68, 3), (20, .iload_n 2, 1), (21, .aload_n 0, 1), (22, .getfield 50, 3), (25, .iload_n 2, 1)],
  [(26, .baload, 1), (27, .ifCond .ne 11, 3), (30, .aload_n 0, 1), (31, .iload_n 2, 1), (32, .invokevirtual 278, 3), (35, .ifCond .ne 16, 3), (38, .aload_n 0, 1), (39, .getfield 7, 3), (42, .sipush 3205, 3), (45, .iload_n 2, 1), (46, .iadd, 1), (47, .iaload, 1), (48, .goto 8, 3), (51, .aload_n 0, 1), (52, .iload_n 2, 1), (53, .invokevirtual 281, 3)],
  [(56, .iastore, 1), (57, .iload_n 1, 1), (58, .ifCond .ne 22, 3), (61, .aload_n 0, 1), (62, .getfield 68, 3), (65, .iload_n 2, 1), (66, .iaload, 1), (67, .aload_n 0, 1), (68, .getfield 7, 3), (71, .sipush 3205, 3), (74, .iload_n 2, 1), (75, .iadd, 1), (76, .iaload, 1), (77, .if_icmp .eq 7, 3), (80, .iconst 1, 1), (81, .goto 4, 3)],
  [(84, .iconst 0, 1), (85, .istore_n 1, 1), (86, .iinc 2 1, 3), (89, .goto (-81), 3), (92, .iconst 0, 1), (93, .istore_n 2, 1), (94, .iload_n 2, 1), (95, .aload_n 0, 1), (96, .getfield 187, 3), (99, .if_icmp .ge 25, 3), (102, .aload_n 0, 1), (103, .getfield 7, 3), (106, .sipush 3205, 3), (109, .iload_n 2, 1), (110, .iadd, 1), (111, .aload_n 0, 1)],
  [(112, .getfield 68, 3), (115, .iload_n 2, 1), (116, .iaload, 1), (117, .iastore, 1), (118, .iinc 2 1, 3), (121, .goto (-27), 3), (124, .iload_n 1, 1), (125, .ireturn, 1)]])
theorem tX10_updates : tabOK mX10_updates = true := by decide +kernel
def mX10_updatesAll : MI := (yX10_updatesAll, cX10_updatesAll, 2, (some .int), [],
  [[(0, .iconst 0, 1), (1, .istore_n 1, 1), (2, .iload_n 1, 1), (3, .bipush 10, 2), (5, .if_icmp .ge 16, 3), (8, .aload_n 0, 1), (9, .invokevirtual 284, 3), (12, .ifCond .eq 9, 3), (15, .iinc 1 1, 3), (18, .goto (-16), 3), (21, .iload_n 1, 1), (22, .ireturn, 1)]])
theorem tX10_updatesAll : tabOK mX10_updatesAll = true := by decide +kernel
def mX10_update : MI := (yX10_update, cX10_update, 1, (some .int), [],
  [[(0, .aload_n 0, 1), (1, .iconst 0, 1), (2, .putfield 103, 3), (5, .aload_n 0, 1), (6, .invokevirtual 288, 3), (9, .ireturn, 1)]])
theorem tX10_update : tabOK mX10_update = true := by decide +kernel
def mX10_isRecord : MI := (yX10_isRecord, cX10_isRecord, 1, (some .boolean), [],
  [[(0, .iload_n 0, 1), (1, .iconst 0, 1), (2, .iconst 4, 1), (3, .invokestatic 124, 3), (6, .ireturn, 1)]])
theorem tX10_isRecord : tabOK mX10_isRecord = true := by decide +kernel
def mX10_setRecord : MI := (yX10_setRecord, cX10_setRecord, 5, (some .int), [],
  [[(0, .aload_n 0, 1), (1, .iload_n 1, 1), (2, .invokestatic 291, 3), (5, .ifCond .eq 27, 3), (8, .iload_n 2, 1), (9, .iconst 0, 1), (10, .iconst 2, 1), (11, .invokestatic 124, 3), (14, .ifCond .eq 18, 3), (17, .iload_n 3, 1), (18, .iconst 0, 1), (19, .sipush 9999, 3), (22, .invokestatic 124, 3), (25, .ifCond .eq 7, 3), (28, .iconst 0, 1), (29, .goto 4, 3)],
  [(32, .iconst 1, 1), (33, .invokevirtual 141, 3), (36, .ifCond .ne 5, 3), (39, .iconst 0, 1), (40, .ireturn, 1), (41, .aload_n 0, 1), (42, .getfield 53, 3), (45, .iconst 3, 1), (46, .iload_n 1, 1), (47, .imul, 1), (48, .iload_n 2, 1), (49, .iadd, 1), (50, .iaload, 1), (51, .istore 4, 2), (53, .aload_n 0, 1), (54, .getfield 53, 3)],
  [(57, .iconst 3, 1), (58, .iload_n 1, 1), (59, .imul, 1), (60, .iload_n 2, 1), (61, .iadd, 1), (62, .iload_n 3, 1), (63, .iastore, 1), (64, .iload 4, 2), (66, .ireturn, 1)]])
theorem tX10_setRecord : tabOK mX10_setRecord = true := by decide +kernel
def mX10_choose : MI := (yX10_choose, cX10_choose, 3, (some .int), [],
  [[(0, .aload_n 0, 1), (1, .iload_n 1, 1), (2, .invokestatic 291, 3), (5, .ifCond .eq 7, 3), (8, .iconst 0, 1), (9, .goto 4, 3), (12, .iconst 1, 1), (13, .invokevirtual 141, 3), (16, .ifCond .ne 5, 3), (19, .iconst 0, 1), (20, .ireturn, 1), (21, .aload_n 0, 1), (22, .getfield 269, 3), (25, .istore_n 2, 1), (26, .aload_n 0, 1), (27, .iload_n 1, 1)],
  [(28, .putfield 269, 3), (31, .iload_n 2, 1), (32, .ireturn, 1)]])
theorem tX10_choose : tabOK mX10_choose = true := by decide +kernel
def mX10_merge : MI := (yX10_merge, cX10_merge, 8, (some .int), [],
  [[(0, .aload_n 0, 1), (1, .iload_n 1, 1), (2, .iconst 0, 1), (3, .iconst 2, 1), (4, .invokestatic 124, 3), (7, .ifCond .eq 7, 3), (10, .iconst 0, 1), (11, .goto 4, 3), (14, .iconst 1, 1), (15, .invokevirtual 141, 3), (18, .ifCond .ne 5, 3), (21, .iconst 0, 1), (22, .ireturn, 1), (23, .aload_n 0, 1), (24, .getfield 269, 3), (27, .istore_n 3, 1)],
  [(28, .iconst 0, 1), (29, .istore 4, 2), (31, .iload 4, 2), (33, .bipush 20, 2), (35, .if_icmp .ge 27, 3), (38, .aload_n 0, 1), (39, .getfield 71, 3), (42, .iload 4, 2), (44, .aload_n 0, 1), (45, .getfield 7, 3), (48, .sipush 3205, 3), (51, .iload 4, 2), (53, .iadd, 1), (54, .iaload, 1), (55, .iastore, 1), (56, .iinc 4 1, 3)],
  [(59, .goto (-28), 3), (62, .iconst 0, 1), (63, .istore 4, 2), (65, .iconst 0, 1), (66, .istore 5, 2), (68, .iload 5, 2), (70, .iconst 5, 1), (71, .if_icmp .ge 88, 3), (74, .aload_n 0, 1), (75, .getfield 53, 3), (78, .iconst 3, 1), (79, .iload 5, 2), (81, .imul, 1), (82, .iload_n 1, 1), (83, .iadd, 1), (84, .iaload, 1)],
  [(85, .iload_n 2, 1), (86, .if_icmp .ne 6, 3), (89, .goto 64, 3), (92, .aload_n 0, 1), (93, .iload 5, 2), (95, .putfield 269, 3), (98, .aload_n 0, 1), (99, .invokevirtual 288, 3), (102, .istore 6, 2), (104, .aload_n 0, 1), (105, .invokevirtual 275, 3), (108, .iload 4, 2), (110, .aload_n 0, 1), (111, .getfield 294, 3), (114, .iconst 1, 1), (115, .iadd, 1)],
  [(116, .iadd, 1), (117, .istore 4, 2), (119, .iconst 0, 1), (120, .istore 7, 2), (122, .iload 7, 2), (124, .bipush 20, 2), (126, .if_icmp .ge 27, 3), (129, .aload_n 0, 1), (130, .getfield 7, 3), (133, .sipush 3205, 3), (136, .iload 7, 2), (138, .iadd, 1), (139, .aload_n 0, 1), (140, .getfield 71, 3), (143, .iload 7, 2), (145, .iaload, 1)],
  [(146, .iastore, 1), (147, .iinc 7 1, 3), (150, .goto (-28), 3), (153, .iinc 5 1, 3), (156, .goto (-88), 3), (159, .aload_n 0, 1), (160, .iload_n 3, 1), (161, .putfield 269, 3), (164, .iload 4, 2), (166, .ireturn, 1)]])
theorem tX10_merge : tabOK mX10_merge = true := by decide +kernel
def mX10_setPage : MI := (yX10_setPage, cX10_setPage, 4, (some .int), [],
  [[(0, .aload_n 0, 1), (1, .iload_n 1, 1), (2, .iconst 5, 1), (3, .bipush 60, 2), (5, .invokestatic 124, 3), (8, .ifCond .eq 17, 3), (11, .iload_n 2, 1), (12, .iconst 2, 1), (13, .bipush 40, 2), (15, .invokestatic 124, 3), (18, .ifCond .eq 7, 3), (21, .iconst 0, 1), (22, .goto 4, 3), (25, .iconst 1, 1), (26, .invokevirtual 141, 3), (29, .ifCond .ne 5, 3)],
  [(32, .iconst 0, 1), (33, .ireturn, 1), (34, .bipush 100, 2), (36, .aload_n 0, 1), (37, .getfield 56, 3), (40, .imul, 1), (41, .aload_n 0, 1), (42, .getfield 59, 3), (45, .iadd, 1), (46, .istore_n 3, 1), (47, .aload_n 0, 1), (48, .iload_n 1, 1), (49, .putfield 56, 3), (52, .aload_n 0, 1), (53, .iload_n 2, 1), (54, .putfield 59, 3)],
  [(57, .iload_n 3, 1), (58, .ireturn, 1)]])
theorem tX10_setPage : tabOK mX10_setPage = true := by decide +kernel
def mX10_digits : MI := (yX10_digits, cX10_digits, 3, (some .int), [],
  [[(0, .iconst 1, 1), (1, .istore_n 1, 1), (2, .iload_n 0, 1), (3, .bipush 10, 2), (5, .idiv, 1), (6, .istore_n 2, 1), (7, .iload_n 2, 1), (8, .ifCond .le 14, 3), (11, .iinc 1 1, 3), (14, .iload_n 2, 1), (15, .bipush 10, 2), (17, .idiv, 1), (18, .istore_n 2, 1), (19, .goto (-12), 3), (22, .iload_n 1, 1), (23, .ireturn, 1)]])
theorem tX10_digits : tabOK mX10_digits = true := by decide +kernel
def mX10_finds : MI := (yX10_finds, cX10_finds, 7, none, [],
  [[(0, .aload_n 0, 1), (1, .iconst 0, 1), (2, .putfield 297, 3), (5, .iload_n 1, 1), (6, .istore_n 3, 1), (7, .iload_n 3, 1), (8, .iload_n 2, 1), (9, .if_icmp .ge 118, 3), (12, .aload_n 0, 1), (13, .iload_n 3, 1), (14, .iconst 0, 1), (15, .invokevirtual 106, 3), (18, .istore 4, 2), (20, .aload_n 0, 1), (21, .iload_n 3, 1), (22, .invokevirtual 114, 3)],
  [(25, .ifCond .ne 7, 3), (28, .iconst 0, 1), (29, .goto 33, 3), (32, .iload 4, 2), (34, .sipush 1000, 3), (37, .if_icmp .lt 24, 3), (40, .aload_n 0, 1), (41, .getfield 7, 3), (44, .sipush 3205, 3), (47, .iload 4, 2), (49, .iadd, 1), (50, .sipush 1000, 3), (53, .isub, 1), (54, .iaload, 1), (55, .invokestatic 300, 3), (58, .goto 4, 3)],
  [(61, .iconst 1, 1), (62, .istore 5, 2), (64, .iconst 0, 1), (65, .istore 6, 2), (67, .iload 6, 2), (69, .iload 5, 2), (71, .if_icmp .ge 50, 3), (74, .aload_n 0, 1), (75, .getfield 89, 3), (78, .aload_n 0, 1), (79, .getfield 297, 3), (82, .iload_n 3, 1), (83, .iastore, 1), (84, .aload_n 0, 1), (85, .getfield 92, 3), (88, .aload_n 0, 1)],
  [(89, .getfield 297, 3), (92, .iload 4, 2), (94, .bipush 32, 2), (96, .if_icmp .ne 7, 3), (99, .iconst 1, 1), (100, .goto 4, 3), (103, .iconst 0, 1), (104, .bastore, 1), (105, .aload_n 0, 1), (106, .dup, 1), (107, .getfield 297, 3), (110, .iconst 1, 1), (111, .iadd, 1), (112, .putfield 297, 3), (115, .iinc 6 1, 3), (118, .goto (-51), 3)],
  [(121, .iinc 3 1, 3), (124, .goto (-117), 3), (127, .return_, 1)]])
theorem tX10_finds : tabOK mX10_finds = true := by decide +kernel
def mX10_cutsLines : MI := (yX10_cutsLines, cX10_cutsLines, 6, (some .int), [],
  [[(0, .iconst 0, 1), (1, .istore_n 1, 1), (2, .iconst 0, 1), (3, .istore_n 2, 1), (4, .iload_n 2, 1), (5, .aload_n 0, 1), (6, .getfield 297, 3), (9, .if_icmp .ge 168, 3), (12, .iload_n 2, 1), (13, .aload_n 0, 1), (14, .getfield 56, 3), (17, .iadd, 1), (18, .istore_n 3, 1), (19, .iload_n 3, 1), (20, .aload_n 0, 1), (21, .getfield 297, 3)],
  [(24, .if_icmp .ge 48, 3), (27, .iload_n 3, 1), (28, .iconst 1, 1), (29, .isub, 1), (30, .istore 4, 2), (32, .iload 4, 2), (34, .iload_n 2, 1), (35, .if_icmp .lt 19, 3), (38, .aload_n 0, 1), (39, .getfield 92, 3), (42, .iload 4, 2), (44, .baload, 1), (45, .ifCond .ne 9, 3), (48, .iinc 4 (-1), 3), (51, .goto (-19), 3), (54, .iload 4, 2)],
  [(56, .iload_n 2, 1), (57, .if_icmp .lt 10, 3), (60, .iload 4, 2), (62, .iconst 1, 1), (63, .iadd, 1), (64, .goto 4, 3), (67, .iload_n 3, 1), (68, .istore_n 3, 1), (69, .goto 8, 3), (72, .aload_n 0, 1), (73, .getfield 297, 3), (76, .istore_n 3, 1), (77, .iload_n 2, 1), (78, .istore 4, 2), (80, .iload 4, 2), (82, .iload_n 3, 1)],
  [(83, .if_icmp .ge 86, 3), (86, .iload 4, 2), (88, .ifCond .eq 22, 3), (91, .aload_n 0, 1), (92, .getfield 89, 3), (95, .iload 4, 2), (97, .iconst 1, 1), (98, .isub, 1), (99, .iaload, 1), (100, .aload_n 0, 1), (101, .getfield 89, 3), (104, .iload 4, 2), (106, .iaload, 1), (107, .if_icmp .eq 7, 3), (110, .iconst 1, 1), (111, .goto 4, 3)],
  [(114, .iconst 0, 1), (115, .istore 5, 2), (117, .aload_n 0, 1), (118, .getfield 74, 3), (121, .aload_n 0, 1), (122, .getfield 89, 3), (125, .iload 4, 2), (127, .iaload, 1), (128, .iload 5, 2), (130, .ifCond .eq 7, 3), (133, .iload_n 1, 1), (134, .goto 15, 3), (137, .aload_n 0, 1), (138, .getfield 74, 3), (141, .aload_n 0, 1), (142, .getfield 89, 3)],
  [(145, .iload 4, 2), (147, .iaload, 1), (148, .iaload, 1), (149, .iastore, 1), (150, .aload_n 0, 1), (151, .getfield 77, 3), (154, .aload_n 0, 1), (155, .getfield 89, 3), (158, .iload 4, 2), (160, .iaload, 1), (161, .iload_n 1, 1), (162, .iastore, 1), (163, .iinc 4 1, 3), (166, .goto (-86), 3), (169, .iinc 1 1, 3), (172, .iload_n 3, 1)],
  [(173, .istore_n 2, 1), (174, .goto (-170), 3), (177, .iload_n 1, 1), (178, .ifCond .ne 7, 3), (181, .iconst 1, 1), (182, .goto 4, 3), (185, .iload_n 1, 1), (186, .ireturn, 1)]])
theorem tX10_cutsLines : tabOK mX10_cutsLines = true := by decide +kernel
def mX10_lays : MI := (yX10_lays, cX10_lays, 8, none, [],
  [[(0, .aload_n 0, 1), (1, .iconst 0, 1), (2, .putfield 303, 3), (5, .iconst 0, 1), (6, .istore_n 1, 1), (7, .iconst 0, 1), (8, .istore_n 2, 1), (9, .iload_n 2, 1), (10, .aload_n 0, 1), (11, .invokevirtual 110, 3), (14, .if_icmp .gt 79, 3), (17, .iload_n 2, 1), (18, .aload_n 0, 1), (19, .invokevirtual 110, 3), (22, .if_icmp .ge 22, 3), (25, .aload_n 0, 1)],
  [(26, .iload_n 2, 1), (27, .invokevirtual 114, 3), (30, .ifCond .eq 57, 3), (33, .aload_n 0, 1), (34, .iload_n 2, 1), (35, .invokevirtual 118, 3), (38, .ifCond .ne 6, 3), (41, .goto 46, 3), (44, .aload_n 0, 1), (45, .iload_n 1, 1), (46, .iload_n 2, 1), (47, .invokevirtual 306, 3), (50, .aload_n 0, 1), (51, .getfield 80, 3), (54, .aload_n 0, 1), (55, .getfield 303, 3)],
  [(58, .iload_n 2, 1), (59, .iastore, 1), (60, .aload_n 0, 1), (61, .getfield 83, 3), (64, .aload_n 0, 1), (65, .getfield 303, 3), (68, .aload_n 0, 1), (69, .invokevirtual 310, 3), (72, .iastore, 1), (73, .aload_n 0, 1), (74, .dup, 1), (75, .getfield 303, 3), (78, .iconst 1, 1), (79, .iadd, 1), (80, .putfield 303, 3), (83, .iload_n 2, 1)],
  [(84, .iconst 1, 1), (85, .iadd, 1), (86, .istore_n 1, 1), (87, .iinc 2 1, 3), (90, .goto (-81), 3), (93, .iconst 0, 1), (94, .istore_n 2, 1), (95, .iconst 0, 1), (96, .istore_n 3, 1), (97, .iload_n 3, 1), (98, .aload_n 0, 1), (99, .getfield 303, 3), (102, .if_icmp .ge 192, 3), (105, .iconst 0, 1), (106, .istore 4, 2), (108, .iload_n 3, 1)],
  [(109, .istore 5, 2), (111, .iload_n 3, 1), (112, .ifCond .eq 18, 3), (115, .aload_n 0, 1), (116, .aload_n 0, 1), (117, .getfield 80, 3), (120, .iload_n 3, 1), (121, .iconst 1, 1), (122, .isub, 1), (123, .iaload, 1), (124, .invokevirtual 313, 3), (127, .ifCond .ne 7, 3), (130, .iconst 1, 1), (131, .goto 4, 3), (134, .iconst 0, 1), (135, .istore 6, 2)],
  [(137, .iload 6, 2), (139, .ifCond .eq 44, 3), (142, .iload 5, 2), (144, .aload_n 0, 1), (145, .getfield 303, 3), (148, .if_icmp .ge 35, 3), (151, .aload_n 0, 1), (152, .aload_n 0, 1), (153, .getfield 80, 3), (156, .iload 5, 2), (158, .iaload, 1), (159, .invokevirtual 313, 3), (162, .ifCond .eq 21, 3), (165, .iload 4, 2), (167, .aload_n 0, 1), (168, .getfield 83, 3)],
  [(171, .iload 5, 2), (173, .iaload, 1), (174, .iadd, 1), (175, .istore 4, 2), (177, .iinc 5 1, 3), (180, .goto (-43), 3), (183, .iload 4, 2), (185, .iload 5, 2), (187, .iload_n 3, 1), (188, .if_icmp .le 16, 3), (191, .iload 5, 2), (193, .aload_n 0, 1), (194, .getfield 303, 3), (197, .if_icmp .ge 7, 3), (200, .iconst 1, 1), (201, .goto 4, 3)],
  [(204, .iconst 0, 1), (205, .iadd, 1), (206, .istore 4, 2), (208, .iload 5, 2), (210, .iload_n 3, 1), (211, .if_icmp .le 32, 3), (214, .iload_n 2, 1), (215, .aload_n 0, 1), (216, .getfield 59, 3), (219, .irem, 1), (220, .iload 4, 2), (222, .iadd, 1), (223, .aload_n 0, 1), (224, .getfield 59, 3), (227, .if_icmp .le 16, 3), (230, .iload 4, 2)],
  [(232, .aload_n 0, 1), (233, .getfield 59, 3), (236, .if_icmp .gt 7, 3), (239, .iconst 1, 1), (240, .goto 4, 3), (243, .iconst 0, 1), (244, .istore 7, 2), (246, .iload 7, 2), (248, .ifCond .eq 22, 3), (251, .iload_n 2, 1), (252, .aload_n 0, 1), (253, .getfield 59, 3), (256, .idiv, 1), (257, .aload_n 0, 1), (258, .getfield 59, 3), (261, .imul, 1)],
  [(262, .aload_n 0, 1), (263, .getfield 59, 3), (266, .iadd, 1), (267, .goto 4, 3), (270, .iload_n 2, 1), (271, .istore_n 2, 1), (272, .aload_n 0, 1), (273, .getfield 86, 3), (276, .iload_n 3, 1), (277, .iload_n 2, 1), (278, .iastore, 1), (279, .iload_n 2, 1), (280, .aload_n 0, 1), (281, .getfield 83, 3), (284, .iload_n 3, 1), (285, .iaload, 1)],
  [(286, .iadd, 1), (287, .istore_n 2, 1), (288, .iinc 3 1, 3), (291, .goto (-194), 3), (294, .aload_n 0, 1), (295, .iload_n 2, 1), (296, .iconst 1, 1), (297, .isub, 1), (298, .aload_n 0, 1), (299, .getfield 59, 3), (302, .idiv, 1), (303, .putfield 294, 3), (306, .return_, 1)]])
theorem tX10_lays : tabOK mX10_lays = true := by decide +kernel
def mX10_lineNow : MI := (yX10_lineNow, cX10_lineNow, 5, (some .int), [],
  [[(0, .aload_n 0, 1), (1, .iload_n 1, 1), (2, .invokevirtual 157, 3), (5, .istore_n 2, 1), (6, .aload_n 0, 1), (7, .iload_n 1, 1), (8, .invokevirtual 194, 3), (11, .istore_n 3, 1), (12, .iload_n 2, 1), (13, .aload_n 0, 1), (14, .invokevirtual 110, 3), (17, .if_icmp .ge 25, 3), (20, .aload_n 0, 1), (21, .iload_n 2, 1), (22, .invokevirtual 118, 3), (25, .ifCond .ne 17, 3)],
  [(28, .aload_n 0, 1), (29, .getfield 86, 3), (32, .iload_n 3, 1), (33, .iaload, 1), (34, .aload_n 0, 1), (35, .getfield 74, 3), (38, .iload_n 2, 1), (39, .iaload, 1), (40, .iadd, 1), (41, .ireturn, 1), (42, .iload_n 1, 1), (43, .aload_n 0, 1), (44, .iload_n 3, 1), (45, .invokevirtual 216, 3), (48, .if_icmp .ne 7, 3), (51, .iconst (-1), 1)],
  [(52, .goto 10, 3), (55, .aload_n 0, 1), (56, .iload_n 1, 1), (57, .iconst 1, 1), (58, .isub, 1), (59, .invokevirtual 157, 3), (62, .istore 4, 2), (64, .aload_n 0, 1), (65, .getfield 86, 3), (68, .iload_n 3, 1), (69, .iaload, 1), (70, .iload 4, 2), (72, .iconst (-1), 1), (73, .if_icmp .ne 7, 3), (76, .iconst 0, 1), (77, .goto 10, 3)],
  [(80, .aload_n 0, 1), (81, .getfield 77, 3), (84, .iload 4, 2), (86, .iaload, 1), (87, .iadd, 1), (88, .ireturn, 1)]])
theorem tX10_lineNow : tabOK mX10_lineNow = true := by decide +kernel
def mX10_pageAt : MI := (yX10_pageAt, cX10_pageAt, 2, (some .int), [],
  [[(0, .aload_n 0, 1), (1, .iload_n 1, 1), (2, .invokevirtual 316, 3), (5, .aload_n 0, 1), (6, .getfield 59, 3), (9, .idiv, 1), (10, .ireturn, 1)]])
theorem tX10_pageAt : tabOK mX10_pageAt = true := by decide +kernel
def mX10_pages : MI := (yX10_pages, cX10_pages, 1, (some .int), [],
  [[(0, .aload_n 0, 1), (1, .iconst 0, 1), (2, .putfield 103, 3), (5, .aload_n 0, 1), (6, .invokevirtual 275, 3), (9, .aload_n 0, 1), (10, .getfield 294, 3), (13, .iconst 1, 1), (14, .iadd, 1), (15, .ireturn, 1)]])
theorem tX10_pages : tabOK mX10_pages = true := by decide +kernel
def mX10_pageOf : MI := (yX10_pageOf, cX10_pageOf, 2, (some .int), [],
  [[(0, .aload_n 0, 1), (1, .invokevirtual 275, 3), (4, .aload_n 0, 1), (5, .aload_n 0, 1), (6, .iload_n 1, 1), (7, .invokevirtual 154, 3), (10, .ifCond .eq 7, 3), (13, .iconst 0, 1), (14, .goto 4, 3), (17, .iconst 1, 1), (18, .invokevirtual 141, 3), (21, .ifCond .eq 11, 3), (24, .aload_n 0, 1), (25, .iload_n 1, 1), (26, .invokevirtual 272, 3), (29, .goto 4, 3)],
  [(32, .iconst 0, 1), (33, .ireturn, 1)]])
theorem tX10_pageOf : tabOK mX10_pageOf = true := by decide +kernel
def mX10_lineOf : MI := (yX10_lineOf, cX10_lineOf, 2, (some .int), [],
  [[(0, .aload_n 0, 1), (1, .invokevirtual 275, 3), (4, .aload_n 0, 1), (5, .aload_n 0, 1), (6, .iload_n 1, 1), (7, .invokevirtual 154, 3), (10, .ifCond .eq 7, 3), (13, .iconst 0, 1), (14, .goto 4, 3), (17, .iconst 1, 1), (18, .invokevirtual 141, 3), (21, .ifCond .eq 16, 3), (24, .aload_n 0, 1), (25, .iload_n 1, 1), (26, .invokevirtual 316, 3), (29, .aload_n 0, 1)],
  [(30, .getfield 59, 3), (33, .irem, 1), (34, .goto 4, 3), (37, .iconst 0, 1), (38, .ireturn, 1)]])
theorem tX10_lineOf : tabOK mX10_lineOf = true := by decide +kernel
def mX10_concerned : MI := (yX10_concerned, cX10_concerned, 3, (some .int), [],
  [[(0, .iconst 0, 1), (1, .istore_n 1, 1), (2, .iconst 0, 1), (3, .istore_n 2, 1), (4, .iload_n 2, 1), (5, .aload_n 0, 1), (6, .invokevirtual 110, 3), (9, .if_icmp .ge 37, 3), (12, .iload_n 1, 1), (13, .aload_n 0, 1), (14, .iload_n 2, 1), (15, .iconst 1, 1), (16, .invokevirtual 106, 3), (19, .iconst (-1), 1), (20, .if_icmp .ne 13, 3), (23, .aload_n 0, 1)],
  [(24, .iload_n 2, 1), (25, .iconst 2, 1), (26, .invokevirtual 106, 3), (29, .iconst (-1), 1), (30, .if_icmp .eq 7, 3), (33, .iconst 1, 1), (34, .goto 4, 3), (37, .iconst 0, 1), (38, .iadd, 1), (39, .istore_n 1, 1), (40, .iinc 2 1, 3), (43, .goto (-39), 3), (46, .iload_n 1, 1), (47, .ireturn, 1)]])
theorem tX10_concerned : tabOK mX10_concerned = true := by decide +kernel
def mX10_waitingShare : MI := (yX10_waitingShare, cX10_waitingShare, 1, (some .float), [],
  [[(0, .aload_n 0, 1), (1, .aload_n 0, 1), (2, .invokevirtual 110, 3), (5, .ifCond .ne 7, 3), (8, .iconst 1, 1), (9, .goto 4, 3), (12, .iconst 0, 1), (13, .invokevirtual 141, 3), (16, .ifCond .eq 17, 3), (19, .aload_n 0, 1), (20, .invokevirtual 319, 3), (23, .i2f, 1), (24, .aload_n 0, 1), (25, .invokevirtual 110, 3), (28, .i2f, 1), (29, .fdiv, 1)],
  [(30, .goto 4, 3), (33, .fconst 0, 1), (34, .freturn, 1)]])
theorem tX10_waitingShare : tabOK mX10_waitingShare = true := by decide +kernel
def mX10_shareBits : MI := (yX10_shareBits, cX10_shareBits, 1, (some .int), [],
  [[(0, .aload_n 0, 1), (1, .aload_n 0, 1), (2, .invokevirtual 110, 3), (5, .ifCond .ne 7, 3), (8, .iconst 1, 1), (9, .goto 4, 3), (12, .iconst 0, 1), (13, .invokevirtual 141, 3), (16, .ifCond .eq 20, 3), (19, .aload_n 0, 1), (20, .invokevirtual 319, 3), (23, .i2f, 1), (24, .aload_n 0, 1), (25, .invokevirtual 110, 3), (28, .i2f, 1), (29, .fdiv, 1)],
  [(30, .invokestatic 322, 3), (33, .goto 4, 3), (36, .iconst 0, 1), (37, .ireturn, 1)]])
theorem tX10_shareBits : tabOK mX10_shareBits = true := by decide +kernel
def mX10_mean : MI := (yX10_mean, cX10_mean, 2, (some .double), [],
  [[(0, .aload_n 0, 1), (1, .invokevirtual 121, 3), (4, .istore_n 1, 1), (5, .aload_n 0, 1), (6, .invokevirtual 128, 3), (9, .iload_n 1, 1), (10, .isub, 1), (11, .iconst 1, 1), (12, .iadd, 1), (13, .i2d, 1), (14, .iload_n 1, 1), (15, .i2d, 1), (16, .ddiv, 1), (17, .dreturn, 1)]])
theorem tX10_mean : tabOK mX10_mean = true := by decide +kernel
def mX10_meanParagraph : MI := (yX10_meanParagraph, cX10_meanParagraph, 1, (some .double), [],
  [[(0, .aload_n 0, 1), (1, .iconst 0, 1), (2, .putfield 103, 3), (5, .aload_n 0, 1), (6, .invokevirtual 328, 3), (9, .dreturn, 1)]])
theorem tX10_meanParagraph : tabOK mX10_meanParagraph = true := by decide +kernel
def mX10_meanBits : MI := (yX10_meanBits, cX10_meanBits, 1, (some .long), [],
  [[(0, .aload_n 0, 1), (1, .iconst 0, 1), (2, .putfield 103, 3), (5, .aload_n 0, 1), (6, .invokevirtual 328, 3), (9, .invokestatic 332, 3), (12, .lreturn, 1)]])
theorem tX10_meanBits : tabOK mX10_meanBits = true := by decide +kernel
def mX10_isSound : MI := (yX10_isSound, cX10_isSound, 1, (some .boolean), [],
  [[(0, .aload_n 0, 1), (1, .iconst 0, 1), (2, .putfield 103, 3), (5, .iconst 1, 1), (6, .ireturn, 1)]])
theorem tX10_isSound : tabOK mX10_isSound = true := by decide +kernel
def mL_insert : MI := (yL_insert, cL_insert, 6, (some .int), [(0, 12, 15, 13), (0, 12, 19, 15), (0, 12, 23, 17), (0, 12, 27, 19)],
  [[(0, .aload 4, 2), (2, .iconst 0, 1), (3, .aload_n 0, 1), (4, .iload_n 1, 1), (5, .iload_n 2, 1), (6, .iload_n 3, 1), (7, .invokevirtual 7, 3), (10, .i2l, 1), (11, .lastore, 1), (12, .goto 19, 3), (15, .astore 5, 2), (17, .iconst 1, 1), (18, .ireturn, 1), (19, .astore 5, 2), (21, .iconst 2, 1), (22, .ireturn, 1)],
  [(23, .astore 5, 2), (25, .iconst 3, 1), (26, .ireturn, 1), (27, .astore 5, 2), (29, .iconst 4, 1), (30, .ireturn, 1), (31, .iconst 0, 1), (32, .ireturn, 1)]])
theorem tL_insert : tabOK mL_insert = true := by decide +kernel
def mL_addField : MI := (yL_addField, cL_addField, 7, (some .int), [(0, 14, 17, 13), (0, 14, 21, 15), (0, 14, 25, 17), (0, 14, 29, 19)],
  [[(0, .aload 5, 2), (2, .iconst 0, 1), (3, .aload_n 0, 1), (4, .iload_n 1, 1), (5, .iload_n 2, 1), (6, .iload_n 3, 1), (7, .iload 4, 2), (9, .invokevirtual 21, 3), (12, .i2l, 1), (13, .lastore, 1), (14, .goto 19, 3), (17, .astore 6, 2), (19, .iconst 1, 1), (20, .ireturn, 1), (21, .astore 6, 2), (23, .iconst 2, 1)],
  [(24, .ireturn, 1), (25, .astore 6, 2), (27, .iconst 3, 1), (28, .ireturn, 1), (29, .astore 6, 2), (31, .iconst 4, 1), (32, .ireturn, 1), (33, .iconst 0, 1), (34, .ireturn, 1)]])
theorem tL_addField : tabOK mL_addField = true := by decide +kernel
def mL_erase : MI := (yL_erase, cL_erase, 6, (some .int), [(0, 12, 15, 13), (0, 12, 19, 15), (0, 12, 23, 17), (0, 12, 27, 19)],
  [[(0, .aload 4, 2), (2, .iconst 0, 1), (3, .aload_n 0, 1), (4, .iload_n 1, 1), (5, .iload_n 2, 1), (6, .iload_n 3, 1), (7, .invokevirtual 25, 3), (10, .i2l, 1), (11, .lastore, 1), (12, .goto 19, 3), (15, .astore 5, 2), (17, .iconst 1, 1), (18, .ireturn, 1), (19, .astore 5, 2), (21, .iconst 2, 1), (22, .ireturn, 1)],
  [(23, .astore 5, 2), (25, .iconst 3, 1), (26, .ireturn, 1), (27, .astore 5, 2), (29, .iconst 4, 1), (30, .ireturn, 1), (31, .iconst 0, 1), (32, .ireturn, 1)]])
theorem tL_erase : tabOK mL_erase = true := by decide +kernel
def mL_setStyle : MI := (yL_setStyle, cL_setStyle, 6, (some .int), [(0, 12, 15, 13), (0, 12, 19, 17), (0, 12, 23, 19)],
  [[(0, .aload 4, 2), (2, .iconst 0, 1), (3, .aload_n 0, 1), (4, .iload_n 1, 1), (5, .iload_n 2, 1), (6, .iload_n 3, 1), (7, .invokevirtual 29, 3), (10, .i2l, 1), (11, .lastore, 1), (12, .goto 15, 3), (15, .astore 5, 2), (17, .iconst 1, 1), (18, .ireturn, 1), (19, .astore 5, 2), (21, .iconst 2, 1), (22, .ireturn, 1)],
  [(23, .astore 5, 2), (25, .iconst 3, 1), (26, .ireturn, 1), (27, .iconst 0, 1), (28, .ireturn, 1)]])
theorem tL_setStyle : tabOK mL_setStyle = true := by decide +kernel
def mL_protect : MI := (yL_protect, cL_protect, 5, (some .int), [(0, 17, 20, 13)],
  [[(0, .aload_n 3, 1), (1, .iconst 0, 1), (2, .aload_n 0, 1), (3, .iload_n 1, 1), (4, .iload_n 2, 1), (5, .invokevirtual 32, 3), (8, .ifCond .eq 7, 3), (11, .lconst 1, 1), (12, .goto 4, 3), (15, .lconst 0, 1), (16, .lastore, 1), (17, .goto 7, 3), (20, .astore 4, 2), (22, .iconst 1, 1), (23, .ireturn, 1), (24, .iconst 0, 1)],
  [(25, .ireturn, 1)]])
theorem tL_protect : tabOK mL_protect = true := by decide +kernel
def mL_undo : MI := (yL_undo, cL_undo, 3, (some .int), [(0, 8, 11, 40)],
  [[(0, .aload_n 1, 1), (1, .iconst 0, 1), (2, .aload_n 0, 1), (3, .invokevirtual 36, 3), (6, .i2l, 1), (7, .lastore, 1), (8, .goto 6, 3), (11, .astore_n 2, 1), (12, .iconst 1, 1), (13, .ireturn, 1), (14, .iconst 0, 1), (15, .ireturn, 1)]])
theorem tL_undo : tabOK mL_undo = true := by decide +kernel
def mL_redo : MI := (yL_redo, cL_redo, 3, (some .int), [(0, 8, 11, 40)],
  [[(0, .aload_n 1, 1), (1, .iconst 0, 1), (2, .aload_n 0, 1), (3, .invokevirtual 42, 3), (6, .i2l, 1), (7, .lastore, 1), (8, .goto 6, 3), (11, .astore_n 2, 1), (12, .iconst 1, 1), (13, .ireturn, 1), (14, .iconst 0, 1), (15, .ireturn, 1)]])
theorem tL_redo : tabOK mL_redo = true := by decide +kernel
def mL_unitAt : MI := (yL_unitAt, cL_unitAt, 4, (some .int), [(0, 9, 12, 13)],
  [[(0, .aload_n 2, 1), (1, .iconst 0, 1), (2, .aload_n 0, 1), (3, .iload_n 1, 1), (4, .invokevirtual 45, 3), (7, .i2l, 1), (8, .lastore, 1), (9, .goto 6, 3), (12, .astore_n 3, 1), (13, .iconst 1, 1), (14, .ireturn, 1), (15, .iconst 0, 1), (16, .ireturn, 1)]])
theorem tL_unitAt : tabOK mL_unitAt = true := by decide +kernel
def mL_oldAt : MI := (yL_oldAt, cL_oldAt, 4, (some .int), [(0, 9, 12, 13)],
  [[(0, .aload_n 2, 1), (1, .iconst 0, 1), (2, .aload_n 0, 1), (3, .iload_n 1, 1), (4, .invokevirtual 49, 3), (7, .i2l, 1), (8, .lastore, 1), (9, .goto 6, 3), (12, .astore_n 3, 1), (13, .iconst 1, 1), (14, .ireturn, 1), (15, .iconst 0, 1), (16, .ireturn, 1)]])
theorem tL_oldAt : tabOK mL_oldAt = true := by decide +kernel
def mL_paragraphOf : MI := (yL_paragraphOf, cL_paragraphOf, 4, (some .int), [(0, 9, 12, 13)],
  [[(0, .aload_n 2, 1), (1, .iconst 0, 1), (2, .aload_n 0, 1), (3, .iload_n 1, 1), (4, .invokevirtual 52, 3), (7, .i2l, 1), (8, .lastore, 1), (9, .goto 6, 3), (12, .astore_n 3, 1), (13, .iconst 1, 1), (14, .ireturn, 1), (15, .iconst 0, 1), (16, .ireturn, 1)]])
theorem tL_paragraphOf : tabOK mL_paragraphOf = true := by decide +kernel
def mL_startOf : MI := (yL_startOf, cL_startOf, 4, (some .int), [(0, 9, 12, 13)],
  [[(0, .aload_n 2, 1), (1, .iconst 0, 1), (2, .aload_n 0, 1), (3, .iload_n 1, 1), (4, .invokevirtual 56, 3), (7, .i2l, 1), (8, .lastore, 1), (9, .goto 6, 3), (12, .astore_n 3, 1), (13, .iconst 1, 1), (14, .ireturn, 1), (15, .iconst 0, 1), (16, .ireturn, 1)]])
theorem tL_startOf : tabOK mL_startOf = true := by decide +kernel
def mL_kindOf : MI := (yL_kindOf, cL_kindOf, 4, (some .int), [(0, 9, 12, 13)],
  [[(0, .aload_n 2, 1), (1, .iconst 0, 1), (2, .aload_n 0, 1), (3, .iload_n 1, 1), (4, .invokevirtual 59, 3), (7, .i2l, 1), (8, .lastore, 1), (9, .goto 6, 3), (12, .astore_n 3, 1), (13, .iconst 1, 1), (14, .ireturn, 1), (15, .iconst 0, 1), (16, .ireturn, 1)]])
theorem tL_kindOf : tabOK mL_kindOf = true := by decide +kernel
def mL_authorOf : MI := (yL_authorOf, cL_authorOf, 4, (some .int), [(0, 9, 12, 13)],
  [[(0, .aload_n 2, 1), (1, .iconst 0, 1), (2, .aload_n 0, 1), (3, .iload_n 1, 1), (4, .invokevirtual 62, 3), (7, .i2l, 1), (8, .lastore, 1), (9, .goto 6, 3), (12, .astore_n 3, 1), (13, .iconst 1, 1), (14, .ireturn, 1), (15, .iconst 0, 1), (16, .ireturn, 1)]])
theorem tL_authorOf : tabOK mL_authorOf = true := by decide +kernel
def mL_stateOf : MI := (yL_stateOf, cL_stateOf, 4, (some .int), [(0, 9, 12, 13)],
  [[(0, .aload_n 2, 1), (1, .iconst 0, 1), (2, .aload_n 0, 1), (3, .iload_n 1, 1), (4, .invokevirtual 65, 3), (7, .i2l, 1), (8, .lastore, 1), (9, .goto 6, 3), (12, .astore_n 3, 1), (13, .iconst 1, 1), (14, .ireturn, 1), (15, .iconst 0, 1), (16, .ireturn, 1)]])
theorem tL_stateOf : tabOK mL_stateOf = true := by decide +kernel
def mL_unitsOf : MI := (yL_unitsOf, cL_unitsOf, 4, (some .int), [(0, 9, 12, 13)],
  [[(0, .aload_n 2, 1), (1, .iconst 0, 1), (2, .aload_n 0, 1), (3, .iload_n 1, 1), (4, .invokevirtual 68, 3), (7, .i2l, 1), (8, .lastore, 1), (9, .goto 6, 3), (12, .astore_n 3, 1), (13, .iconst 1, 1), (14, .ireturn, 1), (15, .iconst 0, 1), (16, .ireturn, 1)]])
theorem tL_unitsOf : tabOK mL_unitsOf = true := by decide +kernel
def mL_changeAt : MI := (yL_changeAt, cL_changeAt, 4, (some .int), [(0, 9, 12, 13), (0, 9, 15, 40)],
  [[(0, .aload_n 2, 1), (1, .iconst 0, 1), (2, .aload_n 0, 1), (3, .iload_n 1, 1), (4, .invokevirtual 71, 3), (7, .i2l, 1), (8, .lastore, 1), (9, .goto 9, 3), (12, .astore_n 3, 1), (13, .iconst 1, 1), (14, .ireturn, 1), (15, .astore_n 3, 1), (16, .iconst 2, 1), (17, .ireturn, 1), (18, .iconst 0, 1), (19, .ireturn, 1)]])
theorem tL_changeAt : tabOK mL_changeAt = true := by decide +kernel
def mL_accept : MI := (yL_accept, cL_accept, 4, (some .int), [(0, 9, 12, 13), (0, 9, 15, 17)],
  [[(0, .aload_n 2, 1), (1, .iconst 0, 1), (2, .aload_n 0, 1), (3, .iload_n 1, 1), (4, .invokevirtual 74, 3), (7, .i2l, 1), (8, .lastore, 1), (9, .goto 9, 3), (12, .astore_n 3, 1), (13, .iconst 1, 1), (14, .ireturn, 1), (15, .astore_n 3, 1), (16, .iconst 2, 1), (17, .ireturn, 1), (18, .iconst 0, 1), (19, .ireturn, 1)]])
theorem tL_accept : tabOK mL_accept = true := by decide +kernel
def mL_refuse : MI := (yL_refuse, cL_refuse, 4, (some .int), [(0, 9, 12, 13), (0, 9, 15, 17)],
  [[(0, .aload_n 2, 1), (1, .iconst 0, 1), (2, .aload_n 0, 1), (3, .iload_n 1, 1), (4, .invokevirtual 77, 3), (7, .i2l, 1), (8, .lastore, 1), (9, .goto 9, 3), (12, .astore_n 3, 1), (13, .iconst 1, 1), (14, .ireturn, 1), (15, .astore_n 3, 1), (16, .iconst 2, 1), (17, .ireturn, 1), (18, .iconst 0, 1), (19, .ireturn, 1)]])
theorem tL_refuse : tabOK mL_refuse = true := by decide +kernel
def mL_judge : MI := (yL_judge, cL_judge, 5, (some .int), [(0, 10, 13, 13)],
  [[(0, .aload_n 3, 1), (1, .iconst 0, 1), (2, .aload_n 0, 1), (3, .iload_n 1, 1), (4, .iload_n 2, 1), (5, .invokevirtual 80, 3), (8, .i2l, 1), (9, .lastore, 1), (10, .goto 7, 3), (13, .astore 4, 2), (15, .iconst 1, 1), (16, .ireturn, 1), (17, .iconst 0, 1), (18, .ireturn, 1)]])
theorem tL_judge : tabOK mL_judge = true := by decide +kernel
def mL_addStyle : MI := (yL_addStyle, cL_addStyle, 6, (some .int), [(0, 12, 15, 15), (0, 12, 19, 17)],
  [[(0, .aload 4, 2), (2, .iconst 0, 1), (3, .aload_n 0, 1), (4, .iload_n 1, 1), (5, .iload_n 2, 1), (6, .iload_n 3, 1), (7, .invokevirtual 84, 3), (10, .i2l, 1), (11, .lastore, 1), (12, .goto 11, 3), (15, .astore 5, 2), (17, .iconst 1, 1), (18, .ireturn, 1), (19, .astore 5, 2), (21, .iconst 2, 1), (22, .ireturn, 1)],
  [(23, .iconst 0, 1), (24, .ireturn, 1)]])
theorem tL_addStyle : tabOK mL_addStyle = true := by decide +kernel
def mL_styleOf : MI := (yL_styleOf, cL_styleOf, 4, (some .int), [(0, 9, 12, 13)],
  [[(0, .aload_n 2, 1), (1, .iconst 0, 1), (2, .aload_n 0, 1), (3, .iload_n 1, 1), (4, .invokevirtual 88, 3), (7, .i2l, 1), (8, .lastore, 1), (9, .goto 6, 3), (12, .astore_n 3, 1), (13, .iconst 1, 1), (14, .ireturn, 1), (15, .iconst 0, 1), (16, .ireturn, 1)]])
theorem tL_styleOf : tabOK mL_styleOf = true := by decide +kernel
def mL_isBold : MI := (yL_isBold, cL_isBold, 4, (some .int), [(0, 16, 19, 13)],
  [[(0, .aload_n 2, 1), (1, .iconst 0, 1), (2, .aload_n 0, 1), (3, .iload_n 1, 1), (4, .invokevirtual 91, 3), (7, .ifCond .eq 7, 3), (10, .lconst 1, 1), (11, .goto 4, 3), (14, .lconst 0, 1), (15, .lastore, 1), (16, .goto 6, 3), (19, .astore_n 3, 1), (20, .iconst 1, 1), (21, .ireturn, 1), (22, .iconst 0, 1), (23, .ireturn, 1)]])
theorem tL_isBold : tabOK mL_isBold = true := by decide +kernel
def mL_setList : MI := (yL_setList, cL_setList, 6, (some .int), [(0, 12, 15, 13), (0, 12, 19, 15), (0, 12, 23, 19)],
  [[(0, .aload 4, 2), (2, .iconst 0, 1), (3, .aload_n 0, 1), (4, .iload_n 1, 1), (5, .iload_n 2, 1), (6, .iload_n 3, 1), (7, .invokevirtual 95, 3), (10, .i2l, 1), (11, .lastore, 1), (12, .goto 15, 3), (15, .astore 5, 2), (17, .iconst 1, 1), (18, .ireturn, 1), (19, .astore 5, 2), (21, .iconst 2, 1), (22, .ireturn, 1)],
  [(23, .astore 5, 2), (25, .iconst 3, 1), (26, .ireturn, 1), (27, .iconst 0, 1), (28, .ireturn, 1)]])
theorem tL_setList : tabOK mL_setList = true := by decide +kernel
def mL_restart : MI := (yL_restart, cL_restart, 5, (some .int), [(0, 10, 13, 13), (0, 10, 17, 15), (0, 10, 21, 19)],
  [[(0, .aload_n 3, 1), (1, .iconst 0, 1), (2, .aload_n 0, 1), (3, .iload_n 1, 1), (4, .iload_n 2, 1), (5, .invokevirtual 98, 3), (8, .i2l, 1), (9, .lastore, 1), (10, .goto 15, 3), (13, .astore 4, 2), (15, .iconst 1, 1), (16, .ireturn, 1), (17, .astore 4, 2), (19, .iconst 2, 1), (20, .ireturn, 1), (21, .astore 4, 2)],
  [(23, .iconst 3, 1), (24, .ireturn, 1), (25, .iconst 0, 1), (26, .ireturn, 1)]])
theorem tL_restart : tabOK mL_restart = true := by decide +kernel
def mL_setKind : MI := (yL_setKind, cL_setKind, 6, (some .int), [(0, 12, 15, 15)],
  [[(0, .aload 4, 2), (2, .iconst 0, 1), (3, .aload_n 0, 1), (4, .iload_n 1, 1), (5, .iload_n 2, 1), (6, .iload_n 3, 1), (7, .invokevirtual 102, 3), (10, .i2l, 1), (11, .lastore, 1), (12, .goto 7, 3), (15, .astore 5, 2), (17, .iconst 1, 1), (18, .ireturn, 1), (19, .iconst 0, 1), (20, .ireturn, 1)]])
theorem tL_setKind : tabOK mL_setKind = true := by decide +kernel
def mL_setLegal : MI := (yL_setLegal, cL_setLegal, 5, (some .int), [(0, 17, 20, 15)],
  [[(0, .aload_n 3, 1), (1, .iconst 0, 1), (2, .aload_n 0, 1), (3, .iload_n 1, 1), (4, .iload_n 2, 1), (5, .invokevirtual 106, 3), (8, .ifCond .eq 7, 3), (11, .lconst 1, 1), (12, .goto 4, 3), (15, .lconst 0, 1), (16, .lastore, 1), (17, .goto 7, 3), (20, .astore 4, 2), (22, .iconst 1, 1), (23, .ireturn, 1), (24, .iconst 0, 1)],
  [(25, .ireturn, 1)]])
theorem tL_setLegal : tabOK mL_setLegal = true := by decide +kernel
def mL_numberOf : MI := (yL_numberOf, cL_numberOf, 4, (some .int), [(0, 9, 12, 13)],
  [[(0, .aload_n 2, 1), (1, .iconst 0, 1), (2, .aload_n 0, 1), (3, .iload_n 1, 1), (4, .invokevirtual 109, 3), (7, .i2l, 1), (8, .lastore, 1), (9, .goto 6, 3), (12, .astore_n 3, 1), (13, .iconst 1, 1), (14, .ireturn, 1), (15, .iconst 0, 1), (16, .ireturn, 1)]])
theorem tL_numberOf : tabOK mL_numberOf = true := by decide +kernel
def mL_writeNumber : MI := (yL_writeNumber, cL_writeNumber, 4, (some .int), [(0, 9, 12, 13), (0, 9, 15, 40)],
  [[(0, .aload_n 2, 1), (1, .iconst 0, 1), (2, .aload_n 0, 1), (3, .iload_n 1, 1), (4, .invokevirtual 112, 3), (7, .i2l, 1), (8, .lastore, 1), (9, .goto 9, 3), (12, .astore_n 3, 1), (13, .iconst 1, 1), (14, .ireturn, 1), (15, .astore_n 3, 1), (16, .iconst 2, 1), (17, .ireturn, 1), (18, .iconst 0, 1), (19, .ireturn, 1)]])
theorem tL_writeNumber : tabOK mL_writeNumber = true := by decide +kernel
def mL_lineAt : MI := (yL_lineAt, cL_lineAt, 4, (some .int), [(0, 9, 12, 13)],
  [[(0, .aload_n 2, 1), (1, .iconst 0, 1), (2, .aload_n 0, 1), (3, .iload_n 1, 1), (4, .invokevirtual 115, 3), (7, .i2l, 1), (8, .lastore, 1), (9, .goto 6, 3), (12, .astore_n 3, 1), (13, .iconst 1, 1), (14, .ireturn, 1), (15, .iconst 0, 1), (16, .ireturn, 1)]])
theorem tL_lineAt : tabOK mL_lineAt = true := by decide +kernel
def mL_setBookmark : MI := (yL_setBookmark, cL_setBookmark, 6, (some .int), [(0, 12, 15, 13), (0, 12, 19, 15)],
  [[(0, .aload 4, 2), (2, .iconst 0, 1), (3, .aload_n 0, 1), (4, .iload_n 1, 1), (5, .iload_n 2, 1), (6, .iload_n 3, 1), (7, .invokevirtual 118, 3), (10, .i2l, 1), (11, .lastore, 1), (12, .goto 11, 3), (15, .astore 5, 2), (17, .iconst 1, 1), (18, .ireturn, 1), (19, .astore 5, 2), (21, .iconst 2, 1), (22, .ireturn, 1)],
  [(23, .iconst 0, 1), (24, .ireturn, 1)]])
theorem tL_setBookmark : tabOK mL_setBookmark = true := by decide +kernel
def mL_bookmarkFrom : MI := (yL_bookmarkFrom, cL_bookmarkFrom, 4, (some .int), [(0, 9, 12, 13), (0, 9, 15, 40)],
  [[(0, .aload_n 2, 1), (1, .iconst 0, 1), (2, .aload_n 0, 1), (3, .iload_n 1, 1), (4, .invokevirtual 121, 3), (7, .i2l, 1), (8, .lastore, 1), (9, .goto 9, 3), (12, .astore_n 3, 1), (13, .iconst 1, 1), (14, .ireturn, 1), (15, .astore_n 3, 1), (16, .iconst 2, 1), (17, .ireturn, 1), (18, .iconst 0, 1), (19, .ireturn, 1)]])
theorem tL_bookmarkFrom : tabOK mL_bookmarkFrom = true := by decide +kernel
def mL_bookmarkTo : MI := (yL_bookmarkTo, cL_bookmarkTo, 4, (some .int), [(0, 9, 12, 13), (0, 9, 15, 40)],
  [[(0, .aload_n 2, 1), (1, .iconst 0, 1), (2, .aload_n 0, 1), (3, .iload_n 1, 1), (4, .invokevirtual 124, 3), (7, .i2l, 1), (8, .lastore, 1), (9, .goto 9, 3), (12, .astore_n 3, 1), (13, .iconst 1, 1), (14, .ireturn, 1), (15, .astore_n 3, 1), (16, .iconst 2, 1), (17, .ireturn, 1), (18, .iconst 0, 1), (19, .ireturn, 1)]])
theorem tL_bookmarkTo : tabOK mL_bookmarkTo = true := by decide +kernel
def mL_lock : MI := (yL_lock, cL_lock, 5, (some .int), [(0, 17, 20, 13)],
  [[(0, .aload_n 3, 1), (1, .iconst 0, 1), (2, .aload_n 0, 1), (3, .iload_n 1, 1), (4, .iload_n 2, 1), (5, .invokevirtual 127, 3), (8, .ifCond .eq 7, 3), (11, .lconst 1, 1), (12, .goto 4, 3), (15, .lconst 0, 1), (16, .lastore, 1), (17, .goto 7, 3), (20, .astore 4, 2), (22, .iconst 1, 1), (23, .ireturn, 1), (24, .iconst 0, 1)],
  [(25, .ireturn, 1)]])
theorem tL_lock : tabOK mL_lock = true := by decide +kernel
def mL_result : MI := (yL_result, cL_result, 4, (some .int), [(0, 9, 12, 13)],
  [[(0, .aload_n 2, 1), (1, .iconst 0, 1), (2, .aload_n 0, 1), (3, .iload_n 1, 1), (4, .invokevirtual 130, 3), (7, .i2l, 1), (8, .lastore, 1), (9, .goto 6, 3), (12, .astore_n 3, 1), (13, .iconst 1, 1), (14, .ireturn, 1), (15, .iconst 0, 1), (16, .ireturn, 1)]])
theorem tL_result : tabOK mL_result = true := by decide +kernel
def mL_setRecord : MI := (yL_setRecord, cL_setRecord, 6, (some .int), [(0, 12, 15, 15)],
  [[(0, .aload 4, 2), (2, .iconst 0, 1), (3, .aload_n 0, 1), (4, .iload_n 1, 1), (5, .iload_n 2, 1), (6, .iload_n 3, 1), (7, .invokevirtual 133, 3), (10, .i2l, 1), (11, .lastore, 1), (12, .goto 7, 3), (15, .astore 5, 2), (17, .iconst 1, 1), (18, .ireturn, 1), (19, .iconst 0, 1), (20, .ireturn, 1)]])
theorem tL_setRecord : tabOK mL_setRecord = true := by decide +kernel
def mL_choose : MI := (yL_choose, cL_choose, 4, (some .int), [(0, 9, 12, 15)],
  [[(0, .aload_n 2, 1), (1, .iconst 0, 1), (2, .aload_n 0, 1), (3, .iload_n 1, 1), (4, .invokevirtual 136, 3), (7, .i2l, 1), (8, .lastore, 1), (9, .goto 6, 3), (12, .astore_n 3, 1), (13, .iconst 1, 1), (14, .ireturn, 1), (15, .iconst 0, 1), (16, .ireturn, 1)]])
theorem tL_choose : tabOK mL_choose = true := by decide +kernel
def mL_merge : MI := (yL_merge, cL_merge, 5, (some .int), [(0, 10, 13, 15)],
  [[(0, .aload_n 3, 1), (1, .iconst 0, 1), (2, .aload_n 0, 1), (3, .iload_n 1, 1), (4, .iload_n 2, 1), (5, .invokevirtual 139, 3), (8, .i2l, 1), (9, .lastore, 1), (10, .goto 7, 3), (13, .astore 4, 2), (15, .iconst 1, 1), (16, .ireturn, 1), (17, .iconst 0, 1), (18, .ireturn, 1)]])
theorem tL_merge : tabOK mL_merge = true := by decide +kernel
def mL_setPage : MI := (yL_setPage, cL_setPage, 5, (some .int), [(0, 10, 13, 15)],
  [[(0, .aload_n 3, 1), (1, .iconst 0, 1), (2, .aload_n 0, 1), (3, .iload_n 1, 1), (4, .iload_n 2, 1), (5, .invokevirtual 142, 3), (8, .i2l, 1), (9, .lastore, 1), (10, .goto 7, 3), (13, .astore 4, 2), (15, .iconst 1, 1), (16, .ireturn, 1), (17, .iconst 0, 1), (18, .ireturn, 1)]])
theorem tL_setPage : tabOK mL_setPage = true := by decide +kernel
def mL_pageOf : MI := (yL_pageOf, cL_pageOf, 4, (some .int), [(0, 9, 12, 13)],
  [[(0, .aload_n 2, 1), (1, .iconst 0, 1), (2, .aload_n 0, 1), (3, .iload_n 1, 1), (4, .invokevirtual 145, 3), (7, .i2l, 1), (8, .lastore, 1), (9, .goto 6, 3), (12, .astore_n 3, 1), (13, .iconst 1, 1), (14, .ireturn, 1), (15, .iconst 0, 1), (16, .ireturn, 1)]])
theorem tL_pageOf : tabOK mL_pageOf = true := by decide +kernel
def mL_lineOf : MI := (yL_lineOf, cL_lineOf, 4, (some .int), [(0, 9, 12, 13)],
  [[(0, .aload_n 2, 1), (1, .iconst 0, 1), (2, .aload_n 0, 1), (3, .iload_n 1, 1), (4, .invokevirtual 148, 3), (7, .i2l, 1), (8, .lastore, 1), (9, .goto 6, 3), (12, .astore_n 3, 1), (13, .iconst 1, 1), (14, .ireturn, 1), (15, .iconst 0, 1), (16, .ireturn, 1)]])
theorem tL_lineOf : tabOK mL_lineOf = true := by decide +kernel
def mL_waitingShare : MI := (yL_waitingShare, cL_waitingShare, 3, (some .int), [(0, 8, 11, 155)],
  [[(0, .aload_n 1, 1), (1, .iconst 0, 1), (2, .aload_n 0, 1), (3, .invokevirtual 151, 3), (6, .f2d, 1), (7, .dastore, 1), (8, .goto 6, 3), (11, .astore_n 2, 1), (12, .iconst 1, 1), (13, .ireturn, 1), (14, .iconst 0, 1), (15, .ireturn, 1)]])
theorem tL_waitingShare : tabOK mL_waitingShare = true := by decide +kernel
def mL_shareBits : MI := (yL_shareBits, cL_shareBits, 3, (some .int), [(0, 8, 11, 155)],
  [[(0, .aload_n 1, 1), (1, .iconst 0, 1), (2, .aload_n 0, 1), (3, .invokevirtual 157, 3), (6, .i2l, 1), (7, .lastore, 1), (8, .goto 6, 3), (11, .astore_n 2, 1), (12, .iconst 1, 1), (13, .ireturn, 1), (14, .iconst 0, 1), (15, .ireturn, 1)]])
theorem tL_shareBits : tabOK mL_shareBits = true := by decide +kernel
