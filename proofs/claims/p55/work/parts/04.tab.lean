/-- a method: its name, bytes, number of locals, what it returns, its handlers, its instructions in rows of sixteen -/
abbrev MI : Type := MethodName × ByteArray × Nat × Option FieldType × List (Nat × Nat × Nat × Nat) × List (List (Nat × Instr × Nat))
def tabOK (m : MI) : Bool := m.2.2.2.2.2.all (fun r => r.all (fun e => decide (decode m.2.1 e.1 = .ok e.2)))
def mX0_init : MI := (yX0_init, cX0_init, 1, none, [],
  [[(0, .aload_n 0, 1), (1, .invokespecial 3, 3), (4, .aload_n 0, 1), (5, .bipush 20, 2), (7, .newarray .int, 2), (9, .putfield 9, 3), (12, .aload_n 0, 1), (13, .bipush 20, 2), (15, .newarray .int, 2), (17, .putfield 15, 3), (20, .aload_n 0, 1), (21, .bipush 20, 2), (23, .newarray .boolean, 2), (25, .putfield 18, 3), (28, .aload_n 0, 1), (29, .iconst 0, 1)],
  [(30, .putfield 22, 3), (33, .return_, 1)]])
theorem tX0_init : tabOK mX0_init = true := by decide +kernel
def mX1_init : MI := (yX1_init, cX1_init, 1, none, [],
  [[(0, .aload_n 0, 1), (1, .invokespecial 3, 3), (4, .aload_n 0, 1), (5, .bipush 20, 2), (7, .putfield 9, 3), (10, .aload_n 0, 1), (11, .bipush 8, 2), (13, .putfield 15, 3), (16, .aload_n 0, 1), (17, .sipush 512, 3), (20, .newarray .boolean, 2), (22, .putfield 18, 3), (25, .aload_n 0, 1), (26, .sipush 512, 3), (29, .newarray .int, 2), (31, .putfield 22, 3)],
  [(34, .aload_n 0, 1), (35, .sipush 202, 3), (38, .newarray .int, 2), (40, .putfield 26, 3), (43, .aload_n 0, 1), (44, .sipush 202, 3), (47, .newarray .int, 2), (49, .putfield 29, 3), (52, .aload_n 0, 1), (53, .sipush 202, 3), (56, .newarray .int, 2), (58, .putfield 32, 3), (61, .aload_n 0, 1), (62, .sipush 202, 3), (65, .newarray .int, 2), (67, .putfield 35, 3)],
  [(70, .aload_n 0, 1), (71, .sipush 202, 3), (74, .newarray .boolean, 2), (76, .putfield 38, 3), (79, .aload_n 0, 1), (80, .sipush 1024, 3), (83, .newarray .int, 2), (85, .putfield 41, 3), (88, .aload_n 0, 1), (89, .sipush 1024, 3), (92, .newarray .int, 2), (94, .putfield 44, 3), (97, .aload_n 0, 1), (98, .iconst 0, 1), (99, .putfield 47, 3), (102, .aload_n 0, 1)],
  [(103, .iconst 0, 1), (104, .putfield 50, 3), (107, .aload_n 0, 1), (108, .iconst 0, 1), (109, .putfield 53, 3), (112, .aload_n 0, 1), (113, .iconst 0, 1), (114, .putfield 56, 3), (117, .aload_n 0, 1), (118, .iconst 0, 1), (119, .putfield 59, 3), (122, .return_, 1)]])
theorem tX1_init : tabOK mX1_init = true := by decide +kernel
def mX1_layOut : MI := (yX1_layOut, cX1_layOut, 4, none, [],
  [[(0, .aload_n 0, 1), (1, .aload_n 1, 1), (2, .aload_n 2, 1), (3, .aload_n 3, 1), (4, .invokevirtual 62, 3), (7, .aload_n 0, 1), (8, .invokevirtual 66, 3), (11, .aload_n 0, 1), (12, .invokevirtual 69, 3), (15, .return_, 1)]])
theorem tX1_layOut : tabOK mX1_layOut = true := by decide +kernel
def mX1_manyPages : MI := (yX1_manyPages, cX1_manyPages, 1, (some .int), [],
  [[(0, .aload_n 0, 1), (1, .getfield 56, 3), (4, .iconst 1, 1), (5, .iadd, 1), (6, .ireturn, 1)]])
theorem tX1_manyPages : tabOK mX1_manyPages = true := by decide +kernel
def mX1_pageAt : MI := (yX1_pageAt, cX1_pageAt, 2, (some .int), [],
  [[(0, .aload_n 0, 1), (1, .getfield 41, 3), (4, .aload_n 0, 1), (5, .iload_n 1, 1), (6, .invokevirtual 72, 3), (9, .invokestatic 76, 3), (12, .ireturn, 1)]])
theorem tX1_pageAt : tabOK mX1_pageAt = true := by decide +kernel
def mX1_lineNumber : MI := (yX1_lineNumber, cX1_lineNumber, 6, (some .int), [],
  [[(0, .aload_n 0, 1), (1, .getfield 29, 3), (4, .iload_n 1, 1), (5, .invokestatic 76, 3), (8, .istore_n 2, 1), (9, .aload_n 0, 1), (10, .getfield 32, 3), (13, .iload_n 2, 1), (14, .invokestatic 76, 3), (17, .istore_n 3, 1), (18, .aload_n 0, 1), (19, .getfield 32, 3), (22, .iload_n 2, 1), (23, .iconst 1, 1), (24, .iadd, 1), (25, .invokestatic 76, 3)],
  [(28, .istore 4, 2), (30, .iload_n 3, 1), (31, .iload 4, 2), (33, .if_icmp .ne 12, 3), (36, .aload_n 0, 1), (37, .getfield 35, 3), (40, .iload_n 2, 1), (41, .invokestatic 76, 3), (44, .ireturn, 1), (45, .aload_n 0, 1), (46, .getfield 26, 3), (49, .iload_n 1, 1), (50, .invokestatic 76, 3), (53, .istore 5, 2), (55, .aload_n 0, 1), (56, .getfield 22, 3)],
  [(59, .iload 5, 2), (61, .iload 4, 2), (63, .if_icmp .ge 8, 3), (66, .iload 5, 2), (68, .goto 7, 3), (71, .iload 4, 2), (73, .iconst 1, 1), (74, .isub, 1), (75, .invokestatic 76, 3), (78, .ireturn, 1)]])
theorem tX1_lineNumber : tabOK mX1_lineNumber = true := by decide +kernel
def mX1_readSigns : MI := (yX1_readSigns, cX1_readSigns, 6, none, [],
  [[(0, .aload_n 0, 1), (1, .iconst 0, 1), (2, .putfield 47, 3), (5, .aload_n 0, 1), (6, .iconst 0, 1), (7, .putfield 50, 3), (10, .iconst 0, 1), (11, .istore 4, 2), (13, .aload_n 0, 1), (14, .getfield 32, 3), (17, .iconst 0, 1), (18, .iconst 0, 1), (19, .invokestatic 80, 3), (22, .iconst 0, 1), (23, .istore 5, 2), (25, .iload 5, 2)],
  [(27, .aload_n 1, 1), (28, .invokevirtual 84, 3), (31, .if_icmp .gt 85, 3), (34, .aload_n 1, 1), (35, .iload 5, 2), (37, .invokevirtual 90, 3), (40, .ifCond .eq 70, 3), (43, .aload_n 0, 1), (44, .getfield 26, 3), (47, .iload 4, 2), (49, .aload_n 0, 1), (50, .getfield 47, 3), (53, .invokestatic 80, 3), (56, .aload_n 0, 1), (57, .getfield 29, 3), (60, .iload 4, 2)],
  [(62, .aload_n 0, 1), (63, .getfield 50, 3), (66, .invokestatic 80, 3), (69, .iinc 4 1, 3), (72, .aload_n 1, 1), (73, .iconst 0, 1), (74, .iload 5, 2), (76, .invokevirtual 94, 3), (79, .bipush 47, 2), (81, .if_icmp .ne 21, 3), (84, .aload_n 0, 1), (85, .aload_n 3, 1), (86, .aload_n 1, 1), (87, .iconst 5, 1), (88, .iload 5, 2), (90, .invokevirtual 94, 3)],
  [(93, .invokevirtual 98, 3), (96, .invokevirtual 103, 3), (99, .goto 11, 3), (102, .aload_n 0, 1), (103, .aload_n 1, 1), (104, .iload 5, 2), (106, .aload_n 2, 1), (107, .invokevirtual 107, 3), (110, .iinc 5 1, 3), (113, .goto (-88), 3), (116, .return_, 1)]])
theorem tX1_readSigns : tabOK mX1_readSigns = true := by decide +kernel
def mX1_closeParagraph : MI := (yX1_closeParagraph, cX1_closeParagraph, 2, none, [],
  [[(0, .aload_n 0, 1), (1, .getfield 50, 3), (4, .sipush 202, 3), (7, .invokestatic 111, 3), (10, .ifCond .eq 13, 3), (13, .aload_n 0, 1), (14, .getfield 38, 3), (17, .aload_n 0, 1), (18, .getfield 50, 3), (21, .iload_n 1, 1), (22, .bastore, 1), (23, .aload_n 0, 1), (24, .dup, 1), (25, .getfield 50, 3), (28, .iconst 1, 1), (29, .iadd, 1)],
  [(30, .putfield 50, 3), (33, .aload_n 0, 1), (34, .getfield 32, 3), (37, .aload_n 0, 1), (38, .getfield 50, 3), (41, .aload_n 0, 1), (42, .getfield 47, 3), (45, .invokestatic 80, 3), (48, .return_, 1)]])
theorem tX1_closeParagraph : tabOK mX1_closeParagraph = true := by decide +kernel
def mX1_addSigns : MI := (yX1_addSigns, cX1_addSigns, 7, none, [],
  [[(0, .aload_n 1, 1), (1, .iconst 1, 1), (2, .iload_n 2, 1), (3, .invokevirtual 94, 3), (6, .istore 4, 2), (8, .iload 4, 2), (10, .iconst (-1), 1), (11, .if_icmp .ne 24, 3), (14, .aload_n 0, 1), (15, .aload_n 1, 1), (16, .iconst 0, 1), (17, .iload_n 2, 1), (18, .invokevirtual 94, 3), (21, .bipush 32, 2), (23, .if_icmp .ne 7, 3), (26, .iconst 1, 1)],
  [(27, .goto 4, 3), (30, .iconst 0, 1), (31, .invokevirtual 115, 3), (34, .return_, 1), (35, .aload_n 0, 1), (36, .iconst 0, 1), (37, .invokevirtual 115, 3), (40, .aload_n 3, 1), (41, .iload 4, 2), (43, .invokestatic 76, 3), (46, .bipush 10, 2), (48, .idiv, 1), (49, .istore 5, 2), (51, .iconst 0, 1), (52, .istore 6, 2), (54, .iload 6, 2)],
  [(56, .bipush 10, 2), (58, .if_icmp .ge 26, 3), (61, .iload 5, 2), (63, .ifCond .le 21, 3), (66, .aload_n 0, 1), (67, .iconst 0, 1), (68, .invokevirtual 115, 3), (71, .iload 5, 2), (73, .bipush 10, 2), (75, .idiv, 1), (76, .istore 5, 2), (78, .iinc 6 1, 3), (81, .goto (-27), 3), (84, .return_, 1)]])
theorem tX1_addSigns : tabOK mX1_addSigns = true := by decide +kernel
def mX1_addSign : MI := (yX1_addSign, cX1_addSign, 2, none, [],
  [[(0, .aload_n 0, 1), (1, .getfield 47, 3), (4, .ifCond .lt 33, 3), (7, .aload_n 0, 1), (8, .getfield 47, 3), (11, .sipush 512, 3), (14, .if_icmp .ge 23, 3), (17, .aload_n 0, 1), (18, .getfield 18, 3), (21, .aload_n 0, 1), (22, .getfield 47, 3), (25, .iload_n 1, 1), (26, .bastore, 1), (27, .aload_n 0, 1), (28, .dup, 1), (29, .getfield 47, 3)],
  [(32, .iconst 1, 1), (33, .iadd, 1), (34, .putfield 47, 3), (37, .return_, 1)]])
theorem tX1_addSign : tabOK mX1_addSign = true := by decide +kernel
def mX1_breakLines : MI := (yX1_breakLines, cX1_breakLines, 2, none, [],
  [[(0, .aload_n 0, 1), (1, .iconst 0, 1), (2, .putfield 53, 3), (5, .iconst 0, 1), (6, .istore_n 1, 1), (7, .iload_n 1, 1), (8, .aload_n 0, 1), (9, .getfield 50, 3), (12, .if_icmp .ge 43, 3), (15, .aload_n 0, 1), (16, .getfield 35, 3), (19, .iload_n 1, 1), (20, .aload_n 0, 1), (21, .getfield 53, 3), (24, .invokestatic 80, 3), (27, .aload_n 0, 1)],
  [(28, .aload_n 0, 1), (29, .getfield 32, 3), (32, .iload_n 1, 1), (33, .invokestatic 76, 3), (36, .aload_n 0, 1), (37, .getfield 32, 3), (40, .iload_n 1, 1), (41, .iconst 1, 1), (42, .iadd, 1), (43, .invokestatic 76, 3), (46, .invokevirtual 118, 3), (49, .iinc 1 1, 3), (52, .goto (-45), 3), (55, .aload_n 0, 1), (56, .getfield 35, 3), (59, .aload_n 0, 1)],
  [(60, .getfield 50, 3), (63, .aload_n 0, 1), (64, .getfield 53, 3), (67, .invokestatic 80, 3), (70, .return_, 1)]])
theorem tX1_breakLines : tabOK mX1_breakLines = true := by decide +kernel
def mX1_breakParagraph : MI := (yX1_breakParagraph, cX1_breakParagraph, 7, none, [],
  [[(0, .iload_n 1, 1), (1, .istore_n 3, 1), (2, .iconst 0, 1), (3, .istore 4, 2), (5, .iload 4, 2), (7, .sipush 512, 3), (10, .if_icmp .ge 67, 3), (13, .aload_n 0, 1), (14, .iload_n 3, 1), (15, .iload_n 2, 1), (16, .invokevirtual 122, 3), (19, .istore 5, 2), (21, .iload_n 3, 1), (22, .istore 6, 2), (24, .iload 6, 2), (26, .iload 5, 2)],
  [(28, .if_icmp .ge 22, 3), (31, .aload_n 0, 1), (32, .getfield 22, 3), (35, .iload 6, 2), (37, .aload_n 0, 1), (38, .getfield 53, 3), (41, .invokestatic 80, 3), (44, .iinc 6 1, 3), (47, .goto (-23), 3), (50, .aload_n 0, 1), (51, .dup, 1), (52, .getfield 53, 3), (55, .iconst 1, 1), (56, .iadd, 1), (57, .putfield 53, 3), (60, .iload 5, 2)],
  [(62, .istore_n 3, 1), (63, .iload_n 3, 1), (64, .iload_n 2, 1), (65, .if_icmp .lt 6, 3), (68, .goto 9, 3), (71, .iinc 4 1, 3), (74, .goto (-69), 3), (77, .return_, 1)]])
theorem tX1_breakParagraph : tabOK mX1_breakParagraph = true := by decide +kernel
def mX1_endOfLine : MI := (yX1_endOfLine, cX1_endOfLine, 4, (some .int), [],
  [[(0, .iload_n 2, 1), (1, .iload_n 1, 1), (2, .isub, 1), (3, .aload_n 0, 1), (4, .getfield 9, 3), (7, .if_icmp .gt 5, 3), (10, .iload_n 2, 1), (11, .ireturn, 1), (12, .iload_n 1, 1), (13, .aload_n 0, 1), (14, .getfield 9, 3), (17, .iadd, 1), (18, .iconst 1, 1), (19, .isub, 1), (20, .istore_n 3, 1), (21, .iload_n 3, 1)],
  [(22, .iload_n 1, 1), (23, .if_icmp .lt 32, 3), (26, .iload_n 3, 1), (27, .sipush 512, 3), (30, .invokestatic 111, 3), (33, .ifCond .eq 16, 3), (36, .aload_n 0, 1), (37, .getfield 18, 3), (40, .iload_n 3, 1), (41, .baload, 1), (42, .ifCond .eq 7, 3), (45, .iload_n 3, 1), (46, .iconst 1, 1), (47, .iadd, 1), (48, .ireturn, 1), (49, .iinc 3 (-1), 3)],
  [(52, .goto (-31), 3), (55, .iload_n 1, 1), (56, .aload_n 0, 1), (57, .getfield 9, 3), (60, .iadd, 1), (61, .ireturn, 1)]])
theorem tX1_endOfLine : tabOK mX1_endOfLine = true := by decide +kernel
def mX1_fillPages : MI := (yX1_fillPages, cX1_fillPages, 4, none, [],
  [[(0, .aload_n 0, 1), (1, .iconst 0, 1), (2, .putfield 56, 3), (5, .aload_n 0, 1), (6, .iconst 0, 1), (7, .putfield 59, 3), (10, .iconst 0, 1), (11, .istore_n 1, 1), (12, .iload_n 1, 1), (13, .aload_n 0, 1), (14, .getfield 50, 3), (17, .if_icmp .ge 72, 3), (20, .aload_n 0, 1), (21, .iload_n 1, 1), (22, .invokevirtual 125, 3), (25, .ifCond .eq 22, 3)],
  [(28, .aload_n 0, 1), (29, .iload_n 1, 1), (30, .iconst 1, 1), (31, .isub, 1), (32, .invokevirtual 125, 3), (35, .ifCond .ne 12, 3), (38, .aload_n 0, 1), (39, .aload_n 0, 1), (40, .iload_n 1, 1), (41, .invokevirtual 128, 3), (44, .invokevirtual 131, 3), (47, .aload_n 0, 1), (48, .getfield 35, 3), (51, .iload_n 1, 1), (52, .iconst 1, 1), (53, .iadd, 1)],
  [(54, .invokestatic 76, 3), (57, .istore_n 2, 1), (58, .aload_n 0, 1), (59, .getfield 35, 3), (62, .iload_n 1, 1), (63, .invokestatic 76, 3), (66, .istore_n 3, 1), (67, .iload_n 3, 1), (68, .iload_n 2, 1), (69, .if_icmp .ge 14, 3), (72, .aload_n 0, 1), (73, .iload_n 3, 1), (74, .invokevirtual 135, 3), (77, .iinc 3 1, 3), (80, .goto (-13), 3), (83, .iinc 1 1, 3)],
  [(86, .goto (-74), 3), (89, .return_, 1)]])
theorem tX1_fillPages : tabOK mX1_fillPages = true := by decide +kernel
def mX1_keepsAt : MI := (yX1_keepsAt, cX1_keepsAt, 2, (some .boolean), [],
  [[(0, .iload_n 1, 1), (1, .sipush 202, 3), (4, .invokestatic 111, 3), (7, .ifCond .eq 16, 3), (10, .aload_n 0, 1), (11, .getfield 38, 3), (14, .iload_n 1, 1), (15, .baload, 1), (16, .ifCond .eq 7, 3), (19, .iconst 1, 1), (20, .goto 4, 3), (23, .iconst 0, 1), (24, .ireturn, 1)]])
theorem tX1_keepsAt : tabOK mX1_keepsAt = true := by decide +kernel
def mX1_linesTogether : MI := (yX1_linesTogether, cX1_linesTogether, 4, (some .int), [],
  [[(0, .iload_n 1, 1), (1, .istore_n 2, 1), (2, .iload_n 1, 1), (3, .istore_n 3, 1), (4, .iload_n 3, 1), (5, .aload_n 0, 1), (6, .getfield 50, 3), (9, .if_icmp .ge 20, 3), (12, .aload_n 0, 1), (13, .iload_n 3, 1), (14, .invokevirtual 125, 3), (17, .ifCond .eq 12, 3), (20, .iinc 2 1, 3), (23, .iinc 3 1, 3), (26, .goto (-22), 3), (29, .aload_n 0, 1)],
  [(30, .getfield 35, 3), (33, .iload_n 2, 1), (34, .invokestatic 76, 3), (37, .aload_n 0, 1), (38, .getfield 35, 3), (41, .iload_n 1, 1), (42, .invokestatic 76, 3), (45, .isub, 1), (46, .istore_n 3, 1), (47, .iload_n 2, 1), (48, .aload_n 0, 1), (49, .getfield 50, 3), (52, .if_icmp .ge 9, 3), (55, .iload_n 3, 1), (56, .iconst 1, 1), (57, .iadd, 1)],
  [(58, .goto 4, 3), (61, .iload_n 3, 1), (62, .ireturn, 1)]])
theorem tX1_linesTogether : tabOK mX1_linesTogether = true := by decide +kernel
def mX1_turnPageFor : MI := (yX1_turnPageFor, cX1_turnPageFor, 3, none, [],
  [[(0, .aload_n 0, 1), (1, .getfield 59, 3), (4, .aload_n 0, 1), (5, .getfield 15, 3), (8, .if_icmp .lt 10, 3), (11, .aload_n 0, 1), (12, .getfield 15, 3), (15, .goto 12, 3), (18, .aload_n 0, 1), (19, .getfield 15, 3), (22, .aload_n 0, 1), (23, .getfield 59, 3), (26, .isub, 1), (27, .istore_n 2, 1), (28, .iload_n 1, 1), (29, .iload_n 2, 1)],
  [(30, .if_icmp .le 26, 3), (33, .iload_n 1, 1), (34, .aload_n 0, 1), (35, .getfield 15, 3), (38, .if_icmp .gt 18, 3), (41, .aload_n 0, 1), (42, .dup, 1), (43, .getfield 56, 3), (46, .iconst 1, 1), (47, .iadd, 1), (48, .putfield 56, 3), (51, .aload_n 0, 1), (52, .iconst 0, 1), (53, .putfield 59, 3), (56, .return_, 1)]])
theorem tX1_turnPageFor : tabOK mX1_turnPageFor = true := by decide +kernel
def mX1_placeLine : MI := (yX1_placeLine, cX1_placeLine, 2, none, [],
  [[(0, .aload_n 0, 1), (1, .getfield 59, 3), (4, .aload_n 0, 1), (5, .getfield 15, 3), (8, .if_icmp .lt 18, 3), (11, .aload_n 0, 1), (12, .dup, 1), (13, .getfield 56, 3), (16, .iconst 1, 1), (17, .iadd, 1), (18, .putfield 56, 3), (21, .aload_n 0, 1), (22, .iconst 0, 1), (23, .putfield 59, 3), (26, .aload_n 0, 1), (27, .getfield 41, 3)],
  [(30, .iload_n 1, 1), (31, .aload_n 0, 1), (32, .getfield 56, 3), (35, .invokestatic 80, 3), (38, .aload_n 0, 1), (39, .getfield 44, 3), (42, .iload_n 1, 1), (43, .aload_n 0, 1), (44, .getfield 59, 3), (47, .invokestatic 80, 3), (50, .aload_n 0, 1), (51, .dup, 1), (52, .getfield 59, 3), (55, .iconst 1, 1), (56, .iadd, 1), (57, .putfield 59, 3)],
  [(60, .return_, 1)]])
theorem tX1_placeLine : tabOK mX1_placeLine = true := by decide +kernel
def mX2_init : MI := (yX2_init, cX2_init, 1, none, [],
  [[(0, .aload_n 0, 1), (1, .invokespecial 3, 3), (4, .aload_n 0, 1), (5, .bipush 60, 2), (7, .newarray .int, 2), (9, .putfield 9, 3), (12, .aload_n 0, 1), (13, .bipush 60, 2), (15, .newarray .int, 2), (17, .putfield 15, 3), (20, .aload_n 0, 1), (21, .bipush 60, 2), (23, .newarray .int, 2), (25, .putfield 18, 3), (28, .aload_n 0, 1), (29, .iconst 0, 1)],
  [(30, .putfield 21, 3), (33, .return_, 1)]])
theorem tX2_init : tabOK mX2_init = true := by decide +kernel
def mX2_takeLog : MI := (yX2_takeLog, cX2_takeLog, 2, none, [],
  [[(0, .aload_n 1, 1), (1, .getfield 9, 3), (4, .iconst 0, 1), (5, .aload_n 0, 1), (6, .getfield 9, 3), (9, .iconst 0, 1), (10, .bipush 60, 2), (12, .invokestatic 25, 3), (15, .aload_n 1, 1), (16, .getfield 15, 3), (19, .iconst 0, 1), (20, .aload_n 0, 1), (21, .getfield 15, 3), (24, .iconst 0, 1), (25, .bipush 60, 2), (27, .invokestatic 25, 3)],
  [(30, .aload_n 1, 1), (31, .getfield 18, 3), (34, .iconst 0, 1), (35, .aload_n 0, 1), (36, .getfield 18, 3), (39, .iconst 0, 1), (40, .bipush 60, 2), (42, .invokestatic 25, 3), (45, .aload_n 0, 1), (46, .aload_n 1, 1), (47, .getfield 21, 3), (50, .putfield 21, 3), (53, .return_, 1)]])
theorem tX2_takeLog : tabOK mX2_takeLog = true := by decide +kernel
def mX2_many : MI := (yX2_many, cX2_many, 1, (some .int), [],
  [[(0, .aload_n 0, 1), (1, .getfield 21, 3), (4, .ireturn, 1)]])
theorem tX2_many : tabOK mX2_many = true := by decide +kernel
def mX2_isFull : MI := (yX2_isFull, cX2_isFull, 1, (some .boolean), [],
  [[(0, .aload_n 0, 1), (1, .getfield 21, 3), (4, .bipush 60, 2), (6, .if_icmp .lt 7, 3), (9, .iconst 1, 1), (10, .goto 4, 3), (13, .iconst 0, 1), (14, .ireturn, 1)]])
theorem tX2_isFull : tabOK mX2_isFull = true := by decide +kernel
def mX2_enroll : MI := (yX2_enroll, cX2_enroll, 3, (some .int), [],
  [[(0, .aload_n 0, 1), (1, .invokevirtual 31, 3), (4, .ifCond .eq 5, 3), (7, .iconst (-1), 1), (8, .ireturn, 1), (9, .aload_n 0, 1), (10, .getfield 9, 3), (13, .aload_n 0, 1), (14, .getfield 21, 3), (17, .iload_n 1, 1), (18, .invokestatic 35, 3), (21, .aload_n 0, 1), (22, .getfield 15, 3), (25, .aload_n 0, 1), (26, .getfield 21, 3), (29, .iload_n 2, 1)],
  [(30, .invokestatic 35, 3), (33, .aload_n 0, 1), (34, .getfield 18, 3), (37, .aload_n 0, 1), (38, .getfield 21, 3), (41, .bipush 119, 2), (43, .invokestatic 35, 3), (46, .aload_n 0, 1), (47, .dup, 1), (48, .getfield 21, 3), (51, .iconst 1, 1), (52, .iadd, 1), (53, .putfield 21, 3), (56, .aload_n 0, 1), (57, .getfield 21, 3), (60, .iconst 1, 1)],
  [(61, .isub, 1), (62, .ireturn, 1)]])
theorem tX2_enroll : tabOK mX2_enroll = true := by decide +kernel
def mX2_kind : MI := (yX2_kind, cX2_kind, 2, (some .char), [],
  [[(0, .aload_n 0, 1), (1, .getfield 9, 3), (4, .iload_n 1, 1), (5, .invokestatic 39, 3), (8, .i2c, 1), (9, .ireturn, 1)]])
theorem tX2_kind : tabOK mX2_kind = true := by decide +kernel
def mX2_author : MI := (yX2_author, cX2_author, 2, (some .int), [],
  [[(0, .aload_n 0, 1), (1, .getfield 15, 3), (4, .iload_n 1, 1), (5, .invokestatic 39, 3), (8, .ireturn, 1)]])
theorem tX2_author : tabOK mX2_author = true := by decide +kernel
def mX2_state : MI := (yX2_state, cX2_state, 2, (some .char), [],
  [[(0, .aload_n 0, 1), (1, .getfield 18, 3), (4, .iload_n 1, 1), (5, .invokestatic 39, 3), (8, .i2c, 1), (9, .ireturn, 1)]])
theorem tX2_state : tabOK mX2_state = true := by decide +kernel
def mX2_setState : MI := (yX2_setState, cX2_setState, 3, none, [],
  [[(0, .aload_n 0, 1), (1, .getfield 18, 3), (4, .iload_n 1, 1), (5, .iload_n 2, 1), (6, .invokestatic 35, 3), (9, .return_, 1)]])
theorem tX2_setState : tabOK mX2_setState = true := by decide +kernel
def mX2_isWaitingOf : MI := (yX2_isWaitingOf, cX2_isWaitingOf, 3, (some .boolean), [],
  [[(0, .iload_n 1, 1), (1, .aload_n 0, 1), (2, .getfield 21, 3), (5, .invokestatic 43, 3), (8, .ifCond .eq 26, 3), (11, .aload_n 0, 1), (12, .iload_n 1, 1), (13, .invokevirtual 47, 3), (16, .bipush 119, 2), (18, .if_icmp .ne 16, 3), (21, .aload_n 0, 1), (22, .iload_n 1, 1), (23, .invokevirtual 51, 3), (26, .iload_n 2, 1), (27, .if_icmp .ne 7, 3), (30, .iconst 1, 1)],
  [(31, .goto 4, 3), (34, .iconst 0, 1), (35, .ireturn, 1)]])
theorem tX2_isWaitingOf : tabOK mX2_isWaitingOf = true := by decide +kernel
def mX2_isAuthored : MI := (yX2_isAuthored, cX2_isAuthored, 2, (some .boolean), [],
  [[(0, .iconst 0, 1), (1, .istore_n 1, 1), (2, .iload_n 1, 1), (3, .aload_n 0, 1), (4, .getfield 21, 3), (7, .if_icmp .ge 33, 3), (10, .aload_n 0, 1), (11, .iload_n 1, 1), (12, .invokevirtual 47, 3), (15, .bipush 119, 2), (17, .if_icmp .ne 17, 3), (20, .aload_n 0, 1), (21, .iload_n 1, 1), (22, .invokevirtual 51, 3), (25, .iconst 4, 1), (26, .invokestatic 43, 3)],
  [(29, .ifCond .ne 5, 3), (32, .iconst 0, 1), (33, .ireturn, 1), (34, .iinc 1 1, 3), (37, .goto (-35), 3), (40, .iconst 1, 1), (41, .ireturn, 1)]])
theorem tX2_isAuthored : tabOK mX2_isAuthored = true := by decide +kernel
def mX3_init : MI := (yX3_init, cX3_init, 2, none, [],
  [[(0, .aload_n 0, 1), (1, .invokespecial 3, 3), (4, .aload_n 0, 1), (5, .bipush 9, 2), (7, .newarray .int, 2), (9, .putfield 9, 3), (12, .aload_n 0, 1), (13, .iconst 3, 1), (14, .newarray .boolean, 2), (16, .putfield 15, 3), (19, .aload_n 0, 1), (20, .iconst 3, 1), (21, .newarray .int, 2), (23, .putfield 19, 3), (26, .aload_n 0, 1), (27, .sipush 128, 3)],
  [(30, .newarray .char, 2), (32, .putfield 22, 3), (35, .aload_n 0, 1), (36, .iconst 0, 1), (37, .putfield 26, 3), (40, .iconst 0, 1), (41, .istore_n 1, 1), (42, .iload_n 1, 1), (43, .bipush 9, 2), (45, .if_icmp .ge 17, 3), (48, .aload_n 0, 1), (49, .getfield 9, 3), (52, .iload_n 1, 1), (53, .bipush 100, 2), (55, .iastore, 1), (56, .iinc 1 1, 3)],
  [(59, .goto (-17), 3), (62, .return_, 1)]])
theorem tX3_init : tabOK mX3_init = true := by decide +kernel
def mX4_init : MI := (yX4_init, cX4_init, 1, none, [],
  [[(0, .aload_n 0, 1), (1, .invokespecial 3, 3), (4, .aload_n 0, 1), (5, .new 9, 3), (8, .dup, 1), (9, .invokespecial 11, 3), (12, .putfield 12, 3), (15, .aload_n 0, 1), (16, .new 18, 3), (19, .dup, 1), (20, .invokespecial 20, 3), (23, .putfield 21, 3), (26, .aload_n 0, 1), (27, .bipush 20, 2), (29, .newarray .int, 2), (31, .putfield 25, 3)],
  [(34, .return_, 1)]])
theorem tX4_init : tabOK mX4_init = true := by decide +kernel
def mX4_takeFrom : MI := (yX4_takeFrom, cX4_takeFrom, 2, none, [],
  [[(0, .aload_n 0, 1), (1, .getfield 12, 3), (4, .aload_n 1, 1), (5, .getfield 12, 3), (8, .invokevirtual 29, 3), (11, .aload_n 0, 1), (12, .getfield 21, 3), (15, .aload_n 1, 1), (16, .getfield 21, 3), (19, .invokevirtual 33, 3), (22, .aload_n 1, 1), (23, .getfield 25, 3), (26, .iconst 0, 1), (27, .aload_n 0, 1), (28, .getfield 25, 3), (31, .iconst 0, 1)],
  [(32, .bipush 20, 2), (34, .invokestatic 37, 3), (37, .return_, 1)]])
theorem tX4_takeFrom : tabOK mX4_takeFrom = true := by decide +kernel
def mX4_changeAhead : MI := (yX4_changeAhead, cX4_changeAhead, 4, (some .int), [],
  [[(0, .aload_n 0, 1), (1, .getfield 12, 3), (4, .iconst 2, 1), (5, .iload_n 2, 1), (6, .iconst 1, 1), (7, .isub, 1), (8, .invokevirtual 47, 3), (11, .istore_n 3, 1), (12, .aload_n 0, 1), (13, .getfield 21, 3), (16, .iload_n 3, 1), (17, .iload_n 1, 1), (18, .invokevirtual 51, 3), (21, .ifCond .eq 7, 3), (24, .iload_n 3, 1), (25, .goto 4, 3)],
  [(28, .iconst (-1), 1), (29, .ireturn, 1)]])
theorem tX4_changeAhead : tabOK mX4_changeAhead = true := by decide +kernel
def mX4_isOwn : MI := (yX4_isOwn, cX4_isOwn, 3, (some .boolean), [],
  [[(0, .aload_n 0, 1), (1, .getfield 21, 3), (4, .aload_n 0, 1), (5, .getfield 12, 3), (8, .iconst 2, 1), (9, .iload_n 2, 1), (10, .invokevirtual 47, 3), (13, .iload_n 1, 1), (14, .invokevirtual 51, 3), (17, .ireturn, 1)]])
theorem tX4_isOwn : tabOK mX4_isOwn = true := by decide +kernel
def mX4_hasOthers : MI := (yX4_hasOthers, cX4_hasOthers, 5, (some .boolean), [],
  [[(0, .iload_n 2, 1), (1, .istore 4, 2), (3, .iload 4, 2), (5, .iload_n 3, 1), (6, .if_icmp .ge 33, 3), (9, .aload_n 0, 1), (10, .getfield 12, 3), (13, .iload 4, 2), (15, .invokevirtual 55, 3), (18, .ifCond .eq 15, 3), (21, .aload_n 0, 1), (22, .iload_n 1, 1), (23, .iload 4, 2), (25, .invokevirtual 59, 3), (28, .ifCond .ne 5, 3), (31, .iconst 1, 1)],
  [(32, .ireturn, 1), (33, .iinc 4 1, 3), (36, .goto (-33), 3), (39, .iconst 0, 1), (40, .ireturn, 1)]])
theorem tX4_hasOthers : tabOK mX4_hasOthers = true := by decide +kernel
def mX4_strike : MI := (yX4_strike, cX4_strike, 6, (some .int), [],
  [[(0, .aload_n 0, 1), (1, .iload_n 1, 1), (2, .iload_n 2, 1), (3, .iload_n 3, 1), (4, .invokevirtual 62, 3), (7, .ifCond .eq 16, 3), (10, .aload_n 0, 1), (11, .getfield 21, 3), (14, .bipush 101, 2), (16, .iload_n 1, 1), (17, .invokevirtual 66, 3), (20, .goto 4, 3), (23, .iconst (-1), 1), (24, .istore 4, 2), (26, .iload_n 3, 1), (27, .iconst 1, 1)],
  [(28, .isub, 1), (29, .istore 5, 2), (31, .iload 5, 2), (33, .iload_n 2, 1), (34, .if_icmp .lt 60, 3), (37, .iload 5, 2), (39, .ifCond .lt 55, 3), (42, .aload_n 0, 1), (43, .getfield 12, 3), (46, .iload 5, 2), (48, .invokevirtual 55, 3), (51, .ifCond .eq 37, 3), (54, .aload_n 0, 1), (55, .iload_n 1, 1), (56, .iload 5, 2), (58, .invokevirtual 59, 3)],
  [(61, .ifCond .eq 15, 3), (64, .aload_n 0, 1), (65, .getfield 12, 3), (68, .iload 5, 2), (70, .invokevirtual 70, 3), (73, .goto 15, 3), (76, .aload_n 0, 1), (77, .getfield 12, 3), (80, .iconst 3, 1), (81, .iload 5, 2), (83, .iload 4, 2), (85, .invokevirtual 74, 3), (88, .iinc 5 (-1), 3), (91, .goto (-60), 3), (94, .iload 4, 2), (96, .ireturn, 1)]])
theorem tX4_strike : tabOK mX4_strike = true := by decide +kernel
def mX4_settle : MI := (yX4_settle, cX4_settle, 4, (some .int), [],
  [[(0, .aload_n 0, 1), (1, .getfield 12, 3), (4, .iload_n 1, 1), (5, .invokevirtual 82, 3), (8, .istore_n 3, 1), (9, .aload_n 0, 1), (10, .getfield 21, 3), (13, .iload_n 1, 1), (14, .invokevirtual 86, 3), (17, .lookupswitch 55 #[(101, 37), (105, 27)], 27), (44, .aload_n 0, 1), (45, .iconst 2, 1), (46, .iload_n 1, 1), (47, .iload_n 2, 1), (48, .invokevirtual 90, 3), (51, .goto 30, 3)],
  [(54, .aload_n 0, 1), (55, .iconst 3, 1), (56, .iload_n 1, 1), (57, .iload_n 2, 1), (58, .ifCond .ne 7, 3), (61, .iconst 1, 1), (62, .goto 4, 3), (65, .iconst 0, 1), (66, .invokevirtual 90, 3), (69, .goto 12, 3), (72, .aload_n 0, 1), (73, .getfield 12, 3), (76, .iload_n 1, 1), (77, .iload_n 2, 1), (78, .invokevirtual 94, 3), (81, .aload_n 0, 1)],
  [(82, .getfield 21, 3), (85, .iload_n 1, 1), (86, .iload_n 2, 1), (87, .ifCond .eq 8, 3), (90, .bipush 97, 2), (92, .goto 5, 3), (95, .bipush 114, 2), (97, .invokevirtual 98, 3), (100, .iload_n 3, 1), (101, .ireturn, 1)]])
theorem tX4_settle : tabOK mX4_settle = true := by decide +kernel
def mX4_settleUnits : MI := (yX4_settleUnits, cX4_settleUnits, 4, none, [],
  [[(0, .iload_n 3, 1), (1, .ifCond .eq 15, 3), (4, .aload_n 0, 1), (5, .getfield 12, 3), (8, .iload_n 1, 1), (9, .iload_n 2, 1), (10, .invokevirtual 102, 3), (13, .goto 12, 3), (16, .aload_n 0, 1), (17, .getfield 12, 3), (20, .iload_n 1, 1), (21, .iload_n 2, 1), (22, .invokevirtual 106, 3), (25, .return_, 1)]])
theorem tX4_settleUnits : tabOK mX4_settleUnits = true := by decide +kernel
def mX4_settleAll : MI := (yX4_settleAll, cX4_settleAll, 5, (some .int), [],
  [[(0, .iconst 0, 1), (1, .istore_n 3, 1), (2, .iconst 0, 1), (3, .istore 4, 2), (5, .iload 4, 2), (7, .aload_n 0, 1), (8, .getfield 21, 3), (11, .invokevirtual 109, 3), (14, .if_icmp .ge 52, 3), (17, .aload_n 0, 1), (18, .getfield 21, 3), (21, .iload 4, 2), (23, .invokevirtual 113, 3), (26, .bipush 119, 2), (28, .if_icmp .ne 32, 3), (31, .iload_n 1, 1)],
  [(32, .iconst (-1), 1), (33, .if_icmp .eq 16, 3), (36, .aload_n 0, 1), (37, .getfield 21, 3), (40, .iload 4, 2), (42, .invokevirtual 116, 3), (45, .iload_n 1, 1), (46, .if_icmp .ne 14, 3), (49, .aload_n 0, 1), (50, .iload 4, 2), (52, .iload_n 2, 1), (53, .invokevirtual 78, 3), (56, .pop, 1), (57, .iinc 3 1, 3), (60, .iinc 4 1, 3), (63, .goto (-58), 3)],
  [(66, .iload_n 3, 1), (67, .ireturn, 1)]])
theorem tX4_settleAll : tabOK mX4_settleAll = true := by decide +kernel
def mX5_init : MI := (yX5_init, cX5_init, 2, none, [],
  [[(0, .aload_n 0, 1), (1, .invokespecial 3, 3), (4, .aload_n 0, 1), (5, .bipush 7, 2), (7, .anewarray 9, 3), (10, .putfield 11, 3), (13, .aload_n 0, 1), (14, .iconst 0, 1), (15, .putfield 17, 3), (18, .aload_n 0, 1), (19, .iconst 0, 1), (20, .putfield 21, 3), (23, .iconst 0, 1), (24, .istore_n 1, 1), (25, .iload_n 1, 1), (26, .bipush 6, 2)],
  [(28, .if_icmp .gt 22, 3), (31, .aload_n 0, 1), (32, .getfield 11, 3), (35, .iload_n 1, 1), (36, .new 9, 3), (39, .dup, 1), (40, .invokespecial 24, 3), (43, .aastore, 1), (44, .iinc 1 1, 3), (47, .goto (-22), 3), (50, .return_, 1)]])
theorem tX5_init : tabOK mX5_init = true := by decide +kernel
def mX5_now : MI := (yX5_now, cX5_now, 1, (some (.object "SealOffice$Paper")), [],
  [[(0, .aload_n 0, 1), (1, .getfield 11, 3), (4, .aload_n 0, 1), (5, .getfield 17, 3), (8, .aload_n 0, 1), (9, .getfield 11, 3), (12, .arraylength, 1), (13, .invokestatic 25, 3), (16, .ifCond .eq 10, 3), (19, .aload_n 0, 1), (20, .getfield 17, 3), (23, .goto 4, 3), (26, .iconst 0, 1), (27, .aaload, 1), (28, .areturn, 1)]])
theorem tX5_now : tabOK mX5_now = true := by decide +kernel
def mX5_begin : MI := (yX5_begin, cX5_begin, 3, (some (.object "SealOffice$Paper")), [],
  [[(0, .aload_n 0, 1), (1, .invokevirtual 29, 3), (4, .astore_n 1, 1), (5, .aload_n 0, 1), (6, .getfield 17, 3), (9, .bipush 6, 2), (11, .if_icmp .lt 7, 3), (14, .aload_n 0, 1), (15, .invokevirtual 33, 3), (18, .aload_n 0, 1), (19, .dup, 1), (20, .getfield 17, 3), (23, .iconst 1, 1), (24, .iadd, 1), (25, .putfield 17, 3), (28, .aload_n 0, 1)],
  [(29, .iconst 0, 1), (30, .putfield 21, 3), (33, .aload_n 0, 1), (34, .invokevirtual 29, 3), (37, .astore_n 2, 1), (38, .aload_n 2, 1), (39, .aload_n 1, 1), (40, .invokevirtual 36, 3), (43, .aload_n 2, 1), (44, .areturn, 1)]])
theorem tX5_begin : tabOK mX5_begin = true := by decide +kernel
def mX5_forgetFirst : MI := (yX5_forgetFirst, cX5_forgetFirst, 3, none, [],
  [[(0, .aload_n 0, 1), (1, .getfield 11, 3), (4, .iconst 0, 1), (5, .aaload, 1), (6, .astore_n 1, 1), (7, .iconst 0, 1), (8, .istore_n 2, 1), (9, .iload_n 2, 1), (10, .bipush 6, 2), (12, .if_icmp .ge 23, 3), (15, .aload_n 0, 1), (16, .getfield 11, 3), (19, .iload_n 2, 1), (20, .aload_n 0, 1), (21, .getfield 11, 3), (24, .iload_n 2, 1)],
  [(25, .iconst 1, 1), (26, .iadd, 1), (27, .aaload, 1), (28, .aastore, 1), (29, .iinc 2 1, 3), (32, .goto (-23), 3), (35, .aload_n 0, 1), (36, .getfield 11, 3), (39, .bipush 6, 2), (41, .aload_n 1, 1), (42, .aastore, 1), (43, .aload_n 0, 1), (44, .dup, 1), (45, .getfield 17, 3), (48, .iconst 1, 1), (49, .isub, 1)],
  [(50, .putfield 17, 3), (53, .return_, 1)]])
theorem tX5_forgetFirst : tabOK mX5_forgetFirst = true := by decide +kernel
def mX5_canGoBack : MI := (yX5_canGoBack, cX5_canGoBack, 1, (some .boolean), [],
  [[(0, .aload_n 0, 1), (1, .getfield 17, 3), (4, .ifCond .le 7, 3), (7, .iconst 1, 1), (8, .goto 4, 3), (11, .iconst 0, 1), (12, .ireturn, 1)]])
theorem tX5_canGoBack : tabOK mX5_canGoBack = true := by decide +kernel
def mX5_canGoOn : MI := (yX5_canGoOn, cX5_canGoOn, 1, (some .boolean), [],
  [[(0, .aload_n 0, 1), (1, .getfield 21, 3), (4, .ifCond .le 7, 3), (7, .iconst 1, 1), (8, .goto 4, 3), (11, .iconst 0, 1), (12, .ireturn, 1)]])
theorem tX5_canGoOn : tabOK mX5_canGoOn = true := by decide +kernel
def mX5_goBack : MI := (yX5_goBack, cX5_goBack, 1, (some .int), [],
  [[(0, .aload_n 0, 1), (1, .dup, 1), (2, .getfield 17, 3), (5, .iconst 1, 1), (6, .isub, 1), (7, .putfield 17, 3), (10, .aload_n 0, 1), (11, .dup, 1), (12, .getfield 21, 3), (15, .iconst 1, 1), (16, .iadd, 1), (17, .putfield 21, 3), (20, .aload_n 0, 1), (21, .getfield 17, 3), (24, .ireturn, 1)]])
theorem tX5_goBack : tabOK mX5_goBack = true := by decide +kernel
def mX5_goOn : MI := (yX5_goOn, cX5_goOn, 1, (some .int), [],
  [[(0, .aload_n 0, 1), (1, .dup, 1), (2, .getfield 17, 3), (5, .iconst 1, 1), (6, .iadd, 1), (7, .putfield 17, 3), (10, .aload_n 0, 1), (11, .dup, 1), (12, .getfield 21, 3), (15, .iconst 1, 1), (16, .isub, 1), (17, .putfield 21, 3), (20, .aload_n 0, 1), (21, .getfield 21, 3), (24, .ireturn, 1)]])
theorem tX5_goOn : tabOK mX5_goOn = true := by decide +kernel
def mX6_init : MI := (yX6_init, cX6_init, 1, none, [],
  [[(0, .aload_n 0, 1), (1, .invokespecial 3, 3), (4, .aload_n 0, 1), (5, .bipush 15, 2), (7, .newarray .int, 2), (9, .putfield 9, 3), (12, .aload_n 0, 1), (13, .iconst 0, 1), (14, .putfield 15, 3), (17, .return_, 1)]])
theorem tX6_init : tabOK mX6_init = true := by decide +kernel
def mX7_init : MI := (yX7_init, cX7_init, 2, none, [],
  [[(0, .aload_n 0, 1), (1, .invokespecial 3, 3), (4, .aload_n 0, 1), (5, .sipush 2211, 3), (8, .newarray .int, 2), (10, .putfield 11, 3), (13, .aload_n 0, 1), (14, .bipush 6, 2), (16, .newarray .int, 2), (18, .putfield 15, 3), (21, .aload_n 0, 1), (22, .bipush 6, 2), (24, .newarray .int, 2), (26, .putfield 18, 3), (29, .aload_n 0, 1), (30, .iconst 0, 1)],
  [(31, .putfield 21, 3), (34, .iconst 0, 1), (35, .istore_n 1, 1), (36, .iload_n 1, 1), (37, .bipush 6, 2), (39, .if_icmp .ge 23, 3), (42, .aload_n 0, 1), (43, .getfield 15, 3), (46, .iload_n 1, 1), (47, .iconst (-1), 1), (48, .iastore, 1), (49, .aload_n 0, 1), (50, .getfield 18, 3), (53, .iload_n 1, 1), (54, .iconst (-1), 1), (55, .iastore, 1)],
  [(56, .iinc 1 1, 3), (59, .goto (-23), 3), (62, .aload_n 0, 1), (63, .getfield 11, 3), (66, .iconst 0, 1), (67, .bipush 47, 2), (69, .iastore, 1), (70, .aload_n 0, 1), (71, .getfield 11, 3), (74, .sipush 201, 3), (77, .iconst (-1), 1), (78, .iastore, 1), (79, .aload_n 0, 1), (80, .getfield 11, 3), (83, .sipush 402, 3), (86, .iconst (-1), 1)],
  [(87, .iastore, 1), (88, .aload_n 0, 1), (89, .getfield 11, 3), (92, .sipush 603, 3), (95, .iconst (-1), 1), (96, .iastore, 1), (97, .aload_n 0, 1), (98, .getfield 11, 3), (101, .sipush 804, 3), (104, .iconst (-1), 1), (105, .iastore, 1), (106, .aload_n 0, 1), (107, .getfield 11, 3), (110, .sipush 1407, 3), (113, .iconst (-1), 1), (114, .iastore, 1)],
  [(115, .return_, 1)]])
theorem tX7_init : tabOK mX7_init = true := by decide +kernel
def mX7_takeRow : MI := (yX7_takeRow, cX7_takeRow, 2, none, [],
  [[(0, .aload_n 1, 1), (1, .getfield 11, 3), (4, .iconst 0, 1), (5, .aload_n 0, 1), (6, .getfield 11, 3), (9, .iconst 0, 1), (10, .sipush 2211, 3), (13, .invokestatic 25, 3), (16, .aload_n 1, 1), (17, .getfield 15, 3), (20, .iconst 0, 1), (21, .aload_n 0, 1), (22, .getfield 15, 3), (25, .iconst 0, 1), (26, .bipush 6, 2), (28, .invokestatic 25, 3)],
  [(31, .aload_n 1, 1), (32, .getfield 18, 3), (35, .iconst 0, 1), (36, .aload_n 0, 1), (37, .getfield 18, 3), (40, .iconst 0, 1), (41, .bipush 6, 2), (43, .invokestatic 25, 3), (46, .aload_n 0, 1), (47, .aload_n 1, 1), (48, .getfield 21, 3), (51, .putfield 21, 3), (54, .return_, 1)]])
theorem tX7_takeRow : tabOK mX7_takeRow = true := by decide +kernel
def mX7_fact : MI := (yX7_fact, cX7_fact, 4, (some .int), [],
  [[(0, .iload_n 1, 1), (1, .sipush 201, 3), (4, .imul, 1), (5, .iload_n 2, 1), (6, .iadd, 1), (7, .istore_n 3, 1), (8, .iload_n 2, 1), (9, .ifCond .lt 32, 3), (12, .iload_n 2, 1), (13, .sipush 201, 3), (16, .if_icmp .ge 25, 3), (19, .iload_n 3, 1), (20, .ifCond .lt 21, 3), (23, .iload_n 3, 1), (24, .aload_n 0, 1), (25, .getfield 11, 3)],
  [(28, .arraylength, 1), (29, .if_icmp .ge 12, 3), (32, .aload_n 0, 1), (33, .getfield 11, 3), (36, .iload_n 3, 1), (37, .iaload, 1), (38, .goto 4, 3), (41, .iconst (-1), 1), (42, .ireturn, 1)]])
theorem tX7_fact : tabOK mX7_fact = true := by decide +kernel
def mX7_setFact : MI := (yX7_setFact, cX7_setFact, 5, none, [],
  [[(0, .iload_n 1, 1), (1, .sipush 201, 3), (4, .imul, 1), (5, .iload_n 2, 1), (6, .iadd, 1), (7, .istore 4, 2), (9, .iload_n 2, 1), (10, .ifCond .lt 33, 3), (13, .iload_n 2, 1), (14, .sipush 201, 3), (17, .if_icmp .ge 26, 3), (20, .iload 4, 2), (22, .ifCond .lt 21, 3), (25, .iload 4, 2), (27, .aload_n 0, 1), (28, .getfield 11, 3)],
  [(31, .arraylength, 1), (32, .if_icmp .ge 11, 3), (35, .aload_n 0, 1), (36, .getfield 11, 3), (39, .iload 4, 2), (41, .iload_n 3, 1), (42, .iastore, 1), (43, .return_, 1)]])
theorem tX7_setFact : tabOK mX7_setFact = true := by decide +kernel
def mX7_allUnits : MI := (yX7_allUnits, cX7_allUnits, 1, (some .int), [],
  [[(0, .aload_n 0, 1), (1, .getfield 21, 3), (4, .ireturn, 1)]])
theorem tX7_allUnits : tabOK mX7_allUnits = true := by decide +kernel
def mX7_isSeen : MI := (yX7_isSeen, cX7_isSeen, 2, (some .boolean), [],
  [[(0, .iload_n 1, 1), (1, .ifCond .lt 25, 3), (4, .iload_n 1, 1), (5, .aload_n 0, 1), (6, .getfield 21, 3), (9, .if_icmp .gt 17, 3), (12, .aload_n 0, 1), (13, .iconst 3, 1), (14, .iload_n 1, 1), (15, .invokevirtual 31, 3), (18, .iconst (-1), 1), (19, .if_icmp .ne 7, 3), (22, .iconst 1, 1), (23, .goto 4, 3), (26, .iconst 0, 1), (27, .ireturn, 1)]])
theorem tX7_isSeen : tabOK mX7_isSeen = true := by decide +kernel
def mX7_isOld : MI := (yX7_isOld, cX7_isOld, 2, (some .boolean), [],
  [[(0, .iload_n 1, 1), (1, .ifCond .lt 25, 3), (4, .iload_n 1, 1), (5, .aload_n 0, 1), (6, .getfield 21, 3), (9, .if_icmp .ge 17, 3), (12, .aload_n 0, 1), (13, .iconst 2, 1), (14, .iload_n 1, 1), (15, .invokevirtual 31, 3), (18, .iconst (-1), 1), (19, .if_icmp .ne 7, 3), (22, .iconst 1, 1), (23, .goto 4, 3), (26, .iconst 0, 1), (27, .ireturn, 1)]])
theorem tX7_isOld : tabOK mX7_isOld = true := by decide +kernel
def mX7_isSeenEnd : MI := (yX7_isSeenEnd, cX7_isSeenEnd, 2, (some .boolean), [],
  [[(0, .iload_n 1, 1), (1, .ifCond .lt 36, 3), (4, .iload_n 1, 1), (5, .aload_n 0, 1), (6, .getfield 21, 3), (9, .if_icmp .gt 28, 3), (12, .aload_n 0, 1), (13, .iconst 3, 1), (14, .iload_n 1, 1), (15, .invokevirtual 31, 3), (18, .iconst (-1), 1), (19, .if_icmp .ne 18, 3), (22, .aload_n 0, 1), (23, .iconst 0, 1), (24, .iload_n 1, 1), (25, .invokevirtual 31, 3)],
  [(28, .bipush 47, 2), (30, .if_icmp .ne 7, 3), (33, .iconst 1, 1), (34, .goto 4, 3), (37, .iconst 0, 1), (38, .ireturn, 1)]])
theorem tX7_isSeenEnd : tabOK mX7_isSeenEnd = true := by decide +kernel
def mX7_indexOf : MI := (yX7_indexOf, cX7_indexOf, 4, (some .int), [],
  [[(0, .iconst 0, 1), (1, .istore_n 2, 1), (2, .iconst 0, 1), (3, .istore_n 3, 1), (4, .iload_n 3, 1), (5, .aload_n 0, 1), (6, .getfield 21, 3), (9, .if_icmp .gt 27, 3), (12, .aload_n 0, 1), (13, .iload_n 3, 1), (14, .invokevirtual 35, 3), (17, .ifCond .eq 13, 3), (20, .iload_n 2, 1), (21, .iload_n 1, 1), (22, .if_icmp .ne 5, 3), (25, .iload_n 3, 1)],
  [(26, .ireturn, 1), (27, .iinc 2 1, 3), (30, .iinc 3 1, 3), (33, .goto (-29), 3), (36, .iconst (-1), 1), (37, .ireturn, 1)]])
theorem tX7_indexOf : tabOK mX7_indexOf = true := by decide +kernel
def mX7_indexOfOld : MI := (yX7_indexOfOld, cX7_indexOfOld, 4, (some .int), [],
  [[(0, .iconst 0, 1), (1, .istore_n 2, 1), (2, .iconst 0, 1), (3, .istore_n 3, 1), (4, .iload_n 3, 1), (5, .aload_n 0, 1), (6, .getfield 21, 3), (9, .if_icmp .ge 27, 3), (12, .aload_n 0, 1), (13, .iload_n 3, 1), (14, .invokevirtual 39, 3), (17, .ifCond .eq 13, 3), (20, .iload_n 2, 1), (21, .iload_n 1, 1), (22, .if_icmp .ne 5, 3), (25, .iload_n 3, 1)],
  [(26, .ireturn, 1), (27, .iinc 2 1, 3), (30, .iinc 3 1, 3), (33, .goto (-29), 3), (36, .iconst (-1), 1), (37, .ireturn, 1)]])
theorem tX7_indexOfOld : tabOK mX7_indexOfOld = true := by decide +kernel
def mX7_endFrom : MI := (yX7_endFrom, cX7_endFrom, 3, (some .int), [],
  [[(0, .iload_n 1, 1), (1, .ifCond .ge 7, 3), (4, .iconst 0, 1), (5, .goto 4, 3), (8, .iload_n 1, 1), (9, .istore_n 2, 1), (10, .iload_n 2, 1), (11, .aload_n 0, 1), (12, .getfield 21, 3), (15, .if_icmp .ge 19, 3), (18, .aload_n 0, 1), (19, .iload_n 2, 1), (20, .invokevirtual 42, 3), (23, .ifCond .eq 5, 3), (26, .iload_n 2, 1), (27, .ireturn, 1)],
  [(28, .iinc 2 1, 3), (31, .goto (-21), 3), (34, .aload_n 0, 1), (35, .getfield 21, 3), (38, .ireturn, 1)]])
theorem tX7_endFrom : tabOK mX7_endFrom = true := by decide +kernel
def mX7_placeOf : MI := (yX7_placeOf, cX7_placeOf, 4, (some .int), [],
  [[(0, .iconst 0, 1), (1, .istore_n 2, 1), (2, .iconst 0, 1), (3, .istore_n 3, 1), (4, .iload_n 3, 1), (5, .iload_n 1, 1), (6, .if_icmp .ge 30, 3), (9, .iload_n 3, 1), (10, .aload_n 0, 1), (11, .getfield 21, 3), (14, .if_icmp .ge 22, 3), (17, .aload_n 0, 1), (18, .iconst 3, 1), (19, .iload_n 3, 1), (20, .invokevirtual 31, 3), (23, .iconst (-1), 1)],
  [(24, .if_icmp .ne 6, 3), (27, .iinc 2 1, 3), (30, .iinc 3 1, 3), (33, .goto (-29), 3), (36, .iload_n 2, 1), (37, .ireturn, 1)]])
theorem tX7_placeOf : tabOK mX7_placeOf = true := by decide +kernel
def mX7_endsAhead : MI := (yX7_endsAhead, cX7_endsAhead, 4, (some .int), [],
  [[(0, .iconst 0, 1), (1, .istore_n 2, 1), (2, .iconst 0, 1), (3, .istore_n 3, 1), (4, .iload_n 3, 1), (5, .iload_n 1, 1), (6, .if_icmp .ge 28, 3), (9, .iload_n 3, 1), (10, .aload_n 0, 1), (11, .getfield 21, 3), (14, .if_icmp .ge 20, 3), (17, .aload_n 0, 1), (18, .iload_n 3, 1), (19, .invokevirtual 42, 3), (22, .ifCond .eq 6, 3), (25, .iinc 2 1, 3)],
  [(28, .iinc 3 1, 3), (31, .goto (-27), 3), (34, .iload_n 2, 1), (35, .ireturn, 1)]])
theorem tX7_endsAhead : tabOK mX7_endsAhead = true := by decide +kernel
def mX7_seenUnits : MI := (yX7_seenUnits, cX7_seenUnits, 1, (some .int), [],
  [[(0, .aload_n 0, 1), (1, .aload_n 0, 1), (2, .getfield 21, 3), (5, .invokevirtual 49, 3), (8, .ireturn, 1)]])
theorem tX7_seenUnits : tabOK mX7_seenUnits = true := by decide +kernel
def mX7_seenParagraphs : MI := (yX7_seenParagraphs, cX7_seenParagraphs, 1, (some .int), [],
  [[(0, .aload_n 0, 1), (1, .aload_n 0, 1), (2, .getfield 21, 3), (5, .invokevirtual 52, 3), (8, .iconst 1, 1), (9, .iadd, 1), (10, .ireturn, 1)]])
theorem tX7_seenParagraphs : tabOK mX7_seenParagraphs = true := by decide +kernel
def mX7_oldUnits : MI := (yX7_oldUnits, cX7_oldUnits, 3, (some .int), [],
  [[(0, .iconst 0, 1), (1, .istore_n 1, 1), (2, .iconst 0, 1), (3, .istore_n 2, 1), (4, .iload_n 2, 1), (5, .aload_n 0, 1), (6, .getfield 21, 3), (9, .if_icmp .ge 20, 3), (12, .aload_n 0, 1), (13, .iload_n 2, 1), (14, .invokevirtual 39, 3), (17, .ifCond .eq 6, 3), (20, .iinc 1 1, 3), (23, .iinc 2 1, 3), (26, .goto (-22), 3), (29, .iload_n 1, 1)],
  [(30, .ireturn, 1)]])
theorem tX7_oldUnits : tabOK mX7_oldUnits = true := by decide +kernel
def mX7_waitingUnits : MI := (yX7_waitingUnits, cX7_waitingUnits, 3, (some .int), [],
  [[(0, .iconst 0, 1), (1, .istore_n 1, 1), (2, .iconst 0, 1), (3, .istore_n 2, 1), (4, .iload_n 2, 1), (5, .aload_n 0, 1), (6, .getfield 21, 3), (9, .if_icmp .ge 32, 3), (12, .aload_n 0, 1), (13, .iconst 2, 1), (14, .iload_n 2, 1), (15, .invokevirtual 31, 3), (18, .iconst (-1), 1), (19, .if_icmp .ne 13, 3), (22, .aload_n 0, 1), (23, .iconst 3, 1)],
  [(24, .iload_n 2, 1), (25, .invokevirtual 31, 3), (28, .iconst (-1), 1), (29, .if_icmp .eq 6, 3), (32, .iinc 1 1, 3), (35, .iinc 2 1, 3), (38, .goto (-34), 3), (41, .iload_n 1, 1), (42, .ireturn, 1)]])
theorem tX7_waitingUnits : tabOK mX7_waitingUnits = true := by decide +kernel
def mX7_concerned : MI := (yX7_concerned, cX7_concerned, 4, (some .int), [],
  [[(0, .iconst 0, 1), (1, .istore_n 2, 1), (2, .iconst 0, 1), (3, .istore_n 3, 1), (4, .iload_n 3, 1), (5, .aload_n 0, 1), (6, .getfield 21, 3), (9, .if_icmp .gt 42, 3), (12, .aload_n 0, 1), (13, .iconst 2, 1), (14, .iload_n 3, 1), (15, .invokevirtual 31, 3), (18, .iload_n 1, 1), (19, .if_icmp .eq 23, 3), (22, .aload_n 0, 1), (23, .iconst 3, 1)],
  [(24, .iload_n 3, 1), (25, .invokevirtual 31, 3), (28, .iload_n 1, 1), (29, .if_icmp .eq 13, 3), (32, .aload_n 0, 1), (33, .iconst 4, 1), (34, .iload_n 3, 1), (35, .invokevirtual 31, 3), (38, .iload_n 1, 1), (39, .if_icmp .ne 6, 3), (42, .iinc 2 1, 3), (45, .iinc 3 1, 3), (48, .goto (-44), 3), (51, .iload_n 2, 1), (52, .ireturn, 1)]])
theorem tX7_concerned : tabOK mX7_concerned = true := by decide +kernel
def mX7_isGuarded : MI := (yX7_isGuarded, cX7_isGuarded, 4, (some .boolean), [],
  [[(0, .iload_n 1, 1), (1, .istore_n 3, 1), (2, .iload_n 3, 1), (3, .aload_n 0, 1), (4, .getfield 21, 3), (7, .if_icmp .gt 37, 3), (10, .aload_n 0, 1), (11, .iload_n 3, 1), (12, .invokevirtual 42, 3), (15, .ifCond .eq 23, 3), (18, .aload_n 0, 1), (19, .bipush 10, 2), (21, .iload_n 3, 1), (22, .invokevirtual 31, 3), (25, .iconst 1, 1), (26, .if_icmp .ne 5, 3)],
  [(29, .iconst 1, 1), (30, .ireturn, 1), (31, .iload_n 3, 1), (32, .iload_n 2, 1), (33, .if_icmp .lt 5, 3), (36, .iconst 0, 1), (37, .ireturn, 1), (38, .iinc 3 1, 3), (41, .goto (-39), 3), (44, .iconst 0, 1), (45, .ireturn, 1)]])
theorem tX7_isGuarded : tabOK mX7_isGuarded = true := by decide +kernel
def mX7_putUnit : MI := (yX7_putUnit, cX7_putUnit, 6, none, [],
  [[(0, .aload_n 0, 1), (1, .getfield 21, 3), (4, .sipush 200, 3), (7, .if_icmp .ge 15, 3), (10, .iload_n 1, 1), (11, .ifCond .lt 11, 3), (14, .iload_n 1, 1), (15, .aload_n 0, 1), (16, .getfield 21, 3), (19, .if_icmp .le 4, 3), (22, .return_, 1), (23, .aload_n 0, 1), (24, .iload_n 1, 1), (25, .invokevirtual 55, 3), (28, .iconst 1, 1), (29, .iadd, 1)],
  [(30, .istore 5, 2), (32, .aload_n 0, 1), (33, .iload_n 1, 1), (34, .invokevirtual 58, 3), (37, .aload_n 0, 1), (38, .iconst 0, 1), (39, .iload_n 1, 1), (40, .iload_n 2, 1), (41, .invokevirtual 62, 3), (44, .aload_n 0, 1), (45, .iconst 1, 1), (46, .iload_n 1, 1), (47, .iload_n 3, 1), (48, .invokevirtual 62, 3), (51, .aload_n 0, 1), (52, .iconst 2, 1)],
  [(53, .iload_n 1, 1), (54, .iload 4, 2), (56, .invokevirtual 62, 3), (59, .aload_n 0, 1), (60, .iconst 3, 1), (61, .iload_n 1, 1), (62, .iconst (-1), 1), (63, .invokevirtual 62, 3), (66, .aload_n 0, 1), (67, .iconst 4, 1), (68, .iload_n 1, 1), (69, .iconst (-1), 1), (70, .invokevirtual 62, 3), (73, .aload_n 0, 1), (74, .bipush 6, 2), (76, .iload_n 1, 1)],
  [(77, .iconst 0, 1), (78, .invokevirtual 62, 3), (81, .aload_n 0, 1), (82, .bipush 9, 2), (84, .iload_n 1, 1), (85, .iconst 0, 1), (86, .invokevirtual 62, 3), (89, .aload_n 0, 1), (90, .iconst 5, 1), (91, .iload_n 1, 1), (92, .aload_n 0, 1), (93, .iconst 5, 1), (94, .iload 5, 2), (96, .invokevirtual 31, 3), (99, .invokevirtual 62, 3), (102, .aload_n 0, 1)],
  [(103, .bipush 7, 2), (105, .iload_n 1, 1), (106, .aload_n 0, 1), (107, .bipush 7, 2), (109, .iload 5, 2), (111, .invokevirtual 31, 3), (114, .invokevirtual 62, 3), (117, .aload_n 0, 1), (118, .bipush 8, 2), (120, .iload_n 1, 1), (121, .aload_n 0, 1), (122, .bipush 8, 2), (124, .iload 5, 2), (126, .invokevirtual 31, 3), (129, .invokevirtual 62, 3), (132, .aload_n 0, 1)],
  [(133, .bipush 10, 2), (135, .iload_n 1, 1), (136, .aload_n 0, 1), (137, .bipush 10, 2), (139, .iload 5, 2), (141, .invokevirtual 31, 3), (144, .invokevirtual 62, 3), (147, .return_, 1)]])
theorem tX7_putUnit : tabOK mX7_putUnit = true := by decide +kernel
def mX7_makeRoom : MI := (yX7_makeRoom, cX7_makeRoom, 4, none, [],
  [[(0, .iconst 0, 1), (1, .istore_n 2, 1), (2, .iload_n 2, 1), (3, .bipush 11, 2), (5, .if_icmp .ge 40, 3), (8, .iload_n 2, 1), (9, .sipush 201, 3), (12, .imul, 1), (13, .iload_n 1, 1), (14, .iadd, 1), (15, .istore_n 3, 1), (16, .aload_n 0, 1), (17, .getfield 11, 3), (20, .iload_n 3, 1), (21, .aload_n 0, 1), (22, .getfield 11, 3)],
  [(25, .iload_n 3, 1), (26, .iconst 1, 1), (27, .iadd, 1), (28, .aload_n 0, 1), (29, .getfield 21, 3), (32, .iload_n 1, 1), (33, .isub, 1), (34, .iconst 1, 1), (35, .iadd, 1), (36, .invokestatic 25, 3), (39, .iinc 2 1, 3), (42, .goto (-40), 3), (45, .aload_n 0, 1), (46, .dup, 1), (47, .getfield 21, 3), (50, .iconst 1, 1)],
  [(51, .iadd, 1), (52, .putfield 21, 3), (55, .iconst 0, 1), (56, .istore_n 2, 1), (57, .iload_n 2, 1), (58, .bipush 6, 2), (60, .if_icmp .ge 57, 3), (63, .aload_n 0, 1), (64, .getfield 15, 3), (67, .iload_n 2, 1), (68, .dup2, 1), (69, .iaload, 1), (70, .aload_n 0, 1), (71, .getfield 15, 3), (74, .iload_n 2, 1), (75, .iaload, 1)],
  [(76, .iload_n 1, 1), (77, .if_icmp .lt 7, 3), (80, .iconst 1, 1), (81, .goto 4, 3), (84, .iconst 0, 1), (85, .iadd, 1), (86, .iastore, 1), (87, .aload_n 0, 1), (88, .getfield 18, 3), (91, .iload_n 2, 1), (92, .dup2, 1), (93, .iaload, 1), (94, .aload_n 0, 1), (95, .getfield 18, 3), (98, .iload_n 2, 1), (99, .iaload, 1)],
  [(100, .iload_n 1, 1), (101, .if_icmp .lt 7, 3), (104, .iconst 1, 1), (105, .goto 4, 3), (108, .iconst 0, 1), (109, .iadd, 1), (110, .iastore, 1), (111, .iinc 2 1, 3), (114, .goto (-57), 3), (117, .return_, 1)]])
theorem tX7_makeRoom : tabOK mX7_makeRoom = true := by decide +kernel
def mX7_drop : MI := (yX7_drop, cX7_drop, 4, none, [],
  [[(0, .iload_n 1, 1), (1, .ifCond .lt 11, 3), (4, .iload_n 1, 1), (5, .aload_n 0, 1), (6, .getfield 21, 3), (9, .if_icmp .lt 4, 3), (12, .return_, 1), (13, .iconst 0, 1), (14, .istore_n 2, 1), (15, .iload_n 2, 1), (16, .bipush 11, 2), (18, .if_icmp .ge 38, 3), (21, .iload_n 2, 1), (22, .sipush 201, 3), (25, .imul, 1), (26, .iload_n 1, 1)],
  [(27, .iadd, 1), (28, .istore_n 3, 1), (29, .aload_n 0, 1), (30, .getfield 11, 3), (33, .iload_n 3, 1), (34, .iconst 1, 1), (35, .iadd, 1), (36, .aload_n 0, 1), (37, .getfield 11, 3), (40, .iload_n 3, 1), (41, .aload_n 0, 1), (42, .getfield 21, 3), (45, .iload_n 1, 1), (46, .isub, 1), (47, .invokestatic 25, 3), (50, .iinc 2 1, 3)],
  [(53, .goto (-38), 3), (56, .aload_n 0, 1), (57, .dup, 1), (58, .getfield 21, 3), (61, .iconst 1, 1), (62, .isub, 1), (63, .putfield 21, 3), (66, .iconst 0, 1), (67, .istore_n 2, 1), (68, .iload_n 2, 1), (69, .bipush 6, 2), (71, .if_icmp .ge 57, 3), (74, .aload_n 0, 1), (75, .getfield 15, 3), (78, .iload_n 2, 1), (79, .dup2, 1)],
  [(80, .iaload, 1), (81, .aload_n 0, 1), (82, .getfield 15, 3), (85, .iload_n 2, 1), (86, .iaload, 1), (87, .iload_n 1, 1), (88, .if_icmp .le 7, 3), (91, .iconst 1, 1), (92, .goto 4, 3), (95, .iconst 0, 1), (96, .isub, 1), (97, .iastore, 1), (98, .aload_n 0, 1), (99, .getfield 18, 3), (102, .iload_n 2, 1), (103, .dup2, 1)],
  [(104, .iaload, 1), (105, .aload_n 0, 1), (106, .getfield 18, 3), (109, .iload_n 2, 1), (110, .iaload, 1), (111, .iload_n 1, 1), (112, .if_icmp .le 7, 3), (115, .iconst 1, 1), (116, .goto 4, 3), (119, .iconst 0, 1), (120, .isub, 1), (121, .iastore, 1), (122, .iinc 2 1, 3), (125, .goto (-57), 3), (128, .return_, 1)]])
theorem tX7_drop : tabOK mX7_drop = true := by decide +kernel
def mX7_dropSeen : MI := (yX7_dropSeen, cX7_dropSeen, 4, none, [],
  [[(0, .iload_n 2, 1), (1, .iconst 1, 1), (2, .isub, 1), (3, .istore_n 3, 1), (4, .iload_n 3, 1), (5, .iload_n 1, 1), (6, .if_icmp .lt 26, 3), (9, .iload_n 3, 1), (10, .ifCond .lt 22, 3), (13, .aload_n 0, 1), (14, .iload_n 3, 1), (15, .invokevirtual 35, 3), (18, .ifCond .eq 8, 3), (21, .aload_n 0, 1), (22, .iload_n 3, 1), (23, .invokevirtual 66, 3)],
  [(26, .iinc 3 (-1), 3), (29, .goto (-25), 3), (32, .return_, 1)]])
theorem tX7_dropSeen : tabOK mX7_dropSeen = true := by decide +kernel
def mX7_dropAll : MI := (yX7_dropAll, cX7_dropAll, 4, none, [],
  [[(0, .aload_n 0, 1), (1, .getfield 21, 3), (4, .iconst 1, 1), (5, .isub, 1), (6, .istore_n 3, 1), (7, .iload_n 3, 1), (8, .ifCond .lt 24, 3), (11, .aload_n 0, 1), (12, .iload_n 1, 1), (13, .iload_n 3, 1), (14, .invokevirtual 31, 3), (17, .iload_n 2, 1), (18, .if_icmp .ne 8, 3), (21, .aload_n 0, 1), (22, .iload_n 3, 1), (23, .invokevirtual 66, 3)],
  [(26, .iinc 3 (-1), 3), (29, .goto (-22), 3), (32, .return_, 1)]])
theorem tX7_dropAll : tabOK mX7_dropAll = true := by decide +kernel
def mX7_releaseAll : MI := (yX7_releaseAll, cX7_releaseAll, 4, none, [],
  [[(0, .iconst 0, 1), (1, .istore_n 3, 1), (2, .iload_n 3, 1), (3, .aload_n 0, 1), (4, .getfield 21, 3), (7, .if_icmp .ge 26, 3), (10, .aload_n 0, 1), (11, .iload_n 1, 1), (12, .iload_n 3, 1), (13, .invokevirtual 31, 3), (16, .iload_n 2, 1), (17, .if_icmp .ne 10, 3), (20, .aload_n 0, 1), (21, .iload_n 1, 1), (22, .iload_n 3, 1), (23, .iconst (-1), 1)],
  [(24, .invokevirtual 62, 3), (27, .iinc 3 1, 3), (30, .goto (-28), 3), (33, .return_, 1)]])
theorem tX7_releaseAll : tabOK mX7_releaseAll = true := by decide +kernel
def mX7_settleStyle : MI := (yX7_settleStyle, cX7_settleStyle, 4, none, [],
  [[(0, .iconst 0, 1), (1, .istore_n 3, 1), (2, .iload_n 3, 1), (3, .aload_n 0, 1), (4, .getfield 21, 3), (7, .if_icmp .gt 43, 3), (10, .aload_n 0, 1), (11, .iconst 4, 1), (12, .iload_n 3, 1), (13, .invokevirtual 31, 3), (16, .iload_n 1, 1), (17, .if_icmp .ne 27, 3), (20, .aload_n 0, 1), (21, .iconst 4, 1), (22, .iload_n 3, 1), (23, .iconst (-1), 1)],
  [(24, .invokevirtual 62, 3), (27, .iload_n 2, 1), (28, .ifCond .ne 16, 3), (31, .aload_n 0, 1), (32, .iconst 5, 1), (33, .iload_n 3, 1), (34, .aload_n 0, 1), (35, .bipush 6, 2), (37, .iload_n 3, 1), (38, .invokevirtual 31, 3), (41, .invokevirtual 62, 3), (44, .iinc 3 1, 3), (47, .goto (-45), 3), (50, .return_, 1)]])
theorem tX7_settleStyle : tabOK mX7_settleStyle = true := by decide +kernel
def mX7_hasBookmark : MI := (yX7_hasBookmark, cX7_hasBookmark, 2, (some .boolean), [],
  [[(0, .aload_n 0, 1), (1, .getfield 15, 3), (4, .iload_n 1, 1), (5, .invokestatic 73, 3), (8, .iconst (-1), 1), (9, .if_icmp .eq 7, 3), (12, .iconst 1, 1), (13, .goto 4, 3), (16, .iconst 0, 1), (17, .ireturn, 1)]])
theorem tX7_hasBookmark : tabOK mX7_hasBookmark = true := by decide +kernel
def mX7_bookmarkBegin : MI := (yX7_bookmarkBegin, cX7_bookmarkBegin, 2, (some .int), [],
  [[(0, .aload_n 0, 1), (1, .aload_n 0, 1), (2, .getfield 15, 3), (5, .iload_n 1, 1), (6, .invokestatic 73, 3), (9, .invokevirtual 49, 3), (12, .ireturn, 1)]])
theorem tX7_bookmarkBegin : tabOK mX7_bookmarkBegin = true := by decide +kernel
def mX7_bookmarkEnd : MI := (yX7_bookmarkEnd, cX7_bookmarkEnd, 4, (some .int), [],
  [[(0, .aload_n 0, 1), (1, .iload_n 1, 1), (2, .invokevirtual 77, 3), (5, .istore_n 2, 1), (6, .aload_n 0, 1), (7, .aload_n 0, 1), (8, .getfield 18, 3), (11, .iload_n 1, 1), (12, .invokestatic 73, 3), (15, .invokevirtual 49, 3), (18, .istore_n 3, 1), (19, .iload_n 3, 1), (20, .iload_n 2, 1), (21, .if_icmp .ge 7, 3), (24, .iload_n 2, 1), (25, .goto 4, 3)],
  [(28, .iload_n 3, 1), (29, .ireturn, 1)]])
theorem tX7_bookmarkEnd : tabOK mX7_bookmarkEnd = true := by decide +kernel
def mX7_areBookmarksOrdered : MI := (yX7_areBookmarksOrdered, cX7_areBookmarksOrdered, 2, (some .boolean), [],
  [[(0, .iconst 0, 1), (1, .istore_n 1, 1), (2, .iload_n 1, 1), (3, .bipush 6, 2), (5, .if_icmp .ge 32, 3), (8, .aload_n 0, 1), (9, .iload_n 1, 1), (10, .invokevirtual 80, 3), (13, .ifCond .eq 18, 3), (16, .aload_n 0, 1), (17, .iload_n 1, 1), (18, .invokevirtual 83, 3), (21, .aload_n 0, 1), (22, .iload_n 1, 1), (23, .invokevirtual 77, 3), (26, .if_icmp .ge 5, 3)],
  [(29, .iconst 0, 1), (30, .ireturn, 1), (31, .iinc 1 1, 3), (34, .goto (-32), 3), (37, .iconst 1, 1), (38, .ireturn, 1)]])
theorem tX7_areBookmarksOrdered : tabOK mX7_areBookmarksOrdered = true := by decide +kernel
def mX7_isTextOf : MI := (yX7_isTextOf, cX7_isTextOf, 5, (some .boolean), [],
  [[(0, .iconst 0, 1), (1, .istore_n 3, 1), (2, .iconst 0, 1), (3, .istore 4, 2), (5, .iload 4, 2), (7, .aload_n 1, 1), (8, .getfield 21, 3), (11, .if_icmp .ge 63, 3), (14, .iload_n 2, 1), (15, .ifCond .eq 15, 3), (18, .aload_n 1, 1), (19, .iload 4, 2), (21, .invokevirtual 39, 3), (24, .ifCond .eq 44, 3), (27, .goto 12, 3), (30, .aload_n 1, 1)],
  [(31, .iload 4, 2), (33, .invokevirtual 35, 3), (36, .ifCond .eq 32, 3), (39, .iload_n 3, 1), (40, .aload_n 0, 1), (41, .getfield 21, 3), (44, .if_icmp .ge 19, 3), (47, .aload_n 0, 1), (48, .iconst 0, 1), (49, .iload_n 3, 1), (50, .invokevirtual 31, 3), (53, .aload_n 1, 1), (54, .iconst 0, 1), (55, .iload 4, 2), (57, .invokevirtual 31, 3), (60, .if_icmp .eq 5, 3)],
  [(63, .iconst 0, 1), (64, .ireturn, 1), (65, .iinc 3 1, 3), (68, .iinc 4 1, 3), (71, .goto (-66), 3), (74, .iload_n 3, 1), (75, .aload_n 0, 1), (76, .getfield 21, 3), (79, .if_icmp .ne 7, 3), (82, .iconst 1, 1), (83, .goto 4, 3), (86, .iconst 0, 1), (87, .ireturn, 1)]])
theorem tX7_isTextOf : tabOK mX7_isTextOf = true := by decide +kernel
def mX8_init : MI := (yX8_init, cX8_init, 1, none, [],
  [[(0, .aload_n 0, 1), (1, .invokespecial 3, 3), (4, .aload_n 0, 1), (5, .bipush 8, 2), (7, .newarray .int, 2), (9, .putfield 9, 3), (12, .aload_n 0, 1), (13, .bipush 8, 2), (15, .newarray .int, 2), (17, .putfield 15, 3), (20, .aload_n 0, 1), (21, .bipush 8, 2), (23, .newarray .int, 2), (25, .putfield 18, 3), (28, .aload_n 0, 1), (29, .iconst 1, 1)],
  [(30, .putfield 21, 3), (33, .aload_n 0, 1), (34, .getfield 9, 3), (37, .iconst 0, 1), (38, .iconst (-1), 1), (39, .iastore, 1), (40, .return_, 1)]])
theorem tX8_init : tabOK mX8_init = true := by decide +kernel
def mX8_keepsWithNext : MI := (yX8_keepsWithNext, cX8_keepsWithNext, 4, (some .boolean), [],
  [[(0, .iload_n 1, 1), (1, .istore_n 2, 1), (2, .iconst 0, 1), (3, .istore_n 3, 1), (4, .iload_n 3, 1), (5, .bipush 8, 2), (7, .if_icmp .ge 53, 3), (10, .iload_n 2, 1), (11, .iconst (-1), 1), (12, .if_icmp .eq 48, 3), (15, .aload_n 0, 1), (16, .getfield 18, 3), (19, .iload_n 2, 1), (20, .invokestatic 33, 3), (23, .iconst (-1), 1), (24, .if_icmp .eq 21, 3)],
  [(27, .aload_n 0, 1), (28, .getfield 18, 3), (31, .iload_n 2, 1), (32, .invokestatic 33, 3), (35, .iconst 1, 1), (36, .if_icmp .ne 7, 3), (39, .iconst 1, 1), (40, .goto 4, 3), (43, .iconst 0, 1), (44, .ireturn, 1), (45, .aload_n 0, 1), (46, .getfield 9, 3), (49, .iload_n 2, 1), (50, .invokestatic 33, 3), (53, .istore_n 2, 1), (54, .iinc 3 1, 3)],
  [(57, .goto (-53), 3), (60, .iconst 0, 1), (61, .ireturn, 1)]])
theorem tX8_keepsWithNext : tabOK mX8_keepsWithNext = true := by decide +kernel
def mX9_init : MI := (yX9_init, cX9_init, 1, none, [],
  [[(0, .aload_n 0, 1), (1, .invokespecial 1, 3), (4, .aload_n 0, 1), (5, .iconst 1, 1), (6, .putfield 7, 3), (9, .aload_n 0, 1), (10, .new 13, 3), (13, .dup, 1), (14, .invokespecial 15, 3), (17, .putfield 16, 3), (20, .aload_n 0, 1), (21, .new 20, 3), (24, .dup, 1), (25, .invokespecial 22, 3), (28, .putfield 23, 3), (31, .aload_n 0, 1)],
  [(32, .new 27, 3), (35, .dup, 1), (36, .invokespecial 29, 3), (39, .putfield 30, 3), (42, .aload_n 0, 1), (43, .new 34, 3), (46, .dup, 1), (47, .invokespecial 36, 3), (50, .putfield 37, 3), (53, .aload_n 0, 1), (54, .new 41, 3), (57, .dup, 1), (58, .invokespecial 43, 3), (61, .putfield 44, 3), (64, .aload_n 0, 1), (65, .new 48, 3)],
  [(68, .dup, 1), (69, .invokespecial 50, 3), (72, .putfield 51, 3), (75, .aload_n 0, 1), (76, .new 55, 3), (79, .dup, 1), (80, .invokespecial 57, 3), (83, .putfield 58, 3), (86, .aload_n 0, 1), (87, .bipush 20, 2), (89, .newarray .int, 2), (91, .putfield 62, 3), (94, .return_, 1)]])
theorem tX9_init : tabOK mX9_init = true := by decide +kernel
def mX9_setTracking : MI := (yX9_setTracking, cX9_setTracking, 3, (some .boolean), [],
  [[(0, .aload_n 0, 1), (1, .getfield 7, 3), (4, .istore_n 2, 1), (5, .aload_n 0, 1), (6, .iload_n 1, 1), (7, .putfield 7, 3), (10, .iload_n 2, 1), (11, .ireturn, 1)]])
theorem tX9_setTracking : tabOK mX9_setTracking = true := by decide +kernel
def mX9_insert : MI := (yX9_insert, cX9_insert, 5, (some .int), [],
  [[(0, .iload_n 1, 1), (1, .invokestatic 66, 3), (4, .aload_n 0, 1), (5, .iload_n 2, 1), (6, .invokevirtual 70, 3), (9, .istore 4, 2), (11, .iload_n 3, 1), (12, .invokestatic 74, 3), (15, .ifCond .ne 13, 3), (18, .new 78, 3), (21, .dup, 1), (22, .ldc 80, 2), (24, .invokespecial 82, 3), (27, .athrow, 1), (28, .aload_n 0, 1), (29, .iload_n 1, 1)],
  [(30, .iload 4, 2), (32, .invokevirtual 85, 3), (35, .aload_n 0, 1), (36, .iload_n 1, 1), (37, .iload 4, 2), (39, .iload_n 3, 1), (40, .iconst (-1), 1), (41, .invokevirtual 89, 3), (44, .ireturn, 1)]])
theorem tX9_insert : tabOK mX9_insert = true := by decide +kernel
def mX9_erase : MI := (yX9_erase, cX9_erase, 8, (some .int), [],
  [[(0, .iload_n 1, 1), (1, .invokestatic 66, 3), (4, .aload_n 0, 1), (5, .iload_n 2, 1), (6, .invokevirtual 70, 3), (9, .istore 4, 2), (11, .aload_n 0, 1), (12, .iload_n 3, 1), (13, .invokevirtual 70, 3), (16, .istore 5, 2), (18, .iload_n 2, 1), (19, .iload_n 3, 1), (20, .if_icmp .lt 13, 3), (23, .new 78, 3), (26, .dup, 1), (27, .ldc 112, 2)],
  [(29, .invokespecial 82, 3), (32, .athrow, 1), (33, .aload_n 0, 1), (34, .getfield 16, 3), (37, .invokevirtual 114, 3), (40, .astore 6, 2), (42, .aload_n 0, 1), (43, .getfield 7, 3), (46, .ifCond .eq 37, 3), (49, .aload 6, 2), (51, .getfield 118, 3), (54, .invokevirtual 122, 3), (57, .ifCond .eq 26, 3), (60, .aload 6, 2), (62, .iload_n 1, 1), (63, .iload 4, 2)],
  [(65, .iload 5, 2), (67, .invokevirtual 125, 3), (70, .ifCond .eq 13, 3), (73, .new 103, 3), (76, .dup, 1), (77, .ldc 129, 2), (79, .invokespecial 107, 3), (82, .athrow, 1), (83, .aload 6, 2), (85, .getfield 131, 3), (88, .iload 4, 2), (90, .iload 5, 2), (92, .invokevirtual 135, 3), (95, .ifCond .eq 13, 3), (98, .new 141, 3), (101, .dup, 1)],
  [(102, .ldc 143, 2), (104, .invokespecial 145, 3), (107, .athrow, 1), (108, .aload_n 0, 1), (109, .getfield 16, 3), (112, .invokevirtual 146, 3), (115, .astore 7, 2), (117, .aload_n 0, 1), (118, .getfield 7, 3), (121, .ifCond .eq 14, 3), (124, .aload 7, 2), (126, .iload_n 1, 1), (127, .iload 4, 2), (129, .iload 5, 2), (131, .invokevirtual 149, 3), (134, .ireturn, 1)],
  [(135, .aload 7, 2), (137, .getfield 131, 3), (140, .iload 4, 2), (142, .iload 5, 2), (144, .invokevirtual 153, 3), (147, .iconst (-1), 1), (148, .ireturn, 1)]])
theorem tX9_erase : tabOK mX9_erase = true := by decide +kernel
def mX9_undo : MI := (yX9_undo, cX9_undo, 1, (some .int), [],
  [[(0, .aload_n 0, 1), (1, .getfield 16, 3), (4, .invokevirtual 185, 3), (7, .ifCond .ne 13, 3), (10, .new 188, 3), (13, .dup, 1), (14, .ldc 190, 2), (16, .invokespecial 192, 3), (19, .athrow, 1), (20, .aload_n 0, 1), (21, .getfield 16, 3), (24, .invokevirtual 193, 3), (27, .ireturn, 1)]])
theorem tX9_undo : tabOK mX9_undo = true := by decide +kernel
def mX9_redo : MI := (yX9_redo, cX9_redo, 1, (some .int), [],
  [[(0, .aload_n 0, 1), (1, .getfield 16, 3), (4, .invokevirtual 197, 3), (7, .ifCond .ne 13, 3), (10, .new 188, 3), (13, .dup, 1), (14, .ldc 200, 2), (16, .invokespecial 192, 3), (19, .athrow, 1), (20, .aload_n 0, 1), (21, .getfield 16, 3), (24, .invokevirtual 202, 3), (27, .ireturn, 1)]])
theorem tX9_redo : tabOK mX9_redo = true := by decide +kernel
def mX9_length : MI := (yX9_length, cX9_length, 1, (some .int), [],
  [[(0, .aload_n 0, 1), (1, .getfield 16, 3), (4, .invokevirtual 114, 3), (7, .getfield 131, 3), (10, .invokevirtual 205, 3), (13, .ireturn, 1)]])
theorem tX9_length : tabOK mX9_length = true := by decide +kernel
def mX9_unitAt : MI := (yX9_unitAt, cX9_unitAt, 2, (some .char), [],
  [[(0, .aload_n 0, 1), (1, .getfield 16, 3), (4, .invokevirtual 114, 3), (7, .getfield 131, 3), (10, .iconst 0, 1), (11, .aload_n 0, 1), (12, .iload_n 1, 1), (13, .invokevirtual 208, 3), (16, .invokevirtual 168, 3), (19, .i2c, 1), (20, .ireturn, 1)]])
theorem tX9_unitAt : tabOK mX9_unitAt = true := by decide +kernel
def mX9_oldLength : MI := (yX9_oldLength, cX9_oldLength, 1, (some .int), [],
  [[(0, .aload_n 0, 1), (1, .getfield 16, 3), (4, .invokevirtual 114, 3), (7, .getfield 131, 3), (10, .invokevirtual 211, 3), (13, .ireturn, 1)]])
theorem tX9_oldLength : tabOK mX9_oldLength = true := by decide +kernel
def mX9_oldAt : MI := (yX9_oldAt, cX9_oldAt, 4, (some .char), [],
  [[(0, .aload_n 0, 1), (1, .getfield 16, 3), (4, .invokevirtual 114, 3), (7, .getfield 131, 3), (10, .astore_n 2, 1), (11, .aload_n 2, 1), (12, .iload_n 1, 1), (13, .invokevirtual 214, 3), (16, .istore_n 3, 1), (17, .iload_n 3, 1), (18, .iconst (-1), 1), (19, .if_icmp .ne 13, 3), (22, .new 163, 3), (25, .dup, 1), (26, .ldc 217, 2), (28, .invokespecial 167, 3)],
  [(31, .athrow, 1), (32, .aload_n 2, 1), (33, .iconst 0, 1), (34, .iload_n 3, 1), (35, .invokevirtual 168, 3), (38, .i2c, 1), (39, .ireturn, 1)]])
theorem tX9_oldAt : tabOK mX9_oldAt = true := by decide +kernel
def mX9_paragraphs : MI := (yX9_paragraphs, cX9_paragraphs, 1, (some .int), [],
  [[(0, .aload_n 0, 1), (1, .getfield 16, 3), (4, .invokevirtual 114, 3), (7, .getfield 131, 3), (10, .invokevirtual 219, 3), (13, .ireturn, 1)]])
theorem tX9_paragraphs : tabOK mX9_paragraphs = true := by decide +kernel
def mX9_paragraphOf : MI := (yX9_paragraphOf, cX9_paragraphOf, 2, (some .int), [],
  [[(0, .aload_n 0, 1), (1, .getfield 16, 3), (4, .invokevirtual 114, 3), (7, .getfield 131, 3), (10, .aload_n 0, 1), (11, .iload_n 1, 1), (12, .invokevirtual 70, 3), (15, .invokevirtual 222, 3), (18, .ireturn, 1)]])
theorem tX9_paragraphOf : tabOK mX9_paragraphOf = true := by decide +kernel
def mX9_changes : MI := (yX9_changes, cX9_changes, 1, (some .int), [],
  [[(0, .aload_n 0, 1), (1, .getfield 16, 3), (4, .invokevirtual 114, 3), (7, .getfield 118, 3), (10, .invokevirtual 228, 3), (13, .ireturn, 1)]])
theorem tX9_changes : tabOK mX9_changes = true := by decide +kernel
def mX9_authorOf : MI := (yX9_authorOf, cX9_authorOf, 2, (some .int), [],
  [[(0, .aload_n 0, 1), (1, .iload_n 1, 1), (2, .invokevirtual 231, 3), (5, .aload_n 0, 1), (6, .getfield 16, 3), (9, .invokevirtual 114, 3), (12, .getfield 118, 3), (15, .iload_n 1, 1), (16, .invokevirtual 238, 3), (19, .ireturn, 1)]])
theorem tX9_authorOf : tabOK mX9_authorOf = true := by decide +kernel
def mX9_stateOf : MI := (yX9_stateOf, cX9_stateOf, 2, (some .char), [],
  [[(0, .aload_n 0, 1), (1, .iload_n 1, 1), (2, .invokevirtual 231, 3), (5, .aload_n 0, 1), (6, .getfield 16, 3), (9, .invokevirtual 114, 3), (12, .getfield 118, 3), (15, .iload_n 1, 1), (16, .invokevirtual 241, 3), (19, .ireturn, 1)]])
theorem tX9_stateOf : tabOK mX9_stateOf = true := by decide +kernel
def mX9_unitsOf : MI := (yX9_unitsOf, cX9_unitsOf, 2, (some .int), [],
  [[(0, .aload_n 0, 1), (1, .iload_n 1, 1), (2, .invokevirtual 231, 3), (5, .aload_n 0, 1), (6, .getfield 16, 3), (9, .invokevirtual 114, 3), (12, .getfield 131, 3), (15, .iload_n 1, 1), (16, .invokevirtual 244, 3), (19, .ireturn, 1)]])
theorem tX9_unitsOf : tabOK mX9_unitsOf = true := by decide +kernel
def mX9_changeAt : MI := (yX9_changeAt, cX9_changeAt, 3, (some .int), [],
  [[(0, .aload_n 0, 1), (1, .getfield 16, 3), (4, .invokevirtual 114, 3), (7, .getfield 131, 3), (10, .iconst 2, 1), (11, .aload_n 0, 1), (12, .iload_n 1, 1), (13, .invokevirtual 208, 3), (16, .invokevirtual 168, 3), (19, .istore_n 2, 1), (20, .iload_n 2, 1), (21, .iconst (-1), 1), (22, .if_icmp .ne 13, 3), (25, .new 188, 3), (28, .dup, 1), (29, .ldc 247, 2)],
  [(31, .invokespecial 192, 3), (34, .athrow, 1), (35, .iload_n 2, 1), (36, .ireturn, 1)]])
theorem tX9_changeAt : tabOK mX9_changeAt = true := by decide +kernel
def mX9_accept : MI := (yX9_accept, cX9_accept, 2, (some .int), [],
  [[(0, .aload_n 0, 1), (1, .iload_n 1, 1), (2, .invokevirtual 249, 3), (5, .aload_n 0, 1), (6, .getfield 16, 3), (9, .invokevirtual 146, 3), (12, .iload_n 1, 1), (13, .iconst 1, 1), (14, .invokevirtual 252, 3), (17, .ireturn, 1)]])
theorem tX9_accept : tabOK mX9_accept = true := by decide +kernel
def mX9_refuse : MI := (yX9_refuse, cX9_refuse, 2, (some .int), [],
  [[(0, .aload_n 0, 1), (1, .iload_n 1, 1), (2, .invokevirtual 249, 3), (5, .aload_n 0, 1), (6, .getfield 16, 3), (9, .invokevirtual 146, 3), (12, .iload_n 1, 1), (13, .iconst 0, 1), (14, .invokevirtual 252, 3), (17, .ireturn, 1)]])
theorem tX9_refuse : tabOK mX9_refuse = true := by decide +kernel
def mX9_judge : MI := (yX9_judge, cX9_judge, 3, (some .int), [],
  [[(0, .iload_n 1, 1), (1, .iconst (-1), 1), (2, .if_icmp .eq 7, 3), (5, .iload_n 1, 1), (6, .invokestatic 66, 3), (9, .aload_n 0, 1), (10, .getfield 16, 3), (13, .invokevirtual 146, 3), (16, .iload_n 1, 1), (17, .iload_n 2, 1), (18, .invokevirtual 256, 3), (21, .ireturn, 1)]])
theorem tX9_judge : tabOK mX9_judge = true := by decide +kernel
def mX9_pages : MI := (yX9_pages, cX9_pages, 1, (some .int), [],
  [[(0, .aload_n 0, 1), (1, .invokevirtual 366, 3), (4, .aload_n 0, 1), (5, .getfield 58, 3), (8, .invokevirtual 369, 3), (11, .ireturn, 1)]])
theorem tX9_pages : tabOK mX9_pages = true := by decide +kernel
def mX9_waitingShare : MI := (yX9_waitingShare, cX9_waitingShare, 3, (some .float), [],
  [[(0, .aload_n 0, 1), (1, .getfield 16, 3), (4, .invokevirtual 114, 3), (7, .getfield 131, 3), (10, .astore_n 1, 1), (11, .aload_n 1, 1), (12, .invokevirtual 378, 3), (15, .istore_n 2, 1), (16, .iload_n 2, 1), (17, .ifCond .gt 14, 3), (20, .new 381, 3), (23, .dup, 1), (24, .ldc_w 383, 3), (27, .invokespecial 385, 3), (30, .athrow, 1), (31, .aload_n 1, 1)],
  [(32, .invokevirtual 386, 3), (35, .i2f, 1), (36, .iload_n 2, 1), (37, .i2f, 1), (38, .fdiv, 1), (39, .freturn, 1)]])
theorem tX9_waitingShare : tabOK mX9_waitingShare = true := by decide +kernel
def mX9_isSound : MI := (yX9_isSound, cX9_isSound, 1, (some .boolean), [],
  [[(0, .aload_n 0, 1), (1, .iconst 0, 1), (2, .iconst 1, 1), (3, .invokevirtual 405, 3), (6, .ifCond .eq 73, 3), (9, .aload_n 0, 1), (10, .iconst 0, 1), (11, .iconst 0, 1), (12, .invokevirtual 405, 3), (15, .ifCond .eq 64, 3), (18, .aload_n 0, 1), (19, .iconst 1, 1), (20, .iconst 1, 1), (21, .invokevirtual 405, 3), (24, .ifCond .eq 55, 3), (27, .aload_n 0, 1)],
  [(28, .iconst 1, 1), (29, .iconst 0, 1), (30, .invokevirtual 405, 3), (33, .ifCond .eq 46, 3), (36, .aload_n 0, 1), (37, .getfield 16, 3), (40, .invokevirtual 114, 3), (43, .getfield 118, 3), (46, .invokevirtual 409, 3), (49, .ifCond .eq 30, 3), (52, .aload_n 0, 1), (53, .getfield 16, 3), (56, .invokevirtual 114, 3), (59, .getfield 131, 3), (62, .invokevirtual 412, 3), (65, .ifCond .eq 14, 3)],
  [(68, .aload_n 0, 1), (69, .invokevirtual 415, 3), (72, .ifCond .eq 7, 3), (75, .iconst 1, 1), (76, .goto 4, 3), (79, .iconst 0, 1), (80, .ireturn, 1)]])
theorem tX9_isSound : tabOK mX9_isSound = true := by decide +kernel
def mX9_isWithin : MI := (yX9_isWithin, cX9_isWithin, 2, (some .boolean), [],
  [[(0, .iload_n 0, 1), (1, .ifCond .lt 12, 3), (4, .iload_n 0, 1), (5, .iload_n 1, 1), (6, .if_icmp .ge 7, 3), (9, .iconst 1, 1), (10, .goto 4, 3), (13, .iconst 0, 1), (14, .ireturn, 1)]])
theorem tX9_isWithin : tabOK mX9_isWithin = true := by decide +kernel
def mX9_cell : MI := (yX9_cell, cX9_cell, 2, (some .int), [],
  [[(0, .iload_n 1, 1), (1, .ifCond .lt 15, 3), (4, .iload_n 1, 1), (5, .aload_n 0, 1), (6, .arraylength, 1), (7, .if_icmp .ge 9, 3), (10, .aload_n 0, 1), (11, .iload_n 1, 1), (12, .iaload, 1), (13, .goto 4, 3), (16, .iconst (-1), 1), (17, .ireturn, 1)]])
theorem tX9_cell : tabOK mX9_cell = true := by decide +kernel
def mX9_setCell : MI := (yX9_setCell, cX9_setCell, 3, none, [],
  [[(0, .iload_n 1, 1), (1, .ifCond .lt 13, 3), (4, .iload_n 1, 1), (5, .aload_n 0, 1), (6, .arraylength, 1), (7, .if_icmp .ge 7, 3), (10, .aload_n 0, 1), (11, .iload_n 1, 1), (12, .iload_n 2, 1), (13, .iastore, 1), (14, .return_, 1)]])
theorem tX9_setCell : tabOK mX9_setCell = true := by decide +kernel
def mX9_isLetter : MI := (yX9_isLetter, cX9_isLetter, 1, (some .boolean), [],
  [[(0, .iload_n 0, 1), (1, .bipush 97, 2), (3, .if_icmp .lt 9, 3), (6, .iload_n 0, 1), (7, .bipush 122, 2), (9, .if_icmp .le 15, 3), (12, .iload_n 0, 1), (13, .bipush 32, 2), (15, .if_icmp .eq 9, 3), (18, .iload_n 0, 1), (19, .bipush 47, 2), (21, .if_icmp .ne 7, 3), (24, .iconst 1, 1), (25, .goto 4, 3), (28, .iconst 0, 1), (29, .ireturn, 1)]])
theorem tX9_isLetter : tabOK mX9_isLetter = true := by decide +kernel
def mX9_checkAuthor : MI := (yX9_checkAuthor, cX9_checkAuthor, 1, none, [],
  [[(0, .iload_n 0, 1), (1, .iconst 4, 1), (2, .invokestatic 270, 3), (5, .ifCond .ne 14, 3), (8, .new 163, 3), (11, .dup, 1), (12, .ldc_w 418, 3), (15, .invokespecial 167, 3), (18, .athrow, 1), (19, .return_, 1)]])
theorem tX9_checkAuthor : tabOK mX9_checkAuthor = true := by decide +kernel
def mX9_checkChange : MI := (yX9_checkChange, cX9_checkChange, 2, none, [],
  [[(0, .iload_n 1, 1), (1, .aload_n 0, 1), (2, .getfield 16, 3), (5, .invokevirtual 114, 3), (8, .getfield 118, 3), (11, .invokevirtual 228, 3), (14, .invokestatic 270, 3), (17, .ifCond .ne 14, 3), (20, .new 163, 3), (23, .dup, 1), (24, .ldc_w 430, 3), (27, .invokespecial 167, 3), (30, .athrow, 1), (31, .return_, 1)]])
theorem tX9_checkChange : tabOK mX9_checkChange = true := by decide +kernel
def mX9_checkWaiting : MI := (yX9_checkWaiting, cX9_checkWaiting, 2, none, [],
  [[(0, .aload_n 0, 1), (1, .iload_n 1, 1), (2, .invokevirtual 231, 3), (5, .aload_n 0, 1), (6, .getfield 16, 3), (9, .invokevirtual 114, 3), (12, .getfield 118, 3), (15, .iload_n 1, 1), (16, .invokevirtual 241, 3), (19, .bipush 119, 2), (21, .if_icmp .eq 14, 3), (24, .new 103, 3), (27, .dup, 1), (28, .ldc_w 432, 3), (31, .invokespecial 107, 3), (34, .athrow, 1)],
  [(35, .return_, 1)]])
theorem tX9_checkWaiting : tabOK mX9_checkWaiting = true := by decide +kernel
def mX9_checkUnguarded : MI := (yX9_checkUnguarded, cX9_checkUnguarded, 2, none, [],
  [[(0, .aload_n 0, 1), (1, .getfield 16, 3), (4, .invokevirtual 114, 3), (7, .getfield 131, 3), (10, .bipush 10, 2), (12, .iload_n 1, 1), (13, .invokevirtual 168, 3), (16, .iconst 1, 1), (17, .if_icmp .ne 14, 3), (20, .new 141, 3), (23, .dup, 1), (24, .ldc_w 434, 3), (27, .invokespecial 145, 3), (30, .athrow, 1), (31, .return_, 1)]])
theorem tX9_checkUnguarded : tabOK mX9_checkUnguarded = true := by decide +kernel
def mX9_checkWriting : MI := (yX9_checkWriting, cX9_checkWriting, 4, none, [],
  [[(0, .aload_n 0, 1), (1, .getfield 16, 3), (4, .invokevirtual 114, 3), (7, .astore_n 3, 1), (8, .aload_n 3, 1), (9, .getfield 131, 3), (12, .invokevirtual 378, 3), (15, .sipush 200, 3), (18, .if_icmp .lt 14, 3), (21, .new 103, 3), (24, .dup, 1), (25, .ldc_w 436, 3), (28, .invokespecial 107, 3), (31, .athrow, 1), (32, .aload_n 0, 1), (33, .getfield 7, 3)],
  [(36, .ifCond .eq 33, 3), (39, .aload_n 3, 1), (40, .getfield 118, 3), (43, .invokevirtual 122, 3), (46, .ifCond .eq 23, 3), (49, .aload_n 3, 1), (50, .iload_n 1, 1), (51, .iload_n 2, 1), (52, .invokevirtual 438, 3), (55, .iconst (-1), 1), (56, .if_icmp .ne 13, 3), (59, .new 103, 3), (62, .dup, 1), (63, .ldc 129, 2), (65, .invokespecial 107, 3), (68, .athrow, 1)],
  [(69, .aload_n 0, 1), (70, .aload_n 3, 1), (71, .getfield 131, 3), (74, .iload_n 2, 1), (75, .invokevirtual 441, 3), (78, .invokevirtual 172, 3), (81, .return_, 1)]])
theorem tX9_checkWriting : tabOK mX9_checkWriting = true := by decide +kernel
def mX9_indexOfPlace : MI := (yX9_indexOfPlace, cX9_indexOfPlace, 3, (some .int), [],
  [[(0, .aload_n 0, 1), (1, .getfield 16, 3), (4, .invokevirtual 114, 3), (7, .getfield 131, 3), (10, .iload_n 1, 1), (11, .invokevirtual 444, 3), (14, .istore_n 2, 1), (15, .iload_n 2, 1), (16, .iconst (-1), 1), (17, .if_icmp .ne 14, 3), (20, .new 163, 3), (23, .dup, 1), (24, .ldc_w 447, 3), (27, .invokespecial 167, 3), (30, .athrow, 1), (31, .iload_n 2, 1)],
  [(32, .ireturn, 1)]])
theorem tX9_indexOfPlace : tabOK mX9_indexOfPlace = true := by decide +kernel
def mX9_indexOfUnit : MI := (yX9_indexOfUnit, cX9_indexOfUnit, 3, (some .int), [],
  [[(0, .aload_n 0, 1), (1, .iload_n 1, 1), (2, .invokevirtual 70, 3), (5, .istore_n 2, 1), (6, .iload_n 2, 1), (7, .aload_n 0, 1), (8, .getfield 16, 3), (11, .invokevirtual 114, 3), (14, .getfield 131, 3), (17, .invokevirtual 378, 3), (20, .if_icmp .lt 13, 3), (23, .new 163, 3), (26, .dup, 1), (27, .ldc 217, 2), (29, .invokespecial 167, 3), (32, .athrow, 1)],
  [(33, .iload_n 2, 1), (34, .ireturn, 1)]])
theorem tX9_indexOfUnit : tabOK mX9_indexOfUnit = true := by decide +kernel
def mX9_write : MI := (yX9_write, cX9_write, 7, (some .int), [],
  [[(0, .aload_n 0, 1), (1, .getfield 16, 3), (4, .invokevirtual 146, 3), (7, .astore 5, 2), (9, .iconst (-1), 1), (10, .istore 6, 2), (12, .aload_n 0, 1), (13, .getfield 7, 3), (16, .ifCond .eq 31, 3), (19, .aload 5, 2), (21, .iload_n 1, 1), (22, .iload_n 2, 1), (23, .invokevirtual 438, 3), (26, .istore 6, 2), (28, .iload 6, 2), (30, .iconst (-1), 1)],
  [(31, .if_icmp .ne 16, 3), (34, .aload 5, 2), (36, .getfield 118, 3), (39, .bipush 105, 2), (41, .iload_n 1, 1), (42, .invokevirtual 454, 3), (45, .istore 6, 2), (47, .aload 5, 2), (49, .getfield 131, 3), (52, .iload_n 2, 1), (53, .iload_n 3, 1), (54, .iload 4, 2), (56, .iload 6, 2), (58, .invokevirtual 455, 3), (61, .iload 6, 2), (63, .ireturn, 1)]])
theorem tX9_write : tabOK mX9_write = true := by decide +kernel
def mX9_arrange : MI := (yX9_arrange, cX9_arrange, 2, none, [],
  [[(0, .aload_n 0, 1), (1, .getfield 16, 3), (4, .invokevirtual 114, 3), (7, .astore_n 1, 1), (8, .aload_n 0, 1), (9, .getfield 58, 3), (12, .aload_n 1, 1), (13, .getfield 131, 3), (16, .aload_n 1, 1), (17, .getfield 348, 3), (20, .aload_n 0, 1), (21, .getfield 30, 3), (24, .invokevirtual 459, 3), (27, .return_, 1)]])
theorem tX9_arrange : tabOK mX9_arrange = true := by decide +kernel
def mX9_isJudgedSoundly : MI := (yX9_isJudgedSoundly, cX9_isJudgedSoundly, 7, (some .boolean), [],
  [[(0, .aload_n 0, 1), (1, .getfield 16, 3), (4, .invokevirtual 114, 3), (7, .astore_n 3, 1), (8, .aload_n 0, 1), (9, .getfield 23, 3), (12, .aload_n 3, 1), (13, .invokevirtual 488, 3), (16, .aload_n 0, 1), (17, .getfield 23, 3), (20, .getfield 118, 3), (23, .invokevirtual 228, 3), (26, .istore 4, 2), (28, .iconst 0, 1), (29, .istore 5, 2), (31, .iload 5, 2)],
  [(33, .iload 4, 2), (35, .if_icmp .ge 55, 3), (38, .iload_n 2, 1), (39, .ifCond .eq 8, 3), (42, .iload 5, 2), (44, .goto 10, 3), (47, .iload 4, 2), (49, .iconst 1, 1), (50, .isub, 1), (51, .iload 5, 2), (53, .isub, 1), (54, .istore 6, 2), (56, .aload_n 0, 1), (57, .getfield 23, 3), (60, .getfield 118, 3), (63, .iload 6, 2)],
  [(65, .invokevirtual 241, 3), (68, .bipush 119, 2), (70, .if_icmp .ne 14, 3), (73, .aload_n 0, 1), (74, .getfield 23, 3), (77, .iload 6, 2), (79, .iload_n 1, 1), (80, .invokevirtual 252, 3), (83, .pop, 1), (84, .iinc 5 1, 3), (87, .goto (-56), 3), (90, .aload_n 0, 1), (91, .getfield 23, 3), (94, .getfield 131, 3), (97, .aload_n 3, 1), (98, .getfield 131, 3)],
  [(101, .iload_n 1, 1), (102, .ifCond .ne 7, 3), (105, .iconst 1, 1), (106, .goto 4, 3), (109, .iconst 0, 1), (110, .invokevirtual 492, 3), (113, .ireturn, 1)]])
theorem tX9_isJudgedSoundly : tabOK mX9_isJudgedSoundly = true := by decide +kernel
def mX9_isEachPlaceOnPage : MI := (yX9_isEachPlaceOnPage, cX9_isEachPlaceOnPage, 3, (some .boolean), [],
  [[(0, .aload_n 0, 1), (1, .invokevirtual 366, 3), (4, .aload_n 0, 1), (5, .getfield 16, 3), (8, .invokevirtual 114, 3), (11, .getfield 131, 3), (14, .invokevirtual 205, 3), (17, .istore_n 1, 1), (18, .iconst 0, 1), (19, .istore_n 2, 1), (20, .iload_n 2, 1), (21, .iload_n 1, 1), (22, .if_icmp .gt 32, 3), (25, .aload_n 0, 1), (26, .getfield 58, 3), (29, .iload_n 2, 1)],
  [(30, .invokevirtual 372, 3), (33, .aload_n 0, 1), (34, .getfield 58, 3), (37, .invokevirtual 369, 3), (40, .invokestatic 270, 3), (43, .ifCond .ne 5, 3), (46, .iconst 0, 1), (47, .ireturn, 1), (48, .iinc 2 1, 3), (51, .goto (-31), 3), (54, .iconst 1, 1), (55, .ireturn, 1)]])
theorem tX9_isEachPlaceOnPage : tabOK mX9_isEachPlaceOnPage = true := by decide +kernel
def mX10_init : MI := (yX10_init, cX10_init, 1, none, [],
  [[(0, .aload_n 0, 1), (1, .invokespecial 1, 3), (4, .aload_n 0, 1), (5, .new 7, 3), (8, .dup, 1), (9, .invokespecial 9, 3), (12, .putfield 10, 3), (15, .aload_n 0, 1), (16, .bipush 6, 2), (18, .anewarray 7, 3), (21, .putfield 16, 3), (24, .aload_n 0, 1), (25, .bipush 6, 2), (27, .anewarray 7, 3), (30, .putfield 20, 3), (33, .aload_n 0, 1)],
  [(34, .iconst 1, 1), (35, .putfield 23, 3), (38, .return_, 1)]])
theorem tX10_init : tabOK mX10_init = true := by decide +kernel
def mX10_edit : MI := (yX10_edit, cX10_edit, 2, none, [],
  [[(0, .aload_n 0, 1), (1, .getfield 27, 3), (4, .bipush 6, 2), (6, .if_icmp .ne 40, 3), (9, .iconst 0, 1), (10, .istore_n 1, 1), (11, .iload_n 1, 1), (12, .iconst 5, 1), (13, .if_icmp .ge 23, 3), (16, .aload_n 0, 1), (17, .getfield 16, 3), (20, .iload_n 1, 1), (21, .aload_n 0, 1), (22, .getfield 16, 3), (25, .iload_n 1, 1), (26, .iconst 1, 1)],
  [(27, .iadd, 1), (28, .aaload, 1), (29, .aastore, 1), (30, .iinc 1 1, 3), (33, .goto (-22), 3), (36, .aload_n 0, 1), (37, .dup, 1), (38, .getfield 27, 3), (41, .iconst 1, 1), (42, .isub, 1), (43, .putfield 27, 3), (46, .aload_n 0, 1), (47, .getfield 16, 3), (50, .aload_n 0, 1), (51, .getfield 27, 3), (54, .aload_n 0, 1)],
  [(55, .getfield 10, 3), (58, .invokevirtual 31, 3), (61, .aastore, 1), (62, .aload_n 0, 1), (63, .dup, 1), (64, .getfield 27, 3), (67, .iconst 1, 1), (68, .iadd, 1), (69, .putfield 27, 3), (72, .aload_n 0, 1), (73, .iconst 0, 1), (74, .putfield 35, 3), (77, .return_, 1)]])
theorem tX10_edit : tabOK mX10_edit = true := by decide +kernel
def mX11_init : MI := (yX11_init, cX11_init, 1, none, [],
  [[(0, .aload_n 0, 1), (1, .invokespecial 1, 3), (4, .aload_n 0, 1), (5, .sipush 210, 3), (8, .anewarray 7, 3), (11, .putfield 9, 3), (14, .aload_n 0, 1), (15, .bipush 61, 2), (17, .newarray .int, 2), (19, .putfield 15, 3), (22, .aload_n 0, 1), (23, .bipush 61, 2), (25, .newarray .char, 2), (27, .putfield 19, 3), (30, .return_, 1)]])
theorem tX11_init : tabOK mX11_init = true := by decide +kernel
def mX11_copy : MI := (yX11_copy, cX11_copy, 3, (some (.object "SealOfficeLaw$Doc")), [],
  [[(0, .new 10, 3), (3, .dup, 1), (4, .invokespecial 23, 3), (7, .astore_n 1, 1), (8, .aload_n 1, 1), (9, .aload_n 0, 1), (10, .getfield 24, 3), (13, .putfield 24, 3), (16, .iconst 0, 1), (17, .istore_n 2, 1), (18, .iload_n 2, 1), (19, .aload_n 0, 1), (20, .getfield 24, 3), (23, .if_icmp .ge 24, 3), (26, .aload_n 1, 1), (27, .getfield 9, 3)],
  [(30, .iload_n 2, 1), (31, .aload_n 0, 1), (32, .getfield 9, 3), (35, .iload_n 2, 1), (36, .aaload, 1), (37, .invokevirtual 28, 3), (40, .aastore, 1), (41, .iinc 2 1, 3), (44, .goto (-26), 3), (47, .aload_n 1, 1), (48, .aload_n 0, 1), (49, .getfield 32, 3), (52, .putfield 32, 3), (55, .iconst 0, 1), (56, .istore_n 2, 1), (57, .iload_n 2, 1)],
  [(58, .aload_n 0, 1), (59, .getfield 32, 3), (62, .if_icmp .ge 33, 3), (65, .aload_n 1, 1), (66, .getfield 15, 3), (69, .iload_n 2, 1), (70, .aload_n 0, 1), (71, .getfield 15, 3), (74, .iload_n 2, 1), (75, .iaload, 1), (76, .iastore, 1), (77, .aload_n 1, 1), (78, .getfield 19, 3), (81, .iload_n 2, 1), (82, .aload_n 0, 1), (83, .getfield 19, 3)],
  [(86, .iload_n 2, 1), (87, .caload, 1), (88, .castore, 1), (89, .iinc 2 1, 3), (92, .goto (-35), 3), (95, .aload_n 1, 1), (96, .areturn, 1)]])
theorem tX11_copy : tabOK mX11_copy = true := by decide +kernel
def mX11_length : MI := (yX11_length, cX11_length, 3, (some .int), [],
  [[(0, .iconst 0, 1), (1, .istore_n 1, 1), (2, .iconst 0, 1), (3, .istore_n 2, 1), (4, .iload_n 2, 1), (5, .aload_n 0, 1), (6, .getfield 24, 3), (9, .if_icmp .ge 29, 3), (12, .iload_n 1, 1), (13, .aload_n 0, 1), (14, .getfield 9, 3), (17, .iload_n 2, 1), (18, .aaload, 1), (19, .getfield 35, 3), (22, .ifCond .ge 7, 3), (25, .iconst 1, 1)],
  [(26, .goto 4, 3), (29, .iconst 0, 1), (30, .iadd, 1), (31, .istore_n 1, 1), (32, .iinc 2 1, 3), (35, .goto (-31), 3), (38, .iload_n 1, 1), (39, .ireturn, 1)]])
theorem tX11_length : tabOK mX11_length = true := by decide +kernel
def mX11_at : MI := (yX11_at, cX11_at, 4, (some .int), [],
  [[(0, .iload_n 1, 1), (1, .istore_n 2, 1), (2, .iconst 0, 1), (3, .istore_n 3, 1), (4, .iload_n 3, 1), (5, .aload_n 0, 1), (6, .getfield 24, 3), (9, .if_icmp .ge 45, 3), (12, .aload_n 0, 1), (13, .getfield 9, 3), (16, .iload_n 3, 1), (17, .aaload, 1), (18, .getfield 35, 3), (21, .ifCond .ge 7, 3), (24, .iload_n 2, 1), (25, .ifCond .le 29, 3)],
  [(28, .iload_n 2, 1), (29, .aload_n 0, 1), (30, .getfield 9, 3), (33, .iload_n 3, 1), (34, .aaload, 1), (35, .getfield 35, 3), (38, .ifCond .ge 7, 3), (41, .iconst 1, 1), (42, .goto 4, 3), (45, .iconst 0, 1), (46, .isub, 1), (47, .istore_n 2, 1), (48, .iinc 3 1, 3), (51, .goto (-47), 3), (54, .iload_n 3, 1), (55, .ireturn, 1)]])
theorem tX11_at : tabOK mX11_at = true := by decide +kernel
def mX11_change : MI := (yX11_change, cX11_change, 2, (some .int), [],
  [[(0, .aload_n 0, 1), (1, .getfield 15, 3), (4, .aload_n 0, 1), (5, .getfield 32, 3), (8, .iload_n 1, 1), (9, .iastore, 1), (10, .aload_n 0, 1), (11, .getfield 19, 3), (14, .aload_n 0, 1), (15, .getfield 32, 3), (18, .bipush 119, 2), (20, .castore, 1), (21, .aload_n 0, 1), (22, .dup, 1), (23, .getfield 32, 3), (26, .iconst 1, 1)],
  [(27, .iadd, 1), (28, .putfield 32, 3), (31, .aload_n 0, 1), (32, .getfield 32, 3), (35, .iconst 1, 1), (36, .isub, 1), (37, .ireturn, 1)]])
theorem tX11_change : tabOK mX11_change = true := by decide +kernel
def mX11_write : MI := (yX11_write, cX11_write, 8, (some .int), [],
  [[(0, .aload_n 0, 1), (1, .iload_n 2, 1), (2, .invokevirtual 38, 3), (5, .istore 5, 2), (7, .iconst (-1), 1), (8, .istore 6, 2), (10, .iload 4, 2), (12, .ifCond .eq 54, 3), (15, .iload 5, 2), (17, .ifCond .ne 7, 3), (20, .iconst (-1), 1), (21, .goto 15, 3), (24, .aload_n 0, 1), (25, .getfield 9, 3), (28, .iload 5, 2), (30, .iconst 1, 1)],
  [(31, .isub, 1), (32, .aaload, 1), (33, .getfield 42, 3), (36, .istore 7, 2), (38, .iload 7, 2), (40, .ifCond .lt 19, 3), (43, .aload_n 0, 1), (44, .getfield 15, 3), (47, .iload 7, 2), (49, .iaload, 1), (50, .iload_n 1, 1), (51, .if_icmp .ne 8, 3), (54, .iload 7, 2), (56, .goto 8, 3), (59, .aload_n 0, 1), (60, .iload_n 1, 1)],
  [(61, .invokevirtual 45, 3), (64, .istore 6, 2), (66, .aload_n 0, 1), (67, .getfield 24, 3), (70, .istore 7, 2), (72, .iload 7, 2), (74, .iload 5, 2), (76, .if_icmp .le 25, 3), (79, .aload_n 0, 1), (80, .getfield 9, 3), (83, .iload 7, 2), (85, .aload_n 0, 1), (86, .getfield 9, 3), (89, .iload 7, 2), (91, .iconst 1, 1), (92, .isub, 1)],
  [(93, .aaload, 1), (94, .aastore, 1), (95, .iinc 7 (-1), 3), (98, .goto (-26), 3), (101, .aload_n 0, 1), (102, .getfield 9, 3), (105, .iload 5, 2), (107, .new 7, 3), (110, .dup, 1), (111, .iload_n 3, 1), (112, .iload 6, 2), (114, .invokespecial 48, 3), (117, .aastore, 1), (118, .aload_n 0, 1), (119, .dup, 1), (120, .getfield 24, 3)],
  [(123, .iconst 1, 1), (124, .iadd, 1), (125, .putfield 24, 3), (128, .iload 6, 2), (130, .ireturn, 1)]])
theorem tX11_write : tabOK mX11_write = true := by decide +kernel
def mX11_drop : MI := (yX11_drop, cX11_drop, 3, none, [],
  [[(0, .iload_n 1, 1), (1, .istore_n 2, 1), (2, .iload_n 2, 1), (3, .iconst 1, 1), (4, .iadd, 1), (5, .aload_n 0, 1), (6, .getfield 24, 3), (9, .if_icmp .ge 23, 3), (12, .aload_n 0, 1), (13, .getfield 9, 3), (16, .iload_n 2, 1), (17, .aload_n 0, 1), (18, .getfield 9, 3), (21, .iload_n 2, 1), (22, .iconst 1, 1), (23, .iadd, 1)],
  [(24, .aaload, 1), (25, .aastore, 1), (26, .iinc 2 1, 3), (29, .goto (-27), 3), (32, .aload_n 0, 1), (33, .dup, 1), (34, .getfield 24, 3), (37, .iconst 1, 1), (38, .isub, 1), (39, .putfield 24, 3), (42, .return_, 1)]])
theorem tX11_drop : tabOK mX11_drop = true := by decide +kernel
def mX11_erase : MI := (yX11_erase, cX11_erase, 13, (some .int), [],
  [[(0, .iload_n 3, 1), (1, .iload_n 2, 1), (2, .isub, 1), (3, .anewarray 7, 3), (6, .astore 5, 2), (8, .iload_n 2, 1), (9, .istore 6, 2), (11, .iload 6, 2), (13, .iload_n 3, 1), (14, .if_icmp .ge 27, 3), (17, .aload 5, 2), (19, .iload 6, 2), (21, .iload_n 2, 1), (22, .isub, 1), (23, .aload_n 0, 1), (24, .getfield 9, 3)],
  [(27, .aload_n 0, 1), (28, .iload 6, 2), (30, .invokevirtual 38, 3), (33, .aaload, 1), (34, .aastore, 1), (35, .iinc 6 1, 3), (38, .goto (-27), 3), (41, .iconst (-1), 1), (42, .istore 6, 2), (44, .aload 5, 2), (46, .astore 7, 2), (48, .aload 7, 2), (50, .arraylength, 1), (51, .istore 8, 2), (53, .iconst 0, 1), (54, .istore 9, 2)],
  [(56, .iload 9, 2), (58, .iload 8, 2), (60, .if_icmp .ge 109, 3), (63, .aload 7, 2), (65, .iload 9, 2), (67, .aaload, 1), (68, .astore 10, 2), (70, .aload 10, 2), (72, .getfield 42, 3), (75, .ifCond .lt 21, 3), (78, .aload_n 0, 1), (79, .getfield 15, 3), (82, .aload 10, 2), (84, .getfield 42, 3), (87, .iaload, 1), (88, .iload_n 1, 1)],
  [(89, .if_icmp .ne 7, 3), (92, .iconst 1, 1), (93, .goto 4, 3), (96, .iconst 0, 1), (97, .istore 11, 2), (99, .iload 4, 2), (101, .ifCond .eq 35, 3), (104, .iload 11, 2), (106, .ifCond .ne 30, 3), (109, .iload 6, 2), (111, .ifCond .ge 11, 3), (114, .aload_n 0, 1), (115, .iload_n 1, 1), (116, .invokevirtual 45, 3), (119, .goto 5, 3), (122, .iload 6, 2)],
  [(124, .istore 6, 2), (126, .aload 10, 2), (128, .iload 6, 2), (130, .putfield 35, 3), (133, .goto 30, 3), (136, .iconst 0, 1), (137, .istore 12, 2), (139, .aload_n 0, 1), (140, .getfield 9, 3), (143, .iload 12, 2), (145, .aaload, 1), (146, .aload 10, 2), (148, .if_acmp .eq 9, 3), (151, .iinc 12 1, 3), (154, .goto (-15), 3), (157, .aload_n 0, 1)],
  [(158, .iload 12, 2), (160, .invokevirtual 51, 3), (163, .iinc 9 1, 3), (166, .goto (-110), 3), (169, .iload 6, 2), (171, .ireturn, 1)]])
theorem tX11_erase : tabOK mX11_erase = true := by decide +kernel
def mX11_units : MI := (yX11_units, cX11_units, 4, (some .int), [],
  [[(0, .iconst 0, 1), (1, .istore_n 2, 1), (2, .iconst 0, 1), (3, .istore_n 3, 1), (4, .iload_n 3, 1), (5, .aload_n 0, 1), (6, .getfield 24, 3), (9, .if_icmp .ge 43, 3), (12, .iload_n 2, 1), (13, .aload_n 0, 1), (14, .getfield 9, 3), (17, .iload_n 3, 1), (18, .aaload, 1), (19, .getfield 42, 3), (22, .iload_n 1, 1), (23, .if_icmp .eq 16, 3)],
  [(26, .aload_n 0, 1), (27, .getfield 9, 3), (30, .iload_n 3, 1), (31, .aaload, 1), (32, .getfield 35, 3), (35, .iload_n 1, 1), (36, .if_icmp .ne 7, 3), (39, .iconst 1, 1), (40, .goto 4, 3), (43, .iconst 0, 1), (44, .iadd, 1), (45, .istore_n 2, 1), (46, .iinc 3 1, 3), (49, .goto (-45), 3), (52, .iload_n 2, 1), (53, .ireturn, 1)]])
theorem tX11_units : tabOK mX11_units = true := by decide +kernel
def mX11_judge : MI := (yX11_judge, cX11_judge, 7, (some .int), [],
  [[(0, .aload_n 0, 1), (1, .iload_n 1, 1), (2, .invokevirtual 55, 3), (5, .istore_n 3, 1), (6, .aload_n 0, 1), (7, .getfield 24, 3), (10, .iconst 1, 1), (11, .isub, 1), (12, .istore 4, 2), (14, .iload 4, 2), (16, .ifCond .lt 112, 3), (19, .aload_n 0, 1), (20, .getfield 9, 3), (23, .iload 4, 2), (25, .aaload, 1), (26, .astore 5, 2)],
  [(28, .iload_n 2, 1), (29, .ifCond .eq 20, 3), (32, .aload 5, 2), (34, .getfield 35, 3), (37, .iload_n 1, 1), (38, .if_icmp .ne 7, 3), (41, .iconst 1, 1), (42, .goto 21, 3), (45, .iconst 0, 1), (46, .goto 17, 3), (49, .aload 5, 2), (51, .getfield 42, 3), (54, .iload_n 1, 1), (55, .if_icmp .ne 7, 3), (58, .iconst 1, 1), (59, .goto 4, 3)],
  [(62, .iconst 0, 1), (63, .istore 6, 2), (65, .aload 5, 2), (67, .aload 5, 2), (69, .getfield 42, 3), (72, .iload_n 1, 1), (73, .if_icmp .ne 7, 3), (76, .iconst (-1), 1), (77, .goto 8, 3), (80, .aload 5, 2), (82, .getfield 42, 3), (85, .putfield 42, 3), (88, .aload 5, 2), (90, .aload 5, 2), (92, .getfield 35, 3), (95, .iload_n 1, 1)],
  [(96, .if_icmp .ne 7, 3), (99, .iconst (-1), 1), (100, .goto 8, 3), (103, .aload 5, 2), (105, .getfield 35, 3), (108, .putfield 35, 3), (111, .iload 6, 2), (113, .ifCond .eq 9, 3), (116, .aload_n 0, 1), (117, .iload 4, 2), (119, .invokevirtual 51, 3), (122, .iinc 4 (-1), 3), (125, .goto (-111), 3), (128, .aload_n 0, 1), (129, .getfield 19, 3), (132, .iload_n 1, 1)],
  [(133, .iload_n 2, 1), (134, .ifCond .eq 8, 3), (137, .bipush 97, 2), (139, .goto 5, 3), (142, .bipush 114, 2), (144, .castore, 1), (145, .iload_n 3, 1), (146, .ireturn, 1)]])
theorem tX11_judge : tabOK mX11_judge = true := by decide +kernel
def mX12_init : MI := (yX12_init, cX12_init, 3, none, [],
  [[(0, .aload_n 0, 1), (1, .invokespecial 1, 3), (4, .aload_n 0, 1), (5, .iconst (-1), 1), (6, .putfield 7, 3), (9, .aload_n 0, 1), (10, .iload_n 1, 1), (11, .putfield 13, 3), (14, .aload_n 0, 1), (15, .iload_n 2, 1), (16, .putfield 17, 3), (19, .return_, 1)]])
theorem tX12_init : tabOK mX12_init = true := by decide +kernel
def mX12_copy : MI := (yX12_copy, cX12_copy, 2, (some (.object "SealOfficeLaw$Unit")), [],
  [[(0, .new 8, 3), (3, .dup, 1), (4, .aload_n 0, 1), (5, .getfield 13, 3), (8, .aload_n 0, 1), (9, .getfield 17, 3), (12, .invokespecial 20, 3), (15, .astore_n 1, 1), (16, .aload_n 1, 1), (17, .aload_n 0, 1), (18, .getfield 7, 3), (21, .putfield 7, 3), (24, .aload_n 1, 1), (25, .areturn, 1)]])
theorem tX12_copy : tabOK mX12_copy = true := by decide +kernel
def mL_cell : MI := (yL_cell, cL_cell, 2, (some .int), [],
  [[(0, .iload_n 1, 1), (1, .aload_n 0, 1), (2, .arraylength, 1), (3, .if_icmp .ge 9, 3), (6, .aload_n 0, 1), (7, .iload_n 1, 1), (8, .iaload, 1), (9, .goto 11, 3), (12, .ldc 7, 2), (14, .iload_n 1, 1), (15, .imul, 1), (16, .sipush 4337, 3), (19, .iadd, 1), (20, .ireturn, 1)]])
theorem tL_cell : tabOK mL_cell = true := by decide +kernel
def mL_low : MI := (yL_low, cL_low, 2, (some .int), [],
  [[(0, .iload_n 0, 1), (1, .ldc 8, 2), (3, .iand, 1), (4, .iload_n 1, 1), (5, .irem, 1), (6, .ireturn, 1)]])
theorem tL_low : tabOK mL_low = true := by decide +kernel
def mL_undoes : MI := (yL_undoes, cL_undoes, 3, (some .boolean), [(0, 64, 65, 35)],
  [[(0, .aload_n 0, 1), (1, .invokevirtual 9, 3), (4, .istore_n 2, 1), (5, .aload_n 1, 1), (6, .getfield 15, 3), (9, .aload_n 1, 1), (10, .getfield 21, 3), (13, .aload_n 1, 1), (14, .getfield 25, 3), (17, .aastore, 1), (18, .aload_n 1, 1), (19, .dup, 1), (20, .getfield 21, 3), (23, .iconst 1, 1), (24, .iadd, 1), (25, .putfield 21, 3)],
  [(28, .aload_n 1, 1), (29, .dup, 1), (30, .getfield 29, 3), (33, .iconst 1, 1), (34, .isub, 1), (35, .putfield 29, 3), (38, .aload_n 1, 1), (39, .aload_n 1, 1), (40, .getfield 32, 3), (43, .aload_n 1, 1), (44, .getfield 29, 3), (47, .aaload, 1), (48, .putfield 25, 3), (51, .iload_n 2, 1), (52, .aload_n 1, 1), (53, .getfield 29, 3)],
  [(56, .if_icmp .ne 7, 3), (59, .iconst 1, 1), (60, .goto 4, 3), (63, .iconst 0, 1), (64, .ireturn, 1), (65, .astore_n 2, 1), (66, .aload_n 1, 1), (67, .getfield 29, 3), (70, .ifCond .ne 7, 3), (73, .iconst 1, 1), (74, .goto 4, 3), (77, .iconst 0, 1), (78, .ireturn, 1)]])
theorem tL_undoes : tabOK mL_undoes = true := by decide +kernel
def mL_redoes : MI := (yL_redoes, cL_redoes, 3, (some .boolean), [(0, 64, 65, 35)],
  [[(0, .aload_n 0, 1), (1, .invokevirtual 37, 3), (4, .istore_n 2, 1), (5, .aload_n 1, 1), (6, .getfield 32, 3), (9, .aload_n 1, 1), (10, .getfield 29, 3), (13, .aload_n 1, 1), (14, .getfield 25, 3), (17, .aastore, 1), (18, .aload_n 1, 1), (19, .dup, 1), (20, .getfield 29, 3), (23, .iconst 1, 1), (24, .iadd, 1), (25, .putfield 29, 3)],
  [(28, .aload_n 1, 1), (29, .dup, 1), (30, .getfield 21, 3), (33, .iconst 1, 1), (34, .isub, 1), (35, .putfield 21, 3), (38, .aload_n 1, 1), (39, .aload_n 1, 1), (40, .getfield 15, 3), (43, .aload_n 1, 1), (44, .getfield 21, 3), (47, .aaload, 1), (48, .putfield 25, 3), (51, .iload_n 2, 1), (52, .aload_n 1, 1), (53, .getfield 21, 3)],
  [(56, .if_icmp .ne 7, 3), (59, .iconst 1, 1), (60, .goto 4, 3), (63, .iconst 0, 1), (64, .ireturn, 1), (65, .astore_n 2, 1), (66, .aload_n 1, 1), (67, .getfield 21, 3), (70, .ifCond .ne 7, 3), (73, .iconst 1, 1), (74, .goto 4, 3), (77, .iconst 0, 1), (78, .ireturn, 1)]])
theorem tL_redoes : tabOK mL_redoes = true := by decide +kernel
def mL_judges : MI := (yL_judges, cL_judges, 8, (some .boolean), [],
  [[(0, .iload_n 2, 1), (1, .iconst 5, 1), (2, .invokestatic 40, 3), (5, .ifCond .ne 126, 3), (8, .iload_n 2, 1), (9, .iconst 3, 1), (10, .ishr, 1), (11, .iconst 5, 1), (12, .invokestatic 40, 3), (15, .iconst 1, 1), (16, .isub, 1), (17, .istore_n 3, 1), (18, .iload_n 2, 1), (19, .bipush 6, 2), (21, .ishr, 1), (22, .iconst 2, 1)],
  [(23, .invokestatic 40, 3), (26, .ifCond .ne 7, 3), (29, .iconst 1, 1), (30, .goto 4, 3), (33, .iconst 0, 1), (34, .istore 4, 2), (36, .aload_n 1, 1), (37, .invokevirtual 46, 3), (40, .iconst 0, 1), (41, .istore 5, 2), (43, .iconst 0, 1), (44, .istore 6, 2), (46, .iload 6, 2), (48, .aload_n 1, 1), (49, .getfield 25, 3), (52, .getfield 49, 3)],
  [(55, .if_icmp .ge 58, 3), (58, .aload_n 1, 1), (59, .getfield 25, 3), (62, .getfield 54, 3), (65, .iload 6, 2), (67, .caload, 1), (68, .bipush 119, 2), (70, .if_icmp .ne 37, 3), (73, .iload_n 3, 1), (74, .ifCond .lt 17, 3), (77, .aload_n 1, 1), (78, .getfield 25, 3), (81, .getfield 58, 3), (84, .iload 6, 2), (86, .iaload, 1), (87, .iload_n 3, 1)],
  [(88, .if_icmp .ne 19, 3), (91, .aload_n 1, 1), (92, .getfield 25, 3), (95, .iload 6, 2), (97, .iload 4, 2), (99, .invokevirtual 62, 3), (102, .istore 7, 2), (104, .iinc 5 1, 3), (107, .iinc 6 1, 3), (110, .goto (-64), 3), (113, .aload_n 0, 1), (114, .iload_n 3, 1), (115, .iload 4, 2), (117, .invokevirtual 66, 3), (120, .iload 5, 2), (122, .if_icmp .ne 7, 3)],
  [(125, .iconst 1, 1), (126, .goto 4, 3), (129, .iconst 0, 1), (130, .ireturn, 1), (131, .aload_n 1, 1), (132, .getfield 25, 3), (135, .getfield 49, 3), (138, .ifCond .ne 16, 3), (141, .aload_n 0, 1), (142, .invokevirtual 67, 3), (145, .ifCond .ne 7, 3), (148, .iconst 1, 1), (149, .goto 4, 3), (152, .iconst 0, 1), (153, .ireturn, 1), (154, .iload_n 2, 1)],
  [(155, .iconst 3, 1), (156, .ishr, 1), (157, .aload_n 1, 1), (158, .getfield 25, 3), (161, .getfield 49, 3), (164, .invokestatic 40, 3), (167, .istore_n 3, 1), (168, .iload_n 2, 1), (169, .bipush 9, 2), (171, .ishr, 1), (172, .iconst 2, 1), (173, .invokestatic 40, 3), (176, .ifCond .ne 7, 3), (179, .iconst 1, 1), (180, .goto 4, 3), (183, .iconst 0, 1)],
  [(184, .istore 4, 2), (186, .aload_n 1, 1), (187, .getfield 25, 3), (190, .getfield 54, 3), (193, .iload_n 3, 1), (194, .caload, 1), (195, .bipush 119, 2), (197, .if_icmp .eq 26, 3), (200, .aload_n 0, 1), (201, .iload_n 3, 1), (202, .invokevirtual 69, 3), (205, .aload_n 1, 1), (206, .getfield 25, 3), (209, .getfield 54, 3), (212, .iload_n 3, 1), (213, .caload, 1)],
  [(214, .if_icmp .ne 7, 3), (217, .iconst 1, 1), (218, .goto 4, 3), (221, .iconst 0, 1), (222, .ireturn, 1), (223, .aload_n 1, 1), (224, .invokevirtual 46, 3), (227, .aload_n 1, 1), (228, .getfield 25, 3), (231, .iload_n 3, 1), (232, .iload 4, 2), (234, .invokevirtual 62, 3), (237, .istore 5, 2), (239, .iload 4, 2), (241, .ifCond .eq 11, 3), (244, .aload_n 0, 1)],
  [(245, .iload_n 3, 1), (246, .invokevirtual 73, 3), (249, .goto 8, 3), (252, .aload_n 0, 1), (253, .iload_n 3, 1), (254, .invokevirtual 77, 3), (257, .iload 5, 2), (259, .if_icmp .ne 7, 3), (262, .iconst 1, 1), (263, .goto 4, 3), (266, .iconst 0, 1), (267, .ireturn, 1)]])
theorem tL_judges : tabOK mL_judges = true := by decide +kernel
def mL_acts : MI := (yL_acts, cL_acts, 8, (some .boolean), [],
  [[(0, .aload_n 1, 1), (1, .getfield 25, 3), (4, .invokevirtual 80, 3), (7, .istore_n 3, 1), (8, .iload_n 2, 1), (9, .iconst 4, 1), (10, .ishr, 1), (11, .iconst 4, 1), (12, .invokestatic 40, 3), (15, .istore 4, 2), (17, .iload_n 2, 1), (18, .bipush 16, 2), (20, .invokestatic 40, 3), (23, .istore 5, 2), (25, .iload 5, 2), (27, .bipush 7, 2)],
  [(29, .if_icmp .ge 97, 3), (32, .aload_n 1, 1), (33, .getfield 25, 3), (36, .getfield 49, 3), (39, .bipush 60, 2), (41, .if_icmp .ge 85, 3), (44, .iload_n 2, 1), (45, .bipush 6, 2), (47, .ishr, 1), (48, .iconst 3, 1), (49, .invokestatic 40, 3), (52, .ifCond .ne 16, 3), (55, .iload_n 2, 1), (56, .bipush 8, 2), (58, .ishr, 1), (59, .iload_n 3, 1)],
  [(60, .iconst 1, 1), (61, .iadd, 1), (62, .invokestatic 40, 3), (65, .goto 4, 3), (68, .iload_n 3, 1), (69, .istore 6, 2), (71, .ldc 83, 2), (73, .iload_n 2, 1), (74, .bipush 14, 2), (76, .ishr, 1), (77, .iconst 5, 1), (78, .invokestatic 40, 3), (81, .invokevirtual 85, 3), (84, .istore 7, 2), (86, .aload_n 1, 1), (87, .invokevirtual 46, 3)],
  [(90, .aload_n 0, 1), (91, .iload 4, 2), (93, .iload 6, 2), (95, .iload 7, 2), (97, .invokevirtual 90, 3), (100, .aload_n 1, 1), (101, .getfield 25, 3), (104, .iload 4, 2), (106, .iload 6, 2), (108, .iload 7, 2), (110, .aload_n 1, 1), (111, .getfield 94, 3), (114, .invokevirtual 98, 3), (117, .if_icmp .ne 7, 3), (120, .iconst 1, 1), (121, .goto 4, 3)],
  [(124, .iconst 0, 1), (125, .ireturn, 1), (126, .iload 5, 2), (128, .bipush 10, 2), (130, .if_icmp .ge 91, 3), (133, .aload_n 1, 1), (134, .getfield 25, 3), (137, .getfield 49, 3), (140, .bipush 60, 2), (142, .if_icmp .ge 79, 3), (145, .iload_n 3, 1), (146, .ifCond .le 75, 3), (149, .iload_n 2, 1), (150, .bipush 6, 2), (152, .ishr, 1), (153, .iload_n 3, 1)],
  [(154, .invokestatic 40, 3), (157, .istore 6, 2), (159, .iload 6, 2), (161, .iconst 1, 1), (162, .iadd, 1), (163, .iload_n 2, 1), (164, .bipush 12, 2), (166, .ishr, 1), (167, .iconst 4, 1), (168, .iload_n 3, 1), (169, .iload 6, 2), (171, .isub, 1), (172, .invokestatic 102, 3), (175, .invokestatic 40, 3), (178, .iadd, 1), (179, .istore 7, 2)],
  [(181, .aload_n 1, 1), (182, .invokevirtual 46, 3), (185, .aload_n 0, 1), (186, .iload 4, 2), (188, .iload 6, 2), (190, .iload 7, 2), (192, .invokevirtual 107, 3), (195, .aload_n 1, 1), (196, .getfield 25, 3), (199, .iload 4, 2), (201, .iload 6, 2), (203, .iload 7, 2), (205, .aload_n 1, 1), (206, .getfield 94, 3), (209, .invokevirtual 111, 3), (212, .if_icmp .ne 7, 3)],
  [(215, .iconst 1, 1), (216, .goto 4, 3), (219, .iconst 0, 1), (220, .ireturn, 1), (221, .iload 5, 2), (223, .bipush 12, 2), (225, .if_icmp .ge 12, 3), (228, .aload_n 0, 1), (229, .aload_n 1, 1), (230, .iload_n 2, 1), (231, .iconst 4, 1), (232, .ishr, 1), (233, .invokestatic 114, 3), (236, .ireturn, 1), (237, .iload 5, 2), (239, .bipush 12, 2)],
  [(241, .if_icmp .ne 47, 3), (244, .aload_n 1, 1), (245, .getfield 94, 3), (248, .istore 6, 2), (250, .aload_n 1, 1), (251, .iload_n 2, 1), (252, .iconst 4, 1), (253, .ishr, 1), (254, .iconst 4, 1), (255, .invokestatic 40, 3), (258, .ifCond .le 7, 3), (261, .iconst 1, 1), (262, .goto 4, 3), (265, .iconst 0, 1), (266, .putfield 94, 3), (269, .aload_n 0, 1)],
  [(270, .aload_n 1, 1), (271, .getfield 94, 3), (274, .invokevirtual 118, 3), (277, .iload 6, 2), (279, .if_icmp .ne 7, 3), (282, .iconst 1, 1), (283, .goto 4, 3), (286, .iconst 0, 1), (287, .ireturn, 1), (288, .iload 5, 2), (290, .bipush 15, 2), (292, .if_icmp .ne 11, 3), (295, .aload_n 0, 1), (296, .aload_n 1, 1), (297, .invokestatic 122, 3), (300, .goto 23, 3)],
  [(303, .iload 5, 2), (305, .bipush 12, 2), (307, .if_icmp .lt 11, 3), (310, .aload_n 0, 1), (311, .aload_n 1, 1), (312, .invokestatic 126, 3), (315, .ifCond .eq 7, 3), (318, .iconst 1, 1), (319, .goto 4, 3), (322, .iconst 0, 1), (323, .ireturn, 1)]])
theorem tL_acts : tabOK mL_acts = true := by decide +kernel
def mL_agrees : MI := (yL_agrees, cL_agrees, 10, (some .boolean), [],
  [[(0, .aload_n 1, 1), (1, .getfield 25, 3), (4, .astore_n 2, 1), (5, .iconst 0, 1), (6, .istore_n 3, 1), (7, .iconst 0, 1), (8, .istore 4, 2), (10, .iconst 0, 1), (11, .istore 5, 2), (13, .iconst 0, 1), (14, .istore 6, 2), (16, .aload_n 0, 1), (17, .invokevirtual 129, 3), (20, .aload_n 2, 1), (21, .invokevirtual 80, 3), (24, .if_icmp .ne 18, 3)],
  [(27, .aload_n 0, 1), (28, .invokevirtual 67, 3), (31, .aload_n 2, 1), (32, .getfield 49, 3), (35, .if_icmp .ne 7, 3), (38, .iconst 1, 1), (39, .goto 4, 3), (42, .iconst 0, 1), (43, .istore 7, 2), (45, .iconst 0, 1), (46, .istore 8, 2), (48, .iload 8, 2), (50, .aload_n 2, 1), (51, .getfield 130, 3), (54, .if_icmp .ge 160, 3), (57, .iload 7, 2)],
  [(59, .ifCond .eq 155, 3), (62, .aload_n 2, 1), (63, .getfield 133, 3), (66, .iload 8, 2), (68, .aaload, 1), (69, .astore 9, 2), (71, .iload 6, 2), (73, .aload 9, 2), (75, .getfield 137, 3), (78, .ifCond .ge 11, 3), (81, .aload 9, 2), (83, .getfield 142, 3), (86, .ifCond .lt 7, 3), (89, .iconst 1, 1), (90, .goto 4, 3), (93, .iconst 0, 1)],
  [(94, .iadd, 1), (95, .istore 6, 2), (97, .aload 9, 2), (99, .getfield 142, 3), (102, .ifCond .ge 69, 3), (105, .aload_n 0, 1), (106, .iload_n 3, 1), (107, .invokevirtual 145, 3), (110, .aload 9, 2), (112, .getfield 148, 3), (115, .if_icmp .ne 30, 3), (118, .aload_n 0, 1), (119, .iload_n 3, 1), (120, .invokevirtual 152, 3), (123, .iload 5, 2), (125, .if_icmp .ne 20, 3)],
  [(128, .aload_n 0, 1), (129, .iload_n 3, 1), (130, .invokestatic 155, 3), (133, .aload 9, 2), (135, .getfield 137, 3), (138, .if_icmp .ne 7, 3), (141, .iconst 1, 1), (142, .goto 4, 3), (145, .iconst 0, 1), (146, .istore 7, 2), (148, .iload 5, 2), (150, .aload 9, 2), (152, .getfield 148, 3), (155, .bipush 47, 2), (157, .if_icmp .ne 7, 3), (160, .iconst 1, 1)],
  [(161, .goto 4, 3), (164, .iconst 0, 1), (165, .iadd, 1), (166, .istore 5, 2), (168, .iinc 3 1, 3), (171, .aload 9, 2), (173, .getfield 137, 3), (176, .ifCond .ge 32, 3), (179, .iload 7, 2), (181, .ifCond .eq 21, 3), (184, .aload_n 0, 1), (185, .iload 4, 2), (187, .invokevirtual 159, 3), (190, .aload 9, 2), (192, .getfield 148, 3), (195, .if_icmp .ne 7, 3)],
  [(198, .iconst 1, 1), (199, .goto 4, 3), (202, .iconst 0, 1), (203, .istore 7, 2), (205, .iinc 4 1, 3), (208, .iinc 8 1, 3), (211, .goto (-163), 3), (214, .iconst 0, 1), (215, .istore 8, 2), (217, .iload 8, 2), (219, .aload_n 2, 1), (220, .getfield 49, 3), (223, .if_icmp .ge 68, 3), (226, .iload 7, 2), (228, .ifCond .eq 63, 3), (231, .aload_n 0, 1)],
  [(232, .iload 8, 2), (234, .invokevirtual 69, 3), (237, .aload_n 2, 1), (238, .getfield 54, 3), (241, .iload 8, 2), (243, .caload, 1), (244, .if_icmp .ne 38, 3), (247, .aload_n 0, 1), (248, .iload 8, 2), (250, .invokevirtual 162, 3), (253, .aload_n 2, 1), (254, .getfield 58, 3), (257, .iload 8, 2), (259, .iaload, 1), (260, .if_icmp .ne 22, 3), (263, .aload_n 0, 1)],
  [(264, .iload 8, 2), (266, .invokevirtual 165, 3), (269, .aload_n 2, 1), (270, .iload 8, 2), (272, .invokevirtual 168, 3), (275, .if_icmp .ne 7, 3), (278, .iconst 1, 1), (279, .goto 4, 3), (282, .iconst 0, 1), (283, .istore 7, 2), (285, .iinc 8 1, 3), (288, .goto (-71), 3), (291, .iload 7, 2), (293, .ifCond .eq 35, 3), (296, .aload_n 0, 1), (297, .invokevirtual 171, 3)],
  [(300, .iload 4, 2), (302, .if_icmp .ne 26, 3), (305, .aload_n 0, 1), (306, .invokevirtual 174, 3), (309, .iload 5, 2), (311, .iconst 1, 1), (312, .iadd, 1), (313, .if_icmp .ne 15, 3), (316, .aload_n 0, 1), (317, .invokevirtual 177, 3), (320, .iconst 1, 1), (321, .if_icmp .lt 7, 3), (324, .iconst 1, 1), (325, .goto 4, 3), (328, .iconst 0, 1), (329, .istore 7, 2)],
  [(331, .iload 7, 2), (333, .ifCond .eq 31, 3), (336, .aload_n 2, 1), (337, .getfield 130, 3), (340, .ifCond .eq 20, 3), (343, .aload_n 0, 1), (344, .invokevirtual 180, 3), (347, .iload 6, 2), (349, .i2f, 1), (350, .aload_n 2, 1), (351, .getfield 130, 3), (354, .i2f, 1), (355, .fdiv, 1), (356, .fcmp .l, 1), (357, .ifCond .ne 7, 3), (360, .iconst 1, 1)],
  [(361, .goto 4, 3), (364, .iconst 0, 1), (365, .ireturn, 1)]])
theorem tL_agrees : tabOK mL_agrees = true := by decide +kernel
def mL_changeAt : MI := (yL_changeAt, cL_changeAt, 3, (some .int), [(0, 5, 6, 35)],
  [[(0, .aload_n 0, 1), (1, .iload_n 1, 1), (2, .invokevirtual 184, 3), (5, .ireturn, 1), (6, .astore_n 2, 1), (7, .iconst (-1), 1), (8, .ireturn, 1)]])
theorem tL_changeAt : tabOK mL_changeAt = true := by decide +kernel
def mL_isLeft : MI := (yL_isLeft, cL_isLeft, 8, (some .boolean), [],
  [[(0, .iload_n 2, 1), (1, .ifCond .eq 10, 3), (4, .aload_n 0, 1), (5, .invokevirtual 129, 3), (8, .goto 7, 3), (11, .aload_n 0, 1), (12, .invokevirtual 171, 3), (15, .istore_n 3, 1), (16, .iload_n 3, 1), (17, .newarray .char, 2), (19, .astore 4, 2), (21, .iconst 0, 1), (22, .istore 5, 2), (24, .iload 5, 2), (26, .iload_n 3, 1), (27, .if_icmp .ge 33, 3)],
  [(30, .aload 4, 2), (32, .iload 5, 2), (34, .iload_n 2, 1), (35, .ifCond .eq 12, 3), (38, .aload_n 0, 1), (39, .iload 5, 2), (41, .invokevirtual 145, 3), (44, .goto 9, 3), (47, .aload_n 0, 1), (48, .iload 5, 2), (50, .invokevirtual 159, 3), (53, .castore, 1), (54, .iinc 5 1, 3), (57, .goto (-33), 3), (60, .aload_n 0, 1), (61, .iconst (-1), 1)],
  [(62, .iload_n 2, 1), (63, .invokevirtual 66, 3), (66, .istore 5, 2), (68, .iload 5, 2), (70, .ifCond .lt 23, 3), (73, .aload_n 0, 1), (74, .invokevirtual 129, 3), (77, .iload_n 3, 1), (78, .if_icmp .ne 15, 3), (81, .aload_n 0, 1), (82, .invokevirtual 171, 3), (85, .iload_n 3, 1), (86, .if_icmp .ne 7, 3), (89, .iconst 1, 1), (90, .goto 4, 3), (93, .iconst 0, 1)],
  [(94, .istore 6, 2), (96, .iconst 0, 1), (97, .istore 7, 2), (99, .iload 7, 2), (101, .iload_n 3, 1), (102, .if_icmp .ge 49, 3), (105, .iload 6, 2), (107, .ifCond .eq 44, 3), (110, .aload_n 0, 1), (111, .iload 7, 2), (113, .invokevirtual 145, 3), (116, .aload 4, 2), (118, .iload 7, 2), (120, .caload, 1), (121, .if_icmp .ne 21, 3), (124, .aload_n 0, 1)],
  [(125, .iload 7, 2), (127, .invokevirtual 159, 3), (130, .aload 4, 2), (132, .iload 7, 2), (134, .caload, 1), (135, .if_icmp .ne 7, 3), (138, .iconst 1, 1), (139, .goto 4, 3), (142, .iconst 0, 1), (143, .istore 6, 2), (145, .iinc 7 1, 3), (148, .goto (-49), 3), (151, .iload 6, 2), (153, .ifCond .eq 14, 3), (156, .aload_n 0, 1), (157, .invokevirtual 186, 3)],
  [(160, .ifCond .eq 7, 3), (163, .iconst 1, 1), (164, .goto 4, 3), (167, .iconst 0, 1), (168, .ireturn, 1)]])
theorem tL_isLeft : tabOK mL_isLeft = true := by decide +kernel
def mL_law : MI := (yL_law, cL_law, 5, (some .boolean), [],
  [[(0, .new 10, 3), (3, .dup, 1), (4, .invokespecial 190, 3), (7, .astore_n 1, 1), (8, .new 16, 3), (11, .dup, 1), (12, .invokespecial 191, 3), (15, .astore_n 2, 1), (16, .iconst 1, 1), (17, .istore_n 3, 1), (18, .iconst 0, 1), (19, .istore 4, 2), (21, .iload 4, 2), (23, .bipush 40, 2), (25, .if_icmp .ge 41, 3), (28, .iload_n 3, 1)],
  [(29, .ifCond .eq 37, 3), (32, .aload_n 1, 1), (33, .aload_n 2, 1), (34, .aload_n 0, 1), (35, .iload 4, 2), (37, .invokestatic 192, 3), (40, .invokestatic 196, 3), (43, .ifCond .eq 15, 3), (46, .aload_n 1, 1), (47, .aload_n 2, 1), (48, .invokestatic 199, 3), (51, .ifCond .eq 7, 3), (54, .iconst 1, 1), (55, .goto 4, 3), (58, .iconst 0, 1), (59, .istore_n 3, 1)],
  [(60, .iinc 4 1, 3), (63, .goto (-42), 3), (66, .iload_n 3, 1), (67, .ifCond .eq 33, 3), (70, .aload_n 1, 1), (71, .aload_n 2, 1), (72, .aload_n 0, 1), (73, .bipush 40, 2), (75, .invokestatic 192, 3), (78, .iconst 2, 1), (79, .invokestatic 40, 3), (82, .ifCond .ne 7, 3), (85, .iconst 1, 1), (86, .goto 4, 3), (89, .iconst 0, 1), (90, .invokestatic 202, 3)],
  [(93, .ifCond .eq 7, 3), (96, .iconst 1, 1), (97, .goto 4, 3), (100, .iconst 0, 1), (101, .ireturn, 1)]])
theorem tL_law : tabOK mL_law = true := by decide +kernel
