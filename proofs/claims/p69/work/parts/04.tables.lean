/-! ===== THE PROGRAM, as rows of the pure machine: printed by wip/p69/gen_tab.py out of the claim's texts ===== -/
/-- a class by its number: 0 .. 11 the program's, 12 the law's, 13 .. 15 Integer, Math, Arrays -/
def qOwn (o : Nat) : String := match o with
  | 0 => RX0
  | 1 => RX1
  | 2 => RX2
  | 3 => RX3
  | 4 => RX4
  | 5 => RX5
  | 6 => RX6
  | 7 => RX7
  | 8 => RX8
  | 9 => RX9
  | 10 => RX0
  | 11 => RX0
  | 12 => RL
  | 13 => RJ6
  | 14 => RJ9
  | _ => RJ7
set_option maxRecDepth 100000 in
noncomputable def rw_0 : List PRow := [
  (0, .aload_n 0, 1, 0, 0, 0), (1, .invokespecial 1, 3, 0, 1, 0), (4, .return_, 1, 0, 0, 0)]
set_option maxRecDepth 100000 in
noncomputable def rw_1 : List PRow := [
  (0, .aload_n 0, 1, 0, 0, 0), (1, .aconst_null, 1, 0, 0, 0), (2, .putfield 7, 3, 0, 0, 0), (5, .aload_n 0, 1, 0, 0, 0), (6, .iconst 0, 1, 0, 0, 0), (7, .putfield 13, 3, 0, 1, 1), (10, .aload_n 0, 1, 0, 0, 0), (11, .iconst 0, 1, 0, 0, 0),
  (12, .putfield 17, 3, 0, 2, 2), (15, .return_, 1, 0, 0, 0)]
set_option maxRecDepth 100000 in
noncomputable def rw_3 : List PRow := [
  (0, .aload_n 0, 1, 0, 0, 0), (1, .getfield 7, 3, 0, 0, 0), (4, .ifnonnull 7, 3, 5, 0, 0), (7, .iconst 0, 1, 0, 0, 0), (8, .goto 10, 3, 8, 0, 0), (11, .aload_n 0, 1, 0, 0, 0), (12, .getfield 7, 3, 0, 0, 0), (15, .getfield 21, 3, 5, 1, 3),
  (18, .ireturn, 1, 0, 0, 0)]
set_option maxRecDepth 100000 in
noncomputable def rw_4 : List PRow := [
  (0, .aload_n 0, 1, 0, 0, 0), (1, .getfield 7, 3, 0, 0, 0), (4, .ifnull 14, 3, 8, 0, 0), (7, .aload_n 0, 1, 0, 0, 0), (8, .getfield 13, 3, 0, 1, 1), (11, .ifCond .ne 7, 3, 8, 0, 0), (14, .iconst 1, 1, 0, 0, 0), (15, .goto 4, 3, 9, 0, 0),
  (18, .iconst 0, 1, 0, 0, 0), (19, .ireturn, 1, 0, 0, 0)]
set_option maxRecDepth 100000 in
noncomputable def rw_5 : List PRow := [
  (0, .aload_n 0, 1, 0, 0, 0), (1, .new 22, 3, 5, 0, 0), (4, .dup, 1, 0, 0, 0), (5, .iload_n 1, 1, 0, 0, 0), (6, .aload_n 0, 1, 0, 0, 0), (7, .invokevirtual 26, 3, 13, 0, 1), (10, .iconst 1, 1, 0, 0, 0), (11, .iadd, 1, 0, 0, 0),
  (12, .iload_n 2, 1, 0, 0, 0), (13, .iload_n 3, 1, 0, 0, 0), (14, .iload 4, 2, 0, 0, 0), (16, .iload 5, 2, 0, 0, 0), (18, .invokespecial 29, 3, 65, 1, 2), (21, .putfield 7, 3, 0, 0, 0), (24, .aload_n 0, 1, 0, 0, 0), (25, .iconst 0, 1, 0, 0, 0),
  (26, .putfield 13, 3, 0, 1, 1), (29, .aload_n 0, 1, 0, 0, 0), (30, .getfield 7, 3, 0, 0, 0), (33, .getfield 21, 3, 5, 1, 3), (36, .ireturn, 1, 0, 0, 0)]
set_option maxRecDepth 100000 in
noncomputable def rw_6 : List PRow := [
  (0, .aload_n 0, 1, 0, 0, 0), (1, .invokespecial 3, 3, 0, 1, 3), (4, .aload_n 0, 1, 0, 0, 0), (5, .bipush 7, 2, 0, 0, 0), (7, .anewarray 9, 3, 18, 0, 1), (10, .putfield 11, 3, 1, 0, 4), (13, .aload_n 0, 1, 0, 0, 0), (14, .iconst 4, 1, 0, 0, 0),
  (15, .anewarray 17, 3, 15, 0, 2), (18, .putfield 19, 3, 1, 1, 5), (21, .aload_n 0, 1, 0, 0, 0), (22, .new 23, 3, 4, 0, 3), (25, .dup, 1, 0, 0, 0), (26, .invokespecial 25, 3, 57, 1, 4), (29, .putfield 26, 3, 1, 2, 6), (32, .iconst 3, 1, 0, 0, 0),
  (33, .invokestatic 30, 3, 17, 0, 5), (36, .astore_n 1, 1, 0, 0, 0), (37, .iconst 0, 1, 0, 0, 0), (38, .istore_n 2, 1, 0, 0, 0), (39, .iload_n 2, 1, 0, 0, 0), (40, .bipush 7, 2, 0, 0, 0), (42, .if_icmp .ge 24, 3, 34, 0, 0), (45, .aload_n 0, 1, 0, 0, 0),
  (46, .getfield 11, 3, 1, 0, 4), (49, .iload_n 2, 1, 0, 0, 0), (50, .new 9, 3, 6, 0, 4), (53, .dup, 1, 0, 0, 0), (54, .iload_n 2, 1, 0, 0, 0), (55, .aload_n 1, 1, 0, 0, 0), (56, .invokespecial 34, 3, 66, 1, 6), (59, .aastore, 1, 0, 0, 0),
  (60, .iinc 2 1, 3, 0, 0, 0), (63, .goto (-24), 3, 20, 0, 0), (66, .iconst 0, 1, 0, 0, 0), (67, .istore_n 2, 1, 0, 0, 0), (68, .iload_n 2, 1, 0, 0, 0), (69, .iconst 4, 1, 0, 0, 0), (70, .if_icmp .ge 22, 3, 48, 0, 0), (73, .aload_n 0, 1, 0, 0, 0),
  (74, .getfield 19, 3, 1, 1, 5), (77, .iload_n 2, 1, 0, 0, 0), (78, .new 17, 3, 0, 0, 5), (81, .dup, 1, 0, 0, 0), (82, .invokespecial 37, 3, 10, 1, 7), (85, .aastore, 1, 0, 0, 0), (86, .iinc 2 1, 3, 0, 0, 0), (89, .goto (-21), 3, 36, 0, 0),
  (92, .return_, 1, 0, 0, 0)]
set_option maxRecDepth 100000 in
noncomputable def rw_7 : List PRow := [
  (0, .new 38, 3, 7, 0, 6), (3, .dup, 1, 0, 0, 0), (4, .iconst 0, 1, 0, 0, 0), (5, .iconst 0, 1, 0, 0, 0), (6, .iconst 1, 1, 0, 0, 0), (7, .iload_n 0, 1, 0, 0, 0), (8, .ishl, 1, 0, 0, 0), (9, .iconst 1, 1, 0, 0, 0),
  (10, .isub, 1, 0, 0, 0), (11, .aconst_null, 1, 0, 0, 0), (12, .invokespecial 40, 3, 100, 1, 8), (15, .areturn, 1, 0, 0, 0)]
set_option maxRecDepth 100000 in
noncomputable def rw_8 : List PRow := [
  (0, .iload_n 1, 1, 0, 0, 0), (1, .invokestatic 30, 3, 17, 0, 5), (4, .astore_n 2, 1, 0, 0, 0), (5, .aload_n 0, 1, 0, 0, 0), (6, .getfield 11, 3, 1, 0, 4), (9, .astore_n 3, 1, 0, 0, 0), (10, .aload_n 3, 1, 0, 0, 0), (11, .arraylength, 1, 0, 0, 0),
  (12, .istore 4, 2, 0, 0, 0), (14, .iconst 0, 1, 0, 0, 0), (15, .istore 5, 2, 0, 0, 0), (17, .iload 5, 2, 0, 0, 0), (19, .iload 4, 2, 0, 0, 0), (21, .if_icmp .ge 21, 3, 23, 0, 0), (24, .aload_n 3, 1, 0, 0, 0), (25, .iload 5, 2, 0, 0, 0),
  (27, .aaload, 1, 0, 0, 0), (28, .astore 6, 2, 0, 0, 0), (30, .aload 6, 2, 0, 0, 0), (32, .aload_n 2, 1, 0, 0, 0), (33, .invokevirtual 43, 3, 67, 0, 9), (36, .iinc 5 1, 3, 0, 0, 0), (39, .goto (-22), 3, 11, 0, 0), (42, .aload_n 0, 1, 0, 0, 0),
  (43, .getfield 19, 3, 1, 1, 5), (46, .astore_n 3, 1, 0, 0, 0), (47, .aload_n 3, 1, 0, 0, 0), (48, .arraylength, 1, 0, 0, 0), (49, .istore 4, 2, 0, 0, 0), (51, .iconst 0, 1, 0, 0, 0), (52, .istore 5, 2, 0, 0, 0), (54, .iload 5, 2, 0, 0, 0),
  (56, .iload 4, 2, 0, 0, 0), (58, .if_icmp .ge 20, 3, 42, 0, 0), (61, .aload_n 3, 1, 0, 0, 0), (62, .iload 5, 2, 0, 0, 0), (64, .aaload, 1, 0, 0, 0), (65, .astore 6, 2, 0, 0, 0), (67, .aload 6, 2, 0, 0, 0), (69, .invokevirtual 47, 3, 11, 0, 10),
  (72, .iinc 5 1, 3, 0, 0, 0), (75, .goto (-21), 3, 31, 0, 0), (78, .aload_n 0, 1, 0, 0, 0), (79, .getfield 26, 3, 1, 2, 6), (82, .invokevirtual 50, 3, 58, 0, 11), (85, .aload_n 0, 1, 0, 0, 0), (86, .iconst 0, 1, 0, 0, 0), (87, .putfield 53, 3, 1, 3, 7),
  (90, .return_, 1, 0, 0, 0)]
set_option maxRecDepth 100000 in
noncomputable def rw_10 : List PRow := [
  (0, .iconst 0, 1, 0, 0, 0), (1, .istore_n 1, 1, 0, 0, 0), (2, .aload_n 0, 1, 0, 0, 0), (3, .getfield 11, 3, 1, 0, 4), (6, .astore_n 2, 1, 0, 0, 0), (7, .aload_n 2, 1, 0, 0, 0), (8, .arraylength, 1, 0, 0, 0), (9, .istore_n 3, 1, 0, 0, 0),
  (10, .iconst 0, 1, 0, 0, 0), (11, .istore 4, 2, 0, 0, 0), (13, .iload 4, 2, 0, 0, 0), (15, .iload_n 3, 1, 0, 0, 0), (16, .if_icmp .ge 31, 3, 28, 0, 0), (19, .aload_n 2, 1, 0, 0, 0), (20, .iload 4, 2, 0, 0, 0), (22, .aaload, 1, 0, 0, 0),
  (23, .astore 5, 2, 0, 0, 0), (25, .iload_n 1, 1, 0, 0, 0), (26, .aload 5, 2, 0, 0, 0), (28, .getfield 67, 3, 6, 4, 8), (31, .ifCond .eq 7, 3, 23, 0, 0), (34, .iconst 1, 1, 0, 0, 0), (35, .goto 4, 3, 24, 0, 0), (38, .iconst 0, 1, 0, 0, 0),
  (39, .iadd, 1, 0, 0, 0), (40, .istore_n 1, 1, 0, 0, 0), (41, .iinc 4 1, 3, 0, 0, 0), (44, .goto (-31), 3, 10, 0, 0), (47, .iload_n 1, 1, 0, 0, 0), (48, .ireturn, 1, 0, 0, 0)]
set_option maxRecDepth 100000 in
noncomputable def rw_11 : List PRow := [
  (0, .iconst 0, 1, 0, 0, 0), (1, .istore_n 1, 1, 0, 0, 0), (2, .aload_n 0, 1, 0, 0, 0), (3, .getfield 11, 3, 1, 0, 4), (6, .astore_n 2, 1, 0, 0, 0), (7, .aload_n 2, 1, 0, 0, 0), (8, .arraylength, 1, 0, 0, 0), (9, .istore_n 3, 1, 0, 0, 0),
  (10, .iconst 0, 1, 0, 0, 0), (11, .istore 4, 2, 0, 0, 0), (13, .iload 4, 2, 0, 0, 0), (15, .iload_n 3, 1, 0, 0, 0), (16, .if_icmp .ge 32, 3, 29, 0, 0), (19, .aload_n 2, 1, 0, 0, 0), (20, .iload 4, 2, 0, 0, 0), (22, .aaload, 1, 0, 0, 0),
  (23, .astore 5, 2, 0, 0, 0), (25, .iload_n 1, 1, 0, 0, 0), (26, .aload 5, 2, 0, 0, 0), (28, .getfield 71, 3, 6, 12, 9), (31, .iconst 3, 1, 0, 0, 0), (32, .if_icmp .ne 7, 3, 24, 0, 0), (35, .iconst 1, 1, 0, 0, 0), (36, .goto 4, 3, 25, 0, 0),
  (39, .iconst 0, 1, 0, 0, 0), (40, .iadd, 1, 0, 0, 0), (41, .istore_n 1, 1, 0, 0, 0), (42, .iinc 4 1, 3, 0, 0, 0), (45, .goto (-32), 3, 10, 0, 0), (48, .iload_n 1, 1, 0, 0, 0), (49, .ireturn, 1, 0, 0, 0)]
set_option maxRecDepth 100000 in
noncomputable def rw_12 : List PRow := [
  (0, .aconst_null, 1, 0, 0, 0), (1, .astore_n 1, 1, 0, 0, 0), (2, .aload_n 0, 1, 0, 0, 0), (3, .getfield 11, 3, 1, 0, 4), (6, .astore_n 2, 1, 0, 0, 0), (7, .aload_n 2, 1, 0, 0, 0), (8, .arraylength, 1, 0, 0, 0), (9, .istore_n 3, 1, 0, 0, 0),
  (10, .iconst 0, 1, 0, 0, 0), (11, .istore 4, 2, 0, 0, 0), (13, .iload 4, 2, 0, 0, 0), (15, .iload_n 3, 1, 0, 0, 0), (16, .if_icmp .ge 43, 3, 32, 0, 0), (19, .aload_n 2, 1, 0, 0, 0), (20, .iload 4, 2, 0, 0, 0), (22, .aaload, 1, 0, 0, 0),
  (23, .astore 5, 2, 0, 0, 0), (25, .aload 5, 2, 0, 0, 0), (27, .getfield 71, 3, 6, 12, 9), (30, .iconst 3, 1, 0, 0, 0), (31, .if_icmp .ne 22, 3, 30, 0, 0), (34, .aload_n 1, 1, 0, 0, 0), (35, .ifnull 15, 3, 28, 0, 0), (38, .aload 5, 2, 0, 0, 0),
  (40, .getfield 74, 3, 6, 5, 10), (43, .aload_n 1, 1, 0, 0, 0), (44, .getfield 74, 3, 6, 5, 10), (47, .if_icmp .le 6, 3, 30, 0, 0), (50, .aload 5, 2, 0, 0, 0), (52, .astore_n 1, 1, 0, 0, 0), (53, .iinc 4 1, 3, 0, 0, 0), (56, .goto (-43), 3, 10, 0, 0),
  (59, .aload_n 1, 1, 0, 0, 0), (60, .areturn, 1, 0, 0, 0)]
set_option maxRecDepth 100000 in
noncomputable def rw_13 : List PRow := [
  (0, .iconst 0, 1, 0, 0, 0), (1, .istore 4, 2, 0, 0, 0), (3, .aload_n 0, 1, 0, 0, 0), (4, .getfield 11, 3, 1, 0, 4), (7, .astore 5, 2, 0, 0, 0), (9, .aload 5, 2, 0, 0, 0), (11, .arraylength, 1, 0, 0, 0), (12, .istore 6, 2, 0, 0, 0),
  (14, .iconst 0, 1, 0, 0, 0), (15, .istore 7, 2, 0, 0, 0), (17, .iload 7, 2, 0, 0, 0), (19, .iload 6, 2, 0, 0, 0), (21, .if_icmp .ge 53, 3, 35, 0, 0), (24, .aload 5, 2, 0, 0, 0), (26, .iload 7, 2, 0, 0, 0), (28, .aaload, 1, 0, 0, 0),
  (29, .astore 8, 2, 0, 0, 0), (31, .aload_n 1, 1, 0, 0, 0), (32, .aload 8, 2, 0, 0, 0), (34, .getfield 77, 3, 6, 0, 11), (37, .invokevirtual 80, 3, 76, 0, 12), (40, .ifCond .eq 28, 3, 33, 0, 0), (43, .aload 8, 2, 0, 0, 0), (45, .getfield 84, 3, 6, 9, 12),
  (48, .getfield 88, 3, 7, 0, 13), (51, .iload_n 2, 1, 0, 0, 0), (52, .if_icmp .ge 13, 3, 32, 0, 0), (55, .aload 8, 2, 0, 0, 0), (57, .iload_n 2, 1, 0, 0, 0), (58, .invokevirtual 91, 3, 75, 0, 13), (61, .iload_n 3, 1, 0, 0, 0), (62, .if_icmp .ne 6, 3, 33, 0, 0),
  (65, .iinc 4 1, 3, 0, 0, 0), (68, .iinc 7 1, 3, 0, 0, 0), (71, .goto (-54), 3, 10, 0, 0), (74, .iload 4, 2, 0, 0, 0), (76, .ireturn, 1, 0, 0, 0)]
set_option maxRecDepth 100000 in
noncomputable def rw_14 : List PRow := [
  (0, .aload_n 1, 1, 0, 0, 0), (1, .invokevirtual 95, 3, 73, 0, 14), (4, .istore_n 2, 1, 0, 0, 0), (5, .aload_n 1, 1, 0, 0, 0), (6, .invokevirtual 99, 3, 72, 0, 15), (9, .istore_n 3, 1, 0, 0, 0), (10, .iconst 0, 1, 0, 0, 0), (11, .istore 4, 2, 0, 0, 0),
  (13, .iconst 0, 1, 0, 0, 0), (14, .istore 5, 2, 0, 0, 0), (16, .aload_n 0, 1, 0, 0, 0), (17, .getfield 11, 3, 1, 0, 4), (20, .astore 6, 2, 0, 0, 0), (22, .aload 6, 2, 0, 0, 0), (24, .arraylength, 1, 0, 0, 0), (25, .istore 7, 2, 0, 0, 0),
  (27, .iconst 0, 1, 0, 0, 0), (28, .istore 8, 2, 0, 0, 0), (30, .iload 8, 2, 0, 0, 0), (32, .iload 7, 2, 0, 0, 0), (34, .if_icmp .ge 51, 3, 44, 0, 0), (37, .aload 6, 2, 0, 0, 0), (39, .iload 8, 2, 0, 0, 0), (41, .aaload, 1, 0, 0, 0),
  (42, .astore 9, 2, 0, 0, 0), (44, .aload_n 1, 1, 0, 0, 0), (45, .aload 9, 2, 0, 0, 0), (47, .getfield 77, 3, 6, 0, 11), (50, .invokevirtual 80, 3, 76, 0, 12), (53, .ifCond .eq 26, 3, 42, 0, 0), (56, .iinc 4 1, 3, 0, 0, 0), (59, .iload 5, 2, 0, 0, 0),
  (61, .aload 9, 2, 0, 0, 0), (63, .iload_n 2, 1, 0, 0, 0), (64, .iload_n 3, 1, 0, 0, 0), (65, .invokevirtual 102, 3, 82, 0, 16), (68, .ifCond .eq 7, 3, 39, 0, 0), (71, .iconst 1, 1, 0, 0, 0), (72, .goto 4, 3, 40, 0, 0), (75, .iconst 0, 1, 0, 0, 0),
  (76, .iadd, 1, 0, 0, 0), (77, .istore 5, 2, 0, 0, 0), (79, .iinc 8 1, 3, 0, 0, 0), (82, .goto (-52), 3, 18, 0, 0), (85, .iconst 2, 1, 0, 0, 0), (86, .iload 5, 2, 0, 0, 0), (88, .imul, 1, 0, 0, 0), (89, .iload 4, 2, 0, 0, 0),
  (91, .if_icmp .le 7, 3, 51, 0, 0), (94, .iconst 1, 1, 0, 0, 0), (95, .goto 4, 3, 52, 0, 0), (98, .iconst 0, 1, 0, 0, 0), (99, .ireturn, 1, 0, 0, 0)]
set_option maxRecDepth 100000 in
noncomputable def rw_21 : List PRow := [
  (0, .aload_n 0, 1, 0, 0, 0), (1, .getfield 11, 3, 1, 0, 4), (4, .astore_n 1, 1, 0, 0, 0), (5, .aload_n 1, 1, 0, 0, 0), (6, .arraylength, 1, 0, 0, 0), (7, .istore_n 2, 1, 0, 0, 0), (8, .iconst 0, 1, 0, 0, 0), (9, .istore_n 3, 1, 0, 0, 0),
  (10, .iload_n 3, 1, 0, 0, 0), (11, .iload_n 2, 1, 0, 0, 0), (12, .if_icmp .ge 113, 3, 63, 0, 0), (15, .aload_n 1, 1, 0, 0, 0), (16, .iload_n 3, 1, 0, 0, 0), (17, .aaload, 1, 0, 0, 0), (18, .astore 4, 2, 0, 0, 0), (20, .aload 4, 2, 0, 0, 0),
  (22, .getfield 67, 3, 6, 4, 8), (25, .ifCond .eq 43, 3, 38, 0, 0), (28, .aload 4, 2, 0, 0, 0), (30, .getfield 71, 3, 6, 12, 9), (33, .iconst 3, 1, 0, 0, 0), (34, .if_icmp .ne 34, 3, 38, 0, 0), (37, .aload 4, 2, 0, 0, 0), (39, .dup, 1, 0, 0, 0),
  (40, .getfield 146, 3, 6, 17, 14), (43, .iconst 1, 1, 0, 0, 0), (44, .iadd, 1, 0, 0, 0), (45, .putfield 146, 3, 6, 17, 14), (48, .aload 4, 2, 0, 0, 0), (50, .getfield 146, 3, 6, 17, 14), (53, .iconst 2, 1, 0, 0, 0), (54, .irem, 1, 0, 0, 0),
  (55, .ifCond .ne 64, 3, 61, 0, 0), (58, .aload_n 0, 1, 0, 0, 0), (59, .aload 4, 2, 0, 0, 0), (61, .invokevirtual 149, 3, 36, 0, 17), (64, .pop, 1, 0, 0, 0), (65, .goto 54, 3, 61, 0, 0), (68, .aload 4, 2, 0, 0, 0), (70, .getfield 67, 3, 6, 4, 8),
  (73, .ifCond .eq 46, 3, 61, 0, 0), (76, .aload 4, 2, 0, 0, 0), (78, .invokevirtual 153, 3, 77, 0, 18), (81, .ifCond .eq 38, 3, 61, 0, 0), (84, .aload 4, 2, 0, 0, 0), (86, .dup, 1, 0, 0, 0), (87, .getfield 156, 3, 6, 14, 15), (90, .iconst 1, 1, 0, 0, 0),
  (91, .iadd, 1, 0, 0, 0), (92, .putfield 156, 3, 6, 14, 15), (95, .aload_n 0, 1, 0, 0, 0), (96, .aload 4, 2, 0, 0, 0), (98, .aload 4, 2, 0, 0, 0), (100, .getfield 156, 3, 6, 14, 15), (103, .aload 4, 2, 0, 0, 0), (105, .invokevirtual 159, 3, 71, 0, 19),
  (108, .if_icmp .lt 7, 3, 59, 0, 0), (111, .iconst 1, 1, 0, 0, 0), (112, .goto 4, 3, 60, 0, 0), (115, .iconst 0, 1, 0, 0, 0), (116, .invokevirtual 162, 3, 32, 0, 20), (119, .iinc 3 1, 3, 0, 0, 0), (122, .goto (-112), 3, 8, 0, 0), (125, .aload_n 0, 1, 0, 0, 0),
  (126, .getfield 26, 3, 1, 2, 6), (129, .getfield 166, 3, 4, 3, 16), (132, .istore_n 1, 1, 0, 0, 0), (133, .iconst 0, 1, 0, 0, 0), (134, .istore_n 2, 1, 0, 0, 0), (135, .iload_n 2, 1, 0, 0, 0), (136, .iload_n 1, 1, 0, 0, 0), (137, .if_icmp .ge 15, 3, 78, 0, 0),
  (140, .aload_n 0, 1, 0, 0, 0), (141, .iconst 0, 1, 0, 0, 0), (142, .invokevirtual 169, 3, 40, 0, 21), (145, .pop, 1, 0, 0, 0), (146, .iinc 2 1, 3, 0, 0, 0), (149, .goto (-14), 3, 69, 0, 0), (152, .aload_n 0, 1, 0, 0, 0), (153, .dup, 1, 0, 0, 0),
  (154, .getfield 53, 3, 1, 3, 7), (157, .iconst 1, 1, 0, 0, 0), (158, .iadd, 1, 0, 0, 0), (159, .putfield 53, 3, 1, 3, 7), (162, .return_, 1, 0, 0, 0)]
set_option maxRecDepth 100000 in
noncomputable def rw_22 : List PRow := [
  (0, .iload_n 2, 1, 0, 0, 0), (1, .istore_n 3, 1, 0, 0, 0), (2, .iload_n 3, 1, 0, 0, 0), (3, .iconst 1, 1, 0, 0, 0), (4, .if_icmp .ne 9, 3, 9, 0, 0), (7, .aload_n 0, 1, 0, 0, 0), (8, .aload_n 1, 1, 0, 0, 0), (9, .invokevirtual 172, 3, 33, 0, 22),
  (12, .istore_n 3, 1, 0, 0, 0), (13, .iload_n 3, 1, 0, 0, 0), (14, .iconst 2, 1, 0, 0, 0), (15, .if_icmp .ne 9, 3, 16, 0, 0), (18, .aload_n 0, 1, 0, 0, 0), (19, .aload_n 1, 1, 0, 0, 0), (20, .invokevirtual 175, 3, 34, 0, 23), (23, .istore_n 3, 1, 0, 0, 0),
  (24, .iload_n 3, 1, 0, 0, 0), (25, .iconst 3, 1, 0, 0, 0), (26, .if_icmp .ne 18, 3, 28, 0, 0), (29, .aload_n 1, 1, 0, 0, 0), (30, .invokevirtual 178, 3, 98, 0, 24), (33, .aload_n 0, 1, 0, 0, 0), (34, .aload_n 1, 1, 0, 0, 0), (35, .invokevirtual 149, 3, 36, 0, 17),
  (38, .pop, 1, 0, 0, 0), (39, .aload_n 0, 1, 0, 0, 0), (40, .aload_n 1, 1, 0, 0, 0), (41, .invokevirtual 181, 3, 38, 0, 25), (44, .return_, 1, 0, 0, 0)]
set_option maxRecDepth 100000 in
noncomputable def rw_23 : List PRow := [
  (0, .aload_n 1, 1, 0, 0, 0), (1, .getfield 184, 3, 6, 8, 17), (4, .bipush 48, 2, 0, 0, 0), (6, .if_icmp .lt 10, 3, 9, 0, 0), (9, .aload_n 1, 1, 0, 0, 0), (10, .iconst 0, 1, 0, 0, 0), (11, .putfield 156, 3, 6, 14, 15), (14, .iconst 0, 1, 0, 0, 0),
  (15, .ireturn, 1, 0, 0, 0), (16, .aload_n 1, 1, 0, 0, 0), (17, .iconst 1, 1, 0, 0, 0), (18, .invokevirtual 185, 3, 97, 0, 26), (21, .aload_n 1, 1, 0, 0, 0), (22, .invokevirtual 189, 3, 78, 0, 27), (25, .ifCond .eq 5, 3, 17, 0, 0), (28, .iconst 2, 1, 0, 0, 0),
  (29, .ireturn, 1, 0, 0, 0), (30, .aload_n 0, 1, 0, 0, 0), (31, .aload_n 1, 1, 0, 0, 0), (32, .iconst 1, 1, 0, 0, 0), (33, .aload_n 1, 1, 0, 0, 0), (34, .getfield 74, 3, 6, 5, 10), (37, .iconst 1, 1, 0, 0, 0), (38, .iadd, 1, 0, 0, 0),
  (39, .invokevirtual 192, 3, 35, 0, 28), (42, .iconst 0, 1, 0, 0, 0), (43, .ireturn, 1, 0, 0, 0)]
set_option maxRecDepth 100000 in
noncomputable def rw_24 : List PRow := [
  (0, .aload_n 1, 1, 0, 0, 0), (1, .dup, 1, 0, 0, 0), (2, .getfield 74, 3, 6, 5, 10), (5, .iconst 1, 1, 0, 0, 0), (6, .iadd, 1, 0, 0, 0), (7, .putfield 74, 3, 6, 5, 10), (10, .aload_n 1, 1, 0, 0, 0), (11, .iconst 2, 1, 0, 0, 0),
  (12, .invokevirtual 185, 3, 97, 0, 26), (15, .aload_n 1, 1, 0, 0, 0), (16, .aload_n 1, 1, 0, 0, 0), (17, .getfield 77, 3, 6, 0, 11), (20, .putfield 196, 3, 6, 6, 18), (23, .aload_n 1, 1, 0, 0, 0), (24, .invokevirtual 189, 3, 78, 0, 27), (27, .ifCond .eq 5, 3, 18, 0, 0),
  (30, .iconst 3, 1, 0, 0, 0), (31, .ireturn, 1, 0, 0, 0), (32, .aload_n 0, 1, 0, 0, 0), (33, .aload_n 1, 1, 0, 0, 0), (34, .iconst 3, 1, 0, 0, 0), (35, .aload_n 1, 1, 0, 0, 0), (36, .getfield 74, 3, 6, 5, 10), (39, .invokevirtual 192, 3, 35, 0, 28),
  (42, .iconst 0, 1, 0, 0, 0), (43, .ireturn, 1, 0, 0, 0)]
set_option maxRecDepth 100000 in
noncomputable def rw_25 : List PRow := [
  (0, .iconst 0, 1, 0, 0, 0), (1, .istore 4, 2, 0, 0, 0), (3, .iload 4, 2, 0, 0, 0), (5, .bipush 7, 2, 0, 0, 0), (7, .if_icmp .ge 70, 3, 35, 0, 0), (10, .iload 4, 2, 0, 0, 0), (12, .aload_n 1, 1, 0, 0, 0), (13, .getfield 77, 3, 6, 0, 11),
  (16, .if_icmp .eq 55, 3, 33, 0, 0), (19, .aload_n 1, 1, 0, 0, 0), (20, .iload 4, 2, 0, 0, 0), (22, .invokevirtual 80, 3, 76, 0, 12), (25, .ifCond .ne 6, 3, 14, 0, 0), (28, .goto 43, 3, 33, 0, 0), (31, .aload_n 0, 1, 0, 0, 0), (32, .getfield 26, 3, 1, 2, 6),
  (35, .iload_n 2, 1, 0, 0, 0), (36, .aload_n 1, 1, 0, 0, 0), (37, .getfield 77, 3, 6, 0, 11), (40, .iload 4, 2, 0, 0, 0), (42, .iload_n 3, 1, 0, 0, 0), (43, .invokevirtual 199, 3, 62, 0, 29), (46, .astore 5, 2, 0, 0, 0), (48, .aload 5, 2, 0, 0, 0),
  (50, .ifnull 21, 3, 33, 0, 0), (53, .aload 5, 2, 0, 0, 0), (55, .aload_n 1, 1, 0, 0, 0), (56, .invokevirtual 99, 3, 72, 0, 15), (59, .putfield 203, 3, 3, 6, 19), (62, .aload 5, 2, 0, 0, 0), (64, .aload_n 1, 1, 0, 0, 0), (65, .invokevirtual 95, 3, 73, 0, 14),
  (68, .putfield 206, 3, 3, 7, 20), (71, .iinc 4 1, 3, 0, 0, 0), (74, .goto (-71), 3, 2, 0, 0), (77, .return_, 1, 0, 0, 0)]
set_option maxRecDepth 100000 in
noncomputable def rw_26 : List PRow := [
  (0, .iconst 0, 1, 0, 0, 0), (1, .istore_n 2, 1, 0, 0, 0), (2, .iconst 0, 1, 0, 0, 0), (3, .istore_n 3, 1, 0, 0, 0), (4, .iload_n 3, 1, 0, 0, 0), (5, .bipush 7, 2, 0, 0, 0), (7, .if_icmp .ge 34, 3, 22, 0, 0), (10, .iload_n 3, 1, 0, 0, 0),
  (11, .aload_n 1, 1, 0, 0, 0), (12, .getfield 77, 3, 6, 0, 11), (15, .if_icmp .eq 20, 3, 20, 0, 0), (18, .aload_n 1, 1, 0, 0, 0), (19, .iload_n 3, 1, 0, 0, 0), (20, .invokevirtual 80, 3, 76, 0, 12), (23, .ifCond .eq 12, 3, 20, 0, 0), (26, .aload_n 0, 1, 0, 0, 0),
  (27, .aload_n 1, 1, 0, 0, 0), (28, .iload_n 3, 1, 0, 0, 0), (29, .invokevirtual 209, 3, 37, 0, 30), (32, .iinc 2 1, 3, 0, 0, 0), (35, .iinc 3 1, 3, 0, 0, 0), (38, .goto (-34), 3, 4, 0, 0), (41, .iload_n 2, 1, 0, 0, 0), (42, .ireturn, 1, 0, 0, 0)]
set_option maxRecDepth 100000 in
noncomputable def rw_27 : List PRow := [
  (0, .aload_n 1, 1, 0, 0, 0), (1, .getfield 212, 3, 6, 2, 21), (4, .iload_n 2, 1, 0, 0, 0), (5, .iaload, 1, 0, 0, 0), (6, .istore_n 3, 1, 0, 0, 0), (7, .iload_n 3, 1, 0, 0, 0), (8, .aload_n 1, 1, 0, 0, 0), (9, .getfield 84, 3, 6, 9, 12),
  (12, .getfield 88, 3, 7, 0, 13), (15, .if_icmp .gt 7, 3, 12, 0, 0), (18, .iconst 1, 1, 0, 0, 0), (19, .goto 4, 3, 13, 0, 0), (22, .iconst 0, 1, 0, 0, 0), (23, .istore 4, 2, 0, 0, 0), (25, .aload_n 0, 1, 0, 0, 0), (26, .getfield 26, 3, 1, 2, 6),
  (29, .iload 4, 2, 0, 0, 0), (31, .ifCond .eq 8, 3, 20, 0, 0), (34, .bipush 7, 2, 0, 0, 0), (36, .goto 4, 3, 21, 0, 0), (39, .iconst 5, 1, 0, 0, 0), (40, .aload_n 1, 1, 0, 0, 0), (41, .getfield 77, 3, 6, 0, 11), (44, .iload_n 2, 1, 0, 0, 0),
  (45, .aload_n 1, 1, 0, 0, 0), (46, .getfield 74, 3, 6, 5, 10), (49, .invokevirtual 199, 3, 62, 0, 29), (52, .astore 5, 2, 0, 0, 0), (54, .aload 5, 2, 0, 0, 0), (56, .ifnonnull 4, 3, 31, 0, 0), (59, .return_, 1, 0, 0, 0), (60, .iload 4, 2, 0, 0, 0),
  (62, .ifCond .eq 25, 3, 43, 0, 0), (65, .aload 5, 2, 0, 0, 0), (67, .aload_n 1, 1, 0, 0, 0), (68, .getfield 84, 3, 6, 9, 12), (71, .getfield 88, 3, 7, 0, 13), (74, .putfield 203, 3, 3, 6, 19), (77, .aload 5, 2, 0, 0, 0), (79, .aload_n 1, 1, 0, 0, 0),
  (80, .getfield 84, 3, 6, 9, 12), (83, .putfield 215, 3, 3, 10, 22), (86, .return_, 1, 0, 0, 0), (87, .aload 5, 2, 0, 0, 0), (89, .iload_n 3, 1, 0, 0, 0), (90, .iconst 1, 1, 0, 0, 0), (91, .isub, 1, 0, 0, 0), (92, .putfield 203, 3, 3, 6, 19),
  (95, .aload 5, 2, 0, 0, 0), (97, .aload_n 1, 1, 0, 0, 0), (98, .iload_n 3, 1, 0, 0, 0), (99, .iconst 1, 1, 0, 0, 0), (100, .isub, 1, 0, 0, 0), (101, .invokevirtual 91, 3, 75, 0, 13), (104, .putfield 206, 3, 3, 7, 20), (107, .aload 5, 2, 0, 0, 0),
  (109, .aload_n 1, 1, 0, 0, 0), (110, .getfield 143, 3, 6, 15, 23), (113, .putfield 216, 3, 3, 8, 24), (116, .iload_n 3, 1, 0, 0, 0), (117, .istore 6, 2, 0, 0, 0), (119, .iload 6, 2, 0, 0, 0), (121, .aload_n 1, 1, 0, 0, 0), (122, .invokevirtual 99, 3, 72, 0, 15),
  (125, .if_icmp .gt 46, 3, 85, 0, 0), (128, .aload 5, 2, 0, 0, 0), (130, .getfield 217, 3, 3, 9, 25), (133, .iconst 4, 1, 0, 0, 0), (134, .if_icmp .ge 37, 3, 85, 0, 0), (137, .aload 5, 2, 0, 0, 0), (139, .getfield 218, 3, 3, 0, 26), (142, .aload 5, 2, 0, 0, 0),
  (144, .getfield 217, 3, 3, 9, 25), (147, .aload_n 1, 1, 0, 0, 0), (148, .iload 6, 2, 0, 0, 0), (150, .invokevirtual 222, 3, 74, 0, 31), (153, .aastore, 1, 0, 0, 0), (154, .aload 5, 2, 0, 0, 0), (156, .dup, 1, 0, 0, 0), (157, .getfield 217, 3, 3, 9, 25),
  (160, .iconst 1, 1, 0, 0, 0), (161, .iadd, 1, 0, 0, 0), (162, .putfield 217, 3, 3, 9, 25), (165, .iinc 6 1, 3, 0, 0, 0), (168, .goto (-49), 3, 61, 0, 0), (171, .return_, 1, 0, 0, 0)]
set_option maxRecDepth 100000 in
noncomputable def rw_28 : List PRow := [
  (0, .aload_n 1, 1, 0, 0, 0), (1, .invokevirtual 99, 3, 72, 0, 15), (4, .istore_n 2, 1, 0, 0, 0), (5, .iload_n 2, 1, 0, 0, 0), (6, .aload_n 1, 1, 0, 0, 0), (7, .getfield 143, 3, 6, 15, 23), (10, .if_icmp .le 38, 3, 24, 0, 0), (13, .aload_n 1, 1, 0, 0, 0),
  (14, .iload_n 2, 1, 0, 0, 0), (15, .invokevirtual 91, 3, 75, 0, 13), (18, .aload_n 1, 1, 0, 0, 0), (19, .getfield 74, 3, 6, 5, 10), (22, .if_icmp .ne 20, 3, 22, 0, 0), (25, .aload_n 1, 1, 0, 0, 0), (26, .iload_n 2, 1, 0, 0, 0), (27, .invokevirtual 226, 3, 79, 0, 32),
  (30, .ifCond .eq 12, 3, 22, 0, 0), (33, .aload_n 0, 1, 0, 0, 0), (34, .aload_n 1, 1, 0, 0, 0), (35, .iload_n 2, 1, 0, 0, 0), (36, .invokevirtual 229, 3, 39, 0, 33), (39, .goto 9, 3, 24, 0, 0), (42, .iinc 2 (-1), 3, 0, 0, 0), (45, .goto (-40), 3, 3, 0, 0),
  (48, .aload_n 1, 1, 0, 0, 0), (49, .invokevirtual 153, 3, 77, 0, 18), (52, .ifCond .ne 32, 3, 42, 0, 0), (55, .aload_n 1, 1, 0, 0, 0), (56, .getfield 232, 3, 6, 11, 27), (59, .iconst (-1), 1, 0, 0, 0), (60, .if_icmp .eq 24, 3, 42, 0, 0), (63, .aload_n 1, 1, 0, 0, 0),
  (64, .getfield 232, 3, 6, 11, 27), (67, .aload_n 1, 1, 0, 0, 0), (68, .getfield 143, 3, 6, 15, 23), (71, .if_icmp .gt 13, 3, 42, 0, 0), (74, .aload_n 1, 1, 0, 0, 0), (75, .iconst 0, 1, 0, 0, 0), (76, .putfield 71, 3, 6, 12, 9), (79, .aload_n 1, 1, 0, 0, 0),
  (80, .iconst (-1), 1, 0, 0, 0), (81, .putfield 136, 3, 6, 13, 28), (84, .return_, 1, 0, 0, 0)]
set_option maxRecDepth 100000 in
noncomputable def rw_29 : List PRow := [
  (0, .aload_n 1, 1, 0, 0, 0), (1, .getfield 143, 3, 6, 15, 23), (4, .iload_n 2, 1, 0, 0, 0), (5, .if_icmp .ge 113, 3, 56, 0, 0), (8, .aload_n 1, 1, 0, 0, 0), (9, .dup, 1, 0, 0, 0), (10, .getfield 143, 3, 6, 15, 23), (13, .iconst 1, 1, 0, 0, 0),
  (14, .iadd, 1, 0, 0, 0), (15, .putfield 143, 3, 6, 15, 23), (18, .aload_n 1, 1, 0, 0, 0), (19, .aload_n 1, 1, 0, 0, 0), (20, .getfield 143, 3, 6, 15, 23), (23, .invokevirtual 222, 3, 74, 0, 31), (26, .astore_n 3, 1, 0, 0, 0), (27, .aload_n 3, 1, 0, 0, 0),
  (28, .ifnonnull 7, 3, 19, 0, 0), (31, .aconst_null, 1, 0, 0, 0), (32, .goto 7, 3, 21, 0, 0), (35, .aload_n 3, 1, 0, 0, 0), (36, .getfield 235, 3, 2, 2, 29), (39, .astore 4, 2, 0, 0, 0), (41, .aload 4, 2, 0, 0, 0), (43, .ifnonnull 6, 3, 25, 0, 0),
  (46, .goto (-46), 3, 0, 0, 0), (49, .aload_n 1, 1, 0, 0, 0), (50, .getfield 109, 3, 6, 1, 30), (53, .aload 4, 2, 0, 0, 0), (55, .invokevirtual 241, 3, 103, 0, 34), (58, .aload_n 0, 1, 0, 0, 0), (59, .getfield 19, 3, 1, 1, 5), (62, .aload 4, 2, 0, 0, 0),
  (64, .getfield 245, 3, 5, 0, 31), (67, .aaload, 1, 0, 0, 0), (68, .astore 5, 2, 0, 0, 0), (70, .aload_n 1, 1, 0, 0, 0), (71, .getfield 71, 3, 6, 12, 9), (74, .iconst 3, 1, 0, 0, 0), (75, .if_icmp .ne 40, 3, 55, 0, 0), (78, .aload 5, 2, 0, 0, 0),
  (80, .invokevirtual 250, 3, 13, 0, 35), (83, .aload 4, 2, 0, 0, 0), (85, .getfield 253, 3, 5, 1, 32), (88, .if_icmp .ne 27, 3, 55, 0, 0), (91, .aload 5, 2, 0, 0, 0), (93, .iconst 1, 1, 0, 0, 0), (94, .putfield 255, 3, 0, 1, 33), (97, .aload 5, 2, 0, 0, 0),
  (99, .aload_n 1, 1, 0, 0, 0), (100, .getfield 109, 3, 6, 1, 30), (103, .getfield 258, 3, 8, 2, 34), (106, .aload 4, 2, 0, 0, 0), (108, .getfield 245, 3, 5, 0, 31), (111, .iaload, 1, 0, 0, 0), (112, .putfield 261, 3, 0, 2, 35), (115, .goto (-115), 3, 0, 0, 0),
  (118, .return_, 1, 0, 0, 0)]
set_option maxRecDepth 100000 in
noncomputable def rw_30 : List PRow := [
  (0, .iload_n 1, 1, 0, 0, 0), (1, .ifCond .lt 14, 3, 7, 0, 0), (4, .iload_n 1, 1, 0, 0, 0), (5, .aload_n 0, 1, 0, 0, 0), (6, .getfield 26, 3, 1, 2, 6), (9, .getfield 166, 3, 4, 3, 16), (12, .if_icmp .lt 5, 3, 9, 0, 0), (15, .iconst 0, 1, 0, 0, 0),
  (16, .ireturn, 1, 0, 0, 0), (17, .aload_n 0, 1, 0, 0, 0), (18, .getfield 26, 3, 1, 2, 6), (21, .iload_n 1, 1, 0, 0, 0), (22, .invokevirtual 264, 3, 64, 0, 36), (25, .astore_n 2, 1, 0, 0, 0), (26, .aload_n 0, 1, 0, 0, 0), (27, .getfield 11, 3, 1, 0, 4),
  (30, .aload_n 2, 1, 0, 0, 0), (31, .getfield 268, 3, 3, 3, 36), (34, .aaload, 1, 0, 0, 0), (35, .astore_n 3, 1, 0, 0, 0), (36, .aload_n 3, 1, 0, 0, 0), (37, .getfield 67, 3, 6, 4, 8), (40, .ifCond .eq 21, 3, 31, 0, 0), (43, .aload_n 0, 1, 0, 0, 0),
  (44, .getfield 26, 3, 1, 2, 6), (47, .aload_n 2, 1, 0, 0, 0), (48, .getfield 271, 3, 3, 2, 37), (51, .aload_n 2, 1, 0, 0, 0), (52, .getfield 268, 3, 3, 3, 36), (55, .invokevirtual 274, 3, 60, 0, 37), (58, .ifCond .eq 18, 3, 40, 0, 0), (61, .aload_n 0, 1, 0, 0, 0),
  (62, .getfield 26, 3, 1, 2, 6), (65, .dup, 1, 0, 0, 0), (66, .getfield 277, 3, 4, 5, 38), (69, .iconst 1, 1, 0, 0, 0), (70, .iadd, 1, 0, 0, 0), (71, .putfield 277, 3, 4, 5, 38), (74, .iconst 0, 1, 0, 0, 0), (75, .ireturn, 1, 0, 0, 0),
  (76, .aload_n 2, 1, 0, 0, 0), (77, .getfield 280, 3, 3, 4, 39), (80, .aload_n 3, 1, 0, 0, 0), (81, .getfield 74, 3, 6, 5, 10), (84, .if_icmp .le 18, 3, 52, 0, 0), (87, .aload_n 2, 1, 0, 0, 0), (88, .invokevirtual 281, 3, 56, 0, 38), (91, .ifCond .eq 11, 3, 52, 0, 0),
  (94, .aload_n 3, 1, 0, 0, 0), (95, .aload_n 2, 1, 0, 0, 0), (96, .getfield 280, 3, 3, 4, 39), (99, .invokevirtual 284, 3, 95, 0, 39), (102, .iconst 0, 1, 0, 0, 0), (103, .istore 4, 2, 0, 0, 0), (105, .aload_n 2, 1, 0, 0, 0), (106, .getfield 287, 3, 3, 1, 40),
  (109, .tableswitch 138 1 7 #[43, 52, 78, 87, 111, 120, 129], 43, 0, 0, 0), (152, .aload_n 0, 1, 0, 0, 0), (153, .aload_n 3, 1, 0, 0, 0), (154, .aload_n 2, 1, 0, 0, 0), (155, .invokevirtual 290, 3, 42, 0, 40), (158, .goto 105, 3, 119, 0, 0), (161, .aload_n 0, 1, 0, 0, 0), (162, .aload_n 3, 1, 0, 0, 0),
  (163, .aload_n 2, 1, 0, 0, 0), (164, .iconst 1, 1, 0, 0, 0), (165, .aload_n 3, 1, 0, 0, 0), (166, .getfield 74, 3, 6, 5, 10), (169, .iconst 1, 1, 0, 0, 0), (170, .iadd, 1, 0, 0, 0), (171, .invokevirtual 294, 3, 44, 0, 41), (174, .ifCond .eq 7, 3, 74, 0, 0),
  (177, .iconst 2, 1, 0, 0, 0), (178, .goto 4, 3, 75, 0, 0), (181, .iconst 0, 1, 0, 0, 0), (182, .istore 4, 2, 0, 0, 0), (184, .goto 79, 3, 119, 0, 0), (187, .aload_n 0, 1, 0, 0, 0), (188, .aload_n 3, 1, 0, 0, 0), (189, .aload_n 2, 1, 0, 0, 0),
  (190, .invokevirtual 298, 3, 43, 0, 42), (193, .goto 70, 3, 119, 0, 0), (196, .aload_n 0, 1, 0, 0, 0), (197, .aload_n 3, 1, 0, 0, 0), (198, .aload_n 2, 1, 0, 0, 0), (199, .iconst 2, 1, 0, 0, 0), (200, .aload_n 3, 1, 0, 0, 0), (201, .getfield 74, 3, 6, 5, 10),
  (204, .invokevirtual 294, 3, 44, 0, 41), (207, .ifCond .eq 7, 3, 92, 0, 0), (210, .iconst 3, 1, 0, 0, 0), (211, .goto 4, 3, 93, 0, 0), (214, .iconst 0, 1, 0, 0, 0), (215, .istore 4, 2, 0, 0, 0), (217, .goto 46, 3, 119, 0, 0), (220, .aload_n 0, 1, 0, 0, 0),
  (221, .aload_n 3, 1, 0, 0, 0), (222, .aload_n 2, 1, 0, 0, 0), (223, .invokevirtual 301, 3, 45, 0, 43), (226, .goto 37, 3, 119, 0, 0), (229, .aload_n 0, 1, 0, 0, 0), (230, .aload_n 3, 1, 0, 0, 0), (231, .aload_n 2, 1, 0, 0, 0), (232, .invokevirtual 304, 3, 47, 0, 44),
  (235, .goto 28, 3, 119, 0, 0), (238, .aload_n 0, 1, 0, 0, 0), (239, .aload_n 3, 1, 0, 0, 0), (240, .aload_n 2, 1, 0, 0, 0), (241, .invokevirtual 307, 3, 46, 0, 45), (244, .goto 19, 3, 119, 0, 0), (247, .aload_n 0, 1, 0, 0, 0), (248, .aload_n 3, 1, 0, 0, 0),
  (249, .aload_n 2, 1, 0, 0, 0), (250, .invokevirtual 310, 3, 48, 0, 46), (253, .ifCond .eq 7, 3, 117, 0, 0), (256, .iconst 2, 1, 0, 0, 0), (257, .goto 4, 3, 118, 0, 0), (260, .iconst 0, 1, 0, 0, 0), (261, .istore 4, 2, 0, 0, 0), (263, .aload_n 0, 1, 0, 0, 0),
  (264, .aload_n 3, 1, 0, 0, 0), (265, .iload 4, 2, 0, 0, 0), (267, .invokevirtual 162, 3, 32, 0, 20), (270, .iconst 1, 1, 0, 0, 0), (271, .ireturn, 1, 0, 0, 0)]
set_option maxRecDepth 100000 in
noncomputable def rw_31 : List PRow := [
  (0, .aload_n 0, 1, 0, 0, 0), (1, .getfield 26, 3, 1, 2, 6), (4, .iload_n 1, 1, 0, 0, 0), (5, .aload_n 2, 1, 0, 0, 0), (6, .getfield 268, 3, 3, 3, 36), (9, .aload_n 2, 1, 0, 0, 0), (10, .getfield 271, 3, 3, 2, 37), (13, .iload_n 3, 1, 0, 0, 0),
  (14, .invokevirtual 199, 3, 62, 0, 29), (17, .astore 6, 2, 0, 0, 0), (19, .aload 6, 2, 0, 0, 0), (21, .ifnull 17, 3, 18, 0, 0), (24, .aload 6, 2, 0, 0, 0), (26, .iload 4, 2, 0, 0, 0), (28, .putfield 314, 3, 3, 5, 41), (31, .aload 6, 2, 0, 0, 0),
  (33, .iload 5, 2, 0, 0, 0), (35, .putfield 203, 3, 3, 6, 19), (38, .return_, 1, 0, 0, 0)]
set_option maxRecDepth 100000 in
noncomputable def rw_32 : List PRow := [
  (0, .aload_n 1, 1, 0, 0, 0), (1, .getfield 136, 3, 6, 13, 28), (4, .iconst (-1), 1, 0, 0, 0), (5, .if_icmp .eq 11, 3, 8, 0, 0), (8, .aload_n 1, 1, 0, 0, 0), (9, .getfield 156, 3, 6, 14, 15), (12, .iconst 4, 1, 0, 0, 0), (13, .if_icmp .lt 7, 3, 10, 0, 0),
  (16, .iconst 1, 1, 0, 0, 0), (17, .goto 4, 3, 11, 0, 0), (20, .iconst 0, 1, 0, 0, 0), (21, .istore_n 3, 1, 0, 0, 0), (22, .aload_n 2, 1, 0, 0, 0), (23, .getfield 280, 3, 3, 4, 39), (26, .aload_n 1, 1, 0, 0, 0), (27, .getfield 74, 3, 6, 5, 10),
  (30, .if_icmp .le 34, 3, 32, 0, 0), (33, .aload_n 1, 1, 0, 0, 0), (34, .aload_n 2, 1, 0, 0, 0), (35, .getfield 206, 3, 3, 7, 20), (38, .aload_n 2, 1, 0, 0, 0), (39, .getfield 203, 3, 3, 6, 19), (42, .invokevirtual 102, 3, 82, 0, 16), (45, .ifCond .eq 19, 3, 32, 0, 0),
  (48, .aload_n 1, 1, 0, 0, 0), (49, .getfield 71, 3, 6, 12, 9), (52, .iconst 3, 1, 0, 0, 0), (53, .if_icmp .eq 11, 3, 32, 0, 0), (56, .iload_n 3, 1, 0, 0, 0), (57, .ifCond .eq 7, 3, 32, 0, 0), (60, .iconst 1, 1, 0, 0, 0), (61, .goto 4, 3, 33, 0, 0),
  (64, .iconst 0, 1, 0, 0, 0), (65, .istore 4, 2, 0, 0, 0), (67, .aload_n 0, 1, 0, 0, 0), (68, .iconst 2, 1, 0, 0, 0), (69, .aload_n 2, 1, 0, 0, 0), (70, .iload 4, 2, 0, 0, 0), (72, .ifCond .eq 10, 3, 42, 0, 0), (75, .aload_n 2, 1, 0, 0, 0),
  (76, .getfield 280, 3, 3, 4, 39), (79, .goto 7, 3, 44, 0, 0), (82, .aload_n 1, 1, 0, 0, 0), (83, .getfield 74, 3, 6, 5, 10), (86, .iload 4, 2, 0, 0, 0), (88, .iconst 0, 1, 0, 0, 0), (89, .invokevirtual 317, 3, 41, 0, 47), (92, .return_, 1, 0, 0, 0)]
set_option maxRecDepth 100000 in
noncomputable def rw_33 : List PRow := [
  (0, .aload_n 1, 1, 0, 0, 0), (1, .getfield 196, 3, 6, 6, 18), (4, .iconst (-1), 1, 0, 0, 0), (5, .if_icmp .eq 14, 3, 9, 0, 0), (8, .aload_n 1, 1, 0, 0, 0), (9, .getfield 196, 3, 6, 6, 18), (12, .aload_n 2, 1, 0, 0, 0), (13, .getfield 271, 3, 3, 2, 37),
  (16, .if_icmp .ne 7, 3, 11, 0, 0), (19, .iconst 1, 1, 0, 0, 0), (20, .goto 4, 3, 12, 0, 0), (23, .iconst 0, 1, 0, 0, 0), (24, .istore_n 3, 1, 0, 0, 0), (25, .aload_n 2, 1, 0, 0, 0), (26, .getfield 280, 3, 3, 4, 39), (29, .aload_n 1, 1, 0, 0, 0),
  (30, .getfield 74, 3, 6, 5, 10), (33, .if_icmp .ne 26, 3, 29, 0, 0), (36, .iload_n 3, 1, 0, 0, 0), (37, .ifCond .eq 22, 3, 29, 0, 0), (40, .aload_n 1, 1, 0, 0, 0), (41, .aload_n 2, 1, 0, 0, 0), (42, .getfield 206, 3, 3, 7, 20), (45, .aload_n 2, 1, 0, 0, 0),
  (46, .getfield 203, 3, 3, 6, 19), (49, .invokevirtual 102, 3, 82, 0, 16), (52, .ifCond .eq 7, 3, 29, 0, 0), (55, .iconst 1, 1, 0, 0, 0), (56, .goto 4, 3, 30, 0, 0), (59, .iconst 0, 1, 0, 0, 0), (60, .istore 4, 2, 0, 0, 0), (62, .iload 4, 2, 0, 0, 0),
  (64, .ifCond .eq 16, 3, 40, 0, 0), (67, .aload_n 1, 1, 0, 0, 0), (68, .aload_n 2, 1, 0, 0, 0), (69, .getfield 271, 3, 3, 2, 37), (72, .putfield 196, 3, 6, 6, 18), (75, .aload_n 1, 1, 0, 0, 0), (76, .iconst 0, 1, 0, 0, 0), (77, .putfield 156, 3, 6, 14, 15),
  (80, .aload_n 0, 1, 0, 0, 0), (81, .iconst 4, 1, 0, 0, 0), (82, .aload_n 2, 1, 0, 0, 0), (83, .aload_n 1, 1, 0, 0, 0), (84, .getfield 74, 3, 6, 5, 10), (87, .iload 4, 2, 0, 0, 0), (89, .iconst 0, 1, 0, 0, 0), (90, .invokevirtual 317, 3, 41, 0, 47),
  (93, .return_, 1, 0, 0, 0)]
set_option maxRecDepth 100000 in
noncomputable def rw_34 : List PRow := [
  (0, .aload_n 2, 1, 0, 0, 0), (1, .getfield 314, 3, 3, 5, 41), (4, .ifCond .eq 20, 3, 11, 0, 0), (7, .aload_n 1, 1, 0, 0, 0), (8, .getfield 71, 3, 6, 12, 9), (11, .iload_n 3, 1, 0, 0, 0), (12, .if_icmp .ne 12, 3, 11, 0, 0), (15, .aload_n 2, 1, 0, 0, 0),
  (16, .getfield 280, 3, 3, 4, 39), (19, .iload 4, 2, 0, 0, 0), (21, .if_icmp .eq 5, 3, 13, 0, 0), (24, .iconst 0, 1, 0, 0, 0), (25, .ireturn, 1, 0, 0, 0), (26, .aload_n 1, 1, 0, 0, 0), (27, .dup, 1, 0, 0, 0), (28, .getfield 321, 3, 6, 16, 42),
  (31, .iconst 1, 1, 0, 0, 0), (32, .aload_n 2, 1, 0, 0, 0), (33, .getfield 271, 3, 3, 2, 37), (36, .ishl, 1, 0, 0, 0), (37, .ior, 1, 0, 0, 0), (38, .putfield 321, 3, 6, 16, 42), (41, .aload_n 1, 1, 0, 0, 0), (42, .invokevirtual 189, 3, 78, 0, 27),
  (45, .ireturn, 1, 0, 0, 0)]
set_option maxRecDepth 100000 in
noncomputable def rw_35 : List PRow := [
  (0, .aload_n 2, 1, 0, 0, 0), (1, .getfield 280, 3, 3, 4, 39), (4, .aload_n 1, 1, 0, 0, 0), (5, .getfield 74, 3, 6, 5, 10), (8, .if_icmp .ge 17, 3, 14, 0, 0), (11, .aload_n 0, 1, 0, 0, 0), (12, .bipush 6, 2, 0, 0, 0), (14, .aload_n 2, 1, 0, 0, 0),
  (15, .aload_n 1, 1, 0, 0, 0), (16, .getfield 74, 3, 6, 5, 10), (19, .iconst 0, 1, 0, 0, 0), (20, .iconst 0, 1, 0, 0, 0), (21, .invokevirtual 317, 3, 41, 0, 47), (24, .return_, 1, 0, 0, 0), (25, .aload_n 1, 1, 0, 0, 0), (26, .aload_n 2, 1, 0, 0, 0),
  (27, .getfield 271, 3, 3, 2, 37), (30, .invokevirtual 324, 3, 96, 0, 48), (33, .aload_n 1, 1, 0, 0, 0), (34, .aload_n 2, 1, 0, 0, 0), (35, .getfield 203, 3, 3, 6, 19), (38, .aload_n 2, 1, 0, 0, 0), (39, .getfield 206, 3, 3, 7, 20), (42, .invokevirtual 327, 3, 92, 0, 49),
  (45, .ifCond .ne 24, 3, 37, 0, 0), (48, .aload_n 0, 1, 0, 0, 0), (49, .bipush 6, 2, 0, 0, 0), (51, .aload_n 2, 1, 0, 0, 0), (52, .aload_n 1, 1, 0, 0, 0), (53, .getfield 74, 3, 6, 5, 10), (56, .iconst 0, 1, 0, 0, 0), (57, .aload_n 1, 1, 0, 0, 0),
  (58, .aload_n 2, 1, 0, 0, 0), (59, .getfield 203, 3, 3, 6, 19), (62, .invokevirtual 330, 3, 93, 0, 50), (65, .invokevirtual 317, 3, 41, 0, 47), (68, .return_, 1, 0, 0, 0), (69, .iconst 0, 1, 0, 0, 0), (70, .istore_n 3, 1, 0, 0, 0), (71, .iload_n 3, 1, 0, 0, 0),
  (72, .aload_n 2, 1, 0, 0, 0), (73, .getfield 217, 3, 3, 9, 25), (76, .if_icmp .ge 41, 3, 64, 0, 0), (79, .iload_n 3, 1, 0, 0, 0), (80, .iconst 4, 1, 0, 0, 0), (81, .if_icmp .ge 36, 3, 64, 0, 0), (84, .aload_n 2, 1, 0, 0, 0), (85, .getfield 218, 3, 3, 0, 26),
  (88, .iload_n 3, 1, 0, 0, 0), (89, .aaload, 1, 0, 0, 0), (90, .astore 4, 2, 0, 0, 0), (92, .aload 4, 2, 0, 0, 0), (94, .ifnull 17, 3, 62, 0, 0), (97, .aload_n 1, 1, 0, 0, 0), (98, .aload_n 2, 1, 0, 0, 0), (99, .getfield 203, 3, 3, 6, 19),
  (102, .iconst 1, 1, 0, 0, 0), (103, .iadd, 1, 0, 0, 0), (104, .iload_n 3, 1, 0, 0, 0), (105, .iadd, 1, 0, 0, 0), (106, .aload 4, 2, 0, 0, 0), (108, .invokevirtual 333, 3, 94, 0, 51), (111, .iinc 3 1, 3, 0, 0, 0), (114, .goto (-43), 3, 39, 0, 0),
  (117, .aload_n 2, 1, 0, 0, 0), (118, .getfield 203, 3, 3, 6, 19), (121, .aload_n 2, 1, 0, 0, 0), (122, .getfield 217, 3, 3, 9, 25), (125, .iadd, 1, 0, 0, 0), (126, .istore_n 3, 1, 0, 0, 0), (127, .aload_n 0, 1, 0, 0, 0), (128, .aload_n 1, 1, 0, 0, 0),
  (129, .aload_n 2, 1, 0, 0, 0), (130, .getfield 216, 3, 3, 8, 24), (133, .iload_n 3, 1, 0, 0, 0), (134, .invokestatic 337, 3, 3, 0, 52), (137, .invokevirtual 229, 3, 39, 0, 33), (140, .aload_n 0, 1, 0, 0, 0), (141, .bipush 6, 2, 0, 0, 0), (143, .aload_n 2, 1, 0, 0, 0),
  (144, .aload_n 1, 1, 0, 0, 0), (145, .getfield 74, 3, 6, 5, 10), (148, .iconst 1, 1, 0, 0, 0), (149, .iload_n 3, 1, 0, 0, 0), (150, .invokevirtual 317, 3, 41, 0, 47), (153, .return_, 1, 0, 0, 0)]
set_option maxRecDepth 100000 in
noncomputable def rw_36 : List PRow := [
  (0, .aload_n 2, 1, 0, 0, 0), (1, .getfield 280, 3, 3, 4, 39), (4, .aload_n 1, 1, 0, 0, 0), (5, .getfield 74, 3, 6, 5, 10), (8, .if_icmp .ge 17, 3, 14, 0, 0), (11, .aload_n 0, 1, 0, 0, 0), (12, .bipush 6, 2, 0, 0, 0), (14, .aload_n 2, 1, 0, 0, 0),
  (15, .aload_n 1, 1, 0, 0, 0), (16, .getfield 74, 3, 6, 5, 10), (19, .iconst 0, 1, 0, 0, 0), (20, .iconst 0, 1, 0, 0, 0), (21, .invokevirtual 317, 3, 41, 0, 47), (24, .return_, 1, 0, 0, 0), (25, .aload_n 1, 1, 0, 0, 0), (26, .aload_n 2, 1, 0, 0, 0),
  (27, .getfield 271, 3, 3, 2, 37), (30, .invokevirtual 324, 3, 96, 0, 48), (33, .aload_n 2, 1, 0, 0, 0), (34, .getfield 215, 3, 3, 10, 22), (37, .astore_n 3, 1, 0, 0, 0), (38, .aload_n 3, 1, 0, 0, 0), (39, .ifnull 19, 3, 31, 0, 0), (42, .aload_n 3, 1, 0, 0, 0),
  (43, .getfield 88, 3, 7, 0, 13), (46, .aload_n 1, 1, 0, 0, 0), (47, .getfield 143, 3, 6, 15, 23), (50, .if_icmp .le 8, 3, 31, 0, 0), (53, .aload_n 1, 1, 0, 0, 0), (54, .aload_n 3, 1, 0, 0, 0), (55, .invokevirtual 343, 3, 89, 0, 53), (58, .aload_n 0, 1, 0, 0, 0),
  (59, .bipush 6, 2, 0, 0, 0), (61, .aload_n 2, 1, 0, 0, 0), (62, .aload_n 1, 1, 0, 0, 0), (63, .getfield 74, 3, 6, 5, 10), (66, .iconst 1, 1, 0, 0, 0), (67, .aload_n 2, 1, 0, 0, 0), (68, .getfield 203, 3, 3, 6, 19), (71, .invokevirtual 317, 3, 41, 0, 47),
  (74, .return_, 1, 0, 0, 0)]
set_option maxRecDepth 100000 in
noncomputable def rw_37 : List PRow := [
  (0, .aload_n 1, 1, 0, 0, 0), (1, .getfield 71, 3, 6, 12, 9), (4, .iconst 3, 1, 0, 0, 0), (5, .if_icmp .ne 14, 3, 9, 0, 0), (8, .aload_n 2, 1, 0, 0, 0), (9, .getfield 280, 3, 3, 4, 39), (12, .aload_n 1, 1, 0, 0, 0), (13, .getfield 74, 3, 6, 5, 10),
  (16, .if_icmp .eq 4, 3, 10, 0, 0), (19, .return_, 1, 0, 0, 0), (20, .aload_n 2, 1, 0, 0, 0), (21, .getfield 314, 3, 3, 5, 41), (24, .ifCond .ne 40, 3, 34, 0, 0), (27, .aload_n 1, 1, 0, 0, 0), (28, .getfield 212, 3, 6, 2, 21), (31, .aload_n 2, 1, 0, 0, 0),
  (32, .getfield 271, 3, 3, 2, 37), (35, .aload_n 2, 1, 0, 0, 0), (36, .getfield 203, 3, 3, 6, 19), (39, .aload_n 1, 1, 0, 0, 0), (40, .getfield 346, 3, 6, 3, 43), (43, .aload_n 2, 1, 0, 0, 0), (44, .getfield 271, 3, 3, 2, 37), (47, .iaload, 1, 0, 0, 0),
  (48, .invokestatic 349, 3, 2, 0, 54), (51, .iconst 1, 1, 0, 0, 0), (52, .iadd, 1, 0, 0, 0), (53, .iastore, 1, 0, 0, 0), (54, .aload_n 0, 1, 0, 0, 0), (55, .aload_n 1, 1, 0, 0, 0), (56, .aload_n 2, 1, 0, 0, 0), (57, .getfield 271, 3, 3, 2, 37),
  (60, .invokevirtual 209, 3, 37, 0, 30), (63, .return_, 1, 0, 0, 0), (64, .aload_n 1, 1, 0, 0, 0), (65, .aload_n 2, 1, 0, 0, 0), (66, .getfield 271, 3, 3, 2, 37), (69, .aload_n 2, 1, 0, 0, 0), (70, .getfield 203, 3, 3, 6, 19), (73, .invokevirtual 352, 3, 99, 0, 55),
  (76, .aload_n 0, 1, 0, 0, 0), (77, .aload_n 1, 1, 0, 0, 0), (78, .invokevirtual 181, 3, 38, 0, 25), (81, .aload_n 1, 1, 0, 0, 0), (82, .getfield 71, 3, 6, 12, 9), (85, .iconst 3, 1, 0, 0, 0), (86, .if_icmp .ne 28, 3, 60, 0, 0), (89, .aload_n 1, 1, 0, 0, 0),
  (90, .getfield 212, 3, 6, 2, 21), (93, .aload_n 2, 1, 0, 0, 0), (94, .getfield 271, 3, 3, 2, 37), (97, .iaload, 1, 0, 0, 0), (98, .aload_n 1, 1, 0, 0, 0), (99, .invokevirtual 99, 3, 72, 0, 15), (102, .if_icmp .gt 12, 3, 60, 0, 0), (105, .aload_n 0, 1, 0, 0, 0),
  (106, .aload_n 1, 1, 0, 0, 0), (107, .aload_n 2, 1, 0, 0, 0), (108, .getfield 271, 3, 3, 2, 37), (111, .invokevirtual 209, 3, 37, 0, 30), (114, .return_, 1, 0, 0, 0)]
set_option maxRecDepth 100000 in
noncomputable def rw_38 : List PRow := [
  (0, .aload_n 2, 1, 0, 0, 0), (1, .getfield 280, 3, 3, 4, 39), (4, .aload_n 1, 1, 0, 0, 0), (5, .getfield 74, 3, 6, 5, 10), (8, .if_icmp .ne 31, 3, 18, 0, 0), (11, .aload_n 1, 1, 0, 0, 0), (12, .getfield 71, 3, 6, 12, 9), (15, .iconst 3, 1, 0, 0, 0),
  (16, .if_icmp .eq 23, 3, 18, 0, 0), (19, .aload_n 1, 1, 0, 0, 0), (20, .invokevirtual 153, 3, 77, 0, 18), (23, .ifCond .eq 16, 3, 18, 0, 0), (26, .aload_n 1, 1, 0, 0, 0), (27, .getfield 184, 3, 6, 8, 17), (30, .bipush 48, 2, 0, 0, 0), (32, .if_icmp .ge 7, 3, 18, 0, 0),
  (35, .iconst 1, 1, 0, 0, 0), (36, .goto 4, 3, 19, 0, 0), (39, .iconst 0, 1, 0, 0, 0), (40, .ireturn, 1, 0, 0, 0)]
set_option maxRecDepth 100000 in
noncomputable def rw_39 : List PRow := [
  (0, .aload_n 0, 1, 0, 0, 0), (1, .invokespecial 3, 3, 0, 1, 56), (4, .aload_n 0, 1, 0, 0, 0), (5, .iload_n 1, 1, 0, 0, 0), (6, .putfield 9, 3, 2, 0, 44), (9, .aload_n 0, 1, 0, 0, 0), (10, .iload_n 2, 1, 0, 0, 0), (11, .putfield 15, 3, 2, 1, 45),
  (14, .aload_n 0, 1, 0, 0, 0), (15, .aload_n 3, 1, 0, 0, 0), (16, .putfield 18, 3, 2, 2, 46), (19, .aload_n 0, 1, 0, 0, 0), (20, .iload 4, 2, 0, 0, 0), (22, .putfield 22, 3, 2, 3, 47), (25, .return_, 1, 0, 0, 0)]
set_option maxRecDepth 100000 in
noncomputable def rw_40 : List PRow := [
  (0, .aload_n 0, 1, 0, 0, 0), (1, .getfield 18, 3, 2, 2, 46), (4, .ifnull 11, 3, 7, 0, 0), (7, .aload_n 0, 1, 0, 0, 0), (8, .getfield 18, 3, 2, 2, 46), (11, .getfield 25, 3, 5, 5, 48), (14, .ireturn, 1, 0, 0, 0), (15, .aload_n 0, 1, 0, 0, 0),
  (16, .getfield 15, 3, 2, 1, 45), (19, .iconst 4, 1, 0, 0, 0), (20, .if_icmp .ne 13, 3, 15, 0, 0), (23, .aload_n 0, 1, 0, 0, 0), (24, .getfield 22, 3, 2, 3, 47), (27, .invokestatic 30, 3, 389, 0, 57), (30, .goto 4, 3, 16, 0, 0), (33, .iconst 0, 1, 0, 0, 0),
  (34, .ireturn, 1, 0, 0, 0)]
set_option maxRecDepth 100000 in
noncomputable def rw_41 : List PRow := [
  (0, .aload_n 0, 1, 0, 0, 0), (1, .getfield 18, 3, 2, 2, 46), (4, .ifnonnull 7, 3, 5, 0, 0), (7, .iconst (-1), 1, 0, 0, 0), (8, .goto 10, 3, 8, 0, 0), (11, .aload_n 0, 1, 0, 0, 0), (12, .getfield 18, 3, 2, 2, 46), (15, .getfield 36, 3, 5, 0, 49),
  (18, .ireturn, 1, 0, 0, 0)]
set_option maxRecDepth 100000 in
noncomputable def rw_42 : List PRow := [
  (0, .aload_n 0, 1, 0, 0, 0), (1, .getfield 18, 3, 2, 2, 46), (4, .ifnonnull 7, 3, 5, 0, 0), (7, .iconst 0, 1, 0, 0, 0), (8, .goto 10, 3, 8, 0, 0), (11, .aload_n 0, 1, 0, 0, 0), (12, .getfield 18, 3, 2, 2, 46), (15, .getfield 39, 3, 5, 1, 50),
  (18, .ireturn, 1, 0, 0, 0)]
set_option maxRecDepth 100000 in
noncomputable def rw_43 : List PRow := [
  (0, .aload_n 0, 1, 0, 0, 0), (1, .invokespecial 3, 3, 0, 1, 58), (4, .aload_n 0, 1, 0, 0, 0), (5, .iconst 4, 1, 0, 0, 0), (6, .anewarray 9, 3, 16, 0, 7), (9, .putfield 11, 3, 3, 0, 51), (12, .return_, 1, 0, 0, 0)]
set_option maxRecDepth 100000 in
noncomputable def rw_44 : List PRow := [
  (0, .aload_n 0, 1, 0, 0, 0), (1, .aload_n 1, 1, 0, 0, 0), (2, .getfield 17, 3, 3, 1, 52), (5, .putfield 17, 3, 3, 1, 52), (8, .aload_n 0, 1, 0, 0, 0), (9, .aload_n 1, 1, 0, 0, 0), (10, .getfield 21, 3, 3, 2, 53), (13, .putfield 21, 3, 3, 2, 53),
  (16, .aload_n 0, 1, 0, 0, 0), (17, .aload_n 1, 1, 0, 0, 0), (18, .getfield 24, 3, 3, 3, 54), (21, .putfield 24, 3, 3, 3, 54), (24, .aload_n 0, 1, 0, 0, 0), (25, .aload_n 1, 1, 0, 0, 0), (26, .getfield 27, 3, 3, 4, 55), (29, .putfield 27, 3, 3, 4, 55),
  (32, .aload_n 0, 1, 0, 0, 0), (33, .aload_n 1, 1, 0, 0, 0), (34, .getfield 30, 3, 3, 5, 56), (37, .putfield 30, 3, 3, 5, 56), (40, .aload_n 0, 1, 0, 0, 0), (41, .aload_n 1, 1, 0, 0, 0), (42, .getfield 34, 3, 3, 6, 57), (45, .putfield 34, 3, 3, 6, 57),
  (48, .aload_n 0, 1, 0, 0, 0), (49, .aload_n 1, 1, 0, 0, 0), (50, .getfield 37, 3, 3, 7, 58), (53, .putfield 37, 3, 3, 7, 58), (56, .aload_n 0, 1, 0, 0, 0), (57, .aload_n 1, 1, 0, 0, 0), (58, .getfield 40, 3, 3, 8, 59), (61, .putfield 40, 3, 3, 8, 59),
  (64, .aload_n 0, 1, 0, 0, 0), (65, .aload_n 1, 1, 0, 0, 0), (66, .getfield 43, 3, 3, 9, 60), (69, .putfield 43, 3, 3, 9, 60), (72, .aload_n 0, 1, 0, 0, 0), (73, .aload_n 1, 1, 0, 0, 0), (74, .getfield 46, 3, 3, 10, 61), (77, .putfield 46, 3, 3, 10, 61),
  (80, .iconst 0, 1, 0, 0, 0), (81, .istore_n 2, 1, 0, 0, 0), (82, .iload_n 2, 1, 0, 0, 0), (83, .iconst 4, 1, 0, 0, 0), (84, .if_icmp .ge 21, 3, 55, 0, 0), (87, .aload_n 0, 1, 0, 0, 0), (88, .getfield 11, 3, 3, 0, 51), (91, .iload_n 2, 1, 0, 0, 0),
  (92, .aload_n 1, 1, 0, 0, 0), (93, .getfield 11, 3, 3, 0, 51), (96, .iload_n 2, 1, 0, 0, 0), (97, .aaload, 1, 0, 0, 0), (98, .aastore, 1, 0, 0, 0), (99, .iinc 2 1, 3, 0, 0, 0), (102, .goto (-20), 3, 42, 0, 0), (105, .return_, 1, 0, 0, 0)]
set_option maxRecDepth 100000 in
noncomputable def rw_45 : List PRow := [
  (0, .aload_n 0, 1, 0, 0, 0), (1, .getfield 17, 3, 3, 1, 52), (4, .iconst 2, 1, 0, 0, 0), (5, .if_icmp .eq 11, 3, 8, 0, 0), (8, .aload_n 0, 1, 0, 0, 0), (9, .getfield 17, 3, 3, 1, 52), (12, .iconst 4, 1, 0, 0, 0), (13, .if_icmp .ne 16, 3, 15, 0, 0),
  (16, .aload_n 0, 1, 0, 0, 0), (17, .getfield 30, 3, 3, 5, 56), (20, .ifCond .eq 7, 3, 13, 0, 0), (23, .iconst 1, 1, 0, 0, 0), (24, .goto 4, 3, 14, 0, 0), (27, .iconst 0, 1, 0, 0, 0), (28, .ireturn, 1, 0, 0, 0), (29, .aload_n 0, 1, 0, 0, 0),
  (30, .getfield 34, 3, 3, 6, 57), (33, .aload_n 0, 1, 0, 0, 0), (34, .getfield 43, 3, 3, 9, 60), (37, .iadd, 1, 0, 0, 0), (38, .ireturn, 1, 0, 0, 0)]
set_option maxRecDepth 100000 in
noncomputable def rw_46 : List PRow := [
  (0, .aload_n 0, 1, 0, 0, 0), (1, .getfield 17, 3, 3, 1, 52), (4, .iconst 1, 1, 0, 0, 0), (5, .if_icmp .eq 22, 3, 13, 0, 0), (8, .aload_n 0, 1, 0, 0, 0), (9, .getfield 17, 3, 3, 1, 52), (12, .iconst 2, 1, 0, 0, 0), (13, .if_icmp .ne 10, 3, 11, 0, 0),
  (16, .aload_n 0, 1, 0, 0, 0), (17, .getfield 30, 3, 3, 5, 56), (20, .ifCond .ne 7, 3, 13, 0, 0), (23, .iconst 1, 1, 0, 0, 0), (24, .goto 4, 3, 14, 0, 0), (27, .iconst 0, 1, 0, 0, 0), (28, .ireturn, 1, 0, 0, 0)]
set_option maxRecDepth 100000 in
noncomputable def rw_47 : List PRow := [
  (0, .aload_n 0, 1, 0, 0, 0), (1, .invokespecial 3, 3, 0, 1, 59), (4, .aload_n 0, 1, 0, 0, 0), (5, .bipush 60, 2, 0, 0, 0), (7, .anewarray 9, 3, 17, 0, 8), (10, .putfield 11, 3, 4, 0, 62), (13, .aload_n 0, 1, 0, 0, 0), (14, .bipush 7, 2, 0, 0, 0),
  (16, .newarray .int, 2, 0, 0, 0), (18, .putfield 17, 3, 4, 1, 63), (21, .aload_n 0, 1, 0, 0, 0), (22, .new 9, 3, 3, 0, 9), (25, .dup, 1, 0, 0, 0), (26, .invokespecial 21, 3, 53, 1, 60), (29, .putfield 22, 3, 4, 2, 64), (32, .iconst 0, 1, 0, 0, 0),
  (33, .istore_n 1, 1, 0, 0, 0), (34, .iload_n 1, 1, 0, 0, 0), (35, .bipush 60, 2, 0, 0, 0), (37, .if_icmp .ge 22, 3, 29, 0, 0), (40, .aload_n 0, 1, 0, 0, 0), (41, .getfield 11, 3, 4, 0, 62), (44, .iload_n 1, 1, 0, 0, 0), (45, .new 9, 3, 3, 0, 9),
  (48, .dup, 1, 0, 0, 0), (49, .invokespecial 21, 3, 53, 1, 60), (52, .aastore, 1, 0, 0, 0), (53, .iinc 1 1, 3, 0, 0, 0), (56, .goto (-22), 3, 17, 0, 0), (59, .return_, 1, 0, 0, 0)]
set_option maxRecDepth 100000 in
noncomputable def rw_48 : List PRow := [
  (0, .aload_n 0, 1, 0, 0, 0), (1, .getfield 17, 3, 4, 1, 63), (4, .iconst 0, 1, 0, 0, 0), (5, .invokestatic 26, 3, 390, 0, 61), (8, .aload_n 0, 1, 0, 0, 0), (9, .iconst 0, 1, 0, 0, 0), (10, .putfield 32, 3, 4, 3, 65), (13, .aload_n 0, 1, 0, 0, 0),
  (14, .iconst 0, 1, 0, 0, 0), (15, .putfield 36, 3, 4, 4, 66), (18, .aload_n 0, 1, 0, 0, 0), (19, .iconst 0, 1, 0, 0, 0), (20, .putfield 39, 3, 4, 5, 67), (23, .return_, 1, 0, 0, 0)]
set_option maxRecDepth 100000 in
noncomputable def rw_50 : List PRow := [
  (0, .aload_n 0, 1, 0, 0, 0), (1, .getfield 17, 3, 4, 1, 63), (4, .iload_n 1, 1, 0, 0, 0), (5, .iaload, 1, 0, 0, 0), (6, .iload_n 2, 1, 0, 0, 0), (7, .ishr, 1, 0, 0, 0), (8, .iconst 1, 1, 0, 0, 0), (9, .iand, 1, 0, 0, 0),
  (10, .iconst 1, 1, 0, 0, 0), (11, .if_icmp .ne 7, 3, 12, 0, 0), (14, .iconst 1, 1, 0, 0, 0), (15, .goto 4, 3, 13, 0, 0), (18, .iconst 0, 1, 0, 0, 0), (19, .ireturn, 1, 0, 0, 0)]
set_option maxRecDepth 100000 in
noncomputable def rw_51 : List PRow := [
  (0, .aload_n 0, 1, 0, 0, 0), (1, .getfield 17, 3, 4, 1, 63), (4, .iload_n 1, 1, 0, 0, 0), (5, .dup2, 1, 0, 0, 0), (6, .iaload, 1, 0, 0, 0), (7, .iconst 1, 1, 0, 0, 0), (8, .iload_n 2, 1, 0, 0, 0), (9, .ishl, 1, 0, 0, 0),
  (10, .ixor, 1, 0, 0, 0), (11, .iastore, 1, 0, 0, 0), (12, .aload_n 0, 1, 0, 0, 0), (13, .getfield 17, 3, 4, 1, 63), (16, .iload_n 2, 1, 0, 0, 0), (17, .dup2, 1, 0, 0, 0), (18, .iaload, 1, 0, 0, 0), (19, .iconst 1, 1, 0, 0, 0),
  (20, .iload_n 1, 1, 0, 0, 0), (21, .ishl, 1, 0, 0, 0), (22, .ixor, 1, 0, 0, 0), (23, .iastore, 1, 0, 0, 0), (24, .aload_n 0, 1, 0, 0, 0), (25, .dup, 1, 0, 0, 0), (26, .getfield 36, 3, 4, 4, 66), (29, .aload_n 0, 1, 0, 0, 0),
  (30, .iload_n 1, 1, 0, 0, 0), (31, .iload_n 2, 1, 0, 0, 0), (32, .invokevirtual 52, 3, 60, 0, 62), (35, .ifCond .eq 7, 3, 30, 0, 0), (38, .iconst 1, 1, 0, 0, 0), (39, .goto 4, 3, 31, 0, 0), (42, .iconst (-1), 1, 0, 0, 0), (43, .iadd, 1, 0, 0, 0),
  (44, .putfield 36, 3, 4, 4, 66), (47, .aload_n 0, 1, 0, 0, 0), (48, .getfield 36, 3, 4, 4, 66), (51, .ireturn, 1, 0, 0, 0)]
set_option maxRecDepth 100000 in
noncomputable def rw_52 : List PRow := [
  (0, .aload_n 0, 1, 0, 0, 0), (1, .getfield 32, 3, 4, 3, 65), (4, .bipush 60, 2, 0, 0, 0), (6, .if_icmp .lt 15, 3, 12, 0, 0), (9, .aload_n 0, 1, 0, 0, 0), (10, .dup, 1, 0, 0, 0), (11, .getfield 39, 3, 4, 5, 67), (14, .iconst 1, 1, 0, 0, 0),
  (15, .iadd, 1, 0, 0, 0), (16, .putfield 39, 3, 4, 5, 67), (19, .aconst_null, 1, 0, 0, 0), (20, .areturn, 1, 0, 0, 0), (21, .aload_n 0, 1, 0, 0, 0), (22, .getfield 11, 3, 4, 0, 62), (25, .aload_n 0, 1, 0, 0, 0), (26, .getfield 32, 3, 4, 3, 65),
  (29, .aaload, 1, 0, 0, 0), (30, .astore 5, 2, 0, 0, 0), (32, .aload_n 0, 1, 0, 0, 0), (33, .dup, 1, 0, 0, 0), (34, .getfield 32, 3, 4, 3, 65), (37, .iconst 1, 1, 0, 0, 0), (38, .iadd, 1, 0, 0, 0), (39, .putfield 32, 3, 4, 3, 65),
  (42, .aload 5, 2, 0, 0, 0), (44, .iload_n 1, 1, 0, 0, 0), (45, .putfield 56, 3, 3, 1, 68), (48, .aload 5, 2, 0, 0, 0), (50, .iload_n 2, 1, 0, 0, 0), (51, .putfield 59, 3, 3, 2, 69), (54, .aload 5, 2, 0, 0, 0), (56, .iload_n 3, 1, 0, 0, 0),
  (57, .putfield 62, 3, 3, 3, 70), (60, .aload 5, 2, 0, 0, 0), (62, .iload 4, 2, 0, 0, 0), (64, .putfield 65, 3, 3, 4, 71), (67, .aload 5, 2, 0, 0, 0), (69, .iconst 0, 1, 0, 0, 0), (70, .putfield 68, 3, 3, 5, 72), (73, .aload 5, 2, 0, 0, 0),
  (75, .iconst 0, 1, 0, 0, 0), (76, .putfield 72, 3, 3, 6, 73), (79, .aload 5, 2, 0, 0, 0), (81, .iconst 0, 1, 0, 0, 0), (82, .putfield 75, 3, 3, 7, 74), (85, .aload 5, 2, 0, 0, 0), (87, .iconst 0, 1, 0, 0, 0), (88, .putfield 78, 3, 3, 8, 75),
  (91, .aload 5, 2, 0, 0, 0), (93, .iconst 0, 1, 0, 0, 0), (94, .putfield 81, 3, 3, 9, 76), (97, .aload 5, 2, 0, 0, 0), (99, .aconst_null, 1, 0, 0, 0), (100, .putfield 82, 3, 3, 10, 77), (103, .aload 5, 2, 0, 0, 0), (105, .areturn, 1, 0, 0, 0)]
set_option maxRecDepth 100000 in
noncomputable def rw_53 : List PRow := [
  (0, .aload_n 0, 1, 0, 0, 0), (1, .getfield 32, 3, 4, 3, 65), (4, .bipush 60, 2, 0, 0, 0), (6, .if_icmp .ge 39, 3, 24, 0, 0), (9, .iload_n 1, 1, 0, 0, 0), (10, .aload_n 0, 1, 0, 0, 0), (11, .getfield 32, 3, 4, 3, 65), (14, .if_icmp .ge 31, 3, 24, 0, 0),
  (17, .aload_n 0, 1, 0, 0, 0), (18, .getfield 11, 3, 4, 0, 62), (21, .aload_n 0, 1, 0, 0, 0), (22, .getfield 32, 3, 4, 3, 65), (25, .aaload, 1, 0, 0, 0), (26, .aload_n 0, 1, 0, 0, 0), (27, .getfield 11, 3, 4, 0, 62), (30, .iload_n 1, 1, 0, 0, 0),
  (31, .aaload, 1, 0, 0, 0), (32, .invokevirtual 48, 3, 54, 0, 63), (35, .aload_n 0, 1, 0, 0, 0), (36, .dup, 1, 0, 0, 0), (37, .getfield 32, 3, 4, 3, 65), (40, .iconst 1, 1, 0, 0, 0), (41, .iadd, 1, 0, 0, 0), (42, .putfield 32, 3, 4, 3, 65),
  (45, .aload_n 0, 1, 0, 0, 0), (46, .getfield 32, 3, 4, 3, 65), (49, .ireturn, 1, 0, 0, 0)]
set_option maxRecDepth 100000 in
noncomputable def rw_54 : List PRow := [
  (0, .aload_n 0, 1, 0, 0, 0), (1, .getfield 11, 3, 4, 0, 62), (4, .iload_n 1, 1, 0, 0, 0), (5, .aaload, 1, 0, 0, 0), (6, .astore_n 2, 1, 0, 0, 0), (7, .iload_n 1, 1, 0, 0, 0), (8, .iconst 1, 1, 0, 0, 0), (9, .iadd, 1, 0, 0, 0),
  (10, .istore_n 3, 1, 0, 0, 0), (11, .iload_n 3, 1, 0, 0, 0), (12, .aload_n 0, 1, 0, 0, 0), (13, .getfield 32, 3, 4, 3, 65), (16, .if_icmp .ge 23, 3, 25, 0, 0), (19, .aload_n 0, 1, 0, 0, 0), (20, .getfield 11, 3, 4, 0, 62), (23, .iload_n 3, 1, 0, 0, 0),
  (24, .iconst 1, 1, 0, 0, 0), (25, .isub, 1, 0, 0, 0), (26, .aload_n 0, 1, 0, 0, 0), (27, .getfield 11, 3, 4, 0, 62), (30, .iload_n 3, 1, 0, 0, 0), (31, .aaload, 1, 0, 0, 0), (32, .aastore, 1, 0, 0, 0), (33, .iinc 3 1, 3, 0, 0, 0),
  (36, .goto (-25), 3, 9, 0, 0), (39, .aload_n 0, 1, 0, 0, 0), (40, .dup, 1, 0, 0, 0), (41, .getfield 32, 3, 4, 3, 65), (44, .iconst 1, 1, 0, 0, 0), (45, .isub, 1, 0, 0, 0), (46, .putfield 32, 3, 4, 3, 65), (49, .aload_n 0, 1, 0, 0, 0),
  (50, .getfield 11, 3, 4, 0, 62), (53, .aload_n 0, 1, 0, 0, 0), (54, .getfield 32, 3, 4, 3, 65), (57, .aload_n 0, 1, 0, 0, 0), (58, .getfield 22, 3, 4, 2, 64), (61, .aastore, 1, 0, 0, 0), (62, .aload_n 0, 1, 0, 0, 0), (63, .aload_n 2, 1, 0, 0, 0),
  (64, .putfield 22, 3, 4, 2, 64), (67, .aload_n 2, 1, 0, 0, 0), (68, .areturn, 1, 0, 0, 0)]
set_option maxRecDepth 100000 in
noncomputable def rw_55 : List PRow := [
  (0, .aload_n 0, 1, 0, 0, 0), (1, .invokespecial 1, 3, 0, 1, 64), (4, .aload_n 0, 1, 0, 0, 0), (5, .iload_n 1, 1, 0, 0, 0), (6, .putfield 7, 3, 5, 0, 78), (9, .aload_n 0, 1, 0, 0, 0), (10, .iload_n 2, 1, 0, 0, 0), (11, .putfield 13, 3, 5, 1, 79),
  (14, .aload_n 0, 1, 0, 0, 0), (15, .iload_n 3, 1, 0, 0, 0), (16, .putfield 16, 3, 5, 2, 80), (19, .aload_n 0, 1, 0, 0, 0), (20, .iload 4, 2, 0, 0, 0), (22, .putfield 19, 3, 5, 3, 81), (25, .aload_n 0, 1, 0, 0, 0), (26, .iload 5, 2, 0, 0, 0),
  (28, .putfield 22, 3, 5, 4, 82), (31, .aload_n 0, 1, 0, 0, 0), (32, .iload 6, 2, 0, 0, 0), (34, .putfield 25, 3, 5, 5, 83), (37, .return_, 1, 0, 0, 0)]
set_option maxRecDepth 100000 in
noncomputable def rw_56 : List PRow := [
  (0, .aload_n 0, 1, 0, 0, 0), (1, .invokespecial 3, 3, 0, 1, 65), (4, .aload_n 0, 1, 0, 0, 0), (5, .new 9, 3, 8, 0, 10), (8, .dup, 1, 0, 0, 0), (9, .invokespecial 11, 3, 101, 1, 66), (12, .putfield 12, 3, 6, 1, 84), (15, .aload_n 0, 1, 0, 0, 0),
  (16, .bipush 7, 2, 0, 0, 0), (18, .newarray .int, 2, 0, 0, 0), (20, .putfield 18, 3, 6, 2, 85), (23, .aload_n 0, 1, 0, 0, 0), (24, .bipush 7, 2, 0, 0, 0), (26, .newarray .int, 2, 0, 0, 0), (28, .putfield 22, 3, 6, 3, 86), (31, .aload_n 0, 1, 0, 0, 0),
  (32, .bipush 64, 2, 0, 0, 0), (34, .anewarray 25, 3, 16, 0, 11), (37, .putfield 27, 3, 6, 7, 87), (40, .aload_n 0, 1, 0, 0, 0), (41, .iload_n 1, 1, 0, 0, 0), (42, .putfield 31, 3, 6, 0, 88), (45, .aload_n 0, 1, 0, 0, 0), (46, .aload_n 2, 1, 0, 0, 0),
  (47, .invokevirtual 35, 3, 67, 0, 67), (50, .return_, 1, 0, 0, 0)]
set_option maxRecDepth 100000 in
noncomputable def rw_57 : List PRow := [
  (0, .aload_n 0, 1, 0, 0, 0), (1, .iconst 1, 1, 0, 0, 0), (2, .putfield 39, 3, 6, 4, 89), (5, .aload_n 0, 1, 0, 0, 0), (6, .iconst 0, 1, 0, 0, 0), (7, .putfield 43, 3, 6, 5, 90), (10, .aload_n 0, 1, 0, 0, 0), (11, .iconst (-1), 1, 0, 0, 0),
  (12, .putfield 46, 3, 6, 6, 91), (15, .aload_n 0, 1, 0, 0, 0), (16, .iconst 0, 1, 0, 0, 0), (17, .putfield 49, 3, 6, 8, 92), (20, .aload_n 0, 1, 0, 0, 0), (21, .aload_n 1, 1, 0, 0, 0), (22, .putfield 52, 3, 6, 9, 93), (25, .aload_n 0, 1, 0, 0, 0),
  (26, .invokevirtual 56, 3, 86, 0, 68), (29, .aload_n 0, 1, 0, 0, 0), (30, .invokevirtual 59, 3, 68, 0, 69), (33, .return_, 1, 0, 0, 0)]
set_option maxRecDepth 100000 in
noncomputable def rw_58 : List PRow := [
  (0, .aload_n 0, 1, 0, 0, 0), (1, .iconst 0, 1, 0, 0, 0), (2, .putfield 62, 3, 6, 12, 94), (5, .aload_n 0, 1, 0, 0, 0), (6, .iconst (-1), 1, 0, 0, 0), (7, .putfield 65, 3, 6, 13, 95), (10, .aload_n 0, 1, 0, 0, 0), (11, .iconst 0, 1, 0, 0, 0),
  (12, .putfield 68, 3, 6, 14, 96), (15, .aload_n 0, 1, 0, 0, 0), (16, .aload_n 0, 1, 0, 0, 0), (17, .getfield 52, 3, 6, 9, 93), (20, .getfield 71, 3, 7, 0, 97), (23, .putfield 76, 3, 6, 15, 98), (26, .aload_n 0, 1, 0, 0, 0), (27, .getfield 12, 3, 6, 1, 84),
  (30, .aload_n 0, 1, 0, 0, 0), (31, .getfield 52, 3, 6, 9, 93), (34, .getfield 79, 3, 7, 3, 99), (37, .invokevirtual 80, 3, 102, 0, 70), (40, .return_, 1, 0, 0, 0)]
set_option maxRecDepth 100000 in
noncomputable def rw_59 : List PRow := [
  (0, .aload_n 0, 1, 0, 0, 0), (1, .iconst 0, 1, 0, 0, 0), (2, .putfield 39, 3, 6, 4, 89), (5, .aload_n 0, 1, 0, 0, 0), (6, .invokevirtual 59, 3, 68, 0, 69), (9, .return_, 1, 0, 0, 0)]
set_option maxRecDepth 100000 in
noncomputable def rw_61 : List PRow := [
  (0, .bipush 6, 2, 0, 0, 0), (2, .iconst 3, 1, 0, 0, 0), (3, .aload_n 0, 1, 0, 0, 0), (4, .getfield 31, 3, 6, 0, 88), (7, .imul, 1, 0, 0, 0), (8, .iconst 5, 1, 0, 0, 0), (9, .aload_n 0, 1, 0, 0, 0), (10, .getfield 43, 3, 6, 5, 90),
  (13, .imul, 1, 0, 0, 0), (14, .iadd, 1, 0, 0, 0), (15, .bipush 7, 2, 0, 0, 0), (17, .irem, 1, 0, 0, 0), (18, .iadd, 1, 0, 0, 0), (19, .ireturn, 1, 0, 0, 0)]
set_option maxRecDepth 100000 in
noncomputable def rw_62 : List PRow := [
  (0, .aload_n 0, 1, 0, 0, 0), (1, .getfield 52, 3, 6, 9, 93), (4, .getfield 71, 3, 7, 0, 97), (7, .aload_n 0, 1, 0, 0, 0), (8, .getfield 49, 3, 6, 8, 92), (11, .iadd, 1, 0, 0, 0), (12, .ireturn, 1, 0, 0, 0)]
set_option maxRecDepth 100000 in
noncomputable def rw_63 : List PRow := [
  (0, .aload_n 0, 1, 0, 0, 0), (1, .getfield 49, 3, 6, 8, 92), (4, .ifCond .le 32, 3, 18, 0, 0), (7, .aload_n 0, 1, 0, 0, 0), (8, .getfield 49, 3, 6, 8, 92), (11, .aload_n 0, 1, 0, 0, 0), (12, .getfield 27, 3, 6, 7, 87), (15, .arraylength, 1, 0, 0, 0),
  (16, .if_icmp .gt 20, 3, 18, 0, 0), (19, .aload_n 0, 1, 0, 0, 0), (20, .getfield 27, 3, 6, 7, 87), (23, .aload_n 0, 1, 0, 0, 0), (24, .getfield 49, 3, 6, 8, 92), (27, .iconst 1, 1, 0, 0, 0), (28, .isub, 1, 0, 0, 0), (29, .aaload, 1, 0, 0, 0),
  (30, .getfield 106, 3, 2, 0, 100), (33, .goto 10, 3, 21, 0, 0), (36, .aload_n 0, 1, 0, 0, 0), (37, .getfield 52, 3, 6, 9, 93), (40, .getfield 107, 3, 7, 1, 101), (43, .ireturn, 1, 0, 0, 0)]
set_option maxRecDepth 100000 in
noncomputable def rw_64 : List PRow := [
  (0, .iload_n 1, 1, 0, 0, 0), (1, .aload_n 0, 1, 0, 0, 0), (2, .getfield 52, 3, 6, 9, 93), (5, .getfield 71, 3, 7, 0, 97), (8, .if_icmp .le 19, 3, 13, 0, 0), (11, .iload_n 1, 1, 0, 0, 0), (12, .aload_n 0, 1, 0, 0, 0), (13, .getfield 52, 3, 6, 9, 93),
  (16, .getfield 71, 3, 7, 0, 97), (19, .aload_n 0, 1, 0, 0, 0), (20, .getfield 49, 3, 6, 8, 92), (23, .iadd, 1, 0, 0, 0), (24, .if_icmp .le 5, 3, 15, 0, 0), (27, .aconst_null, 1, 0, 0, 0), (28, .areturn, 1, 0, 0, 0), (29, .aload_n 0, 1, 0, 0, 0),
  (30, .getfield 27, 3, 6, 7, 87), (33, .iload_n 1, 1, 0, 0, 0), (34, .aload_n 0, 1, 0, 0, 0), (35, .getfield 52, 3, 6, 9, 93), (38, .getfield 71, 3, 7, 0, 97), (41, .isub, 1, 0, 0, 0), (42, .iconst 1, 1, 0, 0, 0), (43, .isub, 1, 0, 0, 0),
  (44, .aaload, 1, 0, 0, 0), (45, .areturn, 1, 0, 0, 0)]
set_option maxRecDepth 100000 in
noncomputable def rw_65 : List PRow := [
  (0, .iload_n 1, 1, 0, 0, 0), (1, .aload_n 0, 1, 0, 0, 0), (2, .getfield 52, 3, 6, 9, 93), (5, .getfield 71, 3, 7, 0, 97), (8, .if_icmp .lt 19, 3, 13, 0, 0), (11, .iload_n 1, 1, 0, 0, 0), (12, .aload_n 0, 1, 0, 0, 0), (13, .getfield 52, 3, 6, 9, 93),
  (16, .getfield 71, 3, 7, 0, 97), (19, .aload_n 0, 1, 0, 0, 0), (20, .getfield 49, 3, 6, 8, 92), (23, .iadd, 1, 0, 0, 0), (24, .if_icmp .le 5, 3, 15, 0, 0), (27, .iconst (-1), 1, 0, 0, 0), (28, .ireturn, 1, 0, 0, 0), (29, .iload_n 1, 1, 0, 0, 0),
  (30, .aload_n 0, 1, 0, 0, 0), (31, .getfield 52, 3, 6, 9, 93), (34, .getfield 71, 3, 7, 0, 97), (37, .if_icmp .ne 13, 3, 24, 0, 0), (40, .aload_n 0, 1, 0, 0, 0), (41, .getfield 52, 3, 6, 9, 93), (44, .getfield 107, 3, 7, 1, 101), (47, .goto 22, 3, 35, 0, 0),
  (50, .aload_n 0, 1, 0, 0, 0), (51, .getfield 27, 3, 6, 7, 87), (54, .iload_n 1, 1, 0, 0, 0), (55, .aload_n 0, 1, 0, 0, 0), (56, .getfield 52, 3, 6, 9, 93), (59, .getfield 71, 3, 7, 0, 97), (62, .isub, 1, 0, 0, 0), (63, .iconst 1, 1, 0, 0, 0),
  (64, .isub, 1, 0, 0, 0), (65, .aaload, 1, 0, 0, 0), (66, .getfield 106, 3, 2, 0, 100), (69, .ireturn, 1, 0, 0, 0)]
set_option maxRecDepth 100000 in
noncomputable def rw_66 : List PRow := [
  (0, .aload_n 0, 1, 0, 0, 0), (1, .getfield 100, 3, 6, 10, 102), (4, .iload_n 1, 1, 0, 0, 0), (5, .ishr, 1, 0, 0, 0), (6, .iconst 1, 1, 0, 0, 0), (7, .iand, 1, 0, 0, 0), (8, .iconst 1, 1, 0, 0, 0), (9, .if_icmp .ne 7, 3, 10, 0, 0),
  (12, .iconst 1, 1, 0, 0, 0), (13, .goto 4, 3, 11, 0, 0), (16, .iconst 0, 1, 0, 0, 0), (17, .ireturn, 1, 0, 0, 0)]
set_option maxRecDepth 100000 in
noncomputable def rw_67 : List PRow := [
  (0, .aload_n 0, 1, 0, 0, 0), (1, .getfield 100, 3, 6, 10, 102), (4, .aload_n 0, 1, 0, 0, 0), (5, .getfield 31, 3, 6, 0, 88), (8, .ishr, 1, 0, 0, 0), (9, .iconst 1, 1, 0, 0, 0), (10, .iand, 1, 0, 0, 0), (11, .iconst 1, 1, 0, 0, 0),
  (12, .if_icmp .ne 7, 3, 11, 0, 0), (15, .iconst 1, 1, 0, 0, 0), (16, .goto 4, 3, 12, 0, 0), (19, .iconst 0, 1, 0, 0, 0), (20, .ireturn, 1, 0, 0, 0)]
set_option maxRecDepth 100000 in
noncomputable def rw_68 : List PRow := [
  (0, .iconst 2, 1, 0, 0, 0), (1, .aload_n 0, 1, 0, 0, 0), (2, .getfield 90, 3, 6, 16, 103), (5, .aload_n 0, 1, 0, 0, 0), (6, .getfield 100, 3, 6, 10, 102), (9, .iand, 1, 0, 0, 0), (10, .invokestatic 108, 3, 389, 0, 71), (13, .imul, 1, 0, 0, 0),
  (14, .aload_n 0, 1, 0, 0, 0), (15, .getfield 100, 3, 6, 10, 102), (18, .invokestatic 108, 3, 389, 0, 71), (21, .if_icmp .le 7, 3, 14, 0, 0), (24, .iconst 1, 1, 0, 0, 0), (25, .goto 4, 3, 15, 0, 0), (28, .iconst 0, 1, 0, 0, 0), (29, .ireturn, 1, 0, 0, 0)]
set_option maxRecDepth 100000 in
noncomputable def rw_69 : List PRow := [
  (0, .iconst 0, 1, 0, 0, 0), (1, .istore_n 2, 1, 0, 0, 0), (2, .iconst 0, 1, 0, 0, 0), (3, .istore_n 3, 1, 0, 0, 0), (4, .iconst 0, 1, 0, 0, 0), (5, .istore 4, 2, 0, 0, 0), (7, .iload 4, 2, 0, 0, 0), (9, .bipush 7, 2, 0, 0, 0),
  (11, .if_icmp .ge 53, 3, 36, 0, 0), (14, .aload_n 0, 1, 0, 0, 0), (15, .getfield 100, 3, 6, 10, 102), (18, .iload 4, 2, 0, 0, 0), (20, .ishr, 1, 0, 0, 0), (21, .iconst 1, 1, 0, 0, 0), (22, .iand, 1, 0, 0, 0), (23, .iconst 1, 1, 0, 0, 0),
  (24, .if_icmp .ne 34, 3, 34, 0, 0), (27, .iinc 2 1, 3, 0, 0, 0), (30, .iload_n 3, 1, 0, 0, 0), (31, .iload 4, 2, 0, 0, 0), (33, .aload_n 0, 1, 0, 0, 0), (34, .getfield 31, 3, 6, 0, 88), (37, .if_icmp .eq 14, 3, 29, 0, 0), (40, .aload_n 0, 1, 0, 0, 0),
  (41, .getfield 22, 3, 6, 3, 86), (44, .iload 4, 2, 0, 0, 0), (46, .iaload, 1, 0, 0, 0), (47, .iload_n 1, 1, 0, 0, 0), (48, .if_icmp .lt 7, 3, 31, 0, 0), (51, .iconst 1, 1, 0, 0, 0), (52, .goto 4, 3, 32, 0, 0), (55, .iconst 0, 1, 0, 0, 0),
  (56, .iadd, 1, 0, 0, 0), (57, .istore_n 3, 1, 0, 0, 0), (58, .iinc 4 1, 3, 0, 0, 0), (61, .goto (-54), 3, 6, 0, 0), (64, .iconst 2, 1, 0, 0, 0), (65, .iload_n 3, 1, 0, 0, 0), (66, .imul, 1, 0, 0, 0), (67, .iload_n 2, 1, 0, 0, 0),
  (68, .if_icmp .le 7, 3, 43, 0, 0), (71, .iconst 1, 1, 0, 0, 0), (72, .goto 4, 3, 44, 0, 0), (75, .iconst 0, 1, 0, 0, 0), (76, .ireturn, 1, 0, 0, 0)]
set_option maxRecDepth 100000 in
noncomputable def rw_70 : List PRow := [
  (0, .aload_n 0, 1, 0, 0, 0), (1, .getfield 39, 3, 6, 4, 89), (4, .ifCond .eq 22, 3, 12, 0, 0), (7, .aload_n 0, 1, 0, 0, 0), (8, .getfield 62, 3, 6, 12, 94), (11, .iconst 3, 1, 0, 0, 0), (12, .if_icmp .eq 14, 3, 12, 0, 0), (15, .aload_n 0, 1, 0, 0, 0),
  (16, .invokevirtual 114, 3, 77, 0, 72), (19, .ifCond .eq 7, 3, 12, 0, 0), (22, .iconst 1, 1, 0, 0, 0), (23, .goto 4, 3, 13, 0, 0), (26, .iconst 0, 1, 0, 0, 0), (27, .ireturn, 1, 0, 0, 0)]
set_option maxRecDepth 100000 in
noncomputable def rw_71 : List PRow := [
  (0, .aload_n 0, 1, 0, 0, 0), (1, .getfield 62, 3, 6, 12, 94), (4, .iconst 3, 1, 0, 0, 0), (5, .if_icmp .ne 42, 3, 22, 0, 0), (8, .aload_n 0, 1, 0, 0, 0), (9, .aload_n 0, 1, 0, 0, 0), (10, .getfield 76, 3, 6, 15, 98), (13, .invokevirtual 118, 3, 75, 0, 73),
  (16, .aload_n 0, 1, 0, 0, 0), (17, .getfield 43, 3, 6, 5, 90), (20, .if_icmp .ne 27, 3, 22, 0, 0), (23, .aload_n 0, 1, 0, 0, 0), (24, .getfield 103, 3, 6, 11, 104), (27, .aload_n 0, 1, 0, 0, 0), (28, .getfield 76, 3, 6, 15, 98), (31, .if_icmp .gt 16, 3, 22, 0, 0),
  (34, .aload_n 0, 1, 0, 0, 0), (35, .getfield 49, 3, 6, 8, 92), (38, .bipush 40, 2, 0, 0, 0), (40, .if_icmp .ge 7, 3, 22, 0, 0), (43, .iconst 1, 1, 0, 0, 0), (44, .goto 4, 3, 23, 0, 0), (47, .iconst 0, 1, 0, 0, 0), (48, .ireturn, 1, 0, 0, 0)]
set_option maxRecDepth 100000 in
noncomputable def rw_72 : List PRow := [
  (0, .aload_n 0, 1, 0, 0, 0), (1, .invokevirtual 121, 3, 73, 0, 74), (4, .istore_n 3, 1, 0, 0, 0), (5, .iload_n 1, 1, 0, 0, 0), (6, .iload_n 3, 1, 0, 0, 0), (7, .if_icmp .gt 16, 3, 13, 0, 0), (10, .iload_n 1, 1, 0, 0, 0), (11, .iload_n 3, 1, 0, 0, 0),
  (12, .if_icmp .ne 15, 3, 15, 0, 0), (15, .iload_n 2, 1, 0, 0, 0), (16, .aload_n 0, 1, 0, 0, 0), (17, .invokevirtual 125, 3, 72, 0, 75), (20, .if_icmp .lt 7, 3, 15, 0, 0), (23, .iconst 1, 1, 0, 0, 0), (24, .goto 4, 3, 16, 0, 0), (27, .iconst 0, 1, 0, 0, 0),
  (28, .ireturn, 1, 0, 0, 0)]
set_option maxRecDepth 100000 in
noncomputable def rw_73 : List PRow := [
  (0, .aload_n 0, 1, 0, 0, 0), (1, .invokevirtual 125, 3, 72, 0, 75), (4, .aload_n 1, 1, 0, 0, 0), (5, .invokevirtual 125, 3, 72, 0, 75), (8, .invokestatic 128, 3, 3, 0, 76), (11, .istore_n 2, 1, 0, 0, 0), (12, .aload_n 0, 1, 0, 0, 0), (13, .getfield 52, 3, 6, 9, 93),
  (16, .getfield 71, 3, 7, 0, 97), (19, .aload_n 1, 1, 0, 0, 0), (20, .getfield 52, 3, 6, 9, 93), (23, .getfield 71, 3, 7, 0, 97), (26, .invokestatic 134, 3, 2, 0, 77), (29, .istore_n 3, 1, 0, 0, 0), (30, .iload_n 2, 1, 0, 0, 0), (31, .iload_n 3, 1, 0, 0, 0),
  (32, .if_icmp .gt 5, 3, 19, 0, 0), (35, .iload_n 2, 1, 0, 0, 0), (36, .ireturn, 1, 0, 0, 0), (37, .iload_n 3, 1, 0, 0, 0), (38, .iload_n 2, 1, 0, 0, 0), (39, .if_icmp .ge 26, 3, 35, 0, 0), (42, .aload_n 0, 1, 0, 0, 0), (43, .iload_n 3, 1, 0, 0, 0),
  (44, .iconst 1, 1, 0, 0, 0), (45, .iadd, 1, 0, 0, 0), (46, .invokevirtual 118, 3, 75, 0, 73), (49, .aload_n 1, 1, 0, 0, 0), (50, .iload_n 3, 1, 0, 0, 0), (51, .iconst 1, 1, 0, 0, 0), (52, .iadd, 1, 0, 0, 0), (53, .invokevirtual 118, 3, 75, 0, 73),
  (56, .if_icmp .ne 9, 3, 35, 0, 0), (59, .iinc 3 1, 3, 0, 0, 0), (62, .goto (-25), 3, 19, 0, 0), (65, .iload_n 3, 1, 0, 0, 0), (66, .ireturn, 1, 0, 0, 0)]
set_option maxRecDepth 100000 in
noncomputable def rw_74 : List PRow := [
  (0, .aload_n 0, 1, 0, 0, 0), (1, .getfield 49, 3, 6, 8, 92), (4, .aload_n 0, 1, 0, 0, 0), (5, .getfield 27, 3, 6, 7, 87), (8, .arraylength, 1, 0, 0, 0), (9, .if_icmp .lt 7, 3, 8, 0, 0), (12, .aload_n 0, 1, 0, 0, 0), (13, .invokevirtual 137, 3, 85, 0, 78),
  (16, .aload_n 0, 1, 0, 0, 0), (17, .getfield 49, 3, 6, 8, 92), (20, .aload_n 0, 1, 0, 0, 0), (21, .getfield 27, 3, 6, 7, 87), (24, .arraylength, 1, 0, 0, 0), (25, .if_icmp .ge 23, 3, 26, 0, 0), (28, .aload_n 0, 1, 0, 0, 0), (29, .getfield 27, 3, 6, 7, 87),
  (32, .aload_n 0, 1, 0, 0, 0), (33, .getfield 49, 3, 6, 8, 92), (36, .aload_n 1, 1, 0, 0, 0), (37, .aastore, 1, 0, 0, 0), (38, .aload_n 0, 1, 0, 0, 0), (39, .dup, 1, 0, 0, 0), (40, .getfield 49, 3, 6, 8, 92), (43, .iconst 1, 1, 0, 0, 0),
  (44, .iadd, 1, 0, 0, 0), (45, .putfield 49, 3, 6, 8, 92), (48, .aload_n 1, 1, 0, 0, 0), (49, .getfield 140, 3, 2, 1, 105), (52, .iconst 4, 1, 0, 0, 0), (53, .if_icmp .ne 27, 3, 42, 0, 0), (56, .aload_n 0, 1, 0, 0, 0), (57, .aload_n 1, 1, 0, 0, 0),
  (58, .getfield 143, 3, 2, 3, 106), (61, .putfield 100, 3, 6, 10, 102), (64, .aload_n 0, 1, 0, 0, 0), (65, .aload_n 0, 1, 0, 0, 0), (66, .getfield 52, 3, 6, 9, 93), (69, .getfield 71, 3, 7, 0, 97), (72, .aload_n 0, 1, 0, 0, 0), (73, .getfield 49, 3, 6, 8, 92),
  (76, .iadd, 1, 0, 0, 0), (77, .putfield 103, 3, 6, 11, 104), (80, .return_, 1, 0, 0, 0)]
set_option maxRecDepth 100000 in
noncomputable def rw_75 : List PRow := [
  (0, .aload_n 0, 1, 0, 0, 0), (1, .getfield 27, 3, 6, 7, 87), (4, .arraylength, 1, 0, 0, 0), (5, .ldc 144, 2, 1048576, 0, 0), (7, .if_icmp .lt 4, 3, 6, 0, 0), (10, .return_, 1, 0, 0, 0), (11, .aload_n 0, 1, 0, 0, 0), (12, .getfield 27, 3, 6, 7, 87),
  (15, .arraylength, 1, 0, 0, 0), (16, .iconst 2, 1, 0, 0, 0), (17, .imul, 1, 0, 0, 0), (18, .anewarray 25, 3, 16, 0, 11), (21, .astore_n 1, 1, 0, 0, 0), (22, .iconst 0, 1, 0, 0, 0), (23, .istore_n 2, 1, 0, 0, 0), (24, .iload_n 2, 1, 0, 0, 0),
  (25, .aload_n 0, 1, 0, 0, 0), (26, .getfield 27, 3, 6, 7, 87), (29, .arraylength, 1, 0, 0, 0), (30, .if_icmp .ge 18, 3, 29, 0, 0), (33, .aload_n 1, 1, 0, 0, 0), (34, .iload_n 2, 1, 0, 0, 0), (35, .aload_n 0, 1, 0, 0, 0), (36, .getfield 27, 3, 6, 7, 87),
  (39, .iload_n 2, 1, 0, 0, 0), (40, .aaload, 1, 0, 0, 0), (41, .aastore, 1, 0, 0, 0), (42, .iinc 2 1, 3, 0, 0, 0), (45, .goto (-21), 3, 15, 0, 0), (48, .aload_n 0, 1, 0, 0, 0), (49, .aload_n 1, 1, 0, 0, 0), (50, .putfield 27, 3, 6, 7, 87),
  (53, .return_, 1, 0, 0, 0)]
set_option maxRecDepth 100000 in
noncomputable def rw_76 : List PRow := [
  (0, .aload_n 0, 1, 0, 0, 0), (1, .aload_n 0, 1, 0, 0, 0), (2, .getfield 52, 3, 6, 9, 93), (5, .getfield 145, 3, 7, 2, 107), (8, .putfield 100, 3, 6, 10, 102), (11, .aload_n 0, 1, 0, 0, 0), (12, .iconst (-1), 1, 0, 0, 0), (13, .putfield 103, 3, 6, 11, 104),
  (16, .aload_n 0, 1, 0, 0, 0), (17, .getfield 49, 3, 6, 8, 92), (20, .iconst 1, 1, 0, 0, 0), (21, .isub, 1, 0, 0, 0), (22, .istore_n 1, 1, 0, 0, 0), (23, .iload_n 1, 1, 0, 0, 0), (24, .ifCond .lt 51, 3, 41, 0, 0), (27, .aload_n 0, 1, 0, 0, 0),
  (28, .getfield 27, 3, 6, 7, 87), (31, .iload_n 1, 1, 0, 0, 0), (32, .aaload, 1, 0, 0, 0), (33, .getfield 140, 3, 2, 1, 105), (36, .iconst 4, 1, 0, 0, 0), (37, .if_icmp .ne 32, 3, 39, 0, 0), (40, .aload_n 0, 1, 0, 0, 0), (41, .aload_n 0, 1, 0, 0, 0),
  (42, .getfield 27, 3, 6, 7, 87), (45, .iload_n 1, 1, 0, 0, 0), (46, .aaload, 1, 0, 0, 0), (47, .getfield 143, 3, 2, 3, 106), (50, .putfield 100, 3, 6, 10, 102), (53, .aload_n 0, 1, 0, 0, 0), (54, .aload_n 0, 1, 0, 0, 0), (55, .getfield 52, 3, 6, 9, 93),
  (58, .getfield 71, 3, 7, 0, 97), (61, .iconst 1, 1, 0, 0, 0), (62, .iadd, 1, 0, 0, 0), (63, .iload_n 1, 1, 0, 0, 0), (64, .iadd, 1, 0, 0, 0), (65, .putfield 103, 3, 6, 11, 104), (68, .return_, 1, 0, 0, 0), (69, .iinc 1 (-1), 3, 0, 0, 0),
  (72, .goto (-49), 3, 13, 0, 0), (75, .return_, 1, 0, 0, 0)]
set_option maxRecDepth 100000 in
noncomputable def rw_77 : List PRow := [
  (0, .iload_n 1, 1, 0, 0, 0), (1, .aload_n 0, 1, 0, 0, 0), (2, .getfield 52, 3, 6, 9, 93), (5, .getfield 71, 3, 7, 0, 97), (8, .isub, 1, 0, 0, 0), (9, .iconst 1, 1, 0, 0, 0), (10, .isub, 1, 0, 0, 0), (11, .istore_n 2, 1, 0, 0, 0),
  (12, .iload_n 2, 1, 0, 0, 0), (13, .ifCond .lt 40, 3, 29, 0, 0), (16, .iload_n 2, 1, 0, 0, 0), (17, .aload_n 0, 1, 0, 0, 0), (18, .getfield 49, 3, 6, 8, 92), (21, .if_icmp .ge 26, 3, 27, 0, 0), (24, .aload_n 0, 1, 0, 0, 0), (25, .getfield 27, 3, 6, 7, 87),
  (28, .iload_n 2, 1, 0, 0, 0), (29, .aaload, 1, 0, 0, 0), (30, .getfield 140, 3, 2, 1, 105), (33, .iconst 4, 1, 0, 0, 0), (34, .if_icmp .ne 13, 3, 27, 0, 0), (37, .aload_n 0, 1, 0, 0, 0), (38, .getfield 27, 3, 6, 7, 87), (41, .iload_n 2, 1, 0, 0, 0),
  (42, .aaload, 1, 0, 0, 0), (43, .getfield 143, 3, 2, 3, 106), (46, .ireturn, 1, 0, 0, 0), (47, .iinc 2 (-1), 3, 0, 0, 0), (50, .goto (-38), 3, 8, 0, 0), (53, .aload_n 0, 1, 0, 0, 0), (54, .getfield 52, 3, 6, 9, 93), (57, .getfield 145, 3, 7, 2, 107),
  (60, .ireturn, 1, 0, 0, 0)]
set_option maxRecDepth 100000 in
noncomputable def rw_78 : List PRow := [
  (0, .aload_n 0, 1, 0, 0, 0), (1, .getfield 76, 3, 6, 15, 98), (4, .aload_n 0, 1, 0, 0, 0), (5, .getfield 52, 3, 6, 9, 93), (8, .getfield 71, 3, 7, 0, 97), (11, .isub, 1, 0, 0, 0), (12, .istore_n 1, 1, 0, 0, 0), (13, .aload_n 0, 1, 0, 0, 0),
  (14, .new 72, 3, 7, 0, 12), (17, .dup, 1, 0, 0, 0), (18, .aload_n 0, 1, 0, 0, 0), (19, .getfield 76, 3, 6, 15, 98), (22, .aload_n 0, 1, 0, 0, 0), (23, .aload_n 0, 1, 0, 0, 0), (24, .getfield 76, 3, 6, 15, 98), (27, .invokevirtual 118, 3, 75, 0, 73),
  (30, .aload_n 0, 1, 0, 0, 0), (31, .aload_n 0, 1, 0, 0, 0), (32, .getfield 76, 3, 6, 15, 98), (35, .invokevirtual 146, 3, 87, 0, 79), (38, .aload_n 0, 1, 0, 0, 0), (39, .getfield 12, 3, 6, 1, 84), (42, .invokespecial 149, 3, 100, 1, 80), (45, .iload_n 1, 1, 0, 0, 0),
  (46, .invokevirtual 152, 3, 90, 0, 81), (49, .iload_n 1, 1, 0, 0, 0), (50, .ireturn, 1, 0, 0, 0)]
set_option maxRecDepth 100000 in
noncomputable def rw_79 : List PRow := [
  (0, .aload_n 0, 1, 0, 0, 0), (1, .aload_n 1, 1, 0, 0, 0), (2, .getfield 71, 3, 7, 0, 97), (5, .aload_n 1, 1, 0, 0, 0), (6, .getfield 107, 3, 7, 1, 101), (9, .invokevirtual 156, 3, 91, 0, 82), (12, .istore_n 2, 1, 0, 0, 0), (13, .aload_n 0, 1, 0, 0, 0),
  (14, .aload_n 1, 1, 0, 0, 0), (15, .iload_n 2, 1, 0, 0, 0), (16, .ifCond .eq 18, 3, 18, 0, 0), (19, .aload_n 1, 1, 0, 0, 0), (20, .getfield 71, 3, 7, 0, 97), (23, .aload_n 0, 1, 0, 0, 0), (24, .getfield 52, 3, 6, 9, 93), (27, .getfield 71, 3, 7, 0, 97),
  (30, .isub, 1, 0, 0, 0), (31, .goto 7, 3, 20, 0, 0), (34, .aload_n 0, 1, 0, 0, 0), (35, .getfield 49, 3, 6, 8, 92), (38, .invokevirtual 152, 3, 90, 0, 81), (41, .aload_n 0, 1, 0, 0, 0), (42, .aload_n 1, 1, 0, 0, 0), (43, .getfield 71, 3, 7, 0, 97),
  (46, .putfield 76, 3, 6, 15, 98), (49, .aload_n 0, 1, 0, 0, 0), (50, .getfield 12, 3, 6, 1, 84), (53, .aload_n 1, 1, 0, 0, 0), (54, .getfield 79, 3, 7, 3, 99), (57, .invokevirtual 80, 3, 102, 0, 70), (60, .return_, 1, 0, 0, 0)]
set_option maxRecDepth 100000 in
noncomputable def rw_80 : List PRow := [
  (0, .iload_n 2, 1, 0, 0, 0), (1, .iconst 0, 1, 0, 0, 0), (2, .invokestatic 134, 3, 2, 0, 77), (5, .istore_n 3, 1, 0, 0, 0), (6, .iload_n 3, 1, 0, 0, 0), (7, .aload_n 0, 1, 0, 0, 0), (8, .getfield 49, 3, 6, 8, 92), (11, .if_icmp .ge 23, 3, 20, 0, 0),
  (14, .aload_n 0, 1, 0, 0, 0), (15, .getfield 27, 3, 6, 7, 87), (18, .iload_n 3, 1, 0, 0, 0), (19, .iload_n 2, 1, 0, 0, 0), (20, .isub, 1, 0, 0, 0), (21, .aload_n 0, 1, 0, 0, 0), (22, .getfield 27, 3, 6, 7, 87), (25, .iload_n 3, 1, 0, 0, 0),
  (26, .aaload, 1, 0, 0, 0), (27, .aastore, 1, 0, 0, 0), (28, .iinc 3 1, 3, 0, 0, 0), (31, .goto (-25), 3, 4, 0, 0), (34, .aload_n 0, 1, 0, 0, 0), (35, .dup, 1, 0, 0, 0), (36, .getfield 49, 3, 6, 8, 92), (39, .iload_n 2, 1, 0, 0, 0),
  (40, .isub, 1, 0, 0, 0), (41, .putfield 49, 3, 6, 8, 92), (44, .aload_n 0, 1, 0, 0, 0), (45, .aload_n 1, 1, 0, 0, 0), (46, .putfield 52, 3, 6, 9, 93), (49, .aload_n 0, 1, 0, 0, 0), (50, .invokevirtual 56, 3, 86, 0, 68), (53, .return_, 1, 0, 0, 0)]
set_option maxRecDepth 100000 in
noncomputable def rw_81 : List PRow := [
  (0, .aload_n 0, 1, 0, 0, 0), (1, .iload_n 1, 1, 0, 0, 0), (2, .invokevirtual 160, 3, 74, 0, 83), (5, .astore_n 3, 1, 0, 0, 0), (6, .aload_n 3, 1, 0, 0, 0), (7, .ifnull 15, 3, 12, 0, 0), (10, .aload_n 3, 1, 0, 0, 0), (11, .getfield 106, 3, 2, 0, 100),
  (14, .iload_n 2, 1, 0, 0, 0), (15, .if_icmp .ne 7, 3, 12, 0, 0), (18, .iconst 1, 1, 0, 0, 0), (19, .goto 4, 3, 13, 0, 0), (22, .iconst 0, 1, 0, 0, 0), (23, .ireturn, 1, 0, 0, 0)]
set_option maxRecDepth 100000 in
noncomputable def rw_82 : List PRow := [
  (0, .iload_n 1, 1, 0, 0, 0), (1, .aload_n 0, 1, 0, 0, 0), (2, .getfield 52, 3, 6, 9, 93), (5, .getfield 71, 3, 7, 0, 97), (8, .if_icmp .le 12, 3, 10, 0, 0), (11, .aload_n 0, 1, 0, 0, 0), (12, .iload_n 1, 1, 0, 0, 0), (13, .iload_n 2, 1, 0, 0, 0),
  (14, .invokevirtual 156, 3, 91, 0, 82), (17, .ifCond .eq 7, 3, 12, 0, 0), (20, .iconst 1, 1, 0, 0, 0), (21, .goto 4, 3, 13, 0, 0), (24, .iconst 0, 1, 0, 0, 0), (25, .ireturn, 1, 0, 0, 0)]
set_option maxRecDepth 100000 in
noncomputable def rw_83 : List PRow := [
  (0, .aload_n 0, 1, 0, 0, 0), (1, .invokevirtual 125, 3, 72, 0, 75), (4, .iload_n 1, 1, 0, 0, 0), (5, .if_icmp .ge 8, 3, 7, 0, 0), (8, .aload_n 0, 1, 0, 0, 0), (9, .invokevirtual 125, 3, 72, 0, 75), (12, .ireturn, 1, 0, 0, 0), (13, .aload_n 0, 1, 0, 0, 0),
  (14, .iload_n 1, 1, 0, 0, 0), (15, .invokevirtual 118, 3, 75, 0, 73), (18, .istore_n 2, 1, 0, 0, 0), (19, .iload_n 1, 1, 0, 0, 0), (20, .istore_n 3, 1, 0, 0, 0), (21, .iload_n 3, 1, 0, 0, 0), (22, .aload_n 0, 1, 0, 0, 0), (23, .getfield 52, 3, 6, 9, 93),
  (26, .getfield 71, 3, 7, 0, 97), (29, .if_icmp .le 18, 3, 25, 0, 0), (32, .aload_n 0, 1, 0, 0, 0), (33, .iload_n 3, 1, 0, 0, 0), (34, .invokevirtual 118, 3, 75, 0, 73), (37, .iload_n 2, 1, 0, 0, 0), (38, .if_icmp .ne 9, 3, 25, 0, 0), (41, .iinc 3 (-1), 3, 0, 0, 0),
  (44, .goto (-23), 3, 13, 0, 0), (47, .iload_n 3, 1, 0, 0, 0), (48, .aload_n 0, 1, 0, 0, 0), (49, .getfield 76, 3, 6, 15, 98), (52, .invokestatic 134, 3, 2, 0, 77), (55, .ireturn, 1, 0, 0, 0)]
set_option maxRecDepth 100000 in
noncomputable def rw_84 : List PRow := [
  (0, .iload_n 1, 1, 0, 0, 0), (1, .aload_n 0, 1, 0, 0, 0), (2, .getfield 52, 3, 6, 9, 93), (5, .getfield 71, 3, 7, 0, 97), (8, .if_icmp .le 15, 3, 11, 0, 0), (11, .aload_n 0, 1, 0, 0, 0), (12, .iload_n 1, 1, 0, 0, 0), (13, .aload_n 2, 1, 0, 0, 0),
  (14, .getfield 106, 3, 2, 0, 100), (17, .invokevirtual 156, 3, 91, 0, 82), (20, .ifCond .eq 4, 3, 12, 0, 0), (23, .return_, 1, 0, 0, 0), (24, .iload_n 1, 1, 0, 0, 0), (25, .aload_n 0, 1, 0, 0, 0), (26, .invokevirtual 125, 3, 72, 0, 75), (29, .if_icmp .gt 22, 3, 27, 0, 0),
  (32, .aload_n 0, 1, 0, 0, 0), (33, .iload_n 1, 1, 0, 0, 0), (34, .aload_n 0, 1, 0, 0, 0), (35, .getfield 52, 3, 6, 9, 93), (38, .getfield 71, 3, 7, 0, 97), (41, .isub, 1, 0, 0, 0), (42, .iconst 1, 1, 0, 0, 0), (43, .isub, 1, 0, 0, 0),
  (44, .putfield 49, 3, 6, 8, 92), (47, .aload_n 0, 1, 0, 0, 0), (48, .invokevirtual 56, 3, 86, 0, 68), (51, .aload_n 0, 1, 0, 0, 0), (52, .aload_n 2, 1, 0, 0, 0), (53, .invokevirtual 96, 3, 84, 0, 84), (56, .return_, 1, 0, 0, 0)]
set_option maxRecDepth 100000 in
noncomputable def rw_85 : List PRow := [
  (0, .aload_n 0, 1, 0, 0, 0), (1, .iload_n 1, 1, 0, 0, 0), (2, .putfield 43, 3, 6, 5, 90), (5, .aload_n 0, 1, 0, 0, 0), (6, .iconst (-1), 1, 0, 0, 0), (7, .putfield 46, 3, 6, 6, 91), (10, .aload_n 0, 1, 0, 0, 0), (11, .iconst 0, 1, 0, 0, 0),
  (12, .putfield 62, 3, 6, 12, 94), (15, .aload_n 0, 1, 0, 0, 0), (16, .iconst (-1), 1, 0, 0, 0), (17, .putfield 65, 3, 6, 13, 95), (20, .return_, 1, 0, 0, 0)]
set_option maxRecDepth 100000 in
noncomputable def rw_86 : List PRow := [
  (0, .aload_n 0, 1, 0, 0, 0), (1, .iconst 0, 1, 0, 0, 0), (2, .putfield 62, 3, 6, 12, 94), (5, .aload_n 0, 1, 0, 0, 0), (6, .iload_n 1, 1, 0, 0, 0), (7, .putfield 65, 3, 6, 13, 95), (10, .aload_n 0, 1, 0, 0, 0), (11, .iconst 0, 1, 0, 0, 0),
  (12, .putfield 68, 3, 6, 14, 96), (15, .return_, 1, 0, 0, 0)]
set_option maxRecDepth 100000 in
noncomputable def rw_87 : List PRow := [
  (0, .aload_n 0, 1, 0, 0, 0), (1, .iload_n 1, 1, 0, 0, 0), (2, .putfield 62, 3, 6, 12, 94), (5, .aload_n 0, 1, 0, 0, 0), (6, .iconst (-1), 1, 0, 0, 0), (7, .putfield 65, 3, 6, 13, 95), (10, .aload_n 0, 1, 0, 0, 0), (11, .iconst 0, 1, 0, 0, 0),
  (12, .putfield 68, 3, 6, 14, 96), (15, .aload_n 0, 1, 0, 0, 0), (16, .iconst 1, 1, 0, 0, 0), (17, .aload_n 0, 1, 0, 0, 0), (18, .getfield 31, 3, 6, 0, 88), (21, .ishl, 1, 0, 0, 0), (22, .putfield 90, 3, 6, 16, 103), (25, .return_, 1, 0, 0, 0)]
set_option maxRecDepth 100000 in
noncomputable def rw_88 : List PRow := [
  (0, .aload_n 0, 1, 0, 0, 0), (1, .iconst 3, 1, 0, 0, 0), (2, .putfield 62, 3, 6, 12, 94), (5, .aload_n 0, 1, 0, 0, 0), (6, .iconst (-1), 1, 0, 0, 0), (7, .putfield 65, 3, 6, 13, 95), (10, .aload_n 0, 1, 0, 0, 0), (11, .iconst 0, 1, 0, 0, 0),
  (12, .putfield 93, 3, 6, 17, 108), (15, .aload_n 0, 1, 0, 0, 0), (16, .getfield 18, 3, 6, 2, 85), (19, .aload_n 0, 1, 0, 0, 0), (20, .invokevirtual 125, 3, 72, 0, 75), (23, .iconst 1, 1, 0, 0, 0), (24, .iadd, 1, 0, 0, 0), (25, .invokestatic 164, 3, 390, 0, 85),
  (28, .aload_n 0, 1, 0, 0, 0), (29, .getfield 22, 3, 6, 3, 86), (32, .iconst 0, 1, 0, 0, 0), (33, .invokestatic 164, 3, 390, 0, 85), (36, .aload_n 0, 1, 0, 0, 0), (37, .new 25, 3, 2, 0, 13), (40, .dup, 1, 0, 0, 0), (41, .aload_n 0, 1, 0, 0, 0),
  (42, .getfield 43, 3, 6, 5, 90), (45, .iconst 0, 1, 0, 0, 0), (46, .aconst_null, 1, 0, 0, 0), (47, .iconst 0, 1, 0, 0, 0), (48, .invokespecial 170, 3, 49, 1, 86), (51, .invokevirtual 96, 3, 84, 0, 84), (54, .return_, 1, 0, 0, 0)]
set_option maxRecDepth 100000 in
noncomputable def rw_89 : List PRow := [
  (0, .iload_n 2, 1, 0, 0, 0), (1, .aload_n 0, 1, 0, 0, 0), (2, .getfield 22, 3, 6, 3, 86), (5, .iload_n 1, 1, 0, 0, 0), (6, .iaload, 1, 0, 0, 0), (7, .if_icmp .le 19, 3, 18, 0, 0), (10, .aload_n 0, 1, 0, 0, 0), (11, .getfield 22, 3, 6, 3, 86),
  (14, .iload_n 1, 1, 0, 0, 0), (15, .iload_n 2, 1, 0, 0, 0), (16, .iastore, 1, 0, 0, 0), (17, .aload_n 0, 1, 0, 0, 0), (18, .getfield 18, 3, 6, 2, 85), (21, .iload_n 1, 1, 0, 0, 0), (22, .iload_n 2, 1, 0, 0, 0), (23, .iconst 1, 1, 0, 0, 0),
  (24, .iadd, 1, 0, 0, 0), (25, .iastore, 1, 0, 0, 0), (26, .return_, 1, 0, 0, 0)]
set_option maxRecDepth 100000 in
noncomputable def rw_90 : List PRow := [
  (0, .aload_n 0, 1, 0, 0, 0), (1, .invokespecial 1, 3, 0, 1, 87), (4, .aload_n 0, 1, 0, 0, 0), (5, .new 7, 3, 8, 0, 14), (8, .dup, 1, 0, 0, 0), (9, .invokespecial 9, 3, 101, 1, 88), (12, .putfield 10, 3, 7, 3, 109), (15, .aload_n 0, 1, 0, 0, 0),
  (16, .iload_n 1, 1, 0, 0, 0), (17, .putfield 16, 3, 7, 0, 110), (20, .aload_n 0, 1, 0, 0, 0), (21, .iload_n 2, 1, 0, 0, 0), (22, .putfield 20, 3, 7, 1, 111), (25, .aload_n 0, 1, 0, 0, 0), (26, .iload_n 3, 1, 0, 0, 0), (27, .putfield 23, 3, 7, 2, 112),
  (30, .aload 4, 2, 0, 0, 0), (32, .ifnull 12, 3, 22, 0, 0), (35, .aload_n 0, 1, 0, 0, 0), (36, .getfield 10, 3, 7, 3, 109), (39, .aload 4, 2, 0, 0, 0), (41, .invokevirtual 26, 3, 102, 0, 89), (44, .return_, 1, 0, 0, 0)]
set_option maxRecDepth 100000 in
noncomputable def rw_91 : List PRow := [
  (0, .aload_n 0, 1, 0, 0, 0), (1, .invokespecial 3, 3, 0, 1, 90), (4, .aload_n 0, 1, 0, 0, 0), (5, .bipush 8, 2, 0, 0, 0), (7, .newarray .int, 2, 0, 0, 0), (9, .putfield 9, 3, 8, 0, 113), (12, .aload_n 0, 1, 0, 0, 0), (13, .iconst 4, 1, 0, 0, 0),
  (14, .newarray .int, 2, 0, 0, 0), (16, .putfield 15, 3, 8, 1, 114), (19, .aload_n 0, 1, 0, 0, 0), (20, .iconst 4, 1, 0, 0, 0), (21, .newarray .int, 2, 0, 0, 0), (23, .putfield 18, 3, 8, 2, 115), (26, .return_, 1, 0, 0, 0)]
set_option maxRecDepth 100000 in
noncomputable def rw_92 : List PRow := [
  (0, .aload_n 1, 1, 0, 0, 0), (1, .getfield 9, 3, 8, 0, 113), (4, .iconst 0, 1, 0, 0, 0), (5, .aload_n 0, 1, 0, 0, 0), (6, .getfield 9, 3, 8, 0, 113), (9, .iconst 0, 1, 0, 0, 0), (10, .bipush 8, 2, 0, 0, 0), (12, .invokestatic 21, 3, 1, 0, 91),
  (15, .aload_n 1, 1, 0, 0, 0), (16, .getfield 15, 3, 8, 1, 114), (19, .iconst 0, 1, 0, 0, 0), (20, .aload_n 0, 1, 0, 0, 0), (21, .getfield 15, 3, 8, 1, 114), (24, .iconst 0, 1, 0, 0, 0), (25, .iconst 4, 1, 0, 0, 0), (26, .invokestatic 21, 3, 1, 0, 91),
  (29, .aload_n 1, 1, 0, 0, 0), (30, .getfield 18, 3, 8, 2, 115), (33, .iconst 0, 1, 0, 0, 0), (34, .aload_n 0, 1, 0, 0, 0), (35, .getfield 18, 3, 8, 2, 115), (38, .iconst 0, 1, 0, 0, 0), (39, .iconst 4, 1, 0, 0, 0), (40, .invokestatic 21, 3, 1, 0, 91),
  (43, .return_, 1, 0, 0, 0)]
set_option maxRecDepth 100000 in
noncomputable def rw_93 : List PRow := [
  (0, .aload_n 1, 1, 0, 0, 0), (1, .getfield 27, 3, 5, 1, 116), (4, .aload_n 0, 1, 0, 0, 0), (5, .getfield 15, 3, 8, 1, 114), (8, .aload_n 1, 1, 0, 0, 0), (9, .getfield 33, 3, 5, 0, 117), (12, .iaload, 1, 0, 0, 0), (13, .if_icmp .gt 4, 3, 9, 0, 0),
  (16, .return_, 1, 0, 0, 0), (17, .aload_n 0, 1, 0, 0, 0), (18, .getfield 15, 3, 8, 1, 114), (21, .aload_n 1, 1, 0, 0, 0), (22, .getfield 33, 3, 5, 0, 117), (25, .aload_n 1, 1, 0, 0, 0), (26, .getfield 27, 3, 5, 1, 116), (29, .iastore, 1, 0, 0, 0),
  (30, .aload_n 0, 1, 0, 0, 0), (31, .getfield 9, 3, 8, 0, 113), (34, .aload_n 1, 1, 0, 0, 0), (35, .getfield 36, 3, 5, 3, 118), (38, .iaload, 1, 0, 0, 0), (39, .istore_n 2, 1, 0, 0, 0), (40, .aload_n 1, 1, 0, 0, 0), (41, .getfield 39, 3, 5, 2, 119),
  (44, .iconst 1, 1, 0, 0, 0), (45, .if_icmp .ne 29, 3, 40, 0, 0), (48, .aload_n 0, 1, 0, 0, 0), (49, .getfield 9, 3, 8, 0, 113), (52, .aload_n 1, 1, 0, 0, 0), (53, .getfield 36, 3, 5, 3, 118), (56, .aload_n 1, 1, 0, 0, 0), (57, .getfield 42, 3, 5, 5, 120),
  (60, .iastore, 1, 0, 0, 0), (61, .aload_n 0, 1, 0, 0, 0), (62, .getfield 18, 3, 8, 2, 115), (65, .aload_n 1, 1, 0, 0, 0), (66, .getfield 33, 3, 5, 0, 117), (69, .iload_n 2, 1, 0, 0, 0), (70, .iastore, 1, 0, 0, 0), (71, .goto 94, 3, 89, 0, 0),
  (74, .aload_n 1, 1, 0, 0, 0), (75, .getfield 39, 3, 5, 2, 119), (78, .iconst 2, 1, 0, 0, 0), (79, .if_icmp .ne 39, 3, 64, 0, 0), (82, .aload_n 0, 1, 0, 0, 0), (83, .getfield 9, 3, 8, 0, 113), (86, .aload_n 1, 1, 0, 0, 0), (87, .getfield 36, 3, 5, 3, 118),
  (90, .iload_n 2, 1, 0, 0, 0), (91, .aload_n 1, 1, 0, 0, 0), (92, .getfield 42, 3, 5, 5, 120), (95, .iadd, 1, 0, 0, 0), (96, .iastore, 1, 0, 0, 0), (97, .aload_n 0, 1, 0, 0, 0), (98, .getfield 18, 3, 8, 2, 115), (101, .aload_n 1, 1, 0, 0, 0),
  (102, .getfield 33, 3, 5, 0, 117), (105, .aload_n 0, 1, 0, 0, 0), (106, .getfield 9, 3, 8, 0, 113), (109, .aload_n 1, 1, 0, 0, 0), (110, .getfield 36, 3, 5, 3, 118), (113, .iaload, 1, 0, 0, 0), (114, .iastore, 1, 0, 0, 0), (115, .goto 50, 3, 89, 0, 0),
  (118, .aload_n 0, 1, 0, 0, 0), (119, .getfield 9, 3, 8, 0, 113), (122, .aload_n 1, 1, 0, 0, 0), (123, .getfield 36, 3, 5, 3, 118), (126, .iload_n 2, 1, 0, 0, 0), (127, .aload_n 1, 1, 0, 0, 0), (128, .getfield 45, 3, 5, 4, 121), (131, .if_icmp .ne 10, 3, 75, 0, 0),
  (134, .aload_n 1, 1, 0, 0, 0), (135, .getfield 42, 3, 5, 5, 120), (138, .goto 4, 3, 76, 0, 0), (141, .iload_n 2, 1, 0, 0, 0), (142, .iastore, 1, 0, 0, 0), (143, .aload_n 0, 1, 0, 0, 0), (144, .getfield 18, 3, 8, 2, 115), (147, .aload_n 1, 1, 0, 0, 0),
  (148, .getfield 33, 3, 5, 0, 117), (151, .iload_n 2, 1, 0, 0, 0), (152, .aload_n 1, 1, 0, 0, 0), (153, .getfield 45, 3, 5, 4, 121), (156, .if_icmp .ne 7, 3, 87, 0, 0), (159, .iconst 1, 1, 0, 0, 0), (160, .goto 4, 3, 88, 0, 0), (163, .iconst 0, 1, 0, 0, 0),
  (164, .iastore, 1, 0, 0, 0), (165, .return_, 1, 0, 0, 0)]
set_option maxRecDepth 100000 in
noncomputable def rw_94 : List PRow := [
  (0, .aload_n 0, 1, 0, 0, 0), (1, .invokespecial 1, 3, 0, 1, 92), (4, .aload_n 0, 1, 0, 0, 0), (5, .new 7, 3, 1, 0, 15), (8, .dup, 1, 0, 0, 0), (9, .invokespecial 9, 3, 16, 1, 93), (12, .putfield 10, 3, 9, 0, 122), (15, .aload_n 0, 1, 0, 0, 0),
  (16, .new 7, 3, 1, 0, 15), (19, .dup, 1, 0, 0, 0), (20, .invokespecial 9, 3, 16, 1, 93), (23, .putfield 16, 3, 9, 1, 123), (26, .return_, 1, 0, 0, 0)]
set_option maxRecDepth 100000 in
noncomputable def rw_95 : List PRow := [
  (0, .iload_n 1, 1, 0, 0, 0), (1, .iconst 1, 1, 0, 0, 0), (2, .if_icmp .lt 9, 3, 6, 0, 0), (5, .iload_n 1, 1, 0, 0, 0), (6, .bipush 7, 2, 0, 0, 0), (8, .if_icmp .le 13, 3, 11, 0, 0), (11, .new 19, 3, 100, 0, 0), (14, .dup, 1, 0, 0, 0),
  (15, .ldc 21, 2, 0, 0, 0), (17, .invokespecial 23, 3, 9, 1, 0), (20, .athrow, 1, 0, 0, 0), (21, .aload_n 0, 1, 0, 0, 0), (22, .getfield 10, 3, 9, 0, 122), (25, .iload_n 1, 1, 0, 0, 0), (26, .invokevirtual 26, 3, 18, 0, 94), (29, .iload_n 1, 1, 0, 0, 0),
  (30, .iconst 2, 1, 0, 0, 0), (31, .idiv, 1, 0, 0, 0), (32, .iconst 1, 1, 0, 0, 0), (33, .iadd, 1, 0, 0, 0), (34, .ireturn, 1, 0, 0, 0)]
set_option maxRecDepth 100000 in
noncomputable def rw_96 : List PRow := [
  (0, .aload_n 0, 1, 0, 0, 0), (1, .iload_n 1, 1, 0, 0, 0), (2, .invokevirtual 30, 3, 186, 0, 95), (5, .astore_n 2, 1, 0, 0, 0), (6, .aload_n 2, 1, 0, 0, 0), (7, .getfield 34, 3, 6, 4, 124), (10, .ifCond .ne 7, 3, 9, 0, 0), (13, .iconst 1, 1, 0, 0, 0),
  (14, .goto 4, 3, 10, 0, 0), (17, .iconst 0, 1, 0, 0, 0), (18, .invokestatic 40, 3, 178, 0, 96), (21, .aload_n 2, 1, 0, 0, 0), (22, .invokevirtual 44, 3, 69, 0, 97), (25, .aload_n 0, 1, 0, 0, 0), (26, .getfield 10, 3, 9, 0, 122), (29, .invokevirtual 47, 3, 20, 0, 98),
  (32, .ireturn, 1, 0, 0, 0)]
set_option maxRecDepth 100000 in
noncomputable def rw_97 : List PRow := [
  (0, .aload_n 0, 1, 0, 0, 0), (1, .iload_n 1, 1, 0, 0, 0), (2, .invokevirtual 30, 3, 186, 0, 95), (5, .astore_n 2, 1, 0, 0, 0), (6, .aload_n 2, 1, 0, 0, 0), (7, .getfield 34, 3, 6, 4, 124), (10, .invokestatic 40, 3, 178, 0, 96), (13, .aload_n 2, 1, 0, 0, 0),
  (14, .iconst 1, 1, 0, 0, 0), (15, .putfield 34, 3, 6, 4, 124), (18, .aload_n 0, 1, 0, 0, 0), (19, .getfield 10, 3, 9, 0, 122), (22, .invokevirtual 47, 3, 20, 0, 98), (25, .ireturn, 1, 0, 0, 0)]
set_option maxRecDepth 100000 in
noncomputable def rw_98 : List PRow := [
  (0, .iload_n 1, 1, 0, 0, 0), (1, .iload_n 2, 1, 0, 0, 0), (2, .invokestatic 51, 3, 180, 0, 99), (5, .aload_n 0, 1, 0, 0, 0), (6, .getfield 10, 3, 9, 0, 122), (9, .getfield 55, 3, 1, 2, 125), (12, .iload_n 1, 1, 0, 0, 0), (13, .iload_n 2, 1, 0, 0, 0),
  (14, .invokevirtual 59, 3, 60, 0, 100), (17, .invokestatic 40, 3, 178, 0, 96), (20, .aload_n 0, 1, 0, 0, 0), (21, .getfield 10, 3, 9, 0, 122), (24, .getfield 55, 3, 1, 2, 125), (27, .iload_n 1, 1, 0, 0, 0), (28, .iload_n 2, 1, 0, 0, 0), (29, .invokevirtual 65, 3, 61, 0, 101),
  (32, .ireturn, 1, 0, 0, 0)]
set_option maxRecDepth 100000 in
noncomputable def rw_99 : List PRow := [
  (0, .iload_n 1, 1, 0, 0, 0), (1, .iload_n 2, 1, 0, 0, 0), (2, .invokestatic 51, 3, 180, 0, 99), (5, .aload_n 0, 1, 0, 0, 0), (6, .getfield 10, 3, 9, 0, 122), (9, .getfield 55, 3, 1, 2, 125), (12, .iload_n 1, 1, 0, 0, 0), (13, .iload_n 2, 1, 0, 0, 0),
  (14, .invokevirtual 59, 3, 60, 0, 100), (17, .ifCond .ne 7, 3, 12, 0, 0), (20, .iconst 1, 1, 0, 0, 0), (21, .goto 4, 3, 13, 0, 0), (24, .iconst 0, 1, 0, 0, 0), (25, .invokestatic 40, 3, 178, 0, 96), (28, .aload_n 0, 1, 0, 0, 0), (29, .getfield 10, 3, 9, 0, 122),
  (32, .getfield 55, 3, 1, 2, 125), (35, .iload_n 1, 1, 0, 0, 0), (36, .iload_n 2, 1, 0, 0, 0), (37, .invokevirtual 65, 3, 61, 0, 101), (40, .ireturn, 1, 0, 0, 0)]
set_option maxRecDepth 100000 in
noncomputable def rw_100 : List PRow := [
  (0, .iload_n 1, 1, 0, 0, 0), (1, .iconst 1, 1, 0, 0, 0), (2, .if_icmp .lt 9, 3, 6, 0, 0), (5, .iload_n 1, 1, 0, 0, 0), (6, .bipush 30, 2, 0, 0, 0), (8, .if_icmp .le 13, 3, 11, 0, 0), (11, .new 19, 3, 100, 0, 1), (14, .dup, 1, 0, 0, 0),
  (15, .ldc 69, 2, 0, 0, 0), (17, .invokespecial 23, 3, 9, 1, 0), (20, .athrow, 1, 0, 0, 0), (21, .aload_n 0, 1, 0, 0, 0), (22, .getfield 10, 3, 9, 0, 122), (25, .getfield 55, 3, 1, 2, 125), (28, .getfield 71, 3, 4, 5, 126), (31, .istore_n 2, 1, 0, 0, 0),
  (32, .iconst 0, 1, 0, 0, 0), (33, .istore_n 3, 1, 0, 0, 0), (34, .iload_n 3, 1, 0, 0, 0), (35, .iload_n 1, 1, 0, 0, 0), (36, .if_icmp .ge 16, 3, 26, 0, 0), (39, .aload_n 0, 1, 0, 0, 0), (40, .getfield 10, 3, 9, 0, 122), (43, .invokevirtual 75, 3, 31, 0, 102),
  (46, .iinc 3 1, 3, 0, 0, 0), (49, .goto (-15), 3, 18, 0, 0), (52, .aload_n 0, 1, 0, 0, 0), (53, .getfield 10, 3, 9, 0, 122), (56, .getfield 55, 3, 1, 2, 125), (59, .getfield 71, 3, 4, 5, 126), (62, .iload_n 2, 1, 0, 0, 0), (63, .isub, 1, 0, 0, 0),
  (64, .ireturn, 1, 0, 0, 0)]
set_option maxRecDepth 100000 in
noncomputable def rw_101 : List PRow := [
  (0, .aload_n 0, 1, 0, 0, 0), (1, .iload_n 1, 1, 0, 0, 0), (2, .invokevirtual 30, 3, 186, 0, 95), (5, .astore_n 2, 1, 0, 0, 0), (6, .aload_n 2, 1, 0, 0, 0), (7, .invokevirtual 78, 3, 80, 0, 103), (10, .ifCond .ne 7, 3, 9, 0, 0), (13, .iconst 1, 1, 0, 0, 0),
  (14, .goto 4, 3, 10, 0, 0), (17, .iconst 0, 1, 0, 0, 0), (18, .invokestatic 40, 3, 178, 0, 96), (21, .aload_n 0, 1, 0, 0, 0), (22, .getfield 10, 3, 9, 0, 122), (25, .aload_n 2, 1, 0, 0, 0), (26, .iconst 1, 1, 0, 0, 0), (27, .invokevirtual 82, 3, 32, 0, 104),
  (30, .aload_n 2, 1, 0, 0, 0), (31, .getfield 86, 3, 6, 12, 127), (34, .ireturn, 1, 0, 0, 0)]
set_option maxRecDepth 100000 in
noncomputable def rw_102 : List PRow := [
  (0, .aload_n 0, 1, 0, 0, 0), (1, .iload_n 1, 1, 0, 0, 0), (2, .invokevirtual 30, 3, 186, 0, 95), (5, .astore_n 2, 1, 0, 0, 0), (6, .aload_n 2, 1, 0, 0, 0), (7, .getfield 86, 3, 6, 12, 127), (10, .iconst 3, 1, 0, 0, 0), (11, .if_icmp .eq 7, 3, 10, 0, 0),
  (14, .iconst 1, 1, 0, 0, 0), (15, .goto 4, 3, 11, 0, 0), (18, .iconst 0, 1, 0, 0, 0), (19, .invokestatic 40, 3, 178, 0, 96), (22, .aload_n 0, 1, 0, 0, 0), (23, .getfield 10, 3, 9, 0, 122), (26, .aload_n 2, 1, 0, 0, 0), (27, .invokevirtual 89, 3, 36, 0, 105),
  (30, .ireturn, 1, 0, 0, 0)]
set_option maxRecDepth 100000 in
noncomputable def rw_103 : List PRow := [
  (0, .aload_n 0, 1, 0, 0, 0), (1, .iload_n 1, 1, 0, 0, 0), (2, .invokevirtual 30, 3, 186, 0, 95), (5, .astore_n 2, 1, 0, 0, 0), (6, .aload_n 2, 1, 0, 0, 0), (7, .getfield 34, 3, 6, 4, 124), (10, .ifCond .eq 17, 3, 13, 0, 0), (13, .aload_n 2, 1, 0, 0, 0),
  (14, .getfield 93, 3, 6, 15, 128), (17, .aload_n 2, 1, 0, 0, 0), (18, .getfield 96, 3, 6, 9, 129), (21, .getfield 100, 3, 7, 0, 130), (24, .if_icmp .gt 7, 3, 15, 0, 0), (27, .iconst 1, 1, 0, 0, 0), (28, .goto 4, 3, 16, 0, 0), (31, .iconst 0, 1, 0, 0, 0),
  (32, .invokestatic 40, 3, 178, 0, 96), (35, .aload_n 2, 1, 0, 0, 0), (36, .invokevirtual 105, 3, 88, 0, 106), (39, .ireturn, 1, 0, 0, 0)]
set_option maxRecDepth 100000 in
noncomputable def rw_104 : List PRow := [
  (0, .iload_n 1, 1, 0, 0, 0), (1, .iload_n 2, 1, 0, 0, 0), (2, .invokestatic 51, 3, 180, 0, 99), (5, .aload_n 0, 1, 0, 0, 0), (6, .getfield 10, 3, 9, 0, 122), (9, .getfield 108, 3, 1, 0, 131), (12, .iload_n 1, 1, 0, 0, 0), (13, .aaload, 1, 0, 0, 0),
  (14, .astore_n 3, 1, 0, 0, 0), (15, .aload_n 3, 1, 0, 0, 0), (16, .getfield 86, 3, 6, 12, 127), (19, .iconst 3, 1, 0, 0, 0), (20, .if_icmp .ne 24, 3, 24, 0, 0), (23, .aload_n 3, 1, 0, 0, 0), (24, .iload_n 2, 1, 0, 0, 0), (25, .invokevirtual 112, 3, 76, 0, 107),
  (28, .ifCond .eq 16, 3, 24, 0, 0), (31, .aload_n 3, 1, 0, 0, 0), (32, .getfield 116, 3, 6, 3, 132), (35, .iload_n 2, 1, 0, 0, 0), (36, .iaload, 1, 0, 0, 0), (37, .aload_n 3, 1, 0, 0, 0), (38, .invokevirtual 120, 3, 72, 0, 108), (41, .if_icmp .ge 7, 3, 26, 0, 0),
  (44, .iconst 1, 1, 0, 0, 0), (45, .goto 4, 3, 27, 0, 0), (48, .iconst 0, 1, 0, 0, 0), (49, .invokestatic 40, 3, 178, 0, 96), (52, .aload_n 0, 1, 0, 0, 0), (53, .getfield 10, 3, 9, 0, 122), (56, .getfield 55, 3, 1, 2, 125), (59, .bipush 8, 2, 0, 0, 0),
  (61, .iload_n 1, 1, 0, 0, 0), (62, .iload_n 2, 1, 0, 0, 0), (63, .aload_n 3, 1, 0, 0, 0), (64, .getfield 123, 3, 6, 5, 133), (67, .invokevirtual 126, 3, 62, 0, 109), (70, .pop, 1, 0, 0, 0), (71, .aload_n 0, 1, 0, 0, 0), (72, .getfield 10, 3, 9, 0, 122),
  (75, .getfield 55, 3, 1, 2, 125), (78, .getfield 130, 3, 4, 3, 134), (81, .ireturn, 1, 0, 0, 0)]
set_option maxRecDepth 100000 in
noncomputable def rw_105 : List PRow := [
  (0, .aload_n 0, 1, 0, 0, 0), (1, .iload_n 1, 1, 0, 0, 0), (2, .invokevirtual 30, 3, 186, 0, 95), (5, .astore_n 3, 1, 0, 0, 0), (6, .iload_n 2, 1, 0, 0, 0), (7, .invokestatic 133, 3, 179, 0, 110), (10, .aload_n 3, 1, 0, 0, 0), (11, .invokevirtual 136, 3, 81, 0, 111),
  (14, .ifCond .eq 11, 3, 13, 0, 0), (17, .aload_n 3, 1, 0, 0, 0), (18, .iload_n 2, 1, 0, 0, 0), (19, .invokevirtual 112, 3, 76, 0, 107), (22, .ifCond .eq 7, 3, 15, 0, 0), (25, .iconst 1, 1, 0, 0, 0), (26, .goto 4, 3, 16, 0, 0), (29, .iconst 0, 1, 0, 0, 0),
  (30, .invokestatic 40, 3, 178, 0, 96), (33, .aload_n 3, 1, 0, 0, 0), (34, .new 139, 3, 2, 0, 16), (37, .dup, 1, 0, 0, 0), (38, .aload_n 3, 1, 0, 0, 0), (39, .getfield 123, 3, 6, 5, 133), (42, .iconst 4, 1, 0, 0, 0), (43, .aconst_null, 1, 0, 0, 0),
  (44, .aload_n 3, 1, 0, 0, 0), (45, .getfield 141, 3, 6, 10, 135), (48, .iconst 1, 1, 0, 0, 0), (49, .iload_n 2, 1, 0, 0, 0), (50, .ishl, 1, 0, 0, 0), (51, .ior, 1, 0, 0, 0), (52, .invokespecial 144, 3, 49, 1, 112), (55, .invokevirtual 147, 3, 84, 0, 113),
  (58, .aload_n 3, 1, 0, 0, 0), (59, .invokevirtual 120, 3, 72, 0, 108), (62, .istore 4, 2, 0, 0, 0), (64, .aload_n 3, 1, 0, 0, 0), (65, .getfield 151, 3, 6, 2, 136), (68, .iload_n 2, 1, 0, 0, 0), (69, .iload 4, 2, 0, 0, 0), (71, .iastore, 1, 0, 0, 0),
  (72, .aload_n 3, 1, 0, 0, 0), (73, .getfield 116, 3, 6, 3, 132), (76, .iload_n 2, 1, 0, 0, 0), (77, .iconst 0, 1, 0, 0, 0), (78, .iastore, 1, 0, 0, 0), (79, .aload_n 0, 1, 0, 0, 0), (80, .getfield 10, 3, 9, 0, 122), (83, .aload_n 3, 1, 0, 0, 0),
  (84, .invokevirtual 154, 3, 38, 0, 114), (87, .iload 4, 2, 0, 0, 0), (89, .ireturn, 1, 0, 0, 0)]
set_option maxRecDepth 100000 in
noncomputable def rw_106 : List PRow := [
  (0, .aload_n 0, 1, 0, 0, 0), (1, .iload_n 1, 1, 0, 0, 0), (2, .invokevirtual 30, 3, 186, 0, 95), (5, .astore_n 3, 1, 0, 0, 0), (6, .iload_n 2, 1, 0, 0, 0), (7, .invokestatic 133, 3, 179, 0, 110), (10, .aload_n 3, 1, 0, 0, 0), (11, .getfield 141, 3, 6, 10, 135),
  (14, .iconst 1, 1, 0, 0, 0), (15, .iload_n 2, 1, 0, 0, 0), (16, .ishl, 1, 0, 0, 0), (17, .iconst (-1), 1, 0, 0, 0), (18, .ixor, 1, 0, 0, 0), (19, .iand, 1, 0, 0, 0), (20, .istore 4, 2, 0, 0, 0), (22, .aload_n 3, 1, 0, 0, 0),
  (23, .invokevirtual 136, 3, 81, 0, 111), (26, .ifCond .eq 16, 3, 24, 0, 0), (29, .aload_n 3, 1, 0, 0, 0), (30, .iload_n 2, 1, 0, 0, 0), (31, .invokevirtual 112, 3, 76, 0, 107), (34, .ifCond .eq 8, 3, 24, 0, 0), (37, .iload 4, 2, 0, 0, 0), (39, .ifCond .ne 7, 3, 26, 0, 0),
  (42, .iconst 1, 1, 0, 0, 0), (43, .goto 4, 3, 27, 0, 0), (46, .iconst 0, 1, 0, 0, 0), (47, .invokestatic 40, 3, 178, 0, 96), (50, .aload_n 3, 1, 0, 0, 0), (51, .new 139, 3, 2, 0, 16), (54, .dup, 1, 0, 0, 0), (55, .aload_n 3, 1, 0, 0, 0),
  (56, .getfield 123, 3, 6, 5, 133), (59, .iconst 4, 1, 0, 0, 0), (60, .aconst_null, 1, 0, 0, 0), (61, .iload 4, 2, 0, 0, 0), (63, .invokespecial 144, 3, 49, 1, 112), (66, .invokevirtual 147, 3, 84, 0, 113), (69, .aload_n 3, 1, 0, 0, 0), (70, .invokevirtual 120, 3, 72, 0, 108),
  (73, .istore 5, 2, 0, 0, 0), (75, .aload_n 0, 1, 0, 0, 0), (76, .getfield 10, 3, 9, 0, 122), (79, .aload_n 3, 1, 0, 0, 0), (80, .invokevirtual 154, 3, 38, 0, 114), (83, .iload 5, 2, 0, 0, 0), (85, .ireturn, 1, 0, 0, 0)]
set_option maxRecDepth 100000 in
noncomputable def rw_107 : List PRow := [
  (0, .aload_n 0, 1, 0, 0, 0), (1, .getfield 10, 3, 9, 0, 122), (4, .getfield 55, 3, 1, 2, 125), (7, .getfield 130, 3, 4, 3, 134), (10, .ireturn, 1, 0, 0, 0)]
set_option maxRecDepth 100000 in
noncomputable def rw_108 : List PRow := [
  (0, .aload_n 0, 1, 0, 0, 0), (1, .iload_n 1, 1, 0, 0, 0), (2, .invokevirtual 158, 3, 183, 0, 115), (5, .aload_n 0, 1, 0, 0, 0), (6, .getfield 10, 3, 9, 0, 122), (9, .iload_n 1, 1, 0, 0, 0), (10, .invokevirtual 161, 3, 40, 0, 116), (13, .ireturn, 1, 0, 0, 0)]
set_option maxRecDepth 100000 in
noncomputable def rw_109 : List PRow := [
  (0, .aload_n 0, 1, 0, 0, 0), (1, .iload_n 1, 1, 0, 0, 0), (2, .invokevirtual 158, 3, 183, 0, 115), (5, .aload_n 0, 1, 0, 0, 0), (6, .getfield 10, 3, 9, 0, 122), (9, .getfield 55, 3, 1, 2, 125), (12, .iload_n 1, 1, 0, 0, 0), (13, .invokevirtual 164, 3, 64, 0, 117),
  (16, .pop, 1, 0, 0, 0), (17, .aload_n 0, 1, 0, 0, 0), (18, .getfield 10, 3, 9, 0, 122), (21, .getfield 55, 3, 1, 2, 125), (24, .dup, 1, 0, 0, 0), (25, .getfield 71, 3, 4, 5, 126), (28, .iconst 1, 1, 0, 0, 0), (29, .iadd, 1, 0, 0, 0),
  (30, .putfield 71, 3, 4, 5, 126), (33, .aload_n 0, 1, 0, 0, 0), (34, .getfield 10, 3, 9, 0, 122), (37, .getfield 55, 3, 1, 2, 125), (40, .getfield 130, 3, 4, 3, 134), (43, .ireturn, 1, 0, 0, 0)]
set_option maxRecDepth 100000 in
noncomputable def rw_110 : List PRow := [
  (0, .aload_n 0, 1, 0, 0, 0), (1, .iload_n 1, 1, 0, 0, 0), (2, .invokevirtual 158, 3, 183, 0, 115), (5, .aload_n 0, 1, 0, 0, 0), (6, .getfield 10, 3, 9, 0, 122), (9, .getfield 55, 3, 1, 2, 125), (12, .getfield 130, 3, 4, 3, 134), (15, .bipush 60, 2, 0, 0, 0),
  (17, .if_icmp .lt 7, 3, 11, 0, 0), (20, .iconst 1, 1, 0, 0, 0), (21, .goto 4, 3, 12, 0, 0), (24, .iconst 0, 1, 0, 0, 0), (25, .invokestatic 40, 3, 178, 0, 96), (28, .aload_n 0, 1, 0, 0, 0), (29, .getfield 10, 3, 9, 0, 122), (32, .getfield 55, 3, 1, 2, 125),
  (35, .iload_n 1, 1, 0, 0, 0), (36, .invokevirtual 168, 3, 63, 0, 118), (39, .ireturn, 1, 0, 0, 0)]
set_option maxRecDepth 100000 in
noncomputable def rw_116 : List PRow := [
  (0, .aload_n 0, 1, 0, 0, 0), (1, .iload_n 1, 1, 0, 0, 0), (2, .iload_n 2, 1, 0, 0, 0), (3, .iconst 0, 1, 0, 0, 0), (4, .iload_n 3, 1, 0, 0, 0), (5, .invokevirtual 190, 3, 184, 0, 119), (8, .aload_n 0, 1, 0, 0, 0), (9, .getfield 10, 3, 9, 0, 122),
  (12, .getfield 194, 3, 1, 1, 137), (15, .iload_n 1, 1, 0, 0, 0), (16, .aaload, 1, 0, 0, 0), (17, .iload_n 1, 1, 0, 0, 0), (18, .iconst 1, 1, 0, 0, 0), (19, .iload_n 2, 1, 0, 0, 0), (20, .iconst 0, 1, 0, 0, 0), (21, .iload_n 3, 1, 0, 0, 0),
  (22, .invokevirtual 198, 3, 15, 0, 120), (25, .ireturn, 1, 0, 0, 0)]
set_option maxRecDepth 100000 in
noncomputable def rw_117 : List PRow := [
  (0, .aload_n 0, 1, 0, 0, 0), (1, .iload_n 1, 1, 0, 0, 0), (2, .iload_n 2, 1, 0, 0, 0), (3, .iconst 0, 1, 0, 0, 0), (4, .iload_n 3, 1, 0, 0, 0), (5, .invokevirtual 190, 3, 184, 0, 119), (8, .aload_n 0, 1, 0, 0, 0), (9, .getfield 10, 3, 9, 0, 122),
  (12, .getfield 194, 3, 1, 1, 137), (15, .iload_n 1, 1, 0, 0, 0), (16, .aaload, 1, 0, 0, 0), (17, .iload_n 1, 1, 0, 0, 0), (18, .iconst 2, 1, 0, 0, 0), (19, .iload_n 2, 1, 0, 0, 0), (20, .iconst 0, 1, 0, 0, 0), (21, .iload_n 3, 1, 0, 0, 0),
  (22, .invokevirtual 198, 3, 15, 0, 120), (25, .ireturn, 1, 0, 0, 0)]
set_option maxRecDepth 100000 in
noncomputable def rw_119 : List PRow := [
  (0, .iload_n 1, 1, 0, 0, 0), (1, .invokestatic 204, 3, 181, 0, 121), (4, .aload_n 0, 1, 0, 0, 0), (5, .iload_n 2, 1, 0, 0, 0), (6, .invokevirtual 30, 3, 186, 0, 95), (9, .astore_n 3, 1, 0, 0, 0), (10, .aload_n 0, 1, 0, 0, 0), (11, .getfield 10, 3, 9, 0, 122),
  (14, .getfield 194, 3, 1, 1, 137), (17, .iload_n 1, 1, 0, 0, 0), (18, .aaload, 1, 0, 0, 0), (19, .getfield 207, 3, 0, 0, 138), (22, .astore 4, 2, 0, 0, 0), (24, .aload 4, 2, 0, 0, 0), (26, .ifnull 18, 3, 22, 0, 0), (29, .aload_n 0, 1, 0, 0, 0),
  (30, .getfield 10, 3, 9, 0, 122), (33, .getfield 194, 3, 1, 1, 137), (36, .iload_n 1, 1, 0, 0, 0), (37, .aaload, 1, 0, 0, 0), (38, .getfield 211, 3, 0, 1, 139), (41, .ifCond .eq 13, 3, 27, 0, 0), (44, .new 214, 3, 101, 0, 2), (47, .dup, 1, 0, 0, 0),
  (48, .ldc 216, 2, 0, 0, 0), (50, .invokespecial 218, 3, 9, 1, 0), (53, .athrow, 1, 0, 0, 0), (54, .aload_n 3, 1, 0, 0, 0), (55, .getfield 86, 3, 6, 12, 127), (58, .iconst 3, 1, 0, 0, 0), (59, .if_icmp .ne 12, 3, 35, 0, 0), (62, .aload_n 3, 1, 0, 0, 0),
  (63, .getfield 219, 3, 6, 8, 140), (66, .bipush 40, 2, 0, 0, 0), (68, .if_icmp .lt 7, 3, 37, 0, 0), (71, .iconst 1, 1, 0, 0, 0), (72, .goto 4, 3, 38, 0, 0), (75, .iconst 0, 1, 0, 0, 0), (76, .invokestatic 40, 3, 178, 0, 96), (79, .aload_n 3, 1, 0, 0, 0),
  (80, .new 139, 3, 2, 0, 16), (83, .dup, 1, 0, 0, 0), (84, .aload_n 3, 1, 0, 0, 0), (85, .getfield 123, 3, 6, 5, 133), (88, .aload 4, 2, 0, 0, 0), (90, .getfield 220, 3, 5, 2, 141), (93, .aload 4, 2, 0, 0, 0), (95, .iconst 0, 1, 0, 0, 0),
  (96, .invokespecial 144, 3, 49, 1, 112), (99, .invokevirtual 147, 3, 84, 0, 113), (102, .aload_n 3, 1, 0, 0, 0), (103, .invokevirtual 120, 3, 72, 0, 108), (106, .istore 5, 2, 0, 0, 0), (108, .aload_n 0, 1, 0, 0, 0), (109, .getfield 10, 3, 9, 0, 122), (112, .aload_n 3, 1, 0, 0, 0),
  (113, .invokevirtual 154, 3, 38, 0, 114), (116, .iload 5, 2, 0, 0, 0), (118, .ireturn, 1, 0, 0, 0)]
set_option maxRecDepth 100000 in
noncomputable def rw_120 : List PRow := [
  (0, .iload_n 1, 1, 0, 0, 0), (1, .invokestatic 204, 3, 181, 0, 121), (4, .aload_n 0, 1, 0, 0, 0), (5, .getfield 10, 3, 9, 0, 122), (8, .getfield 194, 3, 1, 1, 137), (11, .iload_n 1, 1, 0, 0, 0), (12, .aaload, 1, 0, 0, 0), (13, .invokevirtual 223, 3, 13, 0, 122),
  (16, .ireturn, 1, 0, 0, 0)]
set_option maxRecDepth 100000 in
noncomputable def rw_123 : List PRow := [
  (0, .aload_n 0, 1, 0, 0, 0), (1, .getfield 10, 3, 9, 0, 122), (4, .getfield 229, 3, 1, 3, 142), (7, .ireturn, 1, 0, 0, 0)]
set_option maxRecDepth 100000 in
noncomputable def rw_124 : List PRow := [
  (0, .aload_n 0, 1, 0, 0, 0), (1, .getfield 10, 3, 9, 0, 122), (4, .getfield 55, 3, 1, 2, 125), (7, .getfield 71, 3, 4, 5, 126), (10, .ireturn, 1, 0, 0, 0)]
set_option maxRecDepth 100000 in
noncomputable def rw_125 : List PRow := [
  (0, .aload_n 0, 1, 0, 0, 0), (1, .iload_n 1, 1, 0, 0, 0), (2, .invokevirtual 30, 3, 186, 0, 95), (5, .getfield 34, 3, 6, 4, 124), (8, .ireturn, 1, 0, 0, 0)]
set_option maxRecDepth 100000 in
noncomputable def rw_126 : List PRow := [
  (0, .aload_n 0, 1, 0, 0, 0), (1, .iload_n 1, 1, 0, 0, 0), (2, .invokevirtual 30, 3, 186, 0, 95), (5, .getfield 86, 3, 6, 12, 127), (8, .ireturn, 1, 0, 0, 0)]
set_option maxRecDepth 100000 in
noncomputable def rw_127 : List PRow := [
  (0, .aload_n 0, 1, 0, 0, 0), (1, .iload_n 1, 1, 0, 0, 0), (2, .invokevirtual 30, 3, 186, 0, 95), (5, .getfield 123, 3, 6, 5, 133), (8, .ireturn, 1, 0, 0, 0)]
set_option maxRecDepth 100000 in
noncomputable def rw_128 : List PRow := [
  (0, .aload_n 0, 1, 0, 0, 0), (1, .iload_n 1, 1, 0, 0, 0), (2, .invokevirtual 30, 3, 186, 0, 95), (5, .getfield 232, 3, 6, 6, 143), (8, .ireturn, 1, 0, 0, 0)]
set_option maxRecDepth 100000 in
noncomputable def rw_129 : List PRow := [
  (0, .aload_n 0, 1, 0, 0, 0), (1, .iload_n 1, 1, 0, 0, 0), (2, .invokevirtual 30, 3, 186, 0, 95), (5, .getfield 235, 3, 6, 13, 144), (8, .ireturn, 1, 0, 0, 0)]
set_option maxRecDepth 100000 in
noncomputable def rw_130 : List PRow := [
  (0, .aload_n 0, 1, 0, 0, 0), (1, .iload_n 1, 1, 0, 0, 0), (2, .invokevirtual 30, 3, 186, 0, 95), (5, .getfield 238, 3, 6, 14, 145), (8, .ireturn, 1, 0, 0, 0)]
set_option maxRecDepth 100000 in
noncomputable def rw_132 : List PRow := [
  (0, .aload_n 0, 1, 0, 0, 0), (1, .iload_n 1, 1, 0, 0, 0), (2, .invokevirtual 30, 3, 186, 0, 95), (5, .getfield 96, 3, 6, 9, 129), (8, .getfield 100, 3, 7, 0, 130), (11, .ireturn, 1, 0, 0, 0)]
set_option maxRecDepth 100000 in
noncomputable def rw_133 : List PRow := [
  (0, .aload_n 0, 1, 0, 0, 0), (1, .iload_n 1, 1, 0, 0, 0), (2, .invokevirtual 30, 3, 186, 0, 95), (5, .invokevirtual 120, 3, 72, 0, 108), (8, .ireturn, 1, 0, 0, 0)]
set_option maxRecDepth 100000 in
noncomputable def rw_134 : List PRow := [
  (0, .aload_n 0, 1, 0, 0, 0), (1, .iload_n 1, 1, 0, 0, 0), (2, .invokevirtual 30, 3, 186, 0, 95), (5, .invokevirtual 244, 3, 73, 0, 123), (8, .ireturn, 1, 0, 0, 0)]
set_option maxRecDepth 100000 in
noncomputable def rw_135 : List PRow := [
  (0, .aload_n 0, 1, 0, 0, 0), (1, .iload_n 1, 1, 0, 0, 0), (2, .invokevirtual 30, 3, 186, 0, 95), (5, .getfield 93, 3, 6, 15, 128), (8, .ireturn, 1, 0, 0, 0)]
set_option maxRecDepth 100000 in
noncomputable def rw_136 : List PRow := [
  (0, .aload_n 0, 1, 0, 0, 0), (1, .iload_n 1, 1, 0, 0, 0), (2, .invokevirtual 30, 3, 186, 0, 95), (5, .getfield 141, 3, 6, 10, 135), (8, .invokestatic 247, 3, 389, 0, 124), (11, .ireturn, 1, 0, 0, 0)]
set_option maxRecDepth 100000 in
noncomputable def rw_138 : List PRow := [
  (0, .aload_n 0, 1, 0, 0, 0), (1, .iload_n 1, 1, 0, 0, 0), (2, .invokevirtual 30, 3, 186, 0, 95), (5, .iload_n 2, 1, 0, 0, 0), (6, .invokevirtual 252, 3, 75, 0, 125), (9, .istore_n 3, 1, 0, 0, 0), (10, .iload_n 3, 1, 0, 0, 0), (11, .ifCond .ge 14, 3, 13, 0, 0),
  (14, .new 255, 3, 102, 0, 3), (17, .dup, 1, 0, 0, 0), (18, .ldc_w 257, 3, 0, 0, 0), (21, .invokespecial 259, 3, 9, 1, 0), (24, .athrow, 1, 0, 0, 0), (25, .iload_n 3, 1, 0, 0, 0), (26, .ireturn, 1, 0, 0, 0)]
set_option maxRecDepth 100000 in
noncomputable def rw_139 : List PRow := [
  (0, .aload_n 0, 1, 0, 0, 0), (1, .iload_n 1, 1, 0, 0, 0), (2, .iload_n 2, 1, 0, 0, 0), (3, .invokevirtual 260, 3, 188, 0, 126), (6, .getfield 264, 3, 2, 1, 146), (9, .ireturn, 1, 0, 0, 0)]
set_option maxRecDepth 100000 in
noncomputable def rw_140 : List PRow := [
  (0, .aload_n 0, 1, 0, 0, 0), (1, .iload_n 1, 1, 0, 0, 0), (2, .iload_n 2, 1, 0, 0, 0), (3, .invokevirtual 260, 3, 188, 0, 126), (6, .invokevirtual 265, 3, 50, 0, 127), (9, .ireturn, 1, 0, 0, 0)]
set_option maxRecDepth 100000 in
noncomputable def rw_141 : List PRow := [
  (0, .aload_n 0, 1, 0, 0, 0), (1, .iload_n 1, 1, 0, 0, 0), (2, .iload_n 2, 1, 0, 0, 0), (3, .invokevirtual 260, 3, 188, 0, 126), (6, .invokevirtual 268, 3, 51, 0, 128), (9, .ireturn, 1, 0, 0, 0)]
set_option maxRecDepth 100000 in
noncomputable def rw_142 : List PRow := [
  (0, .aload_n 0, 1, 0, 0, 0), (1, .iload_n 1, 1, 0, 0, 0), (2, .iload_n 2, 1, 0, 0, 0), (3, .invokevirtual 260, 3, 188, 0, 126), (6, .invokevirtual 271, 3, 52, 0, 129), (9, .ireturn, 1, 0, 0, 0)]
set_option maxRecDepth 100000 in
noncomputable def rw_143 : List PRow := [
  (0, .iload_n 2, 1, 0, 0, 0), (1, .invokestatic 272, 3, 182, 0, 130), (4, .aload_n 0, 1, 0, 0, 0), (5, .iload_n 1, 1, 0, 0, 0), (6, .invokevirtual 30, 3, 186, 0, 95), (9, .getfield 275, 3, 6, 1, 147), (12, .getfield 279, 3, 8, 0, 148), (15, .iload_n 2, 1, 0, 0, 0),
  (16, .iaload, 1, 0, 0, 0), (17, .ireturn, 1, 0, 0, 0)]
set_option maxRecDepth 100000 in
noncomputable def rw_144 : List PRow := [
  (0, .iload_n 2, 1, 0, 0, 0), (1, .invokestatic 204, 3, 181, 0, 121), (4, .aload_n 0, 1, 0, 0, 0), (5, .iload_n 1, 1, 0, 0, 0), (6, .invokevirtual 30, 3, 186, 0, 95), (9, .getfield 275, 3, 6, 1, 147), (12, .getfield 284, 3, 8, 1, 149), (15, .iload_n 2, 1, 0, 0, 0),
  (16, .iaload, 1, 0, 0, 0), (17, .ireturn, 1, 0, 0, 0)]
set_option maxRecDepth 100000 in
noncomputable def rw_145 : List PRow := [
  (0, .iload_n 1, 1, 0, 0, 0), (1, .iload_n 2, 1, 0, 0, 0), (2, .invokestatic 51, 3, 180, 0, 99), (5, .aload_n 0, 1, 0, 0, 0), (6, .getfield 10, 3, 9, 0, 122), (9, .getfield 108, 3, 1, 0, 131), (12, .iload_n 1, 1, 0, 0, 0), (13, .aaload, 1, 0, 0, 0),
  (14, .getfield 86, 3, 6, 12, 127), (17, .iconst 3, 1, 0, 0, 0), (18, .if_icmp .eq 7, 3, 13, 0, 0), (21, .iconst 1, 1, 0, 0, 0), (22, .goto 4, 3, 14, 0, 0), (25, .iconst 0, 1, 0, 0, 0), (26, .invokestatic 40, 3, 178, 0, 96), (29, .aload_n 0, 1, 0, 0, 0),
  (30, .getfield 10, 3, 9, 0, 122), (33, .getfield 108, 3, 1, 0, 131), (36, .iload_n 1, 1, 0, 0, 0), (37, .aaload, 1, 0, 0, 0), (38, .getfield 151, 3, 6, 2, 136), (41, .iload_n 2, 1, 0, 0, 0), (42, .iaload, 1, 0, 0, 0), (43, .ireturn, 1, 0, 0, 0)]
set_option maxRecDepth 100000 in
noncomputable def rw_146 : List PRow := [
  (0, .iload_n 1, 1, 0, 0, 0), (1, .iload_n 2, 1, 0, 0, 0), (2, .invokestatic 51, 3, 180, 0, 99), (5, .aload_n 0, 1, 0, 0, 0), (6, .getfield 10, 3, 9, 0, 122), (9, .getfield 108, 3, 1, 0, 131), (12, .iload_n 1, 1, 0, 0, 0), (13, .aaload, 1, 0, 0, 0),
  (14, .getfield 86, 3, 6, 12, 127), (17, .iconst 3, 1, 0, 0, 0), (18, .if_icmp .eq 7, 3, 13, 0, 0), (21, .iconst 1, 1, 0, 0, 0), (22, .goto 4, 3, 14, 0, 0), (25, .iconst 0, 1, 0, 0, 0), (26, .invokestatic 40, 3, 178, 0, 96), (29, .aload_n 0, 1, 0, 0, 0),
  (30, .getfield 10, 3, 9, 0, 122), (33, .getfield 108, 3, 1, 0, 131), (36, .iload_n 1, 1, 0, 0, 0), (37, .aaload, 1, 0, 0, 0), (38, .getfield 116, 3, 6, 3, 132), (41, .iload_n 2, 1, 0, 0, 0), (42, .iaload, 1, 0, 0, 0), (43, .ireturn, 1, 0, 0, 0)]
set_option maxRecDepth 100000 in
noncomputable def rw_147 : List PRow := [
  (0, .aload_n 0, 1, 0, 0, 0), (1, .getfield 10, 3, 9, 0, 122), (4, .invokevirtual 287, 3, 22, 0, 131), (7, .astore_n 1, 1, 0, 0, 0), (8, .aload_n 1, 1, 0, 0, 0), (9, .ifnonnull 7, 3, 8, 0, 0), (12, .iconst (-1), 1, 0, 0, 0), (13, .goto 7, 3, 10, 0, 0),
  (16, .aload_n 1, 1, 0, 0, 0), (17, .getfield 291, 3, 6, 0, 150), (20, .ireturn, 1, 0, 0, 0)]
set_option maxRecDepth 100000 in
noncomputable def rw_148 : List PRow := [
  (0, .aload_n 0, 1, 0, 0, 0), (1, .getfield 10, 3, 9, 0, 122), (4, .invokevirtual 294, 3, 21, 0, 132), (7, .ireturn, 1, 0, 0, 0)]
set_option maxRecDepth 100000 in
noncomputable def rw_149 : List PRow := [
  (0, .iconst 0, 1, 0, 0, 0), (1, .istore_n 1, 1, 0, 0, 0), (2, .aload_n 0, 1, 0, 0, 0), (3, .getfield 10, 3, 9, 0, 122), (6, .getfield 108, 3, 1, 0, 131), (9, .astore_n 2, 1, 0, 0, 0), (10, .aload_n 2, 1, 0, 0, 0), (11, .arraylength, 1, 0, 0, 0),
  (12, .istore_n 3, 1, 0, 0, 0), (13, .iconst 0, 1, 0, 0, 0), (14, .istore 4, 2, 0, 0, 0), (16, .iload 4, 2, 0, 0, 0), (18, .iload_n 3, 1, 0, 0, 0), (19, .if_icmp .ge 25, 3, 25, 0, 0), (22, .aload_n 2, 1, 0, 0, 0), (23, .iload 4, 2, 0, 0, 0),
  (25, .aaload, 1, 0, 0, 0), (26, .astore 5, 2, 0, 0, 0), (28, .iload_n 1, 1, 0, 0, 0), (29, .aload 5, 2, 0, 0, 0), (31, .getfield 93, 3, 6, 15, 128), (34, .invokestatic 297, 3, 2, 0, 133), (37, .istore_n 1, 1, 0, 0, 0), (38, .iinc 4 1, 3, 0, 0, 0),
  (41, .goto (-25), 3, 11, 0, 0), (44, .iload_n 1, 1, 0, 0, 0), (45, .ireturn, 1, 0, 0, 0)]
set_option maxRecDepth 100000 in
noncomputable def rw_150 : List PRow := [
  (0, .iload_n 2, 1, 0, 0, 0), (1, .invokestatic 133, 3, 179, 0, 110), (4, .aload_n 0, 1, 0, 0, 0), (5, .iload_n 1, 1, 0, 0, 0), (6, .invokevirtual 30, 3, 186, 0, 95), (9, .aload_n 0, 1, 0, 0, 0), (10, .getfield 10, 3, 9, 0, 122), (13, .getfield 108, 3, 1, 0, 131),
  (16, .iload_n 2, 1, 0, 0, 0), (17, .aaload, 1, 0, 0, 0), (18, .invokevirtual 302, 3, 83, 0, 134), (21, .ireturn, 1, 0, 0, 0)]
set_option maxRecDepth 100000 in
noncomputable def rw_160 : List PRow := [
  (0, .ldc2_w 324, 3, 2423, 0, 1), (3, .lstore_n 1, 1, 0, 0, 0), (4, .lload_n 1, 1, 0, 0, 0), (5, .ldc2_w 326, 3, 31, 0, 2), (8, .lmul, 1, 0, 0, 0), (9, .aload_n 0, 1, 0, 0, 0), (10, .invokevirtual 328, 3, 133, 0, 135), (13, .i2l, 1, 0, 0, 0),
  (14, .ladd, 1, 0, 0, 0), (15, .lstore_n 1, 1, 0, 0, 0), (16, .lload_n 1, 1, 0, 0, 0), (17, .ldc2_w 326, 3, 31, 0, 2), (20, .lmul, 1, 0, 0, 0), (21, .aload_n 0, 1, 0, 0, 0), (22, .invokevirtual 331, 3, 134, 0, 136), (25, .i2l, 1, 0, 0, 0),
  (26, .ladd, 1, 0, 0, 0), (27, .lstore_n 1, 1, 0, 0, 0), (28, .lload_n 1, 1, 0, 0, 0), (29, .ldc2_w 326, 3, 31, 0, 2), (32, .lmul, 1, 0, 0, 0), (33, .aload_n 0, 1, 0, 0, 0), (34, .invokevirtual 334, 3, 117, 0, 137), (37, .i2l, 1, 0, 0, 0),
  (38, .ladd, 1, 0, 0, 0), (39, .lstore_n 1, 1, 0, 0, 0), (40, .lload_n 1, 1, 0, 0, 0), (41, .ldc2_w 326, 3, 31, 0, 2), (44, .lmul, 1, 0, 0, 0), (45, .aload_n 0, 1, 0, 0, 0), (46, .invokevirtual 337, 3, 157, 0, 138), (49, .i2l, 1, 0, 0, 0),
  (50, .ladd, 1, 0, 0, 0), (51, .lstore_n 1, 1, 0, 0, 0), (52, .lload_n 1, 1, 0, 0, 0), (53, .ldc2_w 326, 3, 31, 0, 2), (56, .lmul, 1, 0, 0, 0), (57, .aload_n 0, 1, 0, 0, 0), (58, .invokevirtual 340, 3, 158, 0, 139), (61, .i2l, 1, 0, 0, 0),
  (62, .ladd, 1, 0, 0, 0), (63, .lstore_n 1, 1, 0, 0, 0), (64, .lload_n 1, 1, 0, 0, 0), (65, .ldc2_w 326, 3, 31, 0, 2), (68, .lmul, 1, 0, 0, 0), (69, .aload_n 0, 1, 0, 0, 0), (70, .invokevirtual 343, 3, 159, 0, 140), (73, .i2l, 1, 0, 0, 0),
  (74, .ladd, 1, 0, 0, 0), (75, .lstore_n 1, 1, 0, 0, 0), (76, .aload_n 0, 1, 0, 0, 0), (77, .lload_n 1, 1, 0, 0, 0), (78, .invokevirtual 345, 3, 171, 0, 141), (81, .lstore_n 1, 1, 0, 0, 0), (82, .aload_n 0, 1, 0, 0, 0), (83, .lload_n 1, 1, 0, 0, 0),
  (84, .invokevirtual 349, 3, 172, 0, 142), (87, .lstore_n 1, 1, 0, 0, 0), (88, .aload_n 0, 1, 0, 0, 0), (89, .getfield 10, 3, 9, 0, 122), (92, .getfield 108, 3, 1, 0, 131), (95, .astore_n 3, 1, 0, 0, 0), (96, .aload_n 3, 1, 0, 0, 0), (97, .arraylength, 1, 0, 0, 0),
  (98, .istore 4, 2, 0, 0, 0), (100, .iconst 0, 1, 0, 0, 0), (101, .istore 5, 2, 0, 0, 0), (103, .iload 5, 2, 0, 0, 0), (105, .iload 4, 2, 0, 0, 0), (107, .if_icmp .ge 49, 3, 96, 0, 0), (110, .aload_n 3, 1, 0, 0, 0), (111, .iload 5, 2, 0, 0, 0),
  (113, .aaload, 1, 0, 0, 0), (114, .astore 6, 2, 0, 0, 0), (116, .aload_n 0, 1, 0, 0, 0), (117, .lload_n 1, 1, 0, 0, 0), (118, .aload 6, 2, 0, 0, 0), (120, .invokevirtual 352, 3, 173, 0, 143), (123, .lstore_n 1, 1, 0, 0, 0), (124, .aload_n 0, 1, 0, 0, 0),
  (125, .lload_n 1, 1, 0, 0, 0), (126, .aload 6, 2, 0, 0, 0), (128, .invokevirtual 356, 3, 174, 0, 144), (131, .lstore_n 1, 1, 0, 0, 0), (132, .lload_n 1, 1, 0, 0, 0), (133, .aload 6, 2, 0, 0, 0), (135, .getfield 275, 3, 6, 1, 147), (138, .invokestatic 359, 3, 175, 0, 145),
  (141, .lstore_n 1, 1, 0, 0, 0), (142, .aload_n 0, 1, 0, 0, 0), (143, .lload_n 1, 1, 0, 0, 0), (144, .aload 6, 2, 0, 0, 0), (146, .invokevirtual 363, 3, 176, 0, 146), (149, .lstore_n 1, 1, 0, 0, 0), (150, .iinc 5 1, 3, 0, 0, 0), (153, .goto (-50), 3, 67, 0, 0),
  (156, .lload_n 1, 1, 0, 0, 0), (157, .lreturn, 1, 0, 0, 0)]
set_option maxRecDepth 100000 in
noncomputable def rw_161 : List PRow := [
  (0, .lload_n 1, 1, 0, 0, 0), (1, .lstore_n 3, 1, 0, 0, 0), (2, .iconst 0, 1, 0, 0, 0), (3, .istore 5, 2, 0, 0, 0), (5, .iload 5, 2, 0, 0, 0), (7, .aload_n 0, 1, 0, 0, 0), (8, .getfield 10, 3, 9, 0, 122), (11, .getfield 55, 3, 1, 2, 125),
  (14, .getfield 130, 3, 4, 3, 134), (17, .if_icmp .ge 89, 3, 59, 0, 0), (20, .aload_n 0, 1, 0, 0, 0), (21, .getfield 10, 3, 9, 0, 122), (24, .getfield 55, 3, 1, 2, 125), (27, .getfield 366, 3, 4, 0, 151), (30, .iload 5, 2, 0, 0, 0), (32, .aaload, 1, 0, 0, 0),
  (33, .astore 6, 2, 0, 0, 0), (35, .lload_n 3, 1, 0, 0, 0), (36, .ldc2_w 326, 3, 31, 0, 2), (39, .lmul, 1, 0, 0, 0), (40, .aload 6, 2, 0, 0, 0), (42, .getfield 175, 3, 3, 1, 152), (45, .i2l, 1, 0, 0, 0), (46, .ladd, 1, 0, 0, 0),
  (47, .lstore_n 3, 1, 0, 0, 0), (48, .lload_n 3, 1, 0, 0, 0), (49, .ldc2_w 326, 3, 31, 0, 2), (52, .lmul, 1, 0, 0, 0), (53, .aload 6, 2, 0, 0, 0), (55, .getfield 180, 3, 3, 2, 153), (58, .i2l, 1, 0, 0, 0), (59, .ladd, 1, 0, 0, 0),
  (60, .lstore_n 3, 1, 0, 0, 0), (61, .lload_n 3, 1, 0, 0, 0), (62, .ldc2_w 326, 3, 31, 0, 2), (65, .lmul, 1, 0, 0, 0), (66, .aload 6, 2, 0, 0, 0), (68, .getfield 183, 3, 3, 3, 154), (71, .i2l, 1, 0, 0, 0), (72, .ladd, 1, 0, 0, 0),
  (73, .lstore_n 3, 1, 0, 0, 0), (74, .lload_n 3, 1, 0, 0, 0), (75, .ldc2_w 326, 3, 31, 0, 2), (78, .lmul, 1, 0, 0, 0), (79, .aload 6, 2, 0, 0, 0), (81, .getfield 186, 3, 3, 4, 155), (84, .i2l, 1, 0, 0, 0), (85, .ladd, 1, 0, 0, 0),
  (86, .lstore_n 3, 1, 0, 0, 0), (87, .lload_n 3, 1, 0, 0, 0), (88, .ldc2_w 326, 3, 31, 0, 2), (91, .lmul, 1, 0, 0, 0), (92, .aload 6, 2, 0, 0, 0), (94, .invokevirtual 187, 3, 55, 0, 147), (97, .i2l, 1, 0, 0, 0), (98, .ladd, 1, 0, 0, 0),
  (99, .lstore_n 3, 1, 0, 0, 0), (100, .iinc 5 1, 3, 0, 0, 0), (103, .goto (-98), 3, 4, 0, 0), (106, .lload_n 3, 1, 0, 0, 0), (107, .lreturn, 1, 0, 0, 0)]
set_option maxRecDepth 100000 in
noncomputable def rw_162 : List PRow := [
  (0, .lload_n 1, 1, 0, 0, 0), (1, .lstore_n 3, 1, 0, 0, 0), (2, .aload_n 0, 1, 0, 0, 0), (3, .getfield 10, 3, 9, 0, 122), (6, .getfield 194, 3, 1, 1, 137), (9, .astore 5, 2, 0, 0, 0), (11, .aload 5, 2, 0, 0, 0), (13, .arraylength, 1, 0, 0, 0),
  (14, .istore 6, 2, 0, 0, 0), (16, .iconst 0, 1, 0, 0, 0), (17, .istore 7, 2, 0, 0, 0), (19, .iload 7, 2, 0, 0, 0), (21, .iload 6, 2, 0, 0, 0), (23, .if_icmp .ge 71, 3, 51, 0, 0), (26, .aload 5, 2, 0, 0, 0), (28, .iload 7, 2, 0, 0, 0),
  (30, .aaload, 1, 0, 0, 0), (31, .astore 8, 2, 0, 0, 0), (33, .lload_n 3, 1, 0, 0, 0), (34, .ldc2_w 326, 3, 31, 0, 2), (37, .lmul, 1, 0, 0, 0), (38, .aload 8, 2, 0, 0, 0), (40, .invokevirtual 223, 3, 13, 0, 122), (43, .i2l, 1, 0, 0, 0),
  (44, .ladd, 1, 0, 0, 0), (45, .lstore_n 3, 1, 0, 0, 0), (46, .lload_n 3, 1, 0, 0, 0), (47, .ldc2_w 326, 3, 31, 0, 2), (50, .lmul, 1, 0, 0, 0), (51, .aload 8, 2, 0, 0, 0), (53, .getfield 211, 3, 0, 1, 139), (56, .ifCond .eq 7, 3, 34, 0, 0),
  (59, .iconst 1, 1, 0, 0, 0), (60, .goto 4, 3, 35, 0, 0), (63, .iconst 0, 1, 0, 0, 0), (64, .i2l, 1, 0, 0, 0), (65, .ladd, 1, 0, 0, 0), (66, .lstore_n 3, 1, 0, 0, 0), (67, .aload 8, 2, 0, 0, 0), (69, .getfield 211, 3, 0, 1, 139),
  (72, .ifCond .eq 16, 3, 49, 0, 0), (75, .lload_n 3, 1, 0, 0, 0), (76, .ldc2_w 326, 3, 31, 0, 2), (79, .lmul, 1, 0, 0, 0), (80, .aload 8, 2, 0, 0, 0), (82, .getfield 226, 3, 0, 2, 156), (85, .i2l, 1, 0, 0, 0), (86, .ladd, 1, 0, 0, 0),
  (87, .lstore_n 3, 1, 0, 0, 0), (88, .iinc 7 1, 3, 0, 0, 0), (91, .goto (-72), 3, 11, 0, 0), (94, .lload_n 3, 1, 0, 0, 0), (95, .lreturn, 1, 0, 0, 0)]
set_option maxRecDepth 100000 in
noncomputable def rw_163 : List PRow := [
  (0, .lload_n 1, 1, 0, 0, 0), (1, .lstore 4, 2, 0, 0, 0), (3, .lload 4, 2, 0, 0, 0), (5, .ldc2_w 326, 3, 31, 0, 2), (8, .lmul, 1, 0, 0, 0), (9, .aload_n 3, 1, 0, 0, 0), (10, .getfield 34, 3, 6, 4, 124), (13, .ifCond .eq 7, 3, 10, 0, 0),
  (16, .iconst 1, 1, 0, 0, 0), (17, .goto 4, 3, 11, 0, 0), (20, .iconst 0, 1, 0, 0, 0), (21, .i2l, 1, 0, 0, 0), (22, .ladd, 1, 0, 0, 0), (23, .lstore 4, 2, 0, 0, 0), (25, .lload 4, 2, 0, 0, 0), (27, .ldc2_w 326, 3, 31, 0, 2),
  (30, .lmul, 1, 0, 0, 0), (31, .aload_n 3, 1, 0, 0, 0), (32, .getfield 86, 3, 6, 12, 127), (35, .i2l, 1, 0, 0, 0), (36, .ladd, 1, 0, 0, 0), (37, .lstore 4, 2, 0, 0, 0), (39, .lload 4, 2, 0, 0, 0), (41, .ldc2_w 326, 3, 31, 0, 2),
  (44, .lmul, 1, 0, 0, 0), (45, .aload_n 3, 1, 0, 0, 0), (46, .getfield 123, 3, 6, 5, 133), (49, .i2l, 1, 0, 0, 0), (50, .ladd, 1, 0, 0, 0), (51, .lstore 4, 2, 0, 0, 0), (53, .lload 4, 2, 0, 0, 0), (55, .ldc2_w 326, 3, 31, 0, 2),
  (58, .lmul, 1, 0, 0, 0), (59, .aload_n 3, 1, 0, 0, 0), (60, .getfield 232, 3, 6, 6, 143), (63, .i2l, 1, 0, 0, 0), (64, .ladd, 1, 0, 0, 0), (65, .lstore 4, 2, 0, 0, 0), (67, .lload 4, 2, 0, 0, 0), (69, .ldc2_w 326, 3, 31, 0, 2),
  (72, .lmul, 1, 0, 0, 0), (73, .aload_n 3, 1, 0, 0, 0), (74, .getfield 235, 3, 6, 13, 144), (77, .i2l, 1, 0, 0, 0), (78, .ladd, 1, 0, 0, 0), (79, .lstore 4, 2, 0, 0, 0), (81, .lload 4, 2, 0, 0, 0), (83, .ldc2_w 326, 3, 31, 0, 2),
  (86, .lmul, 1, 0, 0, 0), (87, .aload_n 3, 1, 0, 0, 0), (88, .getfield 238, 3, 6, 14, 145), (91, .i2l, 1, 0, 0, 0), (92, .ladd, 1, 0, 0, 0), (93, .lstore 4, 2, 0, 0, 0), (95, .lload 4, 2, 0, 0, 0), (97, .ldc2_w 326, 3, 31, 0, 2),
  (100, .lmul, 1, 0, 0, 0), (101, .aload_n 3, 1, 0, 0, 0), (102, .getfield 96, 3, 6, 9, 129), (105, .getfield 100, 3, 7, 0, 130), (108, .i2l, 1, 0, 0, 0), (109, .ladd, 1, 0, 0, 0), (110, .lstore 4, 2, 0, 0, 0), (112, .lload 4, 2, 0, 0, 0),
  (114, .ldc2_w 326, 3, 31, 0, 2), (117, .lmul, 1, 0, 0, 0), (118, .aload_n 3, 1, 0, 0, 0), (119, .invokevirtual 120, 3, 72, 0, 108), (122, .i2l, 1, 0, 0, 0), (123, .ladd, 1, 0, 0, 0), (124, .lstore 4, 2, 0, 0, 0), (126, .lload 4, 2, 0, 0, 0),
  (128, .ldc2_w 326, 3, 31, 0, 2), (131, .lmul, 1, 0, 0, 0), (132, .aload_n 3, 1, 0, 0, 0), (133, .invokevirtual 244, 3, 73, 0, 123), (136, .i2l, 1, 0, 0, 0), (137, .ladd, 1, 0, 0, 0), (138, .lstore 4, 2, 0, 0, 0), (140, .lload 4, 2, 0, 0, 0),
  (142, .ldc2_w 326, 3, 31, 0, 2), (145, .lmul, 1, 0, 0, 0), (146, .aload_n 3, 1, 0, 0, 0), (147, .getfield 93, 3, 6, 15, 128), (150, .i2l, 1, 0, 0, 0), (151, .ladd, 1, 0, 0, 0), (152, .lstore 4, 2, 0, 0, 0), (154, .lload 4, 2, 0, 0, 0),
  (156, .ldc2_w 326, 3, 31, 0, 2), (159, .lmul, 1, 0, 0, 0), (160, .aload_n 3, 1, 0, 0, 0), (161, .getfield 141, 3, 6, 10, 135), (164, .invokestatic 247, 3, 389, 0, 124), (167, .i2l, 1, 0, 0, 0), (168, .ladd, 1, 0, 0, 0), (169, .lstore 4, 2, 0, 0, 0),
  (171, .lload 4, 2, 0, 0, 0), (173, .ldc2_w 326, 3, 31, 0, 2), (176, .lmul, 1, 0, 0, 0), (177, .aload_n 0, 1, 0, 0, 0), (178, .getfield 10, 3, 9, 0, 122), (181, .aload_n 3, 1, 0, 0, 0), (182, .invokevirtual 310, 3, 24, 0, 148), (185, .ifCond .eq 7, 3, 106, 0, 0),
  (188, .iconst 1, 1, 0, 0, 0), (189, .goto 4, 3, 107, 0, 0), (192, .iconst 0, 1, 0, 0, 0), (193, .i2l, 1, 0, 0, 0), (194, .ladd, 1, 0, 0, 0), (195, .lstore 4, 2, 0, 0, 0), (197, .lload 4, 2, 0, 0, 0), (199, .lreturn, 1, 0, 0, 0)]
set_option maxRecDepth 100000 in
noncomputable def rw_164 : List PRow := [
  (0, .lload_n 1, 1, 0, 0, 0), (1, .lstore 4, 2, 0, 0, 0), (3, .iconst 0, 1, 0, 0, 0), (4, .istore 6, 2, 0, 0, 0), (6, .iload 6, 2, 0, 0, 0), (8, .aload_n 3, 1, 0, 0, 0), (9, .getfield 219, 3, 6, 8, 140), (12, .if_icmp .ge 138, 3, 79, 0, 0),
  (15, .iload 6, 2, 0, 0, 0), (17, .aload_n 3, 1, 0, 0, 0), (18, .getfield 370, 3, 6, 7, 157), (21, .arraylength, 1, 0, 0, 0), (22, .if_icmp .ge 128, 3, 79, 0, 0), (25, .aload_n 3, 1, 0, 0, 0), (26, .getfield 370, 3, 6, 7, 157), (29, .iload 6, 2, 0, 0, 0),
  (31, .aaload, 1, 0, 0, 0), (32, .astore 7, 2, 0, 0, 0), (34, .lload 4, 2, 0, 0, 0), (36, .ldc2_w 326, 3, 31, 0, 2), (39, .lmul, 1, 0, 0, 0), (40, .aload 7, 2, 0, 0, 0), (42, .getfield 305, 3, 2, 0, 158), (45, .i2l, 1, 0, 0, 0),
  (46, .ladd, 1, 0, 0, 0), (47, .lstore 4, 2, 0, 0, 0), (49, .lload 4, 2, 0, 0, 0), (51, .ldc2_w 326, 3, 31, 0, 2), (54, .lmul, 1, 0, 0, 0), (55, .aload 7, 2, 0, 0, 0), (57, .getfield 264, 3, 2, 1, 146), (60, .i2l, 1, 0, 0, 0),
  (61, .ladd, 1, 0, 0, 0), (62, .lstore 4, 2, 0, 0, 0), (64, .lload 4, 2, 0, 0, 0), (66, .ldc2_w 326, 3, 31, 0, 2), (69, .lmul, 1, 0, 0, 0), (70, .aload 7, 2, 0, 0, 0), (72, .invokevirtual 265, 3, 50, 0, 127), (75, .i2l, 1, 0, 0, 0),
  (76, .ladd, 1, 0, 0, 0), (77, .lstore 4, 2, 0, 0, 0), (79, .lload 4, 2, 0, 0, 0), (81, .ldc2_w 326, 3, 31, 0, 2), (84, .lmul, 1, 0, 0, 0), (85, .aload 7, 2, 0, 0, 0), (87, .invokevirtual 268, 3, 51, 0, 128), (90, .i2l, 1, 0, 0, 0),
  (91, .ladd, 1, 0, 0, 0), (92, .lstore 4, 2, 0, 0, 0), (94, .lload 4, 2, 0, 0, 0), (96, .ldc2_w 326, 3, 31, 0, 2), (99, .lmul, 1, 0, 0, 0), (100, .aload 7, 2, 0, 0, 0), (102, .invokevirtual 271, 3, 52, 0, 129), (105, .i2l, 1, 0, 0, 0),
  (106, .ladd, 1, 0, 0, 0), (107, .lstore 4, 2, 0, 0, 0), (109, .lload 4, 2, 0, 0, 0), (111, .ldc2_w 326, 3, 31, 0, 2), (114, .lmul, 1, 0, 0, 0), (115, .aload_n 0, 1, 0, 0, 0), (116, .getfield 10, 3, 9, 0, 122), (119, .aload_n 3, 1, 0, 0, 0),
  (120, .aload_n 3, 1, 0, 0, 0), (121, .getfield 96, 3, 6, 9, 129), (124, .getfield 100, 3, 7, 0, 130), (127, .iconst 1, 1, 0, 0, 0), (128, .iadd, 1, 0, 0, 0), (129, .iload 6, 2, 0, 0, 0), (131, .iadd, 1, 0, 0, 0), (132, .aload 7, 2, 0, 0, 0),
  (134, .getfield 305, 3, 2, 0, 158), (137, .invokevirtual 306, 3, 23, 0, 149), (140, .i2l, 1, 0, 0, 0), (141, .ladd, 1, 0, 0, 0), (142, .lstore 4, 2, 0, 0, 0), (144, .iinc 6 1, 3, 0, 0, 0), (147, .goto (-141), 3, 4, 0, 0), (150, .lload 4, 2, 0, 0, 0),
  (152, .lreturn, 1, 0, 0, 0)]
set_option maxRecDepth 100000 in
noncomputable def rw_165 : List PRow := [
  (0, .lload_n 0, 1, 0, 0, 0), (1, .lstore_n 3, 1, 0, 0, 0), (2, .aload_n 2, 1, 0, 0, 0), (3, .getfield 279, 3, 8, 0, 148), (6, .astore 5, 2, 0, 0, 0), (8, .aload 5, 2, 0, 0, 0), (10, .arraylength, 1, 0, 0, 0), (11, .istore 6, 2, 0, 0, 0),
  (13, .iconst 0, 1, 0, 0, 0), (14, .istore 7, 2, 0, 0, 0), (16, .iload 7, 2, 0, 0, 0), (18, .iload 6, 2, 0, 0, 0), (20, .if_icmp .ge 26, 3, 26, 0, 0), (23, .aload 5, 2, 0, 0, 0), (25, .iload 7, 2, 0, 0, 0), (27, .iaload, 1, 0, 0, 0),
  (28, .istore 8, 2, 0, 0, 0), (30, .lload_n 3, 1, 0, 0, 0), (31, .ldc2_w 326, 3, 31, 0, 2), (34, .lmul, 1, 0, 0, 0), (35, .iload 8, 2, 0, 0, 0), (37, .i2l, 1, 0, 0, 0), (38, .ladd, 1, 0, 0, 0), (39, .lstore_n 3, 1, 0, 0, 0),
  (40, .iinc 7 1, 3, 0, 0, 0), (43, .goto (-27), 3, 10, 0, 0), (46, .aload_n 2, 1, 0, 0, 0), (47, .getfield 284, 3, 8, 1, 149), (50, .astore 5, 2, 0, 0, 0), (52, .aload 5, 2, 0, 0, 0), (54, .arraylength, 1, 0, 0, 0), (55, .istore 6, 2, 0, 0, 0),
  (57, .iconst 0, 1, 0, 0, 0), (58, .istore 7, 2, 0, 0, 0), (60, .iload 7, 2, 0, 0, 0), (62, .iload 6, 2, 0, 0, 0), (64, .if_icmp .ge 26, 3, 50, 0, 0), (67, .aload 5, 2, 0, 0, 0), (69, .iload 7, 2, 0, 0, 0), (71, .iaload, 1, 0, 0, 0),
  (72, .istore 8, 2, 0, 0, 0), (74, .lload_n 3, 1, 0, 0, 0), (75, .ldc2_w 326, 3, 31, 0, 2), (78, .lmul, 1, 0, 0, 0), (79, .iload 8, 2, 0, 0, 0), (81, .i2l, 1, 0, 0, 0), (82, .ladd, 1, 0, 0, 0), (83, .lstore_n 3, 1, 0, 0, 0),
  (84, .iinc 7 1, 3, 0, 0, 0), (87, .goto (-27), 3, 34, 0, 0), (90, .lload_n 3, 1, 0, 0, 0), (91, .lreturn, 1, 0, 0, 0)]
set_option maxRecDepth 100000 in
noncomputable def rw_166 : List PRow := [
  (0, .lload_n 1, 1, 0, 0, 0), (1, .lstore 4, 2, 0, 0, 0), (3, .iconst 0, 1, 0, 0, 0), (4, .istore 6, 2, 0, 0, 0), (6, .iload 6, 2, 0, 0, 0), (8, .bipush 7, 2, 0, 0, 0), (10, .if_icmp .ge 60, 3, 37, 0, 0), (13, .aload_n 3, 1, 0, 0, 0),
  (14, .getfield 86, 3, 6, 12, 127), (17, .iconst 3, 1, 0, 0, 0), (18, .if_icmp .ne 46, 3, 35, 0, 0), (21, .iload 6, 2, 0, 0, 0), (23, .aload_n 3, 1, 0, 0, 0), (24, .getfield 291, 3, 6, 0, 150), (27, .if_icmp .eq 37, 3, 35, 0, 0), (30, .lload 4, 2, 0, 0, 0),
  (32, .ldc2_w 326, 3, 31, 0, 2), (35, .lmul, 1, 0, 0, 0), (36, .aload_n 3, 1, 0, 0, 0), (37, .getfield 151, 3, 6, 2, 136), (40, .iload 6, 2, 0, 0, 0), (42, .iaload, 1, 0, 0, 0), (43, .i2l, 1, 0, 0, 0), (44, .ladd, 1, 0, 0, 0),
  (45, .lstore 4, 2, 0, 0, 0), (47, .lload 4, 2, 0, 0, 0), (49, .ldc2_w 326, 3, 31, 0, 2), (52, .lmul, 1, 0, 0, 0), (53, .aload_n 3, 1, 0, 0, 0), (54, .getfield 116, 3, 6, 3, 132), (57, .iload 6, 2, 0, 0, 0), (59, .iaload, 1, 0, 0, 0),
  (60, .i2l, 1, 0, 0, 0), (61, .ladd, 1, 0, 0, 0), (62, .lstore 4, 2, 0, 0, 0), (64, .iinc 6 1, 3, 0, 0, 0), (67, .goto (-61), 3, 4, 0, 0), (70, .aload_n 0, 1, 0, 0, 0), (71, .getfield 10, 3, 9, 0, 122), (74, .getfield 108, 3, 1, 0, 131),
  (77, .astore 6, 2, 0, 0, 0), (79, .aload 6, 2, 0, 0, 0), (81, .arraylength, 1, 0, 0, 0), (82, .istore 7, 2, 0, 0, 0), (84, .iconst 0, 1, 0, 0, 0), (85, .istore 8, 2, 0, 0, 0), (87, .iload 8, 2, 0, 0, 0), (89, .iload 7, 2, 0, 0, 0),
  (91, .if_icmp .ge 32, 3, 64, 0, 0), (94, .aload 6, 2, 0, 0, 0), (96, .iload 8, 2, 0, 0, 0), (98, .aaload, 1, 0, 0, 0), (99, .astore 9, 2, 0, 0, 0), (101, .lload 4, 2, 0, 0, 0), (103, .ldc2_w 326, 3, 31, 0, 2), (106, .lmul, 1, 0, 0, 0),
  (107, .aload_n 3, 1, 0, 0, 0), (108, .aload 9, 2, 0, 0, 0), (110, .invokevirtual 302, 3, 83, 0, 134), (113, .i2l, 1, 0, 0, 0), (114, .ladd, 1, 0, 0, 0), (115, .lstore 4, 2, 0, 0, 0), (117, .iinc 8 1, 3, 0, 0, 0), (120, .goto (-33), 3, 46, 0, 0),
  (123, .lload 4, 2, 0, 0, 0), (125, .lreturn, 1, 0, 0, 0)]
set_option maxRecDepth 100000 in
noncomputable def rw_168 : List PRow := [
  (0, .iload_n 0, 1, 0, 0, 0), (1, .ifCond .eq 14, 3, 7, 0, 0), (4, .new 214, 3, 101, 0, 4), (7, .dup, 1, 0, 0, 0), (8, .ldc_w 377, 3, 0, 0, 0), (11, .invokespecial 218, 3, 9, 1, 0), (14, .athrow, 1, 0, 0, 0), (15, .return_, 1, 0, 0, 0)]
set_option maxRecDepth 100000 in
noncomputable def rw_169 : List PRow := [
  (0, .iload_n 0, 1, 0, 0, 0), (1, .ifCond .lt 9, 3, 5, 0, 0), (4, .iload_n 0, 1, 0, 0, 0), (5, .bipush 7, 2, 0, 0, 0), (7, .if_icmp .lt 14, 3, 10, 0, 0), (10, .new 255, 3, 102, 0, 5), (13, .dup, 1, 0, 0, 0), (14, .ldc_w 379, 3, 0, 0, 0),
  (17, .invokespecial 259, 3, 9, 1, 0), (20, .athrow, 1, 0, 0, 0), (21, .return_, 1, 0, 0, 0)]
set_option maxRecDepth 100000 in
noncomputable def rw_170 : List PRow := [
  (0, .iload_n 0, 1, 0, 0, 0), (1, .invokestatic 133, 3, 179, 0, 110), (4, .iload_n 1, 1, 0, 0, 0), (5, .invokestatic 133, 3, 179, 0, 110), (8, .iload_n 0, 1, 0, 0, 0), (9, .iload_n 1, 1, 0, 0, 0), (10, .if_icmp .ne 14, 3, 12, 0, 0), (13, .new 19, 3, 100, 0, 6),
  (16, .dup, 1, 0, 0, 0), (17, .ldc_w 381, 3, 0, 0, 0), (20, .invokespecial 23, 3, 9, 1, 0), (23, .athrow, 1, 0, 0, 0), (24, .return_, 1, 0, 0, 0)]
set_option maxRecDepth 100000 in
noncomputable def rw_171 : List PRow := [
  (0, .iload_n 0, 1, 0, 0, 0), (1, .ifCond .lt 8, 3, 5, 0, 0), (4, .iload_n 0, 1, 0, 0, 0), (5, .iconst 4, 1, 0, 0, 0), (6, .if_icmp .lt 14, 3, 10, 0, 0), (9, .new 255, 3, 102, 0, 7), (12, .dup, 1, 0, 0, 0), (13, .ldc_w 383, 3, 0, 0, 0),
  (16, .invokespecial 259, 3, 9, 1, 0), (19, .athrow, 1, 0, 0, 0), (20, .return_, 1, 0, 0, 0)]
set_option maxRecDepth 100000 in
noncomputable def rw_172 : List PRow := [
  (0, .iload_n 0, 1, 0, 0, 0), (1, .ifCond .lt 9, 3, 5, 0, 0), (4, .iload_n 0, 1, 0, 0, 0), (5, .bipush 8, 2, 0, 0, 0), (7, .if_icmp .lt 14, 3, 10, 0, 0), (10, .new 255, 3, 102, 0, 8), (13, .dup, 1, 0, 0, 0), (14, .ldc_w 385, 3, 0, 0, 0),
  (17, .invokespecial 259, 3, 9, 1, 0), (20, .athrow, 1, 0, 0, 0), (21, .return_, 1, 0, 0, 0)]
set_option maxRecDepth 100000 in
noncomputable def rw_173 : List PRow := [
  (0, .iload_n 1, 1, 0, 0, 0), (1, .ifCond .lt 17, 3, 8, 0, 0), (4, .iload_n 1, 1, 0, 0, 0), (5, .aload_n 0, 1, 0, 0, 0), (6, .getfield 10, 3, 9, 0, 122), (9, .getfield 55, 3, 1, 2, 125), (12, .getfield 130, 3, 4, 3, 134), (15, .if_icmp .lt 14, 3, 13, 0, 0),
  (18, .new 255, 3, 102, 0, 9), (21, .dup, 1, 0, 0, 0), (22, .ldc_w 387, 3, 0, 0, 0), (25, .invokespecial 259, 3, 9, 1, 0), (28, .athrow, 1, 0, 0, 0), (29, .return_, 1, 0, 0, 0)]
set_option maxRecDepth 100000 in
noncomputable def rw_174 : List PRow := [
  (0, .iload_n 1, 1, 0, 0, 0), (1, .invokestatic 204, 3, 181, 0, 121), (4, .iload_n 2, 1, 0, 0, 0), (5, .invokestatic 272, 3, 182, 0, 130), (8, .iload_n 3, 1, 0, 0, 0), (9, .invokestatic 389, 3, 185, 0, 150), (12, .ifCond .ne 11, 3, 10, 0, 0), (15, .iload 4, 2, 0, 0, 0),
  (17, .invokestatic 389, 3, 185, 0, 150), (20, .ifCond .eq 14, 3, 15, 0, 0), (23, .new 19, 3, 100, 0, 10), (26, .dup, 1, 0, 0, 0), (27, .ldc_w 392, 3, 0, 0, 0), (30, .invokespecial 23, 3, 9, 1, 0), (33, .athrow, 1, 0, 0, 0), (34, .aload_n 0, 1, 0, 0, 0),
  (35, .getfield 10, 3, 9, 0, 122), (38, .getfield 194, 3, 1, 1, 137), (41, .iload_n 1, 1, 0, 0, 0), (42, .aaload, 1, 0, 0, 0), (43, .invokevirtual 394, 3, 14, 0, 151), (46, .invokestatic 40, 3, 178, 0, 96), (49, .return_, 1, 0, 0, 0)]
set_option maxRecDepth 100000 in
noncomputable def rw_175 : List PRow := [
  (0, .iload_n 0, 1, 0, 0, 0), (1, .sipush (-9999), 3, 0, 0, 0), (4, .if_icmp .lt 10, 3, 6, 0, 0), (7, .iload_n 0, 1, 0, 0, 0), (8, .sipush 9999, 3, 0, 0, 0), (11, .if_icmp .le 7, 3, 8, 0, 0), (14, .iconst 1, 1, 0, 0, 0), (15, .goto 4, 3, 9, 0, 0),
  (18, .iconst 0, 1, 0, 0, 0), (19, .ireturn, 1, 0, 0, 0)]
set_option maxRecDepth 100000 in
noncomputable def rw_176 : List PRow := [
  (0, .iload_n 1, 1, 0, 0, 0), (1, .invokestatic 133, 3, 179, 0, 110), (4, .aload_n 0, 1, 0, 0, 0), (5, .getfield 10, 3, 9, 0, 122), (8, .getfield 108, 3, 1, 0, 131), (11, .iload_n 1, 1, 0, 0, 0), (12, .aaload, 1, 0, 0, 0), (13, .areturn, 1, 0, 0, 0)]
set_option maxRecDepth 100000 in
noncomputable def rw_178 : List PRow := [
  (0, .aload_n 0, 1, 0, 0, 0), (1, .iload_n 1, 1, 0, 0, 0), (2, .invokevirtual 30, 3, 186, 0, 95), (5, .iload_n 2, 1, 0, 0, 0), (6, .invokevirtual 397, 3, 74, 0, 152), (9, .astore_n 3, 1, 0, 0, 0), (10, .aload_n 3, 1, 0, 0, 0), (11, .ifnonnull 14, 3, 13, 0, 0),
  (14, .new 255, 3, 102, 0, 11), (17, .dup, 1, 0, 0, 0), (18, .ldc_w 401, 3, 0, 0, 0), (21, .invokespecial 259, 3, 9, 1, 0), (24, .athrow, 1, 0, 0, 0), (25, .aload_n 3, 1, 0, 0, 0), (26, .areturn, 1, 0, 0, 0)]
set_option maxRecDepth 100000 in
noncomputable def rw_322 : List PRow := [
  (0, .iload_n 0, 1, 0, 0, 0), (1, .ldc 7, 2, 2147483647, 0, 3), (3, .iand, 1, 0, 0, 0), (4, .iload_n 1, 1, 0, 0, 0), (5, .irem, 1, 0, 0, 0), (6, .ireturn, 1, 0, 0, 0)]
set_option maxRecDepth 100000 in
noncomputable def rw_323 : List PRow := [
  (0, .iload_n 1, 1, 0, 0, 0), (1, .aload_n 0, 1, 0, 0, 0), (2, .arraylength, 1, 0, 0, 0), (3, .if_icmp .ge 9, 3, 8, 0, 0), (6, .aload_n 0, 1, 0, 0, 0), (7, .iload_n 1, 1, 0, 0, 0), (8, .iaload, 1, 0, 0, 0), (9, .goto 9, 3, 13, 0, 0),
  (12, .ldc 8, 2, 790386105, 0, 4), (14, .iload_n 1, 1, 0, 0, 0), (15, .iconst 3, 1, 0, 0, 0), (16, .iadd, 1, 0, 0, 0), (17, .imul, 1, 0, 0, 0), (18, .ireturn, 1, 0, 0, 0)]
set_option maxRecDepth 100000 in
noncomputable def rw_324 : List PRow := [
  (0, .iload_n 1, 1, 0, 0, 0), (1, .iconst 4, 1, 0, 0, 0), (2, .ishr, 1, 0, 0, 0), (3, .bipush 7, 2, 0, 0, 0), (5, .invokestatic 9, 3, 332, 0, 153), (8, .istore_n 2, 1, 0, 0, 0), (9, .iload_n 1, 1, 0, 0, 0), (10, .bipush 8, 2, 0, 0, 0),
  (12, .ishr, 1, 0, 0, 0), (13, .bipush 7, 2, 0, 0, 0), (15, .invokestatic 9, 3, 332, 0, 153), (18, .istore_n 3, 1, 0, 0, 0), (19, .iload_n 1, 1, 0, 0, 0), (20, .bipush 13, 2, 0, 0, 0), (22, .ishr, 1, 0, 0, 0), (23, .iconst 4, 1, 0, 0, 0),
  (24, .invokestatic 9, 3, 332, 0, 153), (27, .istore 4, 2, 0, 0, 0), (29, .iload_n 1, 1, 0, 0, 0), (30, .bipush 16, 2, 0, 0, 0), (32, .invokestatic 9, 3, 332, 0, 153), (35, .tableswitch 239 0 12 #[65, 71, 77, 84, 91, 97, 106, 112, 122, 132, 142, 175, 186], 65, 0, 0, 0), (100, .aload_n 0, 1, 0, 0, 0), (101, .iload_n 2, 1, 0, 0, 0),
  (102, .invokevirtual 15, 3, 106, 0, 154), (105, .ireturn, 1, 0, 0, 0), (106, .aload_n 0, 1, 0, 0, 0), (107, .iload_n 2, 1, 0, 0, 0), (108, .invokevirtual 21, 3, 107, 0, 155), (111, .ireturn, 1, 0, 0, 0), (112, .aload_n 0, 1, 0, 0, 0), (113, .iload_n 2, 1, 0, 0, 0),
  (114, .iload_n 3, 1, 0, 0, 0), (115, .invokevirtual 24, 3, 108, 0, 156), (118, .ireturn, 1, 0, 0, 0), (119, .aload_n 0, 1, 0, 0, 0), (120, .iload_n 2, 1, 0, 0, 0), (121, .iload_n 3, 1, 0, 0, 0), (122, .invokevirtual 27, 3, 109, 0, 157), (125, .ireturn, 1, 0, 0, 0),
  (126, .aload_n 0, 1, 0, 0, 0), (127, .iload_n 2, 1, 0, 0, 0), (128, .invokevirtual 30, 3, 111, 0, 158), (131, .ireturn, 1, 0, 0, 0), (132, .aload_n 0, 1, 0, 0, 0), (133, .aload_n 0, 1, 0, 0, 0), (134, .invokevirtual 33, 3, 157, 0, 159), (137, .invokevirtual 37, 3, 112, 0, 160),
  (140, .ireturn, 1, 0, 0, 0), (141, .aload_n 0, 1, 0, 0, 0), (142, .iload_n 2, 1, 0, 0, 0), (143, .invokevirtual 40, 3, 113, 0, 161), (146, .ireturn, 1, 0, 0, 0), (147, .aload_n 0, 1, 0, 0, 0), (148, .aload_n 0, 1, 0, 0, 0), (149, .invokevirtual 33, 3, 157, 0, 159),
  (152, .iload_n 3, 1, 0, 0, 0), (153, .invokevirtual 43, 3, 114, 0, 162), (156, .ireturn, 1, 0, 0, 0), (157, .aload_n 0, 1, 0, 0, 0), (158, .aload_n 0, 1, 0, 0, 0), (159, .invokevirtual 33, 3, 157, 0, 159), (162, .iload_n 3, 1, 0, 0, 0), (163, .invokevirtual 46, 3, 115, 0, 163),
  (166, .ireturn, 1, 0, 0, 0), (167, .aload_n 0, 1, 0, 0, 0), (168, .aload_n 0, 1, 0, 0, 0), (169, .invokevirtual 33, 3, 157, 0, 159), (172, .iload_n 3, 1, 0, 0, 0), (173, .invokevirtual 49, 3, 116, 0, 164), (176, .ireturn, 1, 0, 0, 0), (177, .iload 4, 2, 0, 0, 0),
  (179, .iconst 2, 1, 0, 0, 0), (180, .irem, 1, 0, 0, 0), (181, .ifCond .ne 16, 3, 83, 0, 0), (184, .aload_n 0, 1, 0, 0, 0), (185, .iload 4, 2, 0, 0, 0), (187, .iload_n 2, 1, 0, 0, 0), (188, .iload_n 3, 1, 0, 0, 0), (189, .iconst 3, 1, 0, 0, 0),
  (190, .isub, 1, 0, 0, 0), (191, .invokevirtual 52, 3, 127, 0, 165), (194, .goto 15, 3, 90, 0, 0), (197, .aload_n 0, 1, 0, 0, 0), (198, .iload 4, 2, 0, 0, 0), (200, .iload_n 2, 1, 0, 0, 0), (201, .iload_n 1, 1, 0, 0, 0), (202, .sipush 10000, 3, 0, 0, 0),
  (205, .irem, 1, 0, 0, 0), (206, .invokevirtual 56, 3, 126, 0, 166), (209, .ireturn, 1, 0, 0, 0), (210, .aload_n 0, 1, 0, 0, 0), (211, .iload 4, 2, 0, 0, 0), (213, .aload_n 0, 1, 0, 0, 0), (214, .invokevirtual 33, 3, 157, 0, 159), (217, .invokevirtual 59, 3, 129, 0, 167),
  (220, .ireturn, 1, 0, 0, 0), (221, .iload_n 1, 1, 0, 0, 0), (222, .bipush 17, 2, 0, 0, 0), (224, .ishr, 1, 0, 0, 0), (225, .iconst 3, 1, 0, 0, 0), (226, .invokestatic 9, 3, 332, 0, 153), (229, .ifCond .ne 11, 3, 107, 0, 0), (232, .aload_n 0, 1, 0, 0, 0),
  (233, .iload_n 2, 1, 0, 0, 0), (234, .invokevirtual 62, 3, 119, 0, 168), (237, .goto 36, 3, 125, 0, 0), (240, .iload_n 1, 1, 0, 0, 0), (241, .bipush 17, 2, 0, 0, 0), (243, .ishr, 1, 0, 0, 0), (244, .iconst 3, 1, 0, 0, 0), (245, .invokestatic 9, 3, 332, 0, 153),
  (248, .iconst 1, 1, 0, 0, 0), (249, .if_icmp .ne 11, 3, 118, 0, 0), (252, .aload_n 0, 1, 0, 0, 0), (253, .iload_n 2, 1, 0, 0, 0), (254, .invokevirtual 65, 3, 120, 0, 169), (257, .goto 16, 3, 125, 0, 0), (260, .aload_n 0, 1, 0, 0, 0), (261, .iload_n 2, 1, 0, 0, 0),
  (262, .invokevirtual 68, 3, 118, 0, 170), (265, .ifCond .eq 7, 3, 124, 0, 0), (268, .iconst 1, 1, 0, 0, 0), (269, .goto 4, 3, 125, 0, 0), (272, .iconst 0, 1, 0, 0, 0), (273, .ireturn, 1, 0, 0, 0), (274, .aload_n 0, 1, 0, 0, 0), (275, .iconst 1, 1, 0, 0, 0),
  (276, .iload_n 1, 1, 0, 0, 0), (277, .bipush 16, 2, 0, 0, 0), (279, .ishr, 1, 0, 0, 0), (280, .iconst 5, 1, 0, 0, 0), (281, .invokestatic 9, 3, 332, 0, 153), (284, .iadd, 1, 0, 0, 0), (285, .invokevirtual 72, 3, 110, 0, 171), (288, .ireturn, 1, 0, 0, 0),
  (289, .astore 5, 2, 0, 0, 0), (291, .bipush (-99), 2, 0, 0, 0), (293, .ireturn, 1, 0, 0, 0)]
set_option maxRecDepth 100000 in
noncomputable def rw_378 : List PRow := [
  (0, .new 16, 3, 9, 0, 17), (3, .dup, 1, 0, 0, 0), (4, .invokespecial 81, 3, 104, 1, 172), (7, .astore_n 1, 1, 0, 0, 0), (8, .aload_n 1, 1, 0, 0, 0), (9, .iconst 1, 1, 0, 0, 0), (10, .aload_n 0, 1, 0, 0, 0), (11, .iconst 0, 1, 0, 0, 0),
  (12, .invokestatic 82, 3, 333, 0, 173), (15, .bipush 7, 2, 0, 0, 0), (17, .invokestatic 9, 3, 332, 0, 153), (20, .iadd, 1, 0, 0, 0), (21, .invokevirtual 86, 3, 105, 0, 174), (24, .pop, 1, 0, 0, 0), (25, .aload_n 1, 1, 0, 0, 0), (26, .iconst 5, 1, 0, 0, 0),
  (27, .aload_n 0, 1, 0, 0, 0), (28, .iconst 1, 1, 0, 0, 0), (29, .invokestatic 82, 3, 333, 0, 173), (32, .bipush 12, 2, 0, 0, 0), (34, .invokestatic 9, 3, 332, 0, 153), (37, .iadd, 1, 0, 0, 0), (38, .invokevirtual 72, 3, 110, 0, 171), (41, .pop, 1, 0, 0, 0),
  (42, .sipush 400, 3, 0, 0, 0), (45, .newarray .int, 2, 1, 0, 0), (47, .astore_n 2, 1, 0, 0, 0), (48, .bipush 14, 2, 0, 0, 0), (50, .newarray .int, 2, 1, 0, 0), (52, .astore_n 3, 1, 0, 0, 0), (53, .iconst 0, 1, 0, 0, 0), (54, .istore 4, 2, 0, 0, 0),
  (56, .iload 4, 2, 0, 0, 0), (58, .bipush 44, 2, 0, 0, 0), (60, .if_icmp .ge 243, 3, 159, 0, 0), (63, .aload_n 0, 1, 0, 0, 0), (64, .iconst 2, 1, 0, 0, 0), (65, .iload 4, 2, 0, 0, 0), (67, .bipush 22, 2, 0, 0, 0), (69, .irem, 1, 0, 0, 0),
  (70, .iadd, 1, 0, 0, 0), (71, .invokestatic 82, 3, 333, 0, 173), (74, .iload 4, 2, 0, 0, 0), (76, .bipush 22, 2, 0, 0, 0), (78, .idiv, 1, 0, 0, 0), (79, .iconst 3, 1, 0, 0, 0), (80, .imul, 1, 0, 0, 0), (81, .ishr, 1, 0, 0, 0),
  (82, .istore 5, 2, 0, 0, 0), (84, .aload_n 1, 1, 0, 0, 0), (85, .iload 5, 2, 0, 0, 0), (87, .invokestatic 89, 3, 334, 0, 175), (90, .istore 6, 2, 0, 0, 0), (92, .iload 6, 2, 0, 0, 0), (94, .bipush (-99), 2, 0, 0, 0), (96, .if_icmp .eq 17, 3, 62, 0, 0),
  (99, .iload 5, 2, 0, 0, 0), (101, .bipush 16, 2, 0, 0, 0), (103, .invokestatic 9, 3, 332, 0, 153), (106, .ifCond .ne 7, 3, 62, 0, 0), (109, .iconst 1, 1, 0, 0, 0), (110, .goto 4, 3, 63, 0, 0), (113, .iconst 0, 1, 0, 0, 0), (114, .istore 7, 2, 0, 0, 0),
  (116, .iconst 0, 1, 0, 0, 0), (117, .istore 8, 2, 0, 0, 0), (119, .iload 8, 2, 0, 0, 0), (121, .bipush 7, 2, 0, 0, 0), (123, .if_icmp .ge 98, 3, 120, 0, 0), (126, .aload_n 1, 1, 0, 0, 0), (127, .iload 8, 2, 0, 0, 0), (129, .invokevirtual 93, 3, 137, 0, 176),
  (132, .aload_n 3, 1, 0, 0, 0), (133, .iload 8, 2, 0, 0, 0), (135, .iaload, 1, 0, 0, 0), (136, .if_icmp .lt 33, 3, 91, 0, 0), (139, .aload_n 1, 1, 0, 0, 0), (140, .iload 8, 2, 0, 0, 0), (142, .invokevirtual 96, 3, 145, 0, 177), (145, .aload_n 3, 1, 0, 0, 0),
  (146, .bipush 7, 2, 0, 0, 0), (148, .iload 8, 2, 0, 0, 0), (150, .iadd, 1, 0, 0, 0), (151, .iaload, 1, 0, 0, 0), (152, .if_icmp .ge 19, 3, 93, 0, 0), (155, .iload 7, 2, 0, 0, 0), (157, .ifCond .eq 12, 3, 91, 0, 0), (160, .aload_n 1, 1, 0, 0, 0),
  (161, .iload 8, 2, 0, 0, 0), (163, .invokevirtual 99, 3, 135, 0, 178), (166, .ifCond .eq 5, 3, 93, 0, 0), (169, .iconst 0, 1, 0, 0, 0), (170, .ireturn, 1, 0, 0, 0), (171, .aload_n 3, 1, 0, 0, 0), (172, .iload 8, 2, 0, 0, 0), (174, .aload_n 1, 1, 0, 0, 0),
  (175, .iload 8, 2, 0, 0, 0), (177, .invokevirtual 93, 3, 137, 0, 176), (180, .iastore, 1, 1, 0, 0), (181, .aload_n 3, 1, 0, 0, 0), (182, .bipush 7, 2, 0, 0, 0), (184, .iload 8, 2, 0, 0, 0), (186, .iadd, 1, 0, 0, 0), (187, .aload_n 1, 1, 0, 0, 0),
  (188, .iload 8, 2, 0, 0, 0), (190, .invokevirtual 96, 3, 145, 0, 177), (193, .iastore, 1, 1, 0, 0), (194, .aload_n 1, 1, 0, 0, 0), (195, .iload 8, 2, 0, 0, 0), (197, .invokestatic 102, 3, 336, 0, 179), (200, .ifCond .eq 13, 3, 116, 0, 0), (203, .aload_n 1, 1, 0, 0, 0),
  (204, .iload 8, 2, 0, 0, 0), (206, .aload_n 2, 1, 0, 0, 0), (207, .invokestatic 106, 3, 335, 0, 180), (210, .ifCond .ne 5, 3, 118, 0, 0), (213, .iconst 0, 1, 0, 0, 0), (214, .ireturn, 1, 0, 0, 0), (215, .iinc 8 1, 3, 0, 0, 0), (218, .goto (-99), 3, 66, 0, 0),
  (221, .iload 4, 2, 0, 0, 0), (223, .bipush 8, 2, 0, 0, 0), (225, .irem, 1, 0, 0, 0), (226, .bipush 7, 2, 0, 0, 0), (228, .if_icmp .eq 6, 3, 126, 0, 0), (231, .goto 66, 3, 157, 0, 0), (234, .aload_n 1, 1, 0, 0, 0), (235, .invokevirtual 110, 3, 170, 0, 181),
  (238, .lstore 8, 2, 0, 0, 0), (240, .iconst 0, 1, 0, 0, 0), (241, .istore 10, 2, 0, 0, 0), (243, .iload 10, 2, 0, 0, 0), (245, .bipush 7, 2, 0, 0, 0), (247, .if_icmp .ge 38, 3, 150, 0, 0), (250, .iconst 0, 1, 0, 0, 0), (251, .istore 11, 2, 0, 0, 0),
  (253, .iload 11, 2, 0, 0, 0), (255, .iload 10, 2, 0, 0, 0), (257, .if_icmp .ge 22, 3, 148, 0, 0), (260, .aload_n 1, 1, 0, 0, 0), (261, .iload 10, 2, 0, 0, 0), (263, .iload 11, 2, 0, 0, 0), (265, .invokestatic 114, 3, 337, 0, 182), (268, .ifCond .ne 5, 3, 146, 0, 0),
  (271, .iconst 0, 1, 0, 0, 0), (272, .ireturn, 1, 0, 0, 0), (273, .iinc 11 1, 3, 0, 0, 0), (276, .goto (-23), 3, 136, 0, 0), (279, .iinc 10 1, 3, 0, 0, 0), (282, .goto (-39), 3, 131, 0, 0), (285, .aload_n 1, 1, 0, 0, 0), (286, .invokevirtual 110, 3, 170, 0, 181),
  (289, .lload 8, 2, 0, 0, 0), (291, .lcmp, 1, 0, 0, 0), (292, .ifCond .eq 5, 3, 157, 0, 0), (295, .iconst 0, 1, 0, 0, 0), (296, .ireturn, 1, 0, 0, 0), (297, .iinc 4 1, 3, 0, 0, 0), (300, .goto (-244), 3, 32, 0, 0), (303, .iconst 1, 1, 0, 0, 0),
  (304, .ireturn, 1, 0, 0, 0)]
set_option maxRecDepth 100000 in
noncomputable def rw_325 : List PRow := [
  (0, .aload_n 0, 1, 0, 0, 0), (1, .iload_n 1, 1, 0, 0, 0), (2, .invokevirtual 93, 3, 137, 0, 176), (5, .istore_n 3, 1, 0, 0, 0), (6, .aload_n 0, 1, 0, 0, 0), (7, .iload_n 1, 1, 0, 0, 0), (8, .invokevirtual 118, 3, 136, 0, 183), (11, .iconst 3, 1, 0, 0, 0),
  (12, .if_icmp .ne 9, 3, 13, 0, 0), (15, .iload_n 3, 1, 0, 0, 0), (16, .aload_n 2, 1, 0, 0, 0), (17, .arraylength, 1, 0, 0, 0), (18, .if_icmp .lt 5, 3, 15, 0, 0), (21, .iconst 1, 1, 0, 0, 0), (22, .ireturn, 1, 0, 0, 0), (23, .aload_n 2, 1, 0, 0, 0),
  (24, .iload_n 3, 1, 0, 0, 0), (25, .iaload, 1, 0, 0, 0), (26, .ifCond .eq 14, 3, 28, 0, 0), (29, .aload_n 2, 1, 0, 0, 0), (30, .iload_n 3, 1, 0, 0, 0), (31, .iaload, 1, 0, 0, 0), (32, .iload_n 1, 1, 0, 0, 0), (33, .iconst 1, 1, 0, 0, 0),
  (34, .iadd, 1, 0, 0, 0), (35, .if_icmp .eq 5, 3, 28, 0, 0), (38, .iconst 0, 1, 0, 0, 0), (39, .ireturn, 1, 0, 0, 0), (40, .aload_n 2, 1, 0, 0, 0), (41, .iload_n 3, 1, 0, 0, 0), (42, .iload_n 1, 1, 0, 0, 0), (43, .iconst 1, 1, 0, 0, 0),
  (44, .iadd, 1, 0, 0, 0), (45, .iastore, 1, 1, 0, 0), (46, .iconst 1, 1, 0, 0, 0), (47, .ireturn, 1, 0, 0, 0)]
set_option maxRecDepth 100000 in
noncomputable def rw_326 : List PRow := [
  (0, .aload_n 0, 1, 0, 0, 0), (1, .iload_n 1, 1, 0, 0, 0), (2, .invokevirtual 118, 3, 136, 0, 183), (5, .istore_n 2, 1, 0, 0, 0), (6, .aload_n 0, 1, 0, 0, 0), (7, .iload_n 1, 1, 0, 0, 0), (8, .invokevirtual 121, 3, 143, 0, 184), (11, .istore_n 3, 1, 0, 0, 0),
  (12, .iload_n 2, 1, 0, 0, 0), (13, .ifCond .lt 68, 3, 45, 0, 0), (16, .iload_n 2, 1, 0, 0, 0), (17, .iconst 3, 1, 0, 0, 0), (18, .if_icmp .gt 63, 3, 45, 0, 0), (21, .aload_n 0, 1, 0, 0, 0), (22, .iload_n 1, 1, 0, 0, 0), (23, .invokevirtual 99, 3, 135, 0, 178),
  (26, .ifCond .ne 28, 3, 30, 0, 0), (29, .iload_n 2, 1, 0, 0, 0), (30, .ifCond .ne 51, 3, 45, 0, 0), (33, .aload_n 0, 1, 0, 0, 0), (34, .iload_n 1, 1, 0, 0, 0), (35, .invokevirtual 124, 3, 140, 0, 185), (38, .ifCond .ne 43, 3, 45, 0, 0), (41, .aload_n 0, 1, 0, 0, 0),
  (42, .iload_n 1, 1, 0, 0, 0), (43, .invokevirtual 96, 3, 145, 0, 177), (46, .aload_n 0, 1, 0, 0, 0), (47, .iload_n 1, 1, 0, 0, 0), (48, .invokevirtual 127, 3, 142, 0, 186), (51, .if_icmp .ne 30, 3, 45, 0, 0), (54, .iload_n 2, 1, 0, 0, 0), (55, .ifCond .le 12, 3, 37, 0, 0),
  (58, .aload_n 0, 1, 0, 0, 0), (59, .iload_n 1, 1, 0, 0, 0), (60, .invokevirtual 130, 3, 139, 0, 187), (63, .iconst (-1), 1, 0, 0, 0), (64, .if_icmp .ne 17, 3, 45, 0, 0), (67, .iload_n 2, 1, 0, 0, 0), (68, .iconst 1, 1, 0, 0, 0), (69, .if_icmp .le 14, 3, 47, 0, 0),
  (72, .aload_n 0, 1, 0, 0, 0), (73, .iload_n 1, 1, 0, 0, 0), (74, .invokevirtual 133, 3, 138, 0, 188), (77, .iload_n 1, 1, 0, 0, 0), (78, .if_icmp .eq 5, 3, 47, 0, 0), (81, .iconst 0, 1, 0, 0, 0), (82, .ireturn, 1, 0, 0, 0), (83, .aload_n 0, 1, 0, 0, 0),
  (84, .iload_n 1, 1, 0, 0, 0), (85, .invokevirtual 127, 3, 142, 0, 186), (88, .aload_n 0, 1, 0, 0, 0), (89, .iload_n 1, 1, 0, 0, 0), (90, .invokevirtual 96, 3, 145, 0, 177), (93, .if_icmp .gt 43, 3, 75, 0, 0), (96, .aload_n 0, 1, 0, 0, 0), (97, .iload_n 1, 1, 0, 0, 0),
  (98, .invokevirtual 96, 3, 145, 0, 177), (101, .iload_n 3, 1, 0, 0, 0), (102, .if_icmp .gt 34, 3, 75, 0, 0), (105, .aload_n 0, 1, 0, 0, 0), (106, .iload_n 1, 1, 0, 0, 0), (107, .invokevirtual 136, 3, 144, 0, 189), (110, .aload_n 0, 1, 0, 0, 0), (111, .iload_n 1, 1, 0, 0, 0),
  (112, .invokevirtual 93, 3, 137, 0, 176), (115, .if_icmp .gt 21, 3, 75, 0, 0), (118, .aload_n 0, 1, 0, 0, 0), (119, .invokevirtual 139, 3, 117, 0, 190), (122, .bipush 60, 2, 0, 0, 0), (124, .if_icmp .gt 12, 3, 75, 0, 0), (127, .aload_n 0, 1, 0, 0, 0), (128, .iload_n 1, 1, 0, 0, 0),
  (129, .invokevirtual 142, 3, 146, 0, 191), (132, .iconst 1, 1, 0, 0, 0), (133, .if_icmp .ge 5, 3, 77, 0, 0), (136, .iconst 0, 1, 0, 0, 0), (137, .ireturn, 1, 0, 0, 0), (138, .iconst 0, 1, 0, 0, 0), (139, .istore 4, 2, 0, 0, 0), (141, .iload 4, 2, 0, 0, 0),
  (143, .iconst 4, 1, 0, 0, 0), (144, .if_icmp .ge 27, 3, 94, 0, 0), (147, .aload_n 0, 1, 0, 0, 0), (148, .iload_n 1, 1, 0, 0, 0), (149, .iload 4, 2, 0, 0, 0), (151, .invokevirtual 145, 3, 154, 0, 192), (154, .aload_n 0, 1, 0, 0, 0), (155, .iload 4, 2, 0, 0, 0),
  (157, .invokevirtual 148, 3, 130, 0, 193), (160, .if_icmp .le 5, 3, 92, 0, 0), (163, .iconst 0, 1, 0, 0, 0), (164, .ireturn, 1, 0, 0, 0), (165, .iinc 4 1, 3, 0, 0, 0), (168, .goto (-27), 3, 79, 0, 0), (171, .aload_n 0, 1, 0, 0, 0), (172, .iload_n 1, 1, 0, 0, 0),
  (173, .invokevirtual 127, 3, 142, 0, 186), (176, .iconst 1, 1, 0, 0, 0), (177, .iadd, 1, 0, 0, 0), (178, .istore 4, 2, 0, 0, 0), (180, .iload 4, 2, 0, 0, 0), (182, .iload_n 3, 1, 0, 0, 0), (183, .if_icmp .gt 30, 3, 118, 0, 0), (186, .aload_n 0, 1, 0, 0, 0),
  (187, .iload_n 1, 1, 0, 0, 0), (188, .iload 4, 2, 0, 0, 0), (190, .invokevirtual 151, 3, 148, 0, 194), (193, .aload_n 0, 1, 0, 0, 0), (194, .iload_n 1, 1, 0, 0, 0), (195, .iload 4, 2, 0, 0, 0), (197, .iconst 1, 1, 0, 0, 0), (198, .isub, 1, 0, 0, 0),
  (199, .invokevirtual 151, 3, 148, 0, 194), (202, .if_icmp .ge 5, 3, 116, 0, 0), (205, .iconst 0, 1, 0, 0, 0), (206, .ireturn, 1, 0, 0, 0), (207, .iinc 4 1, 3, 0, 0, 0), (210, .goto (-30), 3, 100, 0, 0), (213, .iconst 0, 1, 0, 0, 0), (214, .istore 4, 2, 0, 0, 0),
  (216, .iload 4, 2, 0, 0, 0), (218, .bipush 7, 2, 0, 0, 0), (220, .if_icmp .ge 52, 3, 150, 0, 0), (223, .iload_n 2, 1, 0, 0, 0), (224, .iconst 3, 1, 0, 0, 0), (225, .if_icmp .ne 47, 3, 150, 0, 0), (228, .iload 4, 2, 0, 0, 0), (230, .iload_n 1, 1, 0, 0, 0),
  (231, .if_icmp .eq 35, 3, 148, 0, 0), (234, .aload_n 0, 1, 0, 0, 0), (235, .iload_n 1, 1, 0, 0, 0), (236, .iload 4, 2, 0, 0, 0), (238, .invokevirtual 154, 3, 156, 0, 195), (241, .aload_n 0, 1, 0, 0, 0), (242, .iload_n 1, 1, 0, 0, 0), (243, .iload 4, 2, 0, 0, 0),
  (245, .invokevirtual 157, 3, 155, 0, 196), (248, .if_icmp .ge 16, 3, 146, 0, 0), (251, .aload_n 0, 1, 0, 0, 0), (252, .iload_n 1, 1, 0, 0, 0), (253, .iload 4, 2, 0, 0, 0), (255, .invokevirtual 157, 3, 155, 0, 196), (258, .iload_n 3, 1, 0, 0, 0), (259, .iconst 1, 1, 0, 0, 0),
  (260, .iadd, 1, 0, 0, 0), (261, .if_icmp .le 5, 3, 148, 0, 0), (264, .iconst 0, 1, 0, 0, 0), (265, .ireturn, 1, 0, 0, 0), (266, .iinc 4 1, 3, 0, 0, 0), (269, .goto (-53), 3, 120, 0, 0), (272, .iconst 1, 1, 0, 0, 0), (273, .ireturn, 1, 0, 0, 0)]
set_option maxRecDepth 100000 in
noncomputable def rw_327 : List PRow := [
  (0, .aload_n 0, 1, 0, 0, 0), (1, .iload_n 1, 1, 0, 0, 0), (2, .iload_n 2, 1, 0, 0, 0), (3, .invokevirtual 160, 3, 160, 0, 197), (6, .istore_n 3, 1, 0, 0, 0), (7, .iload_n 3, 1, 0, 0, 0), (8, .aload_n 0, 1, 0, 0, 0), (9, .iload_n 1, 1, 0, 0, 0),
  (10, .invokevirtual 96, 3, 145, 0, 177), (13, .aload_n 0, 1, 0, 0, 0), (14, .iload_n 2, 1, 0, 0, 0), (15, .invokevirtual 96, 3, 145, 0, 177), (18, .invokestatic 163, 3, 3, 0, 198), (21, .if_icmp .ge 5, 3, 16, 0, 0), (24, .iconst 0, 1, 0, 0, 0), (25, .ireturn, 1, 0, 0, 0),
  (26, .aload_n 0, 1, 0, 0, 0), (27, .iload_n 1, 1, 0, 0, 0), (28, .invokevirtual 127, 3, 142, 0, 186), (31, .aload_n 0, 1, 0, 0, 0), (32, .iload_n 2, 1, 0, 0, 0), (33, .invokevirtual 127, 3, 142, 0, 186), (36, .invokestatic 168, 3, 2, 0, 199), (39, .iconst 1, 1, 0, 0, 0),
  (40, .iadd, 1, 0, 0, 0), (41, .istore 4, 2, 0, 0, 0), (43, .iload 4, 2, 0, 0, 0), (45, .aload_n 0, 1, 0, 0, 0), (46, .iload_n 1, 1, 0, 0, 0), (47, .invokevirtual 121, 3, 143, 0, 184), (50, .aload_n 0, 1, 0, 0, 0), (51, .iload_n 2, 1, 0, 0, 0),
  (52, .invokevirtual 121, 3, 143, 0, 184), (55, .invokestatic 163, 3, 3, 0, 198), (58, .if_icmp .gt 105, 3, 88, 0, 0), (61, .aload_n 0, 1, 0, 0, 0), (62, .iload_n 1, 1, 0, 0, 0), (63, .iload 4, 2, 0, 0, 0), (65, .invokevirtual 151, 3, 148, 0, 194), (68, .aload_n 0, 1, 0, 0, 0),
  (69, .iload_n 2, 1, 0, 0, 0), (70, .iload 4, 2, 0, 0, 0), (72, .invokevirtual 151, 3, 148, 0, 194), (75, .if_icmp .eq 6, 3, 45, 0, 0), (78, .goto 79, 3, 86, 0, 0), (81, .iload 4, 2, 0, 0, 0), (83, .iload_n 3, 1, 0, 0, 0), (84, .if_icmp .gt 71, 3, 84, 0, 0),
  (87, .aload_n 0, 1, 0, 0, 0), (88, .iload_n 1, 1, 0, 0, 0), (89, .iload 4, 2, 0, 0, 0), (91, .invokevirtual 171, 3, 149, 0, 200), (94, .aload_n 0, 1, 0, 0, 0), (95, .iload_n 2, 1, 0, 0, 0), (96, .iload 4, 2, 0, 0, 0), (98, .invokevirtual 171, 3, 149, 0, 200),
  (101, .if_icmp .ne 54, 3, 84, 0, 0), (104, .aload_n 0, 1, 0, 0, 0), (105, .iload_n 1, 1, 0, 0, 0), (106, .iload 4, 2, 0, 0, 0), (108, .invokevirtual 174, 3, 150, 0, 201), (111, .aload_n 0, 1, 0, 0, 0), (112, .iload_n 2, 1, 0, 0, 0), (113, .iload 4, 2, 0, 0, 0),
  (115, .invokevirtual 174, 3, 150, 0, 201), (118, .if_icmp .ne 37, 3, 84, 0, 0), (121, .aload_n 0, 1, 0, 0, 0), (122, .iload_n 1, 1, 0, 0, 0), (123, .iload 4, 2, 0, 0, 0), (125, .invokevirtual 177, 3, 151, 0, 202), (128, .aload_n 0, 1, 0, 0, 0), (129, .iload_n 2, 1, 0, 0, 0),
  (130, .iload 4, 2, 0, 0, 0), (132, .invokevirtual 177, 3, 151, 0, 202), (135, .if_icmp .ne 20, 3, 84, 0, 0), (138, .aload_n 0, 1, 0, 0, 0), (139, .iload_n 1, 1, 0, 0, 0), (140, .iload 4, 2, 0, 0, 0), (142, .invokevirtual 180, 3, 152, 0, 203), (145, .aload_n 0, 1, 0, 0, 0),
  (146, .iload_n 2, 1, 0, 0, 0), (147, .iload 4, 2, 0, 0, 0), (149, .invokevirtual 180, 3, 152, 0, 203), (152, .if_icmp .eq 5, 3, 86, 0, 0), (155, .iconst 0, 1, 0, 0, 0), (156, .ireturn, 1, 0, 0, 0), (157, .iinc 4 1, 3, 0, 0, 0), (160, .goto (-117), 3, 26, 0, 0),
  (163, .aload_n 0, 1, 0, 0, 0), (164, .iload_n 1, 1, 0, 0, 0), (165, .invokevirtual 96, 3, 145, 0, 177), (168, .aload_n 0, 1, 0, 0, 0), (169, .iload_n 2, 1, 0, 0, 0), (170, .invokevirtual 96, 3, 145, 0, 177), (173, .if_icmp .eq 5, 3, 97, 0, 0), (176, .iconst 1, 1, 0, 0, 0),
  (177, .ireturn, 1, 0, 0, 0), (178, .iconst 0, 1, 0, 0, 0), (179, .istore 4, 2, 0, 0, 0), (181, .iload 4, 2, 0, 0, 0), (183, .bipush 8, 2, 0, 0, 0), (185, .if_icmp .ge 28, 3, 115, 0, 0), (188, .aload_n 0, 1, 0, 0, 0), (189, .iload_n 1, 1, 0, 0, 0),
  (190, .iload 4, 2, 0, 0, 0), (192, .invokevirtual 183, 3, 153, 0, 204), (195, .aload_n 0, 1, 0, 0, 0), (196, .iload_n 2, 1, 0, 0, 0), (197, .iload 4, 2, 0, 0, 0), (199, .invokevirtual 183, 3, 153, 0, 204), (202, .if_icmp .eq 5, 3, 113, 0, 0), (205, .iconst 0, 1, 0, 0, 0),
  (206, .ireturn, 1, 0, 0, 0), (207, .iinc 4 1, 3, 0, 0, 0), (210, .goto (-29), 3, 99, 0, 0), (213, .iconst 0, 1, 0, 0, 0), (214, .istore 4, 2, 0, 0, 0), (216, .iload 4, 2, 0, 0, 0), (218, .iconst 4, 1, 0, 0, 0), (219, .if_icmp .ge 28, 3, 133, 0, 0),
  (222, .aload_n 0, 1, 0, 0, 0), (223, .iload_n 1, 1, 0, 0, 0), (224, .iload 4, 2, 0, 0, 0), (226, .invokevirtual 145, 3, 154, 0, 192), (229, .aload_n 0, 1, 0, 0, 0), (230, .iload_n 2, 1, 0, 0, 0), (231, .iload 4, 2, 0, 0, 0), (233, .invokevirtual 145, 3, 154, 0, 192),
  (236, .if_icmp .eq 5, 3, 131, 0, 0), (239, .iconst 0, 1, 0, 0, 0), (240, .ireturn, 1, 0, 0, 0), (241, .iinc 4 1, 3, 0, 0, 0), (244, .goto (-28), 3, 117, 0, 0), (247, .iconst 1, 1, 0, 0, 0), (248, .ireturn, 1, 0, 0, 0)]
set_option maxRecDepth 100000 in
noncomputable def rw_379 : List PRow := [
  (0, .iload_n 0, 1, 0, 0, 0), (1, .iload_n 0, 1, 0, 0, 0), (2, .iconst 1, 1, 0, 0, 0), (3, .iushr, 1, 0, 0, 0), (4, .ldc_w 265, 3, 1431655765, 0, 5), (7, .iand, 1, 0, 0, 0), (8, .isub, 1, 0, 0, 0), (9, .istore_n 0, 1, 0, 0, 0),
  (10, .iload_n 0, 1, 0, 0, 0), (11, .ldc_w 266, 3, 858993459, 0, 6), (14, .iand, 1, 0, 0, 0), (15, .iload_n 0, 1, 0, 0, 0), (16, .iconst 2, 1, 0, 0, 0), (17, .iushr, 1, 0, 0, 0), (18, .ldc_w 266, 3, 858993459, 0, 6), (21, .iand, 1, 0, 0, 0),
  (22, .iadd, 1, 0, 0, 0), (23, .istore_n 0, 1, 0, 0, 0), (24, .iload_n 0, 1, 0, 0, 0), (25, .iload_n 0, 1, 0, 0, 0), (26, .iconst 4, 1, 0, 0, 0), (27, .iushr, 1, 0, 0, 0), (28, .iadd, 1, 0, 0, 0), (29, .ldc_w 267, 3, 252645135, 0, 7),
  (32, .iand, 1, 0, 0, 0), (33, .istore_n 0, 1, 0, 0, 0), (34, .iload_n 0, 1, 0, 0, 0), (35, .iload_n 0, 1, 0, 0, 0), (36, .bipush 8, 2, 0, 0, 0), (38, .iushr, 1, 0, 0, 0), (39, .iadd, 1, 0, 0, 0), (40, .istore_n 0, 1, 0, 0, 0),
  (41, .iload_n 0, 1, 0, 0, 0), (42, .iload_n 0, 1, 0, 0, 0), (43, .bipush 16, 2, 0, 0, 0), (45, .iushr, 1, 0, 0, 0), (46, .iadd, 1, 0, 0, 0), (47, .istore_n 0, 1, 0, 0, 0), (48, .iload_n 0, 1, 0, 0, 0), (49, .bipush 63, 2, 0, 0, 0),
  (51, .iand, 1, 0, 0, 0), (52, .ireturn, 1, 0, 0, 0)]
set_option maxRecDepth 100000 in
noncomputable def rw_380 : List PRow := [
  (0, .iconst 0, 1, 0, 0, 0), (1, .istore_n 2, 1, 0, 0, 0), (2, .aload_n 0, 1, 0, 0, 0), (3, .arraylength, 1, 0, 0, 0), (4, .istore_n 3, 1, 0, 0, 0), (5, .iload_n 2, 1, 0, 0, 0), (6, .iload_n 3, 1, 0, 0, 0), (7, .if_icmp .ge 13, 3, 14, 0, 0),
  (10, .aload_n 0, 1, 0, 0, 0), (11, .iload_n 2, 1, 0, 0, 0), (12, .iload_n 1, 1, 0, 0, 0), (13, .iastore, 1, 0, 0, 0), (14, .iinc 2 1, 3, 0, 0, 0), (17, .goto (-12), 3, 5, 0, 0), (20, .return_, 1, 0, 0, 0)]
noncomputable def qRowsL : List (List PRow) := [rw_0, rw_1, rw_0, rw_3, rw_4, rw_5, rw_6, rw_7, rw_8, rw_0, rw_10, rw_11, rw_12, rw_13, rw_14, rw_0, rw_0, rw_0, rw_0, rw_0, rw_0, rw_21, rw_22, rw_23, rw_24, rw_25, rw_26, rw_27, rw_28, rw_29, rw_30, rw_31, rw_32, rw_33, rw_34, rw_35, rw_36, rw_37, rw_38, rw_39, rw_40, rw_41, rw_42, rw_43, rw_44, rw_45, rw_46, rw_47, rw_48, rw_0, rw_50, rw_51, rw_52, rw_53, rw_54, rw_55, rw_56, rw_57, rw_58, rw_59, rw_0, rw_61, rw_62, rw_63, rw_64, rw_65, rw_66, rw_67, rw_68, rw_69, rw_70, rw_71, rw_72, rw_73, rw_74, rw_75, rw_76, rw_77, rw_78, rw_79, rw_80, rw_81, rw_82, rw_83, rw_84, rw_85, rw_86, rw_87, rw_88, rw_89, rw_90, rw_91, rw_92, rw_93, rw_94, rw_95, rw_96, rw_97, rw_98, rw_99, rw_100, rw_101, rw_102, rw_103, rw_104, rw_105, rw_106, rw_107, rw_108, rw_109, rw_110, rw_0, rw_0, rw_0, rw_0, rw_0, rw_116, rw_117, rw_0, rw_119, rw_120, rw_0, rw_0, rw_123, rw_124, rw_125, rw_126, rw_127, rw_128, rw_129, rw_130, rw_0, rw_132, rw_133, rw_134, rw_135, rw_136, rw_0, rw_138, rw_139, rw_140, rw_141, rw_142, rw_143, rw_144, rw_145, rw_146, rw_147, rw_148, rw_149, rw_150, rw_0, rw_0, rw_0, rw_0, rw_0, rw_0, rw_0, rw_0, rw_0, rw_160, rw_161, rw_162, rw_163, rw_164, rw_165, rw_166, rw_0, rw_168, rw_169, rw_170, rw_171, rw_172, rw_173, rw_174, rw_175, rw_176, rw_0, rw_178, rw_0, rw_0, rw_0, rw_0, rw_0, rw_0, rw_0, rw_0, rw_0, rw_0, rw_0, rw_0, rw_0, rw_0, rw_0, rw_0, rw_0, rw_0, rw_0, rw_0, rw_0, rw_0, rw_0, rw_0, rw_0, rw_0, rw_0, rw_0, rw_0, rw_0, rw_0, rw_0, rw_0, rw_0, rw_0, rw_0, rw_0, rw_0, rw_0, rw_0, rw_0, rw_0, rw_0, rw_0, rw_0, rw_0, rw_0, rw_0, rw_0, rw_0, rw_0, rw_0, rw_0, rw_0, rw_0, rw_0, rw_0, rw_0, rw_0, rw_0, rw_0, rw_0, rw_0, rw_0, rw_0, rw_0, rw_0, rw_0, rw_0, rw_0, rw_0, rw_0, rw_0, rw_0, rw_0, rw_0, rw_0, rw_0, rw_0, rw_0, rw_0, rw_0, rw_0, rw_0, rw_0, rw_0, rw_0, rw_0, rw_0, rw_0, rw_0, rw_0, rw_0, rw_0, rw_0, rw_0, rw_0, rw_0, rw_0, rw_0, rw_0, rw_0, rw_0, rw_0, rw_0, rw_0, rw_0, rw_0, rw_0, rw_0, rw_0, rw_0, rw_0, rw_0, rw_0, rw_0, rw_0, rw_0, rw_0, rw_0, rw_0, rw_0, rw_0, rw_0, rw_0, rw_0, rw_0, rw_0, rw_0, rw_0, rw_0, rw_0, rw_0, rw_0, rw_0, rw_0, rw_0, rw_0, rw_0, rw_0, rw_0, rw_0, rw_0, rw_322, rw_323, rw_324, rw_325, rw_326, rw_327, rw_0, rw_0, rw_0, rw_0, rw_0, rw_0, rw_0, rw_0, rw_0, rw_0, rw_0, rw_0, rw_0, rw_0, rw_0, rw_0, rw_0, rw_0, rw_0, rw_0, rw_0, rw_0, rw_0, rw_0, rw_0, rw_0, rw_0, rw_0, rw_0, rw_0, rw_0, rw_0, rw_0, rw_0, rw_0, rw_0, rw_0, rw_0, rw_0, rw_0, rw_0, rw_0, rw_0, rw_0, rw_0, rw_0, rw_0, rw_0, rw_0, rw_0, rw_378, rw_379, rw_380]
noncomputable def qRows (m : Nat) : List PRow := qRowsL.getD m []
/-- fields that are linked: the class whose pool it is, the entry, the class of the field, its number there, 1 by a nest mate, the word's place in lw_tbl -/
def qFL : List (Nat × Nat × Nat × Nat × Nat × Nat) := [(0, 7, 0, 0, 0, 2064), (0, 13, 0, 1, 0, 2066), (0, 17, 0, 2, 0, 2069), (0, 21, 5, 1, 0, 4238), (1, 11, 1, 0, 0, 2079), (1, 19, 1, 1, 0, 2081), (1, 26, 1, 2, 0, 2083), (1, 53, 1, 3, 0, 2085), (1, 67, 6, 4, 0, 1227), (1, 71, 6, 12, 0, 2007), (1, 74, 6, 5, 0, 1229), (1, 77, 6, 0, 0, 1214), (1, 84, 6, 9, 0, 2000), (1, 88, 7, 0, 0, 1175), (1, 146, 6, 17, 0, 2020), (1, 156, 6, 14, 0, 2013), (1, 166, 4, 3, 0, 1120), (1, 184, 6, 8, 0, 1237), (1, 196, 6, 6, 0, 1232), (1, 203, 3, 6, 0, 1077), (1, 206, 3, 7, 0, 1080), (1, 212, 6, 2, 0, 1221), (1, 215, 3, 10, 0, 1089), (1, 143, 6, 15, 0, 2017), (1, 216, 3, 8, 0, 1083), (1, 217, 3, 9, 0, 1086), (1, 218, 3, 0, 0, 1055), (1, 232, 6, 11, 0, 2005), (1, 136, 6, 13, 0, 2010), (1, 235, 2, 2, 0, 3048), (1, 109, 6, 1, 0, 1217), (1, 245, 5, 0, 0, 4235), (1, 253, 5, 1, 0, 5000), (1, 255, 0, 1, 0, 2067), (1, 258, 8, 2, 0, 1158), (1, 261, 0, 2, 0, 2070), (1, 268, 3, 3, 0, 1066), (1, 271, 3, 2, 0, 1062), (1, 277, 4, 5, 0, 1124), (1, 280, 3, 4, 0, 1070), (1, 287, 3, 1, 0, 1058), (1, 314, 3, 5, 0, 1074), (1, 321, 6, 16, 0, 2019), (1, 346, 6, 3, 0, 1224), (2, 9, 2, 0, 0, 3041), (2, 15, 2, 1, 0, 3044), (2, 18, 2, 2, 0, 3047), (2, 22, 2, 3, 0, 3049), (2, 25, 5, 5, 0, 5009), (2, 36, 5, 0, 0, 4234), (2, 39, 5, 1, 0, 4239), (3, 11, 3, 0, 0, 1054), (3, 17, 3, 1, 0, 1056), (3, 21, 3, 2, 0, 1060), (3, 24, 3, 3, 0, 1064), (3, 27, 3, 4, 0, 1068), (3, 30, 3, 5, 0, 1072), (3, 34, 3, 6, 0, 1075), (3, 37, 3, 7, 0, 1078), (3, 40, 3, 8, 0, 1081), (3, 43, 3, 9, 0, 1084), (3, 46, 3, 10, 0, 1087), (4, 11, 4, 0, 0, 1114), (4, 17, 4, 1, 0, 1116), (4, 22, 4, 2, 0, 1117), (4, 32, 4, 3, 0, 1118), (4, 36, 4, 4, 0, 1121), (4, 39, 4, 5, 0, 1122), (4, 56, 3, 1, 0, 1057), (4, 59, 3, 2, 0, 1061), (4, 62, 3, 3, 0, 1065), (4, 65, 3, 4, 0, 1069), (4, 68, 3, 5, 0, 1073), (4, 72, 3, 6, 0, 1076), (4, 75, 3, 7, 0, 1079), (4, 78, 3, 8, 0, 1082), (4, 81, 3, 9, 0, 1085), (4, 82, 3, 10, 0, 1088), (5, 7, 5, 0, 0, 4232), (5, 13, 5, 1, 0, 4236), (5, 16, 5, 2, 0, 5001), (5, 19, 5, 3, 0, 5004), (5, 22, 5, 4, 0, 5006), (5, 25, 5, 5, 0, 5008), (6, 12, 6, 1, 0, 1216), (6, 18, 6, 2, 0, 1219), (6, 22, 6, 3, 0, 1222), (6, 27, 6, 7, 0, 1234), (6, 31, 6, 0, 0, 1213), (6, 39, 6, 4, 0, 1225), (6, 43, 6, 5, 0, 1228), (6, 46, 6, 6, 0, 1231), (6, 49, 6, 8, 0, 1236), (6, 52, 6, 9, 0, 1239), (6, 62, 6, 12, 0, 2006), (6, 65, 6, 13, 0, 2009), (6, 68, 6, 14, 0, 2012), (6, 71, 7, 0, 0, 1174), (6, 76, 6, 15, 0, 2015), (6, 79, 7, 3, 0, 1182), (6, 106, 2, 0, 0, 3042), (6, 107, 7, 1, 0, 1178), (6, 100, 6, 10, 0, 2002), (6, 90, 6, 16, 0, 2018), (6, 103, 6, 11, 0, 2004), (6, 140, 2, 1, 0, 3045), (6, 143, 2, 3, 0, 3050), (6, 145, 7, 2, 0, 1180), (6, 93, 6, 17, 0, 2021), (7, 10, 7, 3, 0, 1181), (7, 16, 7, 0, 0, 1173), (7, 20, 7, 1, 0, 1177), (7, 23, 7, 2, 0, 1179), (8, 9, 8, 0, 0, 1153), (8, 15, 8, 1, 0, 1155), (8, 18, 8, 2, 0, 1157), (8, 27, 5, 1, 0, 4237), (8, 33, 5, 0, 0, 4233), (8, 36, 5, 3, 0, 5005), (8, 39, 5, 2, 0, 5002), (8, 42, 5, 5, 0, 5010), (8, 45, 5, 4, 0, 5007), (9, 10, 9, 0, 0, 2096), (9, 16, 9, 1, 0, 2097), (9, 34, 6, 4, 0, 1226), (9, 55, 1, 2, 0, 2084), (9, 71, 4, 5, 0, 1123), (9, 86, 6, 12, 0, 2008), (9, 93, 6, 15, 0, 2016), (9, 96, 6, 9, 0, 2001), (9, 100, 7, 0, 0, 1176), (9, 108, 1, 0, 0, 2080), (9, 116, 6, 3, 0, 1223), (9, 123, 6, 5, 0, 1230), (9, 130, 4, 3, 0, 1119), (9, 141, 6, 10, 0, 2003), (9, 151, 6, 2, 0, 1220), (9, 194, 1, 1, 0, 2082), (9, 207, 0, 0, 0, 2065), (9, 211, 0, 1, 0, 2068), (9, 219, 6, 8, 0, 1238), (9, 220, 5, 2, 0, 5003), (9, 229, 1, 3, 0, 2086), (9, 232, 6, 6, 0, 1233), (9, 235, 6, 13, 0, 2011), (9, 238, 6, 14, 0, 2014), (9, 264, 2, 1, 0, 3046), (9, 275, 6, 1, 0, 1218), (9, 279, 8, 0, 0, 1154), (9, 284, 8, 1, 0, 1156), (9, 291, 6, 0, 0, 1215), (9, 366, 4, 0, 0, 1115), (9, 175, 3, 1, 0, 1059), (9, 180, 3, 2, 0, 1063), (9, 183, 3, 3, 0, 1067), (9, 186, 3, 4, 0, 1071), (9, 226, 0, 2, 0, 2071), (9, 370, 6, 7, 0, 1235), (9, 305, 2, 0, 0, 3043)]
/-- methods that are linked: pool, entry, the callee's number + 10 (0 Object.<init>, 1 arraycopy, 2 Math.max, 3 Math.min), 1 by a nest mate, the word's place, 0 virtual 1 static 2 special -/
def qML : List (Nat × Nat × Nat × Nat × Nat × Nat) := [(0, 1, 0, 0, 2063, 2), (0, 26, 13, 0, 4227, 0), (0, 29, 65, 0, 4228, 2), (1, 3, 0, 0, 1034, 2), (1, 25, 57, 0, 1041, 2), (1, 30, 17, 0, 1138, 1), (1, 34, 66, 0, 1193, 2), (1, 37, 10, 1, 2060, 2), (1, 40, 100, 0, 1143, 2), (1, 43, 67, 0, 2179, 0), (1, 47, 11, 0, 2180, 0), (1, 50, 58, 0, 2184, 0), (1, 80, 76, 0, 2204, 0), (1, 91, 75, 0, 2216, 0), (1, 95, 73, 0, 3022, 0), (1, 99, 72, 0, 2220, 0), (1, 102, 82, 0, 3113, 0), (1, 149, 36, 0, 2200, 0), (1, 153, 77, 0, 2228, 0), (1, 159, 71, 0, 2232, 0), (1, 162, 32, 0, 2236, 0), (1, 169, 40, 0, 3089, 0), (1, 172, 33, 0, 3000, 0), (1, 175, 34, 0, 3026, 0), (1, 178, 98, 0, 3030, 0), (1, 181, 38, 0, 3069, 0), (1, 185, 97, 0, 3004, 0), (1, 189, 78, 0, 3008, 0), (1, 192, 35, 0, 3018, 0), (1, 199, 62, 0, 2212, 0), (1, 209, 37, 0, 2208, 0), (1, 222, 74, 0, 2224, 0), (1, 226, 79, 0, 3073, 0), (1, 229, 39, 0, 3077, 0), (1, 241, 103, 0, 3081, 0), (1, 250, 13, 0, 3085, 0), (1, 264, 64, 0, 3093, 0), (1, 274, 60, 0, 3097, 0), (1, 281, 56, 0, 3101, 0), (1, 284, 95, 0, 3105, 0), (1, 290, 42, 0, 3109, 0), (1, 294, 44, 0, 3122, 0), (1, 298, 43, 0, 3126, 0), (1, 301, 45, 0, 3130, 0), (1, 304, 47, 0, 3162, 0), (1, 307, 46, 0, 3171, 0), (1, 310, 48, 0, 3183, 0), (1, 317, 41, 0, 3118, 0), (1, 324, 96, 0, 3134, 0), (1, 327, 92, 0, 3138, 0), (1, 330, 93, 0, 3147, 0), (1, 333, 94, 0, 3155, 0), (1, 337, 3, 0, 3159, 1), (1, 343, 89, 0, 3175, 0), (1, 349, 2, 0, 3166, 1), (1, 352, 99, 0, 3167, 0), (2, 3, 0, 0, 3040, 2), (2, 30, 389, 0, 4053, 1), (3, 3, 0, 0, 1051, 2), (4, 3, 0, 0, 1044, 2), (4, 21, 53, 1, 1048, 2), (4, 26, 390, 0, 2188, 1), (4, 52, 60, 0, 4140, 0), (4, 48, 54, 0, 5051, 0), (5, 1, 0, 0, 4231, 2), (6, 3, 0, 0, 1196, 2), (6, 11, 101, 1, 1198, 2), (6, 35, 67, 0, 1200, 0), (6, 56, 86, 0, 1204, 0), (6, 59, 68, 0, 1208, 0), (6, 80, 102, 0, 1212, 0), (6, 108, 389, 0, 3012, 1), (6, 114, 77, 0, 4153, 0), (6, 118, 75, 0, 3151, 0), (6, 121, 73, 0, 3117, 0), (6, 125, 72, 0, 3034, 0), (6, 128, 3, 0, 4077, 1), (6, 134, 2, 0, 3152, 1), (6, 137, 85, 0, 3064, 0), (6, 146, 87, 0, 4170, 0), (6, 149, 100, 0, 4174, 2), (6, 152, 90, 0, 3179, 0), (6, 156, 91, 0, 3142, 0), (6, 160, 74, 0, 3146, 0), (6, 96, 84, 0, 3060, 0), (6, 164, 390, 0, 3035, 1), (6, 170, 49, 0, 3037, 2), (7, 1, 0, 0, 1146, 2), (7, 9, 101, 1, 1149, 2), (7, 26, 102, 0, 1166, 0), (8, 3, 0, 0, 1152, 2), (8, 21, 1, 0, 1170, 1), (9, 1, 0, 0, 1026, 2), (9, 9, 16, 0, 1031, 2), (9, 26, 18, 0, 2175, 0), (9, 30, 186, 0, 3191, 0), (9, 40, 178, 0, 4096, 1), (9, 44, 69, 0, 4115, 0), (9, 47, 20, 0, 4119, 0), (9, 51, 180, 0, 4131, 1), (9, 59, 60, 0, 4135, 0), (9, 65, 61, 0, 4136, 0), (9, 75, 31, 0, 2196, 0), (9, 78, 80, 0, 4149, 0), (9, 82, 32, 0, 4154, 0), (9, 89, 36, 0, 4160, 0), (9, 105, 88, 0, 4165, 0), (9, 112, 76, 0, 4179, 0), (9, 120, 72, 0, 4038, 0), (9, 126, 62, 0, 4180, 0), (9, 133, 179, 0, 3195, 1), (9, 136, 81, 0, 4185, 0), (9, 144, 49, 0, 4190, 2), (9, 147, 84, 0, 4191, 0), (9, 154, 38, 0, 4192, 0), (9, 158, 183, 0, 5037, 0), (9, 161, 40, 0, 5059, 0), (9, 164, 64, 0, 5042, 0), (9, 168, 63, 0, 5047, 0), (9, 190, 184, 0, 4201, 0), (9, 198, 15, 0, 4221, 0), (9, 204, 181, 0, 4205, 1), (9, 223, 13, 0, 4033, 0), (9, 244, 73, 0, 4039, 0), (9, 247, 389, 0, 4040, 1), (9, 252, 75, 0, 5111, 0), (9, 260, 188, 0, 5134, 0), (9, 265, 50, 0, 4049, 0), (9, 268, 51, 0, 4054, 0), (9, 271, 52, 0, 4058, 0), (9, 272, 182, 0, 4209, 1), (9, 287, 22, 0, 4004, 0), (9, 294, 21, 0, 4012, 0), (9, 297, 2, 0, 4020, 1), (9, 302, 83, 0, 4073, 0), (9, 328, 133, 0, 3228, 0), (9, 331, 134, 0, 3232, 0), (9, 334, 117, 0, 3236, 0), (9, 337, 157, 0, 4000, 0), (9, 340, 158, 0, 4008, 0), (9, 343, 159, 0, 4016, 0), (9, 345, 171, 0, 4021, 0), (9, 349, 172, 0, 4029, 0), (9, 352, 173, 0, 4034, 0), (9, 356, 174, 0, 4045, 0), (9, 359, 175, 0, 4066, 1), (9, 363, 176, 0, 4069, 0), (9, 187, 55, 0, 4025, 0), (9, 310, 24, 0, 4041, 0), (9, 306, 23, 0, 4062, 0), (9, 389, 185, 0, 4213, 1), (9, 394, 14, 0, 4217, 0), (9, 397, 74, 0, 5138, 0), (12, 9, 332, 0, 4078, 1), (12, 15, 106, 0, 4092, 0), (12, 21, 107, 0, 4123, 0), (12, 24, 108, 0, 4127, 0), (12, 27, 109, 0, 4141, 0), (12, 30, 111, 0, 4145, 0), (12, 33, 157, 0, 4155, 0), (12, 37, 112, 0, 4156, 0), (12, 40, 113, 0, 4161, 0), (12, 43, 114, 0, 4175, 0), (12, 46, 115, 0, 4181, 0), (12, 49, 116, 0, 4193, 0), (12, 52, 127, 0, 4197, 0), (12, 56, 126, 0, 5024, 0), (12, 59, 129, 0, 5028, 0), (12, 62, 119, 0, 5033, 0), (12, 65, 120, 0, 5043, 0), (12, 68, 118, 0, 5055, 0), (12, 72, 110, 0, 2191, 0), (12, 81, 104, 0, 1023, 2), (12, 82, 333, 0, 4082, 1), (12, 86, 105, 0, 2103, 0), (12, 89, 334, 0, 4086, 1), (12, 93, 137, 0, 3214, 0), (12, 96, 145, 0, 3218, 0), (12, 99, 135, 0, 3187, 0), (12, 102, 336, 0, 5067, 1), (12, 106, 335, 0, 5060, 1), (12, 110, 170, 0, 3222, 0), (12, 114, 337, 0, 5121, 1), (12, 118, 136, 0, 5063, 0), (12, 121, 143, 0, 5070, 0), (12, 124, 140, 0, 5074, 0), (12, 127, 142, 0, 5078, 0), (12, 130, 139, 0, 5082, 0), (12, 133, 138, 0, 5086, 0), (12, 136, 144, 0, 5090, 0), (12, 139, 117, 0, 5094, 0), (12, 142, 146, 0, 5095, 0), (12, 145, 154, 0, 5099, 0), (12, 148, 130, 0, 5103, 0), (12, 151, 148, 0, 5107, 0), (12, 154, 156, 0, 5113, 0), (12, 157, 155, 0, 5117, 0), (12, 160, 160, 0, 5124, 0), (12, 163, 3, 0, 5128, 1), (12, 168, 2, 0, 5129, 1), (12, 171, 149, 0, 5130, 0), (12, 174, 150, 0, 5140, 0), (12, 177, 151, 0, 5144, 0), (12, 180, 152, 0, 5148, 0), (12, 183, 153, 0, 5152, 0)]
/-- classes: pool, entry, kind, the word's place -/
def qCL : List (Nat × Nat × Nat × Nat) := [(0, 22, 5, 4225), (1, 9, 18, 1035), (1, 17, 15, 1037), (1, 23, 4, 1039), (1, 9, 6, 1035), (1, 17, 0, 1037), (1, 38, 7, 1141), (3, 9, 16, 1052), (4, 9, 17, 1045), (4, 9, 3, 1045), (6, 9, 8, 1197), (6, 25, 16, 1199), (6, 72, 7, 4169), (6, 25, 2, 1199), (7, 7, 8, 1147), (9, 7, 1, 1029), (9, 139, 2, 4189), (12, 16, 9, 1021)]
/-- constants: pool, entry, value, 1 a long, the word's place -/
def qKL : List (Nat × Nat × Nat × Nat × Nat) := [(6, 144, 1048576, 0, 3068), (9, 324, 2423, 1, 3226), (9, 326, 31, 1, 3227), (12, 7, 2147483647, 0, 4081), (12, 8, 790386105, 0, 4085), (13, 265, 1431655765, 0, 3015), (13, 266, 858993459, 0, 3016), (13, 267, 252645135, 0, 3017)]
/-- throws (all in class 9): new's entry, the text's, the constructor's, which exception, 1 a wide text, the place of the class link -/
def qTH : List (Nat × Nat × Nat × Nat × Nat × Nat) := [(19, 21, 23, 0, 0, 2107), (19, 69, 23, 0, 0, 2107), (214, 216, 218, 1, 0, 4099), (255, 257, 259, 2, 1, 3198), (214, 377, 218, 1, 1, 4099), (255, 379, 259, 2, 1, 3198), (19, 381, 23, 0, 1, 2107), (255, 383, 259, 2, 1, 3198), (255, 385, 259, 2, 1, 3198), (255, 387, 259, 2, 1, 3198), (19, 392, 23, 0, 1, 2107), (255, 401, 259, 2, 1, 3198)]
/-- a method: class, name, code, maxLocals, answer, args with this, 1 static, frames and locals below it, its handlers, places of its words: code, instance or static, selects, initialized -/
abbrev QMI : Type := Nat × MethodName × ByteArray × Nat × Option FieldType × Nat × Nat × Nat × Nat × List (Nat × Nat × Nat × Nat) × Nat × Nat × Nat × Nat
noncomputable def mi_0 : QMI := (0, yX0_init, cX0_init, 1, none, 1, 0, 1, 20, [], 2062, 2061, 0, 1009)
noncomputable def mi_1 : QMI := (0, yX0_forget, cX0_forget, 1, none, 1, 0, 0, 0, [], 2183, 2181, 2182, 1009)
noncomputable def mi_3 : QMI := (0, yX0_serial, cX0_serial, 1, (some FieldType.int), 1, 0, 0, 0, [], 3088, 3086, 3087, 1009)
noncomputable def mi_4 : QMI := (0, yX0_waits, cX0_waits, 1, (some FieldType.boolean), 1, 0, 0, 0, [], 4220, 4218, 4219, 1009)
noncomputable def mi_5 : QMI := (0, yX0_ask, cX0_ask, 6, (some FieldType.int), 6, 0, 2, 46, [], 4224, 4222, 4223, 1009)
noncomputable def mi_6 : QMI := (1, yX1_init, cX1_init, 3, none, 1, 0, 5, 124, [], 1033, 1032, 0, 1002)
noncomputable def mi_7 : QMI := (1, yX1_firstSnapshot, cX1_firstSnapshot, 1, (some (FieldType.object "QuorumLog$Snapshot")), 1, 1, 3, 85, [], 1140, 1139, 0, 1002)
noncomputable def mi_8 : QMI := (1, yX1_begin, cX1_begin, 7, none, 2, 0, 4, 105, [], 2178, 2176, 2177, 1002)
noncomputable def mi_10 : QMI := (1, yX1_countUp, cX1_countUp, 6, (some FieldType.int), 1, 0, 0, 0, [], 4122, 4120, 4121, 1002)
noncomputable def mi_11 : QMI := (1, yX1_countLeaders, cX1_countLeaders, 6, (some FieldType.int), 1, 0, 0, 0, [], 4015, 4013, 4014, 1002)
noncomputable def mi_12 : QMI := (1, yX1_newestLeader, cX1_newestLeader, 6, (some (FieldType.object "QuorumLog$Server")), 1, 0, 0, 0, [], 4007, 4005, 4006, 1002)
noncomputable def mi_13 : QMI := (1, yX1_countCopies, cX1_countCopies, 9, (some FieldType.int), 4, 0, 1, 21, [], 4065, 4063, 4064, 1002)
noncomputable def mi_14 : QMI := (1, yX1_isElectable, cX1_isElectable, 10, (some FieldType.boolean), 2, 0, 2, 43, [], 4044, 4042, 4043, 1002)
noncomputable def mi_21 : QMI := (1, yX1_playRound, cX1_playRound, 5, none, 1, 0, 5, 132, [], 2199, 2197, 2198, 1002)
noncomputable def mi_22 : QMI := (1, yX1_rise, cX1_rise, 4, none, 3, 0, 3, 74, [], 2239, 2237, 2238, 1002)
noncomputable def mi_23 : QMI := (1, yX1_sounding, cX1_sounding, 2, (some FieldType.int), 2, 0, 2, 50, [], 3003, 3002, 4, 1002)
noncomputable def mi_24 : QMI := (1, yX1_standing, cX1_standing, 2, (some FieldType.int), 2, 0, 2, 50, [], 3029, 3028, 6, 1002)
noncomputable def mi_25 : QMI := (1, yX1_askOthers, cX1_askOthers, 6, none, 4, 0, 1, 25, [], 3021, 3020, 5, 1002)
noncomputable def mi_26 : QMI := (1, yX1_sendToOthers, cX1_sendToOthers, 4, (some FieldType.int), 2, 0, 2, 51, [], 2203, 2201, 2202, 1002)
noncomputable def mi_27 : QMI := (1, yX1_sendTo, cX1_sendTo, 7, none, 3, 0, 1, 25, [], 2211, 2210, 3, 1002)
noncomputable def mi_28 : QMI := (1, yX1_lookCommitted, cX1_lookCommitted, 3, none, 2, 0, 2, 47, [], 3072, 3070, 3071, 1002)
noncomputable def mi_29 : QMI := (1, yX1_commit, cX1_commit, 6, none, 3, 0, 1, 22, [], 3080, 3079, 8, 1002)
noncomputable def mi_30 : QMI := (1, yX1_handle, cX1_handle, 5, (some FieldType.boolean), 2, 0, 4, 108, [], 3092, 3090, 3091, 1002)
noncomputable def mi_31 : QMI := (1, yX1_reply, cX1_reply, 7, none, 6, 0, 1, 25, [], 3121, 3120, 10, 1002)
noncomputable def mi_32 : QMI := (1, yX1_onSound, cX1_onSound, 5, none, 3, 0, 2, 51, [], 3112, 3111, 9, 1002)
noncomputable def mi_33 : QMI := (1, yX1_onCall, cX1_onCall, 5, none, 3, 0, 2, 51, [], 3129, 3128, 12, 1002)
noncomputable def mi_34 : QMI := (1, yX1_onYes, cX1_onYes, 5, (some FieldType.boolean), 5, 0, 2, 40, [], 3125, 3124, 11, 1002)
noncomputable def mi_35 : QMI := (1, yX1_onEntries, cX1_onEntries, 5, none, 3, 0, 3, 66, [], 3133, 3132, 13, 1002)
noncomputable def mi_36 : QMI := (1, yX1_onSnapshot, cX1_onSnapshot, 4, none, 3, 0, 3, 85, [], 3174, 3173, 16, 1002)
noncomputable def mi_37 : QMI := (1, yX1_onAnswer, cX1_onAnswer, 3, none, 3, 0, 3, 69, [], 3165, 3164, 15, 1002)
noncomputable def mi_38 : QMI := (1, yX1_isHurried, cX1_isHurried, 3, (some FieldType.boolean), 3, 0, 1, 20, [], 3186, 3185, 18, 1002)
noncomputable def mi_39 : QMI := (2, yX2_init, cX2_init, 5, none, 5, 0, 1, 20, [], 3039, 3038, 0, 1016)
noncomputable def mi_40 : QMI := (2, yX2_value, cX2_value, 1, (some FieldType.int), 1, 0, 1, 20, [], 4052, 4050, 4051, 1016)
noncomputable def mi_41 : QMI := (2, yX2_client, cX2_client, 1, (some FieldType.int), 1, 0, 0, 0, [], 4057, 4055, 4056, 1016)
noncomputable def mi_42 : QMI := (2, yX2_serial, cX2_serial, 1, (some FieldType.int), 1, 0, 0, 0, [], 4061, 4059, 4060, 1016)
noncomputable def mi_43 : QMI := (3, yX3_init, cX3_init, 1, none, 1, 0, 1, 20, [], 1050, 1049, 0, 1004)
noncomputable def mi_44 : QMI := (3, yX3_copyFrom, cX3_copyFrom, 3, none, 2, 0, 0, 0, [], 5054, 5052, 5053, 1004)
noncomputable def mi_45 : QMI := (3, yX3_told, cX3_told, 1, (some FieldType.int), 1, 0, 0, 0, [], 4028, 4026, 4027, 1004)
noncomputable def mi_46 : QMI := (3, yX3_bearsItsTerm, cX3_bearsItsTerm, 1, (some FieldType.boolean), 1, 0, 0, 0, [], 3104, 3102, 3103, 1004)
noncomputable def mi_47 : QMI := (4, yX4_init, cX4_init, 2, none, 1, 0, 2, 40, [], 1043, 1042, 0, 1003)
noncomputable def mi_48 : QMI := (4, yX4_clear, cX4_clear, 1, none, 1, 0, 1, 23, [], 2187, 2185, 2186, 1003)
noncomputable def mi_50 : QMI := (4, yX4_isCut, cX4_isCut, 3, (some FieldType.boolean), 3, 0, 0, 0, [], 3100, 3098, 3099, 1003)
noncomputable def mi_51 : QMI := (4, yX4_turn, cX4_turn, 3, (some FieldType.int), 3, 0, 1, 22, [], 4139, 4137, 4138, 1003)
noncomputable def mi_52 : QMI := (4, yX4_place, cX4_place, 6, (some (FieldType.object "QuorumLog$Message")), 5, 0, 0, 0, [], 2215, 2213, 2214, 1003)
noncomputable def mi_53 : QMI := (4, yX4_repeat, cX4_repeat, 2, (some FieldType.int), 2, 0, 1, 22, [], 5050, 5048, 5049, 1003)
noncomputable def mi_54 : QMI := (4, yX4_takeOut, cX4_takeOut, 4, (some (FieldType.object "QuorumLog$Message")), 2, 0, 0, 0, [], 3096, 3094, 3095, 1003)
noncomputable def mi_55 : QMI := (5, yX5_init, cX5_init, 7, none, 7, 0, 1, 20, [], 4230, 4229, 0, 1020)
noncomputable def mi_56 : QMI := (6, yX6_init, cX6_init, 3, none, 3, 0, 4, 102, [], 1195, 1194, 0, 1008)
noncomputable def mi_57 : QMI := (6, yX6_reset, cX6_reset, 2, none, 2, 0, 3, 81, [], 1203, 1201, 1202, 1008)
noncomputable def mi_58 : QMI := (6, yX6_rest, cX6_rest, 1, none, 1, 0, 2, 61, [], 1211, 1210, 1, 1008)
noncomputable def mi_59 : QMI := (6, yX6_goDown, cX6_goDown, 1, none, 1, 0, 3, 81, [], 4118, 4116, 4117, 1008)
noncomputable def mi_61 : QMI := (6, yX6_patience, cX6_patience, 1, (some FieldType.int), 1, 0, 0, 0, [], 2235, 2233, 2234, 1008)
noncomputable def mi_62 : QMI := (6, yX6_lastIndex, cX6_lastIndex, 1, (some FieldType.int), 1, 0, 0, 0, [], 2223, 2221, 2222, 1008)
noncomputable def mi_63 : QMI := (6, yX6_lastTerm, cX6_lastTerm, 1, (some FieldType.int), 1, 0, 0, 0, [], 3025, 3023, 3024, 1008)
noncomputable def mi_64 : QMI := (6, yX6_entryAt, cX6_entryAt, 2, (some (FieldType.object "QuorumLog$Entry")), 2, 0, 0, 0, [], 2227, 2225, 2226, 1008)
noncomputable def mi_65 : QMI := (6, yX6_termOfIndex, cX6_termOfIndex, 2, (some FieldType.int), 2, 0, 0, 0, [], 2219, 2217, 2218, 1008)
noncomputable def mi_66 : QMI := (6, yX6_seesMember, cX6_seesMember, 2, (some FieldType.boolean), 2, 0, 0, 0, [], 2207, 2205, 2206, 1008)
noncomputable def mi_67 : QMI := (6, yX6_isMember, cX6_isMember, 1, (some FieldType.boolean), 1, 0, 0, 0, [], 2231, 2229, 2230, 1008)
noncomputable def mi_68 : QMI := (6, yX6_hasMostYeses, cX6_hasMostYeses, 1, (some FieldType.boolean), 1, 0, 1, 20, [], 3011, 3009, 3010, 1008)
noncomputable def mi_69 : QMI := (6, yX6_mostHave, cX6_mostHave, 5, (some FieldType.boolean), 2, 0, 0, 0, [], 3076, 3074, 3075, 1008)
noncomputable def mi_70 : QMI := (6, yX6_maySound, cX6_maySound, 1, (some FieldType.boolean), 1, 0, 1, 20, [], 4152, 4150, 4151, 1008)
noncomputable def mi_71 : QMI := (6, yX6_mayChangeMembers, cX6_mayChangeMembers, 1, (some FieldType.boolean), 1, 0, 1, 21, [], 4188, 4186, 4187, 1008)
noncomputable def mi_72 : QMI := (6, yX6_isReachedBy, cX6_isReachedBy, 4, (some FieldType.boolean), 3, 0, 1, 20, [], 3116, 3114, 3115, 1008)
noncomputable def mi_73 : QMI := (6, yX6_agreement, cX6_agreement, 4, (some FieldType.int), 2, 0, 1, 40, [], 4076, 4074, 4075, 1008)
noncomputable def mi_74 : QMI := (6, yX6_append, cX6_append, 2, none, 2, 0, 1, 22, [], 3063, 3061, 3062, 1008)
noncomputable def mi_75 : QMI := (6, yX6_widen, cX6_widen, 3, none, 1, 0, 0, 0, [], 3067, 3066, 7, 1008)
noncomputable def mi_76 : QMI := (6, yX6_findMembers, cX6_findMembers, 2, none, 1, 0, 0, 0, [], 1207, 1206, 0, 1008)
noncomputable def mi_77 : QMI := (6, yX6_membersBehind, cX6_membersBehind, 3, (some FieldType.int), 2, 0, 0, 0, [], 4173, 4172, 25, 1008)
noncomputable def mi_78 : QMI := (6, yX6_makeSnapshot, cX6_makeSnapshot, 2, (some FieldType.int), 1, 0, 3, 85, [], 4168, 4166, 4167, 1008)
noncomputable def mi_79 : QMI := (6, yX6_install, cX6_install, 3, none, 2, 0, 2, 63, [], 3178, 3176, 3177, 1008)
noncomputable def mi_80 : QMI := (6, yX6_replaceSnapshot, cX6_replaceSnapshot, 4, none, 3, 0, 1, 40, [], 3182, 3181, 17, 1008)
noncomputable def mi_81 : QMI := (6, yX6_hasEntry, cX6_hasEntry, 4, (some FieldType.boolean), 3, 0, 1, 21, [], 3145, 3144, 14, 1008)
noncomputable def mi_82 : QMI := (6, yX6_hasPrevious, cX6_hasPrevious, 3, (some FieldType.boolean), 3, 0, 2, 44, [], 3141, 3139, 3140, 1008)
noncomputable def mi_83 : QMI := (6, yX6_indexToTryNext, cX6_indexToTryNext, 4, (some FieldType.int), 2, 0, 1, 40, [], 3150, 3148, 3149, 1008)
noncomputable def mi_84 : QMI := (6, yX6_accept, cX6_accept, 3, none, 3, 0, 2, 44, [], 3158, 3156, 3157, 1008)
noncomputable def mi_85 : QMI := (6, yX6_enterTerm, cX6_enterTerm, 2, none, 2, 0, 0, 0, [], 3108, 3106, 3107, 1008)
noncomputable def mi_86 : QMI := (6, yX6_obey, cX6_obey, 2, none, 2, 0, 0, 0, [], 3137, 3135, 3136, 1008)
noncomputable def mi_87 : QMI := (6, yX6_startAs, cX6_startAs, 2, none, 2, 0, 0, 0, [], 3007, 3005, 3006, 1008)
noncomputable def mi_88 : QMI := (6, yX6_startLeading, cX6_startLeading, 1, none, 1, 0, 2, 44, [], 3033, 3031, 3032, 1008)
noncomputable def mi_89 : QMI := (6, yX6_learnMatched, cX6_learnMatched, 3, none, 3, 0, 0, 0, [], 3170, 3168, 3169, 1008)
noncomputable def mi_90 : QMI := (7, yX7_init, cX7_init, 5, none, 5, 0, 2, 61, [], 1145, 1144, 0, 1005)
noncomputable def mi_91 : QMI := (8, yX8_init, cX8_init, 1, none, 1, 0, 1, 20, [], 1151, 1150, 0, 1006)
noncomputable def mi_92 : QMI := (8, yX8_copyFrom, cX8_copyFrom, 2, none, 2, 0, 1, 40, [], 1169, 1167, 1168, 1006)
noncomputable def mi_93 : QMI := (8, yX8_apply, cX8_apply, 3, none, 2, 0, 0, 0, [], 3084, 3082, 3083, 1006)
noncomputable def mi_94 : QMI := (9, yX9_init, cX9_init, 1, none, 1, 0, 6, 146, [], 1025, 1024, 0, 1001)
noncomputable def mi_95 : QMI := (9, yX9_found, cX9_found, 2, (some FieldType.int), 2, 0, 6, 131, [], 2106, 2104, 2105, 1001)
noncomputable def mi_96 : QMI := (9, yX9_fail, cX9_fail, 3, (some FieldType.int), 2, 0, 8, 131, [], 4095, 4093, 4094, 1001)
noncomputable def mi_97 : QMI := (9, yX9_recover, cX9_recover, 3, (some FieldType.int), 2, 0, 8, 131, [], 4126, 4124, 4125, 1001)
noncomputable def mi_98 : QMI := (9, yX9_cut, cX9_cut, 3, (some FieldType.int), 3, 0, 8, 131, [], 4130, 4128, 4129, 1001)
noncomputable def mi_99 : QMI := (9, yX9_mend, cX9_mend, 3, (some FieldType.int), 3, 0, 8, 131, [], 4144, 4142, 4143, 1001)
noncomputable def mi_100 : QMI := (9, yX9_pass, cX9_pass, 4, (some FieldType.int), 2, 0, 6, 156, [], 2194, 2192, 2193, 1001)
noncomputable def mi_101 : QMI := (9, yX9_sound, cX9_sound, 3, (some FieldType.int), 2, 0, 8, 131, [], 4148, 4146, 4147, 1001)
noncomputable def mi_102 : QMI := (9, yX9_beat, cX9_beat, 3, (some FieldType.int), 2, 0, 8, 131, [], 4159, 4157, 4158, 1001)
noncomputable def mi_103 : QMI := (9, yX9_shorten, cX9_shorten, 3, (some FieldType.int), 2, 0, 8, 131, [], 4164, 4162, 4163, 1001)
noncomputable def mi_104 : QMI := (9, yX9_handOver, cX9_handOver, 4, (some FieldType.int), 3, 0, 8, 131, [], 4178, 4176, 4177, 1001)
noncomputable def mi_105 : QMI := (9, yX9_join, cX9_join, 5, (some FieldType.int), 3, 0, 8, 131, [], 4184, 4182, 4183, 1001)
noncomputable def mi_106 : QMI := (9, yX9_leave, cX9_leave, 6, (some FieldType.int), 3, 0, 8, 131, [], 4196, 4194, 4195, 1001)
noncomputable def mi_107 : QMI := (9, yX9_messages, cX9_messages, 1, (some FieldType.int), 1, 0, 0, 0, [], 3239, 3237, 3238, 1001)
noncomputable def mi_108 : QMI := (9, yX9_deliver, cX9_deliver, 2, (some FieldType.boolean), 2, 0, 7, 132, [], 5058, 5056, 5057, 1001)
noncomputable def mi_109 : QMI := (9, yX9_lose, cX9_lose, 2, (some FieldType.int), 2, 0, 7, 111, [], 5036, 5034, 5035, 1001)
noncomputable def mi_110 : QMI := (9, yX9_twice, cX9_twice, 2, (some FieldType.int), 2, 0, 7, 111, [], 5046, 5044, 5045, 1001)
noncomputable def mi_116 : QMI := (9, yX9_askPut, cX9_askPut, 4, (some FieldType.int), 4, 0, 8, 134, [], 5027, 5025, 5026, 1001)
noncomputable def mi_117 : QMI := (9, yX9_askAdd, cX9_askAdd, 4, (some FieldType.int), 4, 0, 8, 134, [], 4200, 4198, 4199, 1001)
noncomputable def mi_119 : QMI := (9, yX9_hand, cX9_hand, 6, (some FieldType.int), 3, 0, 8, 131, [], 5031, 5029, 5030, 1001)
noncomputable def mi_120 : QMI := (9, yX9_serialOf, cX9_serialOf, 2, (some FieldType.int), 2, 0, 7, 110, [], 5106, 5104, 5105, 1001)
noncomputable def mi_123 : QMI := (9, yX9_round, cX9_round, 1, (some FieldType.int), 1, 0, 0, 0, [], 3231, 3229, 3230, 1001)
noncomputable def mi_124 : QMI := (9, yX9_lost, cX9_lost, 1, (some FieldType.int), 1, 0, 0, 0, [], 3235, 3233, 3234, 1001)
noncomputable def mi_125 : QMI := (9, yX9_isUp, cX9_isUp, 2, (some FieldType.boolean), 2, 0, 8, 131, [], 3190, 3188, 3189, 1001)
noncomputable def mi_126 : QMI := (9, yX9_roleOf, cX9_roleOf, 2, (some FieldType.int), 2, 0, 8, 131, [], 5066, 5064, 5065, 1001)
noncomputable def mi_127 : QMI := (9, yX9_termOf, cX9_termOf, 2, (some FieldType.int), 2, 0, 8, 131, [], 3217, 3215, 3216, 1001)
noncomputable def mi_128 : QMI := (9, yX9_votedFor, cX9_votedFor, 2, (some FieldType.int), 2, 0, 8, 131, [], 5089, 5087, 5088, 1001)
noncomputable def mi_129 : QMI := (9, yX9_follows, cX9_follows, 2, (some FieldType.int), 2, 0, 8, 131, [], 5085, 5083, 5084, 1001)
noncomputable def mi_130 : QMI := (9, yX9_waitedOf, cX9_waitedOf, 2, (some FieldType.int), 2, 0, 8, 131, [], 5077, 5075, 5076, 1001)
noncomputable def mi_132 : QMI := (9, yX9_snapshotOf, cX9_snapshotOf, 2, (some FieldType.int), 2, 0, 8, 131, [], 5081, 5079, 5080, 1001)
noncomputable def mi_133 : QMI := (9, yX9_lastOf, cX9_lastOf, 2, (some FieldType.int), 2, 0, 8, 131, [], 5073, 5071, 5072, 1001)
noncomputable def mi_134 : QMI := (9, yX9_lastTermOf, cX9_lastTermOf, 2, (some FieldType.int), 2, 0, 8, 131, [], 5093, 5091, 5092, 1001)
noncomputable def mi_135 : QMI := (9, yX9_committedOf, cX9_committedOf, 2, (some FieldType.int), 2, 0, 8, 131, [], 3221, 3219, 3220, 1001)
noncomputable def mi_136 : QMI := (9, yX9_membersOf, cX9_membersOf, 2, (some FieldType.int), 2, 0, 8, 131, [], 5098, 5096, 5097, 1001)
noncomputable def mi_138 : QMI := (9, yX9_termAt, cX9_termAt, 4, (some FieldType.int), 3, 0, 8, 131, [], 5110, 5108, 5109, 1001)
noncomputable def mi_139 : QMI := (9, yX9_kindAt, cX9_kindAt, 3, (some FieldType.int), 3, 0, 9, 154, [], 5133, 5131, 5132, 1001)
noncomputable def mi_140 : QMI := (9, yX9_valueAt, cX9_valueAt, 3, (some FieldType.int), 3, 0, 9, 154, [], 5143, 5141, 5142, 1001)
noncomputable def mi_141 : QMI := (9, yX9_clientAt, cX9_clientAt, 3, (some FieldType.int), 3, 0, 9, 154, [], 5147, 5145, 5146, 1001)
noncomputable def mi_142 : QMI := (9, yX9_serialAt, cX9_serialAt, 3, (some FieldType.int), 3, 0, 9, 154, [], 5151, 5149, 5150, 1001)
noncomputable def mi_143 : QMI := (9, yX9_valueOf, cX9_valueOf, 3, (some FieldType.int), 3, 0, 8, 131, [], 5155, 5153, 5154, 1001)
noncomputable def mi_144 : QMI := (9, yX9_appliedSerial, cX9_appliedSerial, 3, (some FieldType.int), 3, 0, 8, 131, [], 5102, 5100, 5101, 1001)
noncomputable def mi_145 : QMI := (9, yX9_nextOf, cX9_nextOf, 3, (some FieldType.int), 3, 0, 8, 131, [], 5120, 5118, 5119, 1001)
noncomputable def mi_146 : QMI := (9, yX9_matchedOf, cX9_matchedOf, 3, (some FieldType.int), 3, 0, 8, 131, [], 5116, 5114, 5115, 1001)
noncomputable def mi_147 : QMI := (9, yX9_leader, cX9_leader, 2, (some FieldType.int), 1, 0, 1, 25, [], 4003, 4001, 4002, 1001)
noncomputable def mi_148 : QMI := (9, yX9_leaders, cX9_leaders, 1, (some FieldType.int), 1, 0, 1, 25, [], 4011, 4009, 4010, 1001)
noncomputable def mi_149 : QMI := (9, yX9_committed, cX9_committed, 6, (some FieldType.int), 1, 0, 1, 40, [], 4019, 4017, 4018, 1001)
noncomputable def mi_150 : QMI := (9, yX9_agreeUpTo, cX9_agreeUpTo, 3, (some FieldType.int), 3, 0, 8, 131, [], 5127, 5125, 5126, 1001)
noncomputable def mi_160 : QMI := (9, yX9_digest, cX9_digest, 7, (some FieldType.long), 1, 0, 4, 97, [], 3225, 3223, 3224, 1001)
noncomputable def mi_161 : QMI := (9, yX9_digestMessages, cX9_digestMessages, 7, (some FieldType.long), 2, 0, 1, 20, [], 4024, 4023, 20, 1001)
noncomputable def mi_162 : QMI := (9, yX9_digestClients, cX9_digestClients, 9, (some FieldType.long), 2, 0, 1, 20, [], 4032, 4031, 21, 1001)
noncomputable def mi_163 : QMI := (9, yX9_digestServer, cX9_digestServer, 6, (some FieldType.long), 3, 0, 3, 72, [], 4037, 4036, 22, 1001)
noncomputable def mi_164 : QMI := (9, yX9_digestLog, cX9_digestLog, 8, (some FieldType.long), 3, 0, 2, 49, [], 4048, 4047, 23, 1001)
noncomputable def mi_165 : QMI := (9, yX9_digestTable, cX9_digestTable, 9, (some FieldType.long), 2, 1, 0, 0, [], 4068, 4067, 0, 1001)
noncomputable def mi_166 : QMI := (9, yX9_digestOthers, cX9_digestOthers, 10, (some FieldType.long), 3, 0, 2, 63, [], 4072, 4071, 24, 1001)
noncomputable def mi_168 : QMI := (9, yX9_refuseIf, cX9_refuseIf, 1, none, 1, 1, 6, 90, [], 4098, 4097, 0, 1001)
noncomputable def mi_169 : QMI := (9, yX9_checkServer, cX9_checkServer, 1, none, 1, 1, 6, 90, [], 3197, 3196, 0, 1001)
noncomputable def mi_170 : QMI := (9, yX9_checkPair, cX9_checkPair, 2, none, 2, 1, 7, 110, [], 4133, 4132, 0, 1001)
noncomputable def mi_171 : QMI := (9, yX9_checkClient, cX9_checkClient, 1, none, 1, 1, 6, 90, [], 4207, 4206, 0, 1001)
noncomputable def mi_172 : QMI := (9, yX9_checkKey, cX9_checkKey, 1, none, 1, 1, 6, 90, [], 4211, 4210, 0, 1001)
noncomputable def mi_173 : QMI := (9, yX9_checkMessage, cX9_checkMessage, 2, none, 2, 0, 6, 90, [], 5040, 5039, 27, 1001)
noncomputable def mi_174 : QMI := (9, yX9_checkRequest, cX9_checkRequest, 5, none, 5, 0, 7, 110, [], 4204, 4203, 26, 1001)
noncomputable def mi_175 : QMI := (9, yX9_isTooGreat, cX9_isTooGreat, 1, (some FieldType.boolean), 1, 1, 0, 0, [], 4215, 4214, 0, 1001)
noncomputable def mi_176 : QMI := (9, yX9_serverNumbered, cX9_serverNumbered, 2, (some (FieldType.object "QuorumLog$Server")), 2, 0, 7, 110, [], 3194, 3193, 19, 1001)
noncomputable def mi_178 : QMI := (9, yX9_entryOf, cX9_entryOf, 4, (some (FieldType.object "QuorumLog$Entry")), 3, 0, 8, 131, [], 5137, 5136, 28, 1001)
noncomputable def mi_322 : QMI := (12, yL_below, cL_below, 2, (some FieldType.int), 2, 1, 0, 0, [], 4080, 4079, 0, 1000)
noncomputable def mi_323 : QMI := (12, yL_cell, cL_cell, 2, (some FieldType.int), 2, 1, 0, 0, [], 4084, 4083, 0, 1000)
noncomputable def mi_324 : QMI := (12, yL_act, cL_act, 6, (some FieldType.int), 2, 1, 9, 179, [(29, 105, 289, 75), (29, 105, 289, 77), (29, 105, 289, 79), (106, 111, 289, 75), (106, 111, 289, 77), (106, 111, 289, 79), (112, 118, 289, 75), (112, 118, 289, 77), (112, 118, 289, 79), (119, 125, 289, 75), (119, 125, 289, 77), (119, 125, 289, 79), (126, 131, 289, 75), (126, 131, 289, 77), (126, 131, 289, 79), (132, 140, 289, 75), (132, 140, 289, 77), (132, 140, 289, 79), (141, 146, 289, 75), (141, 146, 289, 77), (141, 146, 289, 79), (147, 156, 289, 75), (147, 156, 289, 77), (147, 156, 289, 79), (157, 166, 289, 75), (157, 166, 289, 77), (157, 166, 289, 79), (167, 176, 289, 75), (167, 176, 289, 77), (167, 176, 289, 79), (177, 209, 289, 75), (177, 209, 289, 77), (177, 209, 289, 79), (210, 220, 289, 75), (210, 220, 289, 77), (210, 220, 289, 79), (221, 273, 289, 75), (221, 273, 289, 77), (221, 273, 289, 79), (274, 288, 289, 75), (274, 288, 289, 77), (274, 288, 289, 79)], 4088, 4087, 0, 1000)
noncomputable def mi_378 : QMI := (12, yL_law, cL_law, 12, (some .boolean), 1, 1, 11, 204, [], 0, 0, 0, 0)
noncomputable def mi_325 : QMI := (12, yL_leadsAlone, cL_leadsAlone, 4, (some FieldType.boolean), 3, 1, 9, 152, [], 5062, 5061, 0, 1000)
noncomputable def mi_326 : QMI := (12, yL_isSound, cL_isSound, 5, (some FieldType.boolean), 2, 1, 9, 154, [], 5069, 5068, 0, 1000)
noncomputable def mi_327 : QMI := (12, yL_agree, cL_agree, 5, (some FieldType.boolean), 3, 1, 10, 176, [], 5123, 5122, 0, 1000)
noncomputable def mi_379 : QMI := (13, yJ6_bitCount_0f7a4, cJ6_bitCount_0f7a4, 1, (some FieldType.int), 1, 1, 0, 0, [], 3014, 3013, 0, 1015)
noncomputable def mi_380 : QMI := (15, yJ7_fill_53178, cJ7_fill_53178, 4, none, 2, 1, 0, 0, [], 2190, 2189, 0, 1014)
noncomputable def qMIL : List QMI := [mi_0, mi_1, mi_0, mi_3, mi_4, mi_5, mi_6, mi_7, mi_8, mi_0, mi_10, mi_11, mi_12, mi_13, mi_14, mi_0, mi_0, mi_0, mi_0, mi_0, mi_0, mi_21, mi_22, mi_23, mi_24, mi_25, mi_26, mi_27, mi_28, mi_29, mi_30, mi_31, mi_32, mi_33, mi_34, mi_35, mi_36, mi_37, mi_38, mi_39, mi_40, mi_41, mi_42, mi_43, mi_44, mi_45, mi_46, mi_47, mi_48, mi_0, mi_50, mi_51, mi_52, mi_53, mi_54, mi_55, mi_56, mi_57, mi_58, mi_59, mi_0, mi_61, mi_62, mi_63, mi_64, mi_65, mi_66, mi_67, mi_68, mi_69, mi_70, mi_71, mi_72, mi_73, mi_74, mi_75, mi_76, mi_77, mi_78, mi_79, mi_80, mi_81, mi_82, mi_83, mi_84, mi_85, mi_86, mi_87, mi_88, mi_89, mi_90, mi_91, mi_92, mi_93, mi_94, mi_95, mi_96, mi_97, mi_98, mi_99, mi_100, mi_101, mi_102, mi_103, mi_104, mi_105, mi_106, mi_107, mi_108, mi_109, mi_110, mi_0, mi_0, mi_0, mi_0, mi_0, mi_116, mi_117, mi_0, mi_119, mi_120, mi_0, mi_0, mi_123, mi_124, mi_125, mi_126, mi_127, mi_128, mi_129, mi_130, mi_0, mi_132, mi_133, mi_134, mi_135, mi_136, mi_0, mi_138, mi_139, mi_140, mi_141, mi_142, mi_143, mi_144, mi_145, mi_146, mi_147, mi_148, mi_149, mi_150, mi_0, mi_0, mi_0, mi_0, mi_0, mi_0, mi_0, mi_0, mi_0, mi_160, mi_161, mi_162, mi_163, mi_164, mi_165, mi_166, mi_0, mi_168, mi_169, mi_170, mi_171, mi_172, mi_173, mi_174, mi_175, mi_176, mi_0, mi_178, mi_0, mi_0, mi_0, mi_0, mi_0, mi_0, mi_0, mi_0, mi_0, mi_0, mi_0, mi_0, mi_0, mi_0, mi_0, mi_0, mi_0, mi_0, mi_0, mi_0, mi_0, mi_0, mi_0, mi_0, mi_0, mi_0, mi_0, mi_0, mi_0, mi_0, mi_0, mi_0, mi_0, mi_0, mi_0, mi_0, mi_0, mi_0, mi_0, mi_0, mi_0, mi_0, mi_0, mi_0, mi_0, mi_0, mi_0, mi_0, mi_0, mi_0, mi_0, mi_0, mi_0, mi_0, mi_0, mi_0, mi_0, mi_0, mi_0, mi_0, mi_0, mi_0, mi_0, mi_0, mi_0, mi_0, mi_0, mi_0, mi_0, mi_0, mi_0, mi_0, mi_0, mi_0, mi_0, mi_0, mi_0, mi_0, mi_0, mi_0, mi_0, mi_0, mi_0, mi_0, mi_0, mi_0, mi_0, mi_0, mi_0, mi_0, mi_0, mi_0, mi_0, mi_0, mi_0, mi_0, mi_0, mi_0, mi_0, mi_0, mi_0, mi_0, mi_0, mi_0, mi_0, mi_0, mi_0, mi_0, mi_0, mi_0, mi_0, mi_0, mi_0, mi_0, mi_0, mi_0, mi_0, mi_0, mi_0, mi_0, mi_0, mi_0, mi_0, mi_0, mi_0, mi_0, mi_0, mi_0, mi_0, mi_0, mi_0, mi_0, mi_0, mi_0, mi_0, mi_0, mi_0, mi_0, mi_0, mi_0, mi_0, mi_0, mi_0, mi_322, mi_323, mi_324, mi_325, mi_326, mi_327, mi_0, mi_0, mi_0, mi_0, mi_0, mi_0, mi_0, mi_0, mi_0, mi_0, mi_0, mi_0, mi_0, mi_0, mi_0, mi_0, mi_0, mi_0, mi_0, mi_0, mi_0, mi_0, mi_0, mi_0, mi_0, mi_0, mi_0, mi_0, mi_0, mi_0, mi_0, mi_0, mi_0, mi_0, mi_0, mi_0, mi_0, mi_0, mi_0, mi_0, mi_0, mi_0, mi_0, mi_0, mi_0, mi_0, mi_0, mi_0, mi_0, mi_0, mi_378, mi_379, mi_380]
noncomputable def qMI (m : Nat) : QMI := qMIL.getD m mi_0
def qHdL : List (Nat × List PHd) := [(324, [(29, 105, 136, 2), (29, 105, 136, 0), (29, 105, 136, 1), (106, 111, 136, 2), (106, 111, 136, 0), (106, 111, 136, 1), (112, 118, 136, 2), (112, 118, 136, 0), (112, 118, 136, 1), (119, 125, 136, 2), (119, 125, 136, 0), (119, 125, 136, 1), (126, 131, 136, 2), (126, 131, 136, 0), (126, 131, 136, 1), (132, 140, 136, 2), (132, 140, 136, 0), (132, 140, 136, 1), (141, 146, 136, 2), (141, 146, 136, 0), (141, 146, 136, 1), (147, 156, 136, 2), (147, 156, 136, 0), (147, 156, 136, 1), (157, 166, 136, 2), (157, 166, 136, 0), (157, 166, 136, 1), (167, 176, 136, 2), (167, 176, 136, 0), (167, 176, 136, 1), (177, 209, 136, 2), (177, 209, 136, 0), (177, 209, 136, 1), (210, 220, 136, 2), (210, 220, 136, 0), (210, 220, 136, 1), (221, 273, 136, 2), (221, 273, 136, 0), (221, 273, 136, 1), (274, 288, 136, 2), (274, 288, 136, 0), (274, 288, 136, 1)])]
/-- a handler's place in the code, the class link of what it catches, that word's place -/
def qHhL : List (Nat × List (Nat × Nat × Nat)) := [(324, [(289, 75, 4089), (289, 77, 4090), (289, 79, 4091), (289, 75, 4089), (289, 77, 4090), (289, 79, 4091), (289, 75, 4089), (289, 77, 4090), (289, 79, 4091), (289, 75, 4089), (289, 77, 4090), (289, 79, 4091), (289, 75, 4089), (289, 77, 4090), (289, 79, 4091), (289, 75, 4089), (289, 77, 4090), (289, 79, 4091), (289, 75, 4089), (289, 77, 4090), (289, 79, 4091), (289, 75, 4089), (289, 77, 4090), (289, 79, 4091), (289, 75, 4089), (289, 77, 4090), (289, 79, 4091), (289, 75, 4089), (289, 77, 4090), (289, 79, 4091), (289, 75, 4089), (289, 77, 4090), (289, 79, 4091), (289, 75, 4089), (289, 77, 4090), (289, 79, 4091), (289, 75, 4089), (289, 77, 4090), (289, 79, 4091), (289, 75, 4089), (289, 77, 4090), (289, 79, 4091)])]
def qHd (m : Nat) : List PHd := ((qHdL.find? (fun q => q.1 == m)).map (fun q => q.2)).getD []
def qHh (m : Nat) : List (Nat × Nat × Nat) := ((qHhL.find? (fun q => q.1 == m)).map (fun q => q.2)).getD []
