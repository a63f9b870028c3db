/-! ===== THE PROGRAM, as rows of the pure machine: printed by wip/whole/gen_tab.py out of the claim's texts ===== -/
/-- a class by its number: 0 .. 11 the program's, 12 the law's, 13 .. 15 Integer, Math, Arrays -/
def qOwn (o : Nat) : String := match o with
  | 0 => RX0
  | 1 => RX1
  | 2 => RX2
  | 3 => RX3
  | 4 => RX4
  | 5 => RX5
  | 6 => RX6
  | 7 => RX7
  | 8 => RX8
  | 9 => RX9
  | 10 => RX10
  | 11 => RX11
  | 12 => RL
  | 13 => RJ6
  | 14 => RJ9
  | _ => RJ7
set_option maxRecDepth 100000 in
noncomputable def rw_0 : List PRow := [
  (0, .aload_n 0, 1, 0, 0, 0), (1, .invokespecial 1, 3, 0, 1, 0), (4, .return_, 1, 0, 0, 0)]
set_option maxRecDepth 100000 in
noncomputable def rw_1 : List PRow := [
  (0, .aload_n 0, 1, 0, 0, 0), (1, .aconst_null, 1, 0, 0, 0), (2, .putfield 7, 3, 0, 0, 0), (5, .aload_n 0, 1, 0, 0, 0), (6, .iconst 0, 1, 0, 0, 0), (7, .putfield 13, 3, 0, 1, 1), (10, .aload_n 0, 1, 0, 0, 0), (11, .iconst 0, 1, 0, 0, 0),
  (12, .putfield 17, 3, 0, 2, 2), (15, .return_, 1, 0, 0, 0)]
set_option maxRecDepth 100000 in
noncomputable def rw_2 : List PRow := [
  (0, .aload_n 0, 1, 0, 0, 0), (1, .aload_n 1, 1, 0, 0, 0), (2, .getfield 7, 3, 0, 0, 0), (5, .putfield 7, 3, 0, 0, 0), (8, .aload_n 0, 1, 0, 0, 0), (9, .aload_n 1, 1, 0, 0, 0), (10, .getfield 13, 3, 0, 1, 1), (13, .putfield 13, 3, 0, 1, 1),
  (16, .aload_n 0, 1, 0, 0, 0), (17, .aload_n 1, 1, 0, 0, 0), (18, .getfield 17, 3, 0, 2, 2), (21, .putfield 17, 3, 0, 2, 2), (24, .return_, 1, 0, 0, 0)]
set_option maxRecDepth 100000 in
noncomputable def rw_3 : List PRow := [
  (0, .aload_n 0, 1, 0, 0, 0), (1, .getfield 7, 3, 0, 0, 0), (4, .ifnonnull 7, 3, 5, 0, 0), (7, .iconst 0, 1, 0, 0, 0), (8, .goto 10, 3, 8, 0, 0), (11, .aload_n 0, 1, 0, 0, 0), (12, .getfield 7, 3, 0, 0, 0), (15, .getfield 21, 3, 5, 1, 3),
  (18, .ireturn, 1, 0, 0, 0)]
set_option maxRecDepth 100000 in
noncomputable def rw_4 : List PRow := [
  (0, .aload_n 0, 1, 0, 0, 0), (1, .getfield 7, 3, 0, 0, 0), (4, .ifnull 14, 3, 8, 0, 0), (7, .aload_n 0, 1, 0, 0, 0), (8, .getfield 13, 3, 0, 1, 1), (11, .ifCond .ne 7, 3, 8, 0, 0), (14, .iconst 1, 1, 0, 0, 0), (15, .goto 4, 3, 9, 0, 0),
  (18, .iconst 0, 1, 0, 0, 0), (19, .ireturn, 1, 0, 0, 0)]
set_option maxRecDepth 100000 in
noncomputable def rw_5 : List PRow := [
  (0, .aload_n 0, 1, 0, 0, 0), (1, .new 22, 3, 5, 0, 0), (4, .dup, 1, 0, 0, 0), (5, .iload_n 1, 1, 0, 0, 0), (6, .aload_n 0, 1, 0, 0, 0), (7, .invokevirtual 26, 3, 13, 0, 1), (10, .iconst 1, 1, 0, 0, 0), (11, .iadd, 1, 0, 0, 0),
  (12, .iload_n 2, 1, 0, 0, 0), (13, .iload_n 3, 1, 0, 0, 0), (14, .iload 4, 2, 0, 0, 0), (16, .iload 5, 2, 0, 0, 0), (18, .invokespecial 29, 3, 65, 1, 2), (21, .putfield 7, 3, 0, 0, 0), (24, .aload_n 0, 1, 0, 0, 0), (25, .iconst 0, 1, 0, 0, 0),
  (26, .putfield 13, 3, 0, 1, 1), (29, .aload_n 0, 1, 0, 0, 0), (30, .getfield 7, 3, 0, 0, 0), (33, .getfield 21, 3, 5, 1, 3), (36, .ireturn, 1, 0, 0, 0)]
set_option maxRecDepth 100000 in
noncomputable def rw_6 : List PRow := [
  (0, .aload_n 0, 1, 0, 0, 0), (1, .invokespecial 3, 3, 0, 1, 3), (4, .aload_n 0, 1, 0, 0, 0), (5, .bipush 7, 2, 0, 0, 0), (7, .anewarray 9, 3, 18, 0, 1), (10, .putfield 11, 3, 1, 0, 4), (13, .aload_n 0, 1, 0, 0, 0), (14, .iconst 4, 1, 0, 0, 0),
  (15, .anewarray 17, 3, 15, 0, 2), (18, .putfield 19, 3, 1, 1, 5), (21, .aload_n 0, 1, 0, 0, 0), (22, .new 23, 3, 4, 0, 3), (25, .dup, 1, 0, 0, 0), (26, .invokespecial 25, 3, 57, 1, 4), (29, .putfield 26, 3, 1, 2, 6), (32, .iconst 3, 1, 0, 0, 0),
  (33, .invokestatic 30, 3, 17, 0, 5), (36, .astore_n 1, 1, 0, 0, 0), (37, .iconst 0, 1, 0, 0, 0), (38, .istore_n 2, 1, 0, 0, 0), (39, .iload_n 2, 1, 0, 0, 0), (40, .bipush 7, 2, 0, 0, 0), (42, .if_icmp .ge 24, 3, 34, 0, 0), (45, .aload_n 0, 1, 0, 0, 0),
  (46, .getfield 11, 3, 1, 0, 4), (49, .iload_n 2, 1, 0, 0, 0), (50, .new 9, 3, 6, 0, 4), (53, .dup, 1, 0, 0, 0), (54, .iload_n 2, 1, 0, 0, 0), (55, .aload_n 1, 1, 0, 0, 0), (56, .invokespecial 34, 3, 66, 1, 6), (59, .aastore, 1, 0, 0, 0),
  (60, .iinc 2 1, 3, 0, 0, 0), (63, .goto (-24), 3, 20, 0, 0), (66, .iconst 0, 1, 0, 0, 0), (67, .istore_n 2, 1, 0, 0, 0), (68, .iload_n 2, 1, 0, 0, 0), (69, .iconst 4, 1, 0, 0, 0), (70, .if_icmp .ge 22, 3, 48, 0, 0), (73, .aload_n 0, 1, 0, 0, 0),
  (74, .getfield 19, 3, 1, 1, 5), (77, .iload_n 2, 1, 0, 0, 0), (78, .new 17, 3, 0, 0, 5), (81, .dup, 1, 0, 0, 0), (82, .invokespecial 37, 3, 10, 1, 7), (85, .aastore, 1, 0, 0, 0), (86, .iinc 2 1, 3, 0, 0, 0), (89, .goto (-21), 3, 36, 0, 0),
  (92, .return_, 1, 0, 0, 0)]
set_option maxRecDepth 100000 in
noncomputable def rw_7 : List PRow := [
  (0, .new 38, 3, 7, 0, 6), (3, .dup, 1, 0, 0, 0), (4, .iconst 0, 1, 0, 0, 0), (5, .iconst 0, 1, 0, 0, 0), (6, .iconst 1, 1, 0, 0, 0), (7, .iload_n 0, 1, 0, 0, 0), (8, .ishl, 1, 0, 0, 0), (9, .iconst 1, 1, 0, 0, 0),
  (10, .isub, 1, 0, 0, 0), (11, .aconst_null, 1, 0, 0, 0), (12, .invokespecial 40, 3, 100, 1, 8), (15, .areturn, 1, 0, 0, 0)]
set_option maxRecDepth 100000 in
noncomputable def rw_8 : List PRow := [
  (0, .iload_n 1, 1, 0, 0, 0), (1, .invokestatic 30, 3, 17, 0, 5), (4, .astore_n 2, 1, 0, 0, 0), (5, .aload_n 0, 1, 0, 0, 0), (6, .getfield 11, 3, 1, 0, 4), (9, .astore_n 3, 1, 0, 0, 0), (10, .aload_n 3, 1, 0, 0, 0), (11, .arraylength, 1, 0, 0, 0),
  (12, .istore 4, 2, 0, 0, 0), (14, .iconst 0, 1, 0, 0, 0), (15, .istore 5, 2, 0, 0, 0), (17, .iload 5, 2, 0, 0, 0), (19, .iload 4, 2, 0, 0, 0), (21, .if_icmp .ge 21, 3, 23, 0, 0), (24, .aload_n 3, 1, 0, 0, 0), (25, .iload 5, 2, 0, 0, 0),
  (27, .aaload, 1, 0, 0, 0), (28, .astore 6, 2, 0, 0, 0), (30, .aload 6, 2, 0, 0, 0), (32, .aload_n 2, 1, 0, 0, 0), (33, .invokevirtual 43, 3, 67, 0, 9), (36, .iinc 5 1, 3, 0, 0, 0), (39, .goto (-22), 3, 11, 0, 0), (42, .aload_n 0, 1, 0, 0, 0),
  (43, .getfield 19, 3, 1, 1, 5), (46, .astore_n 3, 1, 0, 0, 0), (47, .aload_n 3, 1, 0, 0, 0), (48, .arraylength, 1, 0, 0, 0), (49, .istore 4, 2, 0, 0, 0), (51, .iconst 0, 1, 0, 0, 0), (52, .istore 5, 2, 0, 0, 0), (54, .iload 5, 2, 0, 0, 0),
  (56, .iload 4, 2, 0, 0, 0), (58, .if_icmp .ge 20, 3, 42, 0, 0), (61, .aload_n 3, 1, 0, 0, 0), (62, .iload 5, 2, 0, 0, 0), (64, .aaload, 1, 0, 0, 0), (65, .astore 6, 2, 0, 0, 0), (67, .aload 6, 2, 0, 0, 0), (69, .invokevirtual 47, 3, 11, 0, 10),
  (72, .iinc 5 1, 3, 0, 0, 0), (75, .goto (-21), 3, 31, 0, 0), (78, .aload_n 0, 1, 0, 0, 0), (79, .getfield 26, 3, 1, 2, 6), (82, .invokevirtual 50, 3, 58, 0, 11), (85, .aload_n 0, 1, 0, 0, 0), (86, .iconst 0, 1, 0, 0, 0), (87, .putfield 53, 3, 1, 3, 7),
  (90, .return_, 1, 0, 0, 0)]
set_option maxRecDepth 100000 in
noncomputable def rw_9 : List PRow := [
  (0, .iconst 0, 1, 0, 0, 0), (1, .istore_n 2, 1, 0, 0, 0), (2, .iload_n 2, 1, 0, 0, 0), (3, .bipush 7, 2, 0, 0, 0), (5, .if_icmp .ge 24, 3, 16, 0, 0), (8, .aload_n 0, 1, 0, 0, 0), (9, .getfield 11, 3, 1, 0, 4), (12, .iload_n 2, 1, 0, 0, 0),
  (13, .aaload, 1, 0, 0, 0), (14, .aload_n 1, 1, 0, 0, 0), (15, .getfield 11, 3, 1, 0, 4), (18, .iload_n 2, 1, 0, 0, 0), (19, .aaload, 1, 0, 0, 0), (20, .invokevirtual 57, 3, 70, 0, 12), (23, .iinc 2 1, 3, 0, 0, 0), (26, .goto (-24), 3, 2, 0, 0),
  (29, .iconst 0, 1, 0, 0, 0), (30, .istore_n 2, 1, 0, 0, 0), (31, .iload_n 2, 1, 0, 0, 0), (32, .iconst 4, 1, 0, 0, 0), (33, .if_icmp .ge 24, 3, 32, 0, 0), (36, .aload_n 0, 1, 0, 0, 0), (37, .getfield 19, 3, 1, 1, 5), (40, .iload_n 2, 1, 0, 0, 0),
  (41, .aaload, 1, 0, 0, 0), (42, .aload_n 1, 1, 0, 0, 0), (43, .getfield 19, 3, 1, 1, 5), (46, .iload_n 2, 1, 0, 0, 0), (47, .aaload, 1, 0, 0, 0), (48, .invokevirtual 61, 3, 12, 0, 13), (51, .iinc 2 1, 3, 0, 0, 0), (54, .goto (-23), 3, 18, 0, 0),
  (57, .aload_n 0, 1, 0, 0, 0), (58, .getfield 26, 3, 1, 2, 6), (61, .aload_n 1, 1, 0, 0, 0), (62, .getfield 26, 3, 1, 2, 6), (65, .invokevirtual 64, 3, 59, 0, 14), (68, .aload_n 0, 1, 0, 0, 0), (69, .aload_n 1, 1, 0, 0, 0), (70, .getfield 53, 3, 1, 3, 7),
  (73, .putfield 53, 3, 1, 3, 7), (76, .return_, 1, 0, 0, 0)]
set_option maxRecDepth 100000 in
noncomputable def rw_10 : List PRow := [
  (0, .iconst 0, 1, 0, 0, 0), (1, .istore_n 1, 1, 0, 0, 0), (2, .aload_n 0, 1, 0, 0, 0), (3, .getfield 11, 3, 1, 0, 4), (6, .astore_n 2, 1, 0, 0, 0), (7, .aload_n 2, 1, 0, 0, 0), (8, .arraylength, 1, 0, 0, 0), (9, .istore_n 3, 1, 0, 0, 0),
  (10, .iconst 0, 1, 0, 0, 0), (11, .istore 4, 2, 0, 0, 0), (13, .iload 4, 2, 0, 0, 0), (15, .iload_n 3, 1, 0, 0, 0), (16, .if_icmp .ge 31, 3, 28, 0, 0), (19, .aload_n 2, 1, 0, 0, 0), (20, .iload 4, 2, 0, 0, 0), (22, .aaload, 1, 0, 0, 0),
  (23, .astore 5, 2, 0, 0, 0), (25, .iload_n 1, 1, 0, 0, 0), (26, .aload 5, 2, 0, 0, 0), (28, .getfield 67, 3, 6, 4, 8), (31, .ifCond .eq 7, 3, 23, 0, 0), (34, .iconst 1, 1, 0, 0, 0), (35, .goto 4, 3, 24, 0, 0), (38, .iconst 0, 1, 0, 0, 0),
  (39, .iadd, 1, 0, 0, 0), (40, .istore_n 1, 1, 0, 0, 0), (41, .iinc 4 1, 3, 0, 0, 0), (44, .goto (-31), 3, 10, 0, 0), (47, .iload_n 1, 1, 0, 0, 0), (48, .ireturn, 1, 0, 0, 0)]
set_option maxRecDepth 100000 in
noncomputable def rw_11 : List PRow := [
  (0, .iconst 0, 1, 0, 0, 0), (1, .istore_n 1, 1, 0, 0, 0), (2, .aload_n 0, 1, 0, 0, 0), (3, .getfield 11, 3, 1, 0, 4), (6, .astore_n 2, 1, 0, 0, 0), (7, .aload_n 2, 1, 0, 0, 0), (8, .arraylength, 1, 0, 0, 0), (9, .istore_n 3, 1, 0, 0, 0),
  (10, .iconst 0, 1, 0, 0, 0), (11, .istore 4, 2, 0, 0, 0), (13, .iload 4, 2, 0, 0, 0), (15, .iload_n 3, 1, 0, 0, 0), (16, .if_icmp .ge 32, 3, 29, 0, 0), (19, .aload_n 2, 1, 0, 0, 0), (20, .iload 4, 2, 0, 0, 0), (22, .aaload, 1, 0, 0, 0),
  (23, .astore 5, 2, 0, 0, 0), (25, .iload_n 1, 1, 0, 0, 0), (26, .aload 5, 2, 0, 0, 0), (28, .getfield 71, 3, 6, 12, 9), (31, .iconst 3, 1, 0, 0, 0), (32, .if_icmp .ne 7, 3, 24, 0, 0), (35, .iconst 1, 1, 0, 0, 0), (36, .goto 4, 3, 25, 0, 0),
  (39, .iconst 0, 1, 0, 0, 0), (40, .iadd, 1, 0, 0, 0), (41, .istore_n 1, 1, 0, 0, 0), (42, .iinc 4 1, 3, 0, 0, 0), (45, .goto (-32), 3, 10, 0, 0), (48, .iload_n 1, 1, 0, 0, 0), (49, .ireturn, 1, 0, 0, 0)]
set_option maxRecDepth 100000 in
noncomputable def rw_12 : List PRow := [
  (0, .aconst_null, 1, 0, 0, 0), (1, .astore_n 1, 1, 0, 0, 0), (2, .aload_n 0, 1, 0, 0, 0), (3, .getfield 11, 3, 1, 0, 4), (6, .astore_n 2, 1, 0, 0, 0), (7, .aload_n 2, 1, 0, 0, 0), (8, .arraylength, 1, 0, 0, 0), (9, .istore_n 3, 1, 0, 0, 0),
  (10, .iconst 0, 1, 0, 0, 0), (11, .istore 4, 2, 0, 0, 0), (13, .iload 4, 2, 0, 0, 0), (15, .iload_n 3, 1, 0, 0, 0), (16, .if_icmp .ge 43, 3, 32, 0, 0), (19, .aload_n 2, 1, 0, 0, 0), (20, .iload 4, 2, 0, 0, 0), (22, .aaload, 1, 0, 0, 0),
  (23, .astore 5, 2, 0, 0, 0), (25, .aload 5, 2, 0, 0, 0), (27, .getfield 71, 3, 6, 12, 9), (30, .iconst 3, 1, 0, 0, 0), (31, .if_icmp .ne 22, 3, 30, 0, 0), (34, .aload_n 1, 1, 0, 0, 0), (35, .ifnull 15, 3, 28, 0, 0), (38, .aload 5, 2, 0, 0, 0),
  (40, .getfield 74, 3, 6, 5, 10), (43, .aload_n 1, 1, 0, 0, 0), (44, .getfield 74, 3, 6, 5, 10), (47, .if_icmp .le 6, 3, 30, 0, 0), (50, .aload 5, 2, 0, 0, 0), (52, .astore_n 1, 1, 0, 0, 0), (53, .iinc 4 1, 3, 0, 0, 0), (56, .goto (-43), 3, 10, 0, 0),
  (59, .aload_n 1, 1, 0, 0, 0), (60, .areturn, 1, 0, 0, 0)]
set_option maxRecDepth 100000 in
noncomputable def rw_13 : List PRow := [
  (0, .iconst 0, 1, 0, 0, 0), (1, .istore 4, 2, 0, 0, 0), (3, .aload_n 0, 1, 0, 0, 0), (4, .getfield 11, 3, 1, 0, 4), (7, .astore 5, 2, 0, 0, 0), (9, .aload 5, 2, 0, 0, 0), (11, .arraylength, 1, 0, 0, 0), (12, .istore 6, 2, 0, 0, 0),
  (14, .iconst 0, 1, 0, 0, 0), (15, .istore 7, 2, 0, 0, 0), (17, .iload 7, 2, 0, 0, 0), (19, .iload 6, 2, 0, 0, 0), (21, .if_icmp .ge 53, 3, 35, 0, 0), (24, .aload 5, 2, 0, 0, 0), (26, .iload 7, 2, 0, 0, 0), (28, .aaload, 1, 0, 0, 0),
  (29, .astore 8, 2, 0, 0, 0), (31, .aload_n 1, 1, 0, 0, 0), (32, .aload 8, 2, 0, 0, 0), (34, .getfield 77, 3, 6, 0, 11), (37, .invokevirtual 80, 3, 76, 0, 15), (40, .ifCond .eq 28, 3, 33, 0, 0), (43, .aload 8, 2, 0, 0, 0), (45, .getfield 84, 3, 6, 9, 12),
  (48, .getfield 88, 3, 7, 0, 13), (51, .iload_n 2, 1, 0, 0, 0), (52, .if_icmp .ge 13, 3, 32, 0, 0), (55, .aload 8, 2, 0, 0, 0), (57, .iload_n 2, 1, 0, 0, 0), (58, .invokevirtual 91, 3, 75, 0, 16), (61, .iload_n 3, 1, 0, 0, 0), (62, .if_icmp .ne 6, 3, 33, 0, 0),
  (65, .iinc 4 1, 3, 0, 0, 0), (68, .iinc 7 1, 3, 0, 0, 0), (71, .goto (-54), 3, 10, 0, 0), (74, .iload 4, 2, 0, 0, 0), (76, .ireturn, 1, 0, 0, 0)]
set_option maxRecDepth 100000 in
noncomputable def rw_14 : List PRow := [
  (0, .aload_n 1, 1, 0, 0, 0), (1, .invokevirtual 95, 3, 73, 0, 17), (4, .istore_n 2, 1, 0, 0, 0), (5, .aload_n 1, 1, 0, 0, 0), (6, .invokevirtual 99, 3, 72, 0, 18), (9, .istore_n 3, 1, 0, 0, 0), (10, .iconst 0, 1, 0, 0, 0), (11, .istore 4, 2, 0, 0, 0),
  (13, .iconst 0, 1, 0, 0, 0), (14, .istore 5, 2, 0, 0, 0), (16, .aload_n 0, 1, 0, 0, 0), (17, .getfield 11, 3, 1, 0, 4), (20, .astore 6, 2, 0, 0, 0), (22, .aload 6, 2, 0, 0, 0), (24, .arraylength, 1, 0, 0, 0), (25, .istore 7, 2, 0, 0, 0),
  (27, .iconst 0, 1, 0, 0, 0), (28, .istore 8, 2, 0, 0, 0), (30, .iload 8, 2, 0, 0, 0), (32, .iload 7, 2, 0, 0, 0), (34, .if_icmp .ge 51, 3, 44, 0, 0), (37, .aload 6, 2, 0, 0, 0), (39, .iload 8, 2, 0, 0, 0), (41, .aaload, 1, 0, 0, 0),
  (42, .astore 9, 2, 0, 0, 0), (44, .aload_n 1, 1, 0, 0, 0), (45, .aload 9, 2, 0, 0, 0), (47, .getfield 77, 3, 6, 0, 11), (50, .invokevirtual 80, 3, 76, 0, 15), (53, .ifCond .eq 26, 3, 42, 0, 0), (56, .iinc 4 1, 3, 0, 0, 0), (59, .iload 5, 2, 0, 0, 0),
  (61, .aload 9, 2, 0, 0, 0), (63, .iload_n 2, 1, 0, 0, 0), (64, .iload_n 3, 1, 0, 0, 0), (65, .invokevirtual 102, 3, 82, 0, 19), (68, .ifCond .eq 7, 3, 39, 0, 0), (71, .iconst 1, 1, 0, 0, 0), (72, .goto 4, 3, 40, 0, 0), (75, .iconst 0, 1, 0, 0, 0),
  (76, .iadd, 1, 0, 0, 0), (77, .istore 5, 2, 0, 0, 0), (79, .iinc 8 1, 3, 0, 0, 0), (82, .goto (-52), 3, 18, 0, 0), (85, .iconst 2, 1, 0, 0, 0), (86, .iload 5, 2, 0, 0, 0), (88, .imul, 1, 0, 0, 0), (89, .iload 4, 2, 0, 0, 0),
  (91, .if_icmp .le 7, 3, 51, 0, 0), (94, .iconst 1, 1, 0, 0, 0), (95, .goto 4, 3, 52, 0, 0), (98, .iconst 0, 1, 0, 0, 0), (99, .ireturn, 1, 0, 0, 0)]
set_option maxRecDepth 100000 in
noncomputable def rw_15 : List PRow := [
  (0, .iconst 0, 1, 0, 0, 0), (1, .istore_n 2, 1, 0, 0, 0), (2, .iconst 0, 1, 0, 0, 0), (3, .istore_n 3, 1, 0, 0, 0), (4, .iload_n 3, 1, 0, 0, 0), (5, .bipush 7, 2, 0, 0, 0), (7, .if_icmp .ge 38, 3, 26, 0, 0), (10, .iload_n 2, 1, 0, 0, 0),
  (11, .aload_n 0, 1, 0, 0, 0), (12, .getfield 11, 3, 1, 0, 4), (15, .iload_n 3, 1, 0, 0, 0), (16, .aaload, 1, 0, 0, 0), (17, .getfield 67, 3, 6, 4, 8), (20, .ifCond .eq 16, 3, 21, 0, 0), (23, .aload_n 0, 1, 0, 0, 0), (24, .iload_n 3, 1, 0, 0, 0),
  (25, .iload_n 1, 1, 0, 0, 0), (26, .invokevirtual 106, 3, 26, 0, 20), (29, .ifCond .eq 7, 3, 21, 0, 0), (32, .iconst 1, 1, 0, 0, 0), (33, .goto 4, 3, 22, 0, 0), (36, .iconst 0, 1, 0, 0, 0), (37, .iadd, 1, 0, 0, 0), (38, .istore_n 2, 1, 0, 0, 0),
  (39, .iinc 3 1, 3, 0, 0, 0), (42, .goto (-38), 3, 4, 0, 0), (45, .iload_n 2, 1, 0, 0, 0), (46, .ireturn, 1, 0, 0, 0)]
set_option maxRecDepth 100000 in
noncomputable def rw_16 : List PRow := [
  (0, .iconst 0, 1, 0, 0, 0), (1, .istore_n 3, 1, 0, 0, 0), (2, .iload_n 3, 1, 0, 0, 0), (3, .iload_n 1, 1, 0, 0, 0), (4, .if_icmp .ge 54, 3, 32, 0, 0), (7, .aload_n 0, 1, 0, 0, 0), (8, .getfield 11, 3, 1, 0, 4), (11, .iload_n 3, 1, 0, 0, 0),
  (12, .aaload, 1, 0, 0, 0), (13, .getfield 67, 3, 6, 4, 8), (16, .ifCond .eq 36, 3, 30, 0, 0), (19, .aload_n 0, 1, 0, 0, 0), (20, .getfield 11, 3, 1, 0, 4), (23, .iload_n 3, 1, 0, 0, 0), (24, .aaload, 1, 0, 0, 0), (25, .getfield 109, 3, 6, 1, 14),
  (28, .getfield 113, 3, 8, 0, 15), (31, .iload_n 2, 1, 0, 0, 0), (32, .iaload, 1, 0, 0, 0), (33, .aload_n 0, 1, 0, 0, 0), (34, .getfield 11, 3, 1, 0, 4), (37, .iload_n 1, 1, 0, 0, 0), (38, .aaload, 1, 0, 0, 0), (39, .getfield 109, 3, 6, 1, 14),
  (42, .getfield 113, 3, 8, 0, 15), (45, .iload_n 2, 1, 0, 0, 0), (46, .iaload, 1, 0, 0, 0), (47, .if_icmp .ne 5, 3, 30, 0, 0), (50, .iconst 0, 1, 0, 0, 0), (51, .ireturn, 1, 0, 0, 0), (52, .iinc 3 1, 3, 0, 0, 0), (55, .goto (-53), 3, 2, 0, 0),
  (58, .iconst 1, 1, 0, 0, 0), (59, .ireturn, 1, 0, 0, 0)]
set_option maxRecDepth 100000 in
noncomputable def rw_17 : List PRow := [
  (0, .iload_n 1, 1, 0, 0, 0), (1, .ifCond .ne 8, 3, 5, 0, 0), (4, .aload_n 0, 1, 0, 0, 0), (5, .invokevirtual 119, 3, 28, 0, 21), (8, .ireturn, 1, 0, 0, 0), (9, .iload_n 1, 1, 0, 0, 0), (10, .iconst 1, 1, 0, 0, 0), (11, .if_icmp .ne 21, 3, 18, 0, 0),
  (14, .aload_n 0, 1, 0, 0, 0), (15, .getfield 19, 3, 1, 1, 5), (18, .iload_n 2, 1, 0, 0, 0), (19, .aaload, 1, 0, 0, 0), (20, .invokevirtual 123, 3, 14, 0, 22), (23, .ifCond .ne 7, 3, 16, 0, 0), (26, .iconst 1, 1, 0, 0, 0), (27, .goto 4, 3, 17, 0, 0),
  (30, .iconst 0, 1, 0, 0, 0), (31, .ireturn, 1, 0, 0, 0), (32, .iload_n 1, 1, 0, 0, 0), (33, .iconst 2, 1, 0, 0, 0), (34, .if_icmp .ne 10, 3, 24, 0, 0), (37, .aload_n 0, 1, 0, 0, 0), (38, .invokevirtual 126, 3, 30, 0, 23), (41, .goto 15, 3, 30, 0, 0),
  (44, .aload_n 0, 1, 0, 0, 0), (45, .invokevirtual 129, 3, 21, 0, 24), (48, .ifCond .le 7, 3, 29, 0, 0), (51, .iconst 1, 1, 0, 0, 0), (52, .goto 4, 3, 30, 0, 0), (55, .iconst 0, 1, 0, 0, 0), (56, .ireturn, 1, 0, 0, 0)]
set_option maxRecDepth 100000 in
noncomputable def rw_18 : List PRow := [
  (0, .aload_n 0, 1, 0, 0, 0), (1, .getfield 11, 3, 1, 0, 4), (4, .astore_n 1, 1, 0, 0, 0), (5, .aload_n 1, 1, 0, 0, 0), (6, .arraylength, 1, 0, 0, 0), (7, .istore_n 2, 1, 0, 0, 0), (8, .iconst 0, 1, 0, 0, 0), (9, .istore_n 3, 1, 0, 0, 0),
  (10, .iload_n 3, 1, 0, 0, 0), (11, .iload_n 2, 1, 0, 0, 0), (12, .if_icmp .ge 34, 3, 27, 0, 0), (15, .aload_n 1, 1, 0, 0, 0), (16, .iload_n 3, 1, 0, 0, 0), (17, .aaload, 1, 0, 0, 0), (18, .astore 4, 2, 0, 0, 0), (20, .aload 4, 2, 0, 0, 0),
  (22, .getfield 71, 3, 6, 12, 9), (25, .iconst 3, 1, 0, 0, 0), (26, .if_icmp .ne 14, 3, 25, 0, 0), (29, .aload_n 0, 1, 0, 0, 0), (30, .aload 4, 2, 0, 0, 0), (32, .invokevirtual 132, 3, 29, 0, 25), (35, .ifCond .eq 5, 3, 25, 0, 0), (38, .iconst 1, 1, 0, 0, 0),
  (39, .ireturn, 1, 0, 0, 0), (40, .iinc 3 1, 3, 0, 0, 0), (43, .goto (-33), 3, 8, 0, 0), (46, .iconst 0, 1, 0, 0, 0), (47, .ireturn, 1, 0, 0, 0)]
set_option maxRecDepth 100000 in
noncomputable def rw_19 : List PRow := [
  (0, .aload_n 0, 1, 0, 0, 0), (1, .getfield 11, 3, 1, 0, 4), (4, .astore_n 2, 1, 0, 0, 0), (5, .aload_n 2, 1, 0, 0, 0), (6, .arraylength, 1, 0, 0, 0), (7, .istore_n 3, 1, 0, 0, 0), (8, .iconst 0, 1, 0, 0, 0), (9, .istore 4, 2, 0, 0, 0),
  (11, .iload 4, 2, 0, 0, 0), (13, .iload_n 3, 1, 0, 0, 0), (14, .if_icmp .ge 55, 3, 35, 0, 0), (17, .aload_n 2, 1, 0, 0, 0), (18, .iload 4, 2, 0, 0, 0), (20, .aaload, 1, 0, 0, 0), (21, .astore 5, 2, 0, 0, 0), (23, .aload 5, 2, 0, 0, 0),
  (25, .aload_n 1, 1, 0, 0, 0), (26, .if_acmp .eq 37, 3, 33, 0, 0), (29, .aload 5, 2, 0, 0, 0), (31, .getfield 67, 3, 6, 4, 8), (34, .ifCond .eq 29, 3, 33, 0, 0), (37, .aload_n 1, 1, 0, 0, 0), (38, .aload 5, 2, 0, 0, 0), (40, .getfield 77, 3, 6, 0, 11),
  (43, .invokevirtual 80, 3, 76, 0, 15), (46, .ifCond .eq 17, 3, 33, 0, 0), (49, .aload 5, 2, 0, 0, 0), (51, .getfield 136, 3, 6, 13, 16), (54, .aload_n 1, 1, 0, 0, 0), (55, .getfield 77, 3, 6, 0, 11), (58, .if_icmp .eq 5, 3, 33, 0, 0), (61, .iconst 0, 1, 0, 0, 0),
  (62, .ireturn, 1, 0, 0, 0), (63, .iinc 4 1, 3, 0, 0, 0), (66, .goto (-55), 3, 8, 0, 0), (69, .iconst 1, 1, 0, 0, 0), (70, .ireturn, 1, 0, 0, 0)]
set_option maxRecDepth 100000 in
noncomputable def rw_20 : List PRow := [
  (0, .aload_n 0, 1, 0, 0, 0), (1, .invokevirtual 139, 3, 22, 0, 26), (4, .astore_n 1, 1, 0, 0, 0), (5, .aload_n 1, 1, 0, 0, 0), (6, .ifnonnull 5, 3, 7, 0, 0), (9, .iconst 0, 1, 0, 0, 0), (10, .ireturn, 1, 0, 0, 0), (11, .aload_n 0, 1, 0, 0, 0),
  (12, .getfield 11, 3, 1, 0, 4), (15, .astore_n 2, 1, 0, 0, 0), (16, .aload_n 2, 1, 0, 0, 0), (17, .arraylength, 1, 0, 0, 0), (18, .istore_n 3, 1, 0, 0, 0), (19, .iconst 0, 1, 0, 0, 0), (20, .istore 4, 2, 0, 0, 0), (22, .iload 4, 2, 0, 0, 0),
  (24, .iload_n 3, 1, 0, 0, 0), (25, .if_icmp .ge 67, 3, 48, 0, 0), (28, .aload_n 2, 1, 0, 0, 0), (29, .iload 4, 2, 0, 0, 0), (31, .aaload, 1, 0, 0, 0), (32, .astore 5, 2, 0, 0, 0), (34, .aload 5, 2, 0, 0, 0), (36, .aload_n 1, 1, 0, 0, 0),
  (37, .if_acmp .eq 23, 3, 33, 0, 0), (40, .aload 5, 2, 0, 0, 0), (42, .getfield 67, 3, 6, 4, 8), (45, .ifCond .eq 19, 3, 35, 0, 0), (48, .aload_n 1, 1, 0, 0, 0), (49, .aload 5, 2, 0, 0, 0), (51, .getfield 77, 3, 6, 0, 11), (54, .invokevirtual 80, 3, 76, 0, 15),
  (57, .ifCond .eq 7, 3, 35, 0, 0), (60, .iconst 1, 1, 0, 0, 0), (61, .goto 4, 3, 36, 0, 0), (64, .iconst 0, 1, 0, 0, 0), (65, .istore 6, 2, 0, 0, 0), (67, .iload 6, 2, 0, 0, 0), (69, .ifCond .eq 17, 3, 46, 0, 0), (72, .aload 5, 2, 0, 0, 0),
  (74, .getfield 143, 3, 6, 15, 17), (77, .aload_n 1, 1, 0, 0, 0), (78, .invokevirtual 99, 3, 72, 0, 18), (81, .if_icmp .ge 5, 3, 46, 0, 0), (84, .iconst 0, 1, 0, 0, 0), (85, .ireturn, 1, 0, 0, 0), (86, .iinc 4 1, 3, 0, 0, 0), (89, .goto (-67), 3, 15, 0, 0),
  (92, .iconst 1, 1, 0, 0, 0), (93, .ireturn, 1, 0, 0, 0)]
set_option maxRecDepth 100000 in
noncomputable def rw_21 : List PRow := [
  (0, .aload_n 0, 1, 0, 0, 0), (1, .getfield 11, 3, 1, 0, 4), (4, .astore_n 1, 1, 0, 0, 0), (5, .aload_n 1, 1, 0, 0, 0), (6, .arraylength, 1, 0, 0, 0), (7, .istore_n 2, 1, 0, 0, 0), (8, .iconst 0, 1, 0, 0, 0), (9, .istore_n 3, 1, 0, 0, 0),
  (10, .iload_n 3, 1, 0, 0, 0), (11, .iload_n 2, 1, 0, 0, 0), (12, .if_icmp .ge 113, 3, 63, 0, 0), (15, .aload_n 1, 1, 0, 0, 0), (16, .iload_n 3, 1, 0, 0, 0), (17, .aaload, 1, 0, 0, 0), (18, .astore 4, 2, 0, 0, 0), (20, .aload 4, 2, 0, 0, 0),
  (22, .getfield 67, 3, 6, 4, 8), (25, .ifCond .eq 43, 3, 38, 0, 0), (28, .aload 4, 2, 0, 0, 0), (30, .getfield 71, 3, 6, 12, 9), (33, .iconst 3, 1, 0, 0, 0), (34, .if_icmp .ne 34, 3, 38, 0, 0), (37, .aload 4, 2, 0, 0, 0), (39, .dup, 1, 0, 0, 0),
  (40, .getfield 146, 3, 6, 17, 18), (43, .iconst 1, 1, 0, 0, 0), (44, .iadd, 1, 0, 0, 0), (45, .putfield 146, 3, 6, 17, 18), (48, .aload 4, 2, 0, 0, 0), (50, .getfield 146, 3, 6, 17, 18), (53, .iconst 2, 1, 0, 0, 0), (54, .irem, 1, 0, 0, 0),
  (55, .ifCond .ne 64, 3, 61, 0, 0), (58, .aload_n 0, 1, 0, 0, 0), (59, .aload 4, 2, 0, 0, 0), (61, .invokevirtual 149, 3, 36, 0, 27), (64, .pop, 1, 0, 0, 0), (65, .goto 54, 3, 61, 0, 0), (68, .aload 4, 2, 0, 0, 0), (70, .getfield 67, 3, 6, 4, 8),
  (73, .ifCond .eq 46, 3, 61, 0, 0), (76, .aload 4, 2, 0, 0, 0), (78, .invokevirtual 153, 3, 77, 0, 28), (81, .ifCond .eq 38, 3, 61, 0, 0), (84, .aload 4, 2, 0, 0, 0), (86, .dup, 1, 0, 0, 0), (87, .getfield 156, 3, 6, 14, 19), (90, .iconst 1, 1, 0, 0, 0),
  (91, .iadd, 1, 0, 0, 0), (92, .putfield 156, 3, 6, 14, 19), (95, .aload_n 0, 1, 0, 0, 0), (96, .aload 4, 2, 0, 0, 0), (98, .aload 4, 2, 0, 0, 0), (100, .getfield 156, 3, 6, 14, 19), (103, .aload 4, 2, 0, 0, 0), (105, .invokevirtual 159, 3, 71, 0, 29),
  (108, .if_icmp .lt 7, 3, 59, 0, 0), (111, .iconst 1, 1, 0, 0, 0), (112, .goto 4, 3, 60, 0, 0), (115, .iconst 0, 1, 0, 0, 0), (116, .invokevirtual 162, 3, 32, 0, 30), (119, .iinc 3 1, 3, 0, 0, 0), (122, .goto (-112), 3, 8, 0, 0), (125, .aload_n 0, 1, 0, 0, 0),
  (126, .getfield 26, 3, 1, 2, 6), (129, .getfield 166, 3, 4, 3, 20), (132, .istore_n 1, 1, 0, 0, 0), (133, .iconst 0, 1, 0, 0, 0), (134, .istore_n 2, 1, 0, 0, 0), (135, .iload_n 2, 1, 0, 0, 0), (136, .iload_n 1, 1, 0, 0, 0), (137, .if_icmp .ge 15, 3, 78, 0, 0),
  (140, .aload_n 0, 1, 0, 0, 0), (141, .iconst 0, 1, 0, 0, 0), (142, .invokevirtual 169, 3, 40, 0, 31), (145, .pop, 1, 0, 0, 0), (146, .iinc 2 1, 3, 0, 0, 0), (149, .goto (-14), 3, 69, 0, 0), (152, .aload_n 0, 1, 0, 0, 0), (153, .dup, 1, 0, 0, 0),
  (154, .getfield 53, 3, 1, 3, 7), (157, .iconst 1, 1, 0, 0, 0), (158, .iadd, 1, 0, 0, 0), (159, .putfield 53, 3, 1, 3, 7), (162, .return_, 1, 0, 0, 0)]
set_option maxRecDepth 100000 in
noncomputable def rw_22 : List PRow := [
  (0, .iload_n 2, 1, 0, 0, 0), (1, .istore_n 3, 1, 0, 0, 0), (2, .iload_n 3, 1, 0, 0, 0), (3, .iconst 1, 1, 0, 0, 0), (4, .if_icmp .ne 9, 3, 9, 0, 0), (7, .aload_n 0, 1, 0, 0, 0), (8, .aload_n 1, 1, 0, 0, 0), (9, .invokevirtual 172, 3, 33, 0, 32),
  (12, .istore_n 3, 1, 0, 0, 0), (13, .iload_n 3, 1, 0, 0, 0), (14, .iconst 2, 1, 0, 0, 0), (15, .if_icmp .ne 9, 3, 16, 0, 0), (18, .aload_n 0, 1, 0, 0, 0), (19, .aload_n 1, 1, 0, 0, 0), (20, .invokevirtual 175, 3, 34, 0, 33), (23, .istore_n 3, 1, 0, 0, 0),
  (24, .iload_n 3, 1, 0, 0, 0), (25, .iconst 3, 1, 0, 0, 0), (26, .if_icmp .ne 18, 3, 28, 0, 0), (29, .aload_n 1, 1, 0, 0, 0), (30, .invokevirtual 178, 3, 98, 0, 34), (33, .aload_n 0, 1, 0, 0, 0), (34, .aload_n 1, 1, 0, 0, 0), (35, .invokevirtual 149, 3, 36, 0, 27),
  (38, .pop, 1, 0, 0, 0), (39, .aload_n 0, 1, 0, 0, 0), (40, .aload_n 1, 1, 0, 0, 0), (41, .invokevirtual 181, 3, 38, 0, 35), (44, .return_, 1, 0, 0, 0)]
set_option maxRecDepth 100000 in
noncomputable def rw_23 : List PRow := [
  (0, .aload_n 1, 1, 0, 0, 0), (1, .getfield 184, 3, 6, 8, 21), (4, .bipush 48, 2, 0, 0, 0), (6, .if_icmp .lt 10, 3, 9, 0, 0), (9, .aload_n 1, 1, 0, 0, 0), (10, .iconst 0, 1, 0, 0, 0), (11, .putfield 156, 3, 6, 14, 19), (14, .iconst 0, 1, 0, 0, 0),
  (15, .ireturn, 1, 0, 0, 0), (16, .aload_n 1, 1, 0, 0, 0), (17, .iconst 1, 1, 0, 0, 0), (18, .invokevirtual 185, 3, 97, 0, 36), (21, .aload_n 1, 1, 0, 0, 0), (22, .invokevirtual 189, 3, 78, 0, 37), (25, .ifCond .eq 5, 3, 17, 0, 0), (28, .iconst 2, 1, 0, 0, 0),
  (29, .ireturn, 1, 0, 0, 0), (30, .aload_n 0, 1, 0, 0, 0), (31, .aload_n 1, 1, 0, 0, 0), (32, .iconst 1, 1, 0, 0, 0), (33, .aload_n 1, 1, 0, 0, 0), (34, .getfield 74, 3, 6, 5, 10), (37, .iconst 1, 1, 0, 0, 0), (38, .iadd, 1, 0, 0, 0),
  (39, .invokevirtual 192, 3, 35, 0, 38), (42, .iconst 0, 1, 0, 0, 0), (43, .ireturn, 1, 0, 0, 0)]
set_option maxRecDepth 100000 in
noncomputable def rw_24 : List PRow := [
  (0, .aload_n 1, 1, 0, 0, 0), (1, .dup, 1, 0, 0, 0), (2, .getfield 74, 3, 6, 5, 10), (5, .iconst 1, 1, 0, 0, 0), (6, .iadd, 1, 0, 0, 0), (7, .putfield 74, 3, 6, 5, 10), (10, .aload_n 1, 1, 0, 0, 0), (11, .iconst 2, 1, 0, 0, 0),
  (12, .invokevirtual 185, 3, 97, 0, 36), (15, .aload_n 1, 1, 0, 0, 0), (16, .aload_n 1, 1, 0, 0, 0), (17, .getfield 77, 3, 6, 0, 11), (20, .putfield 196, 3, 6, 6, 22), (23, .aload_n 1, 1, 0, 0, 0), (24, .invokevirtual 189, 3, 78, 0, 37), (27, .ifCond .eq 5, 3, 18, 0, 0),
  (30, .iconst 3, 1, 0, 0, 0), (31, .ireturn, 1, 0, 0, 0), (32, .aload_n 0, 1, 0, 0, 0), (33, .aload_n 1, 1, 0, 0, 0), (34, .iconst 3, 1, 0, 0, 0), (35, .aload_n 1, 1, 0, 0, 0), (36, .getfield 74, 3, 6, 5, 10), (39, .invokevirtual 192, 3, 35, 0, 38),
  (42, .iconst 0, 1, 0, 0, 0), (43, .ireturn, 1, 0, 0, 0)]
set_option maxRecDepth 100000 in
noncomputable def rw_25 : List PRow := [
  (0, .iconst 0, 1, 0, 0, 0), (1, .istore 4, 2, 0, 0, 0), (3, .iload 4, 2, 0, 0, 0), (5, .bipush 7, 2, 0, 0, 0), (7, .if_icmp .ge 70, 3, 35, 0, 0), (10, .iload 4, 2, 0, 0, 0), (12, .aload_n 1, 1, 0, 0, 0), (13, .getfield 77, 3, 6, 0, 11),
  (16, .if_icmp .eq 55, 3, 33, 0, 0), (19, .aload_n 1, 1, 0, 0, 0), (20, .iload 4, 2, 0, 0, 0), (22, .invokevirtual 80, 3, 76, 0, 15), (25, .ifCond .ne 6, 3, 14, 0, 0), (28, .goto 43, 3, 33, 0, 0), (31, .aload_n 0, 1, 0, 0, 0), (32, .getfield 26, 3, 1, 2, 6),
  (35, .iload_n 2, 1, 0, 0, 0), (36, .aload_n 1, 1, 0, 0, 0), (37, .getfield 77, 3, 6, 0, 11), (40, .iload 4, 2, 0, 0, 0), (42, .iload_n 3, 1, 0, 0, 0), (43, .invokevirtual 199, 3, 62, 0, 39), (46, .astore 5, 2, 0, 0, 0), (48, .aload 5, 2, 0, 0, 0),
  (50, .ifnull 21, 3, 33, 0, 0), (53, .aload 5, 2, 0, 0, 0), (55, .aload_n 1, 1, 0, 0, 0), (56, .invokevirtual 99, 3, 72, 0, 18), (59, .putfield 203, 3, 3, 6, 23), (62, .aload 5, 2, 0, 0, 0), (64, .aload_n 1, 1, 0, 0, 0), (65, .invokevirtual 95, 3, 73, 0, 17),
  (68, .putfield 206, 3, 3, 7, 24), (71, .iinc 4 1, 3, 0, 0, 0), (74, .goto (-71), 3, 2, 0, 0), (77, .return_, 1, 0, 0, 0)]
set_option maxRecDepth 100000 in
noncomputable def rw_26 : List PRow := [
  (0, .iconst 0, 1, 0, 0, 0), (1, .istore_n 2, 1, 0, 0, 0), (2, .iconst 0, 1, 0, 0, 0), (3, .istore_n 3, 1, 0, 0, 0), (4, .iload_n 3, 1, 0, 0, 0), (5, .bipush 7, 2, 0, 0, 0), (7, .if_icmp .ge 34, 3, 22, 0, 0), (10, .iload_n 3, 1, 0, 0, 0),
  (11, .aload_n 1, 1, 0, 0, 0), (12, .getfield 77, 3, 6, 0, 11), (15, .if_icmp .eq 20, 3, 20, 0, 0), (18, .aload_n 1, 1, 0, 0, 0), (19, .iload_n 3, 1, 0, 0, 0), (20, .invokevirtual 80, 3, 76, 0, 15), (23, .ifCond .eq 12, 3, 20, 0, 0), (26, .aload_n 0, 1, 0, 0, 0),
  (27, .aload_n 1, 1, 0, 0, 0), (28, .iload_n 3, 1, 0, 0, 0), (29, .invokevirtual 209, 3, 37, 0, 40), (32, .iinc 2 1, 3, 0, 0, 0), (35, .iinc 3 1, 3, 0, 0, 0), (38, .goto (-34), 3, 4, 0, 0), (41, .iload_n 2, 1, 0, 0, 0), (42, .ireturn, 1, 0, 0, 0)]
set_option maxRecDepth 100000 in
noncomputable def rw_27 : List PRow := [
  (0, .aload_n 1, 1, 0, 0, 0), (1, .getfield 212, 3, 6, 2, 25), (4, .iload_n 2, 1, 0, 0, 0), (5, .iaload, 1, 0, 0, 0), (6, .istore_n 3, 1, 0, 0, 0), (7, .iload_n 3, 1, 0, 0, 0), (8, .aload_n 1, 1, 0, 0, 0), (9, .getfield 84, 3, 6, 9, 12),
  (12, .getfield 88, 3, 7, 0, 13), (15, .if_icmp .gt 7, 3, 12, 0, 0), (18, .iconst 1, 1, 0, 0, 0), (19, .goto 4, 3, 13, 0, 0), (22, .iconst 0, 1, 0, 0, 0), (23, .istore 4, 2, 0, 0, 0), (25, .aload_n 0, 1, 0, 0, 0), (26, .getfield 26, 3, 1, 2, 6),
  (29, .iload 4, 2, 0, 0, 0), (31, .ifCond .eq 8, 3, 20, 0, 0), (34, .bipush 7, 2, 0, 0, 0), (36, .goto 4, 3, 21, 0, 0), (39, .iconst 5, 1, 0, 0, 0), (40, .aload_n 1, 1, 0, 0, 0), (41, .getfield 77, 3, 6, 0, 11), (44, .iload_n 2, 1, 0, 0, 0),
  (45, .aload_n 1, 1, 0, 0, 0), (46, .getfield 74, 3, 6, 5, 10), (49, .invokevirtual 199, 3, 62, 0, 39), (52, .astore 5, 2, 0, 0, 0), (54, .aload 5, 2, 0, 0, 0), (56, .ifnonnull 4, 3, 31, 0, 0), (59, .return_, 1, 0, 0, 0), (60, .iload 4, 2, 0, 0, 0),
  (62, .ifCond .eq 25, 3, 43, 0, 0), (65, .aload 5, 2, 0, 0, 0), (67, .aload_n 1, 1, 0, 0, 0), (68, .getfield 84, 3, 6, 9, 12), (71, .getfield 88, 3, 7, 0, 13), (74, .putfield 203, 3, 3, 6, 23), (77, .aload 5, 2, 0, 0, 0), (79, .aload_n 1, 1, 0, 0, 0),
  (80, .getfield 84, 3, 6, 9, 12), (83, .putfield 215, 3, 3, 10, 26), (86, .return_, 1, 0, 0, 0), (87, .aload 5, 2, 0, 0, 0), (89, .iload_n 3, 1, 0, 0, 0), (90, .iconst 1, 1, 0, 0, 0), (91, .isub, 1, 0, 0, 0), (92, .putfield 203, 3, 3, 6, 23),
  (95, .aload 5, 2, 0, 0, 0), (97, .aload_n 1, 1, 0, 0, 0), (98, .iload_n 3, 1, 0, 0, 0), (99, .iconst 1, 1, 0, 0, 0), (100, .isub, 1, 0, 0, 0), (101, .invokevirtual 91, 3, 75, 0, 16), (104, .putfield 206, 3, 3, 7, 24), (107, .aload 5, 2, 0, 0, 0),
  (109, .aload_n 1, 1, 0, 0, 0), (110, .getfield 143, 3, 6, 15, 17), (113, .putfield 216, 3, 3, 8, 27), (116, .iload_n 3, 1, 0, 0, 0), (117, .istore 6, 2, 0, 0, 0), (119, .iload 6, 2, 0, 0, 0), (121, .aload_n 1, 1, 0, 0, 0), (122, .invokevirtual 99, 3, 72, 0, 18),
  (125, .if_icmp .gt 46, 3, 85, 0, 0), (128, .aload 5, 2, 0, 0, 0), (130, .getfield 217, 3, 3, 9, 28), (133, .iconst 4, 1, 0, 0, 0), (134, .if_icmp .ge 37, 3, 85, 0, 0), (137, .aload 5, 2, 0, 0, 0), (139, .getfield 218, 3, 3, 0, 29), (142, .aload 5, 2, 0, 0, 0),
  (144, .getfield 217, 3, 3, 9, 28), (147, .aload_n 1, 1, 0, 0, 0), (148, .iload 6, 2, 0, 0, 0), (150, .invokevirtual 222, 3, 74, 0, 41), (153, .aastore, 1, 0, 0, 0), (154, .aload 5, 2, 0, 0, 0), (156, .dup, 1, 0, 0, 0), (157, .getfield 217, 3, 3, 9, 28),
  (160, .iconst 1, 1, 0, 0, 0), (161, .iadd, 1, 0, 0, 0), (162, .putfield 217, 3, 3, 9, 28), (165, .iinc 6 1, 3, 0, 0, 0), (168, .goto (-49), 3, 61, 0, 0), (171, .return_, 1, 0, 0, 0)]
set_option maxRecDepth 100000 in
noncomputable def rw_28 : List PRow := [
  (0, .aload_n 1, 1, 0, 0, 0), (1, .invokevirtual 99, 3, 72, 0, 18), (4, .istore_n 2, 1, 0, 0, 0), (5, .iload_n 2, 1, 0, 0, 0), (6, .aload_n 1, 1, 0, 0, 0), (7, .getfield 143, 3, 6, 15, 17), (10, .if_icmp .le 38, 3, 24, 0, 0), (13, .aload_n 1, 1, 0, 0, 0),
  (14, .iload_n 2, 1, 0, 0, 0), (15, .invokevirtual 91, 3, 75, 0, 16), (18, .aload_n 1, 1, 0, 0, 0), (19, .getfield 74, 3, 6, 5, 10), (22, .if_icmp .ne 20, 3, 22, 0, 0), (25, .aload_n 1, 1, 0, 0, 0), (26, .iload_n 2, 1, 0, 0, 0), (27, .invokevirtual 226, 3, 79, 0, 42),
  (30, .ifCond .eq 12, 3, 22, 0, 0), (33, .aload_n 0, 1, 0, 0, 0), (34, .aload_n 1, 1, 0, 0, 0), (35, .iload_n 2, 1, 0, 0, 0), (36, .invokevirtual 229, 3, 39, 0, 43), (39, .goto 9, 3, 24, 0, 0), (42, .iinc 2 (-1), 3, 0, 0, 0), (45, .goto (-40), 3, 3, 0, 0),
  (48, .aload_n 1, 1, 0, 0, 0), (49, .invokevirtual 153, 3, 77, 0, 28), (52, .ifCond .ne 32, 3, 42, 0, 0), (55, .aload_n 1, 1, 0, 0, 0), (56, .getfield 232, 3, 6, 11, 30), (59, .iconst (-1), 1, 0, 0, 0), (60, .if_icmp .eq 24, 3, 42, 0, 0), (63, .aload_n 1, 1, 0, 0, 0),
  (64, .getfield 232, 3, 6, 11, 30), (67, .aload_n 1, 1, 0, 0, 0), (68, .getfield 143, 3, 6, 15, 17), (71, .if_icmp .gt 13, 3, 42, 0, 0), (74, .aload_n 1, 1, 0, 0, 0), (75, .iconst 0, 1, 0, 0, 0), (76, .putfield 71, 3, 6, 12, 9), (79, .aload_n 1, 1, 0, 0, 0),
  (80, .iconst (-1), 1, 0, 0, 0), (81, .putfield 136, 3, 6, 13, 16), (84, .return_, 1, 0, 0, 0)]
set_option maxRecDepth 100000 in
noncomputable def rw_29 : List PRow := [
  (0, .aload_n 1, 1, 0, 0, 0), (1, .getfield 143, 3, 6, 15, 17), (4, .iload_n 2, 1, 0, 0, 0), (5, .if_icmp .ge 113, 3, 56, 0, 0), (8, .aload_n 1, 1, 0, 0, 0), (9, .dup, 1, 0, 0, 0), (10, .getfield 143, 3, 6, 15, 17), (13, .iconst 1, 1, 0, 0, 0),
  (14, .iadd, 1, 0, 0, 0), (15, .putfield 143, 3, 6, 15, 17), (18, .aload_n 1, 1, 0, 0, 0), (19, .aload_n 1, 1, 0, 0, 0), (20, .getfield 143, 3, 6, 15, 17), (23, .invokevirtual 222, 3, 74, 0, 41), (26, .astore_n 3, 1, 0, 0, 0), (27, .aload_n 3, 1, 0, 0, 0),
  (28, .ifnonnull 7, 3, 19, 0, 0), (31, .aconst_null, 1, 0, 0, 0), (32, .goto 7, 3, 21, 0, 0), (35, .aload_n 3, 1, 0, 0, 0), (36, .getfield 235, 3, 2, 2, 31), (39, .astore 4, 2, 0, 0, 0), (41, .aload 4, 2, 0, 0, 0), (43, .ifnonnull 6, 3, 25, 0, 0),
  (46, .goto (-46), 3, 0, 0, 0), (49, .aload_n 1, 1, 0, 0, 0), (50, .getfield 109, 3, 6, 1, 14), (53, .aload 4, 2, 0, 0, 0), (55, .invokevirtual 241, 3, 103, 0, 44), (58, .aload_n 0, 1, 0, 0, 0), (59, .getfield 19, 3, 1, 1, 5), (62, .aload 4, 2, 0, 0, 0),
  (64, .getfield 245, 3, 5, 0, 32), (67, .aaload, 1, 0, 0, 0), (68, .astore 5, 2, 0, 0, 0), (70, .aload_n 1, 1, 0, 0, 0), (71, .getfield 71, 3, 6, 12, 9), (74, .iconst 3, 1, 0, 0, 0), (75, .if_icmp .ne 40, 3, 55, 0, 0), (78, .aload 5, 2, 0, 0, 0),
  (80, .invokevirtual 250, 3, 13, 0, 45), (83, .aload 4, 2, 0, 0, 0), (85, .getfield 253, 3, 5, 1, 33), (88, .if_icmp .ne 27, 3, 55, 0, 0), (91, .aload 5, 2, 0, 0, 0), (93, .iconst 1, 1, 0, 0, 0), (94, .putfield 255, 3, 0, 1, 34), (97, .aload 5, 2, 0, 0, 0),
  (99, .aload_n 1, 1, 0, 0, 0), (100, .getfield 109, 3, 6, 1, 14), (103, .getfield 258, 3, 8, 2, 35), (106, .aload 4, 2, 0, 0, 0), (108, .getfield 245, 3, 5, 0, 32), (111, .iaload, 1, 0, 0, 0), (112, .putfield 261, 3, 0, 2, 36), (115, .goto (-115), 3, 0, 0, 0),
  (118, .return_, 1, 0, 0, 0)]
set_option maxRecDepth 100000 in
noncomputable def rw_30 : List PRow := [
  (0, .iload_n 1, 1, 0, 0, 0), (1, .ifCond .lt 14, 3, 7, 0, 0), (4, .iload_n 1, 1, 0, 0, 0), (5, .aload_n 0, 1, 0, 0, 0), (6, .getfield 26, 3, 1, 2, 6), (9, .getfield 166, 3, 4, 3, 20), (12, .if_icmp .lt 5, 3, 9, 0, 0), (15, .iconst 0, 1, 0, 0, 0),
  (16, .ireturn, 1, 0, 0, 0), (17, .aload_n 0, 1, 0, 0, 0), (18, .getfield 26, 3, 1, 2, 6), (21, .iload_n 1, 1, 0, 0, 0), (22, .invokevirtual 264, 3, 64, 0, 46), (25, .astore_n 2, 1, 0, 0, 0), (26, .aload_n 0, 1, 0, 0, 0), (27, .getfield 11, 3, 1, 0, 4),
  (30, .aload_n 2, 1, 0, 0, 0), (31, .getfield 268, 3, 3, 3, 37), (34, .aaload, 1, 0, 0, 0), (35, .astore_n 3, 1, 0, 0, 0), (36, .aload_n 3, 1, 0, 0, 0), (37, .getfield 67, 3, 6, 4, 8), (40, .ifCond .eq 21, 3, 31, 0, 0), (43, .aload_n 0, 1, 0, 0, 0),
  (44, .getfield 26, 3, 1, 2, 6), (47, .aload_n 2, 1, 0, 0, 0), (48, .getfield 271, 3, 3, 2, 38), (51, .aload_n 2, 1, 0, 0, 0), (52, .getfield 268, 3, 3, 3, 37), (55, .invokevirtual 274, 3, 60, 0, 47), (58, .ifCond .eq 18, 3, 40, 0, 0), (61, .aload_n 0, 1, 0, 0, 0),
  (62, .getfield 26, 3, 1, 2, 6), (65, .dup, 1, 0, 0, 0), (66, .getfield 277, 3, 4, 5, 39), (69, .iconst 1, 1, 0, 0, 0), (70, .iadd, 1, 0, 0, 0), (71, .putfield 277, 3, 4, 5, 39), (74, .iconst 0, 1, 0, 0, 0), (75, .ireturn, 1, 0, 0, 0),
  (76, .aload_n 2, 1, 0, 0, 0), (77, .getfield 280, 3, 3, 4, 40), (80, .aload_n 3, 1, 0, 0, 0), (81, .getfield 74, 3, 6, 5, 10), (84, .if_icmp .le 18, 3, 52, 0, 0), (87, .aload_n 2, 1, 0, 0, 0), (88, .invokevirtual 281, 3, 56, 0, 48), (91, .ifCond .eq 11, 3, 52, 0, 0),
  (94, .aload_n 3, 1, 0, 0, 0), (95, .aload_n 2, 1, 0, 0, 0), (96, .getfield 280, 3, 3, 4, 40), (99, .invokevirtual 284, 3, 95, 0, 49), (102, .iconst 0, 1, 0, 0, 0), (103, .istore 4, 2, 0, 0, 0), (105, .aload_n 2, 1, 0, 0, 0), (106, .getfield 287, 3, 3, 1, 41),
  (109, .tableswitch 138 1 7 #[43, 52, 78, 87, 111, 120, 129], 43, 0, 0, 0), (152, .aload_n 0, 1, 0, 0, 0), (153, .aload_n 3, 1, 0, 0, 0), (154, .aload_n 2, 1, 0, 0, 0), (155, .invokevirtual 290, 3, 42, 0, 50), (158, .goto 105, 3, 119, 0, 0), (161, .aload_n 0, 1, 0, 0, 0), (162, .aload_n 3, 1, 0, 0, 0),
  (163, .aload_n 2, 1, 0, 0, 0), (164, .iconst 1, 1, 0, 0, 0), (165, .aload_n 3, 1, 0, 0, 0), (166, .getfield 74, 3, 6, 5, 10), (169, .iconst 1, 1, 0, 0, 0), (170, .iadd, 1, 0, 0, 0), (171, .invokevirtual 294, 3, 44, 0, 51), (174, .ifCond .eq 7, 3, 74, 0, 0),
  (177, .iconst 2, 1, 0, 0, 0), (178, .goto 4, 3, 75, 0, 0), (181, .iconst 0, 1, 0, 0, 0), (182, .istore 4, 2, 0, 0, 0), (184, .goto 79, 3, 119, 0, 0), (187, .aload_n 0, 1, 0, 0, 0), (188, .aload_n 3, 1, 0, 0, 0), (189, .aload_n 2, 1, 0, 0, 0),
  (190, .invokevirtual 298, 3, 43, 0, 52), (193, .goto 70, 3, 119, 0, 0), (196, .aload_n 0, 1, 0, 0, 0), (197, .aload_n 3, 1, 0, 0, 0), (198, .aload_n 2, 1, 0, 0, 0), (199, .iconst 2, 1, 0, 0, 0), (200, .aload_n 3, 1, 0, 0, 0), (201, .getfield 74, 3, 6, 5, 10),
  (204, .invokevirtual 294, 3, 44, 0, 51), (207, .ifCond .eq 7, 3, 92, 0, 0), (210, .iconst 3, 1, 0, 0, 0), (211, .goto 4, 3, 93, 0, 0), (214, .iconst 0, 1, 0, 0, 0), (215, .istore 4, 2, 0, 0, 0), (217, .goto 46, 3, 119, 0, 0), (220, .aload_n 0, 1, 0, 0, 0),
  (221, .aload_n 3, 1, 0, 0, 0), (222, .aload_n 2, 1, 0, 0, 0), (223, .invokevirtual 301, 3, 45, 0, 53), (226, .goto 37, 3, 119, 0, 0), (229, .aload_n 0, 1, 0, 0, 0), (230, .aload_n 3, 1, 0, 0, 0), (231, .aload_n 2, 1, 0, 0, 0), (232, .invokevirtual 304, 3, 47, 0, 54),
  (235, .goto 28, 3, 119, 0, 0), (238, .aload_n 0, 1, 0, 0, 0), (239, .aload_n 3, 1, 0, 0, 0), (240, .aload_n 2, 1, 0, 0, 0), (241, .invokevirtual 307, 3, 46, 0, 55), (244, .goto 19, 3, 119, 0, 0), (247, .aload_n 0, 1, 0, 0, 0), (248, .aload_n 3, 1, 0, 0, 0),
  (249, .aload_n 2, 1, 0, 0, 0), (250, .invokevirtual 310, 3, 48, 0, 56), (253, .ifCond .eq 7, 3, 117, 0, 0), (256, .iconst 2, 1, 0, 0, 0), (257, .goto 4, 3, 118, 0, 0), (260, .iconst 0, 1, 0, 0, 0), (261, .istore 4, 2, 0, 0, 0), (263, .aload_n 0, 1, 0, 0, 0),
  (264, .aload_n 3, 1, 0, 0, 0), (265, .iload 4, 2, 0, 0, 0), (267, .invokevirtual 162, 3, 32, 0, 30), (270, .iconst 1, 1, 0, 0, 0), (271, .ireturn, 1, 0, 0, 0)]
set_option maxRecDepth 100000 in
noncomputable def rw_31 : List PRow := [
  (0, .aload_n 0, 1, 0, 0, 0), (1, .getfield 26, 3, 1, 2, 6), (4, .iload_n 1, 1, 0, 0, 0), (5, .aload_n 2, 1, 0, 0, 0), (6, .getfield 268, 3, 3, 3, 37), (9, .aload_n 2, 1, 0, 0, 0), (10, .getfield 271, 3, 3, 2, 38), (13, .iload_n 3, 1, 0, 0, 0),
  (14, .invokevirtual 199, 3, 62, 0, 39), (17, .astore 6, 2, 0, 0, 0), (19, .aload 6, 2, 0, 0, 0), (21, .ifnull 17, 3, 18, 0, 0), (24, .aload 6, 2, 0, 0, 0), (26, .iload 4, 2, 0, 0, 0), (28, .putfield 314, 3, 3, 5, 42), (31, .aload 6, 2, 0, 0, 0),
  (33, .iload 5, 2, 0, 0, 0), (35, .putfield 203, 3, 3, 6, 23), (38, .return_, 1, 0, 0, 0)]
set_option maxRecDepth 100000 in
noncomputable def rw_32 : List PRow := [
  (0, .aload_n 1, 1, 0, 0, 0), (1, .getfield 136, 3, 6, 13, 16), (4, .iconst (-1), 1, 0, 0, 0), (5, .if_icmp .eq 11, 3, 8, 0, 0), (8, .aload_n 1, 1, 0, 0, 0), (9, .getfield 156, 3, 6, 14, 19), (12, .iconst 4, 1, 0, 0, 0), (13, .if_icmp .lt 7, 3, 10, 0, 0),
  (16, .iconst 1, 1, 0, 0, 0), (17, .goto 4, 3, 11, 0, 0), (20, .iconst 0, 1, 0, 0, 0), (21, .istore_n 3, 1, 0, 0, 0), (22, .aload_n 2, 1, 0, 0, 0), (23, .getfield 280, 3, 3, 4, 40), (26, .aload_n 1, 1, 0, 0, 0), (27, .getfield 74, 3, 6, 5, 10),
  (30, .if_icmp .le 34, 3, 32, 0, 0), (33, .aload_n 1, 1, 0, 0, 0), (34, .aload_n 2, 1, 0, 0, 0), (35, .getfield 206, 3, 3, 7, 24), (38, .aload_n 2, 1, 0, 0, 0), (39, .getfield 203, 3, 3, 6, 23), (42, .invokevirtual 102, 3, 82, 0, 19), (45, .ifCond .eq 19, 3, 32, 0, 0),
  (48, .aload_n 1, 1, 0, 0, 0), (49, .getfield 71, 3, 6, 12, 9), (52, .iconst 3, 1, 0, 0, 0), (53, .if_icmp .eq 11, 3, 32, 0, 0), (56, .iload_n 3, 1, 0, 0, 0), (57, .ifCond .eq 7, 3, 32, 0, 0), (60, .iconst 1, 1, 0, 0, 0), (61, .goto 4, 3, 33, 0, 0),
  (64, .iconst 0, 1, 0, 0, 0), (65, .istore 4, 2, 0, 0, 0), (67, .aload_n 0, 1, 0, 0, 0), (68, .iconst 2, 1, 0, 0, 0), (69, .aload_n 2, 1, 0, 0, 0), (70, .iload 4, 2, 0, 0, 0), (72, .ifCond .eq 10, 3, 42, 0, 0), (75, .aload_n 2, 1, 0, 0, 0),
  (76, .getfield 280, 3, 3, 4, 40), (79, .goto 7, 3, 44, 0, 0), (82, .aload_n 1, 1, 0, 0, 0), (83, .getfield 74, 3, 6, 5, 10), (86, .iload 4, 2, 0, 0, 0), (88, .iconst 0, 1, 0, 0, 0), (89, .invokevirtual 317, 3, 41, 0, 57), (92, .return_, 1, 0, 0, 0)]
set_option maxRecDepth 100000 in
noncomputable def rw_33 : List PRow := [
  (0, .aload_n 1, 1, 0, 0, 0), (1, .getfield 196, 3, 6, 6, 22), (4, .iconst (-1), 1, 0, 0, 0), (5, .if_icmp .eq 14, 3, 9, 0, 0), (8, .aload_n 1, 1, 0, 0, 0), (9, .getfield 196, 3, 6, 6, 22), (12, .aload_n 2, 1, 0, 0, 0), (13, .getfield 271, 3, 3, 2, 38),
  (16, .if_icmp .ne 7, 3, 11, 0, 0), (19, .iconst 1, 1, 0, 0, 0), (20, .goto 4, 3, 12, 0, 0), (23, .iconst 0, 1, 0, 0, 0), (24, .istore_n 3, 1, 0, 0, 0), (25, .aload_n 2, 1, 0, 0, 0), (26, .getfield 280, 3, 3, 4, 40), (29, .aload_n 1, 1, 0, 0, 0),
  (30, .getfield 74, 3, 6, 5, 10), (33, .if_icmp .ne 26, 3, 29, 0, 0), (36, .iload_n 3, 1, 0, 0, 0), (37, .ifCond .eq 22, 3, 29, 0, 0), (40, .aload_n 1, 1, 0, 0, 0), (41, .aload_n 2, 1, 0, 0, 0), (42, .getfield 206, 3, 3, 7, 24), (45, .aload_n 2, 1, 0, 0, 0),
  (46, .getfield 203, 3, 3, 6, 23), (49, .invokevirtual 102, 3, 82, 0, 19), (52, .ifCond .eq 7, 3, 29, 0, 0), (55, .iconst 1, 1, 0, 0, 0), (56, .goto 4, 3, 30, 0, 0), (59, .iconst 0, 1, 0, 0, 0), (60, .istore 4, 2, 0, 0, 0), (62, .iload 4, 2, 0, 0, 0),
  (64, .ifCond .eq 16, 3, 40, 0, 0), (67, .aload_n 1, 1, 0, 0, 0), (68, .aload_n 2, 1, 0, 0, 0), (69, .getfield 271, 3, 3, 2, 38), (72, .putfield 196, 3, 6, 6, 22), (75, .aload_n 1, 1, 0, 0, 0), (76, .iconst 0, 1, 0, 0, 0), (77, .putfield 156, 3, 6, 14, 19),
  (80, .aload_n 0, 1, 0, 0, 0), (81, .iconst 4, 1, 0, 0, 0), (82, .aload_n 2, 1, 0, 0, 0), (83, .aload_n 1, 1, 0, 0, 0), (84, .getfield 74, 3, 6, 5, 10), (87, .iload 4, 2, 0, 0, 0), (89, .iconst 0, 1, 0, 0, 0), (90, .invokevirtual 317, 3, 41, 0, 57),
  (93, .return_, 1, 0, 0, 0)]
set_option maxRecDepth 100000 in
noncomputable def rw_34 : List PRow := [
  (0, .aload_n 2, 1, 0, 0, 0), (1, .getfield 314, 3, 3, 5, 42), (4, .ifCond .eq 20, 3, 11, 0, 0), (7, .aload_n 1, 1, 0, 0, 0), (8, .getfield 71, 3, 6, 12, 9), (11, .iload_n 3, 1, 0, 0, 0), (12, .if_icmp .ne 12, 3, 11, 0, 0), (15, .aload_n 2, 1, 0, 0, 0),
  (16, .getfield 280, 3, 3, 4, 40), (19, .iload 4, 2, 0, 0, 0), (21, .if_icmp .eq 5, 3, 13, 0, 0), (24, .iconst 0, 1, 0, 0, 0), (25, .ireturn, 1, 0, 0, 0), (26, .aload_n 1, 1, 0, 0, 0), (27, .dup, 1, 0, 0, 0), (28, .getfield 321, 3, 6, 16, 43),
  (31, .iconst 1, 1, 0, 0, 0), (32, .aload_n 2, 1, 0, 0, 0), (33, .getfield 271, 3, 3, 2, 38), (36, .ishl, 1, 0, 0, 0), (37, .ior, 1, 0, 0, 0), (38, .putfield 321, 3, 6, 16, 43), (41, .aload_n 1, 1, 0, 0, 0), (42, .invokevirtual 189, 3, 78, 0, 37),
  (45, .ireturn, 1, 0, 0, 0)]
set_option maxRecDepth 100000 in
noncomputable def rw_35 : List PRow := [
  (0, .aload_n 2, 1, 0, 0, 0), (1, .getfield 280, 3, 3, 4, 40), (4, .aload_n 1, 1, 0, 0, 0), (5, .getfield 74, 3, 6, 5, 10), (8, .if_icmp .ge 17, 3, 14, 0, 0), (11, .aload_n 0, 1, 0, 0, 0), (12, .bipush 6, 2, 0, 0, 0), (14, .aload_n 2, 1, 0, 0, 0),
  (15, .aload_n 1, 1, 0, 0, 0), (16, .getfield 74, 3, 6, 5, 10), (19, .iconst 0, 1, 0, 0, 0), (20, .iconst 0, 1, 0, 0, 0), (21, .invokevirtual 317, 3, 41, 0, 57), (24, .return_, 1, 0, 0, 0), (25, .aload_n 1, 1, 0, 0, 0), (26, .aload_n 2, 1, 0, 0, 0),
  (27, .getfield 271, 3, 3, 2, 38), (30, .invokevirtual 324, 3, 96, 0, 58), (33, .aload_n 1, 1, 0, 0, 0), (34, .aload_n 2, 1, 0, 0, 0), (35, .getfield 203, 3, 3, 6, 23), (38, .aload_n 2, 1, 0, 0, 0), (39, .getfield 206, 3, 3, 7, 24), (42, .invokevirtual 327, 3, 92, 0, 59),
  (45, .ifCond .ne 24, 3, 37, 0, 0), (48, .aload_n 0, 1, 0, 0, 0), (49, .bipush 6, 2, 0, 0, 0), (51, .aload_n 2, 1, 0, 0, 0), (52, .aload_n 1, 1, 0, 0, 0), (53, .getfield 74, 3, 6, 5, 10), (56, .iconst 0, 1, 0, 0, 0), (57, .aload_n 1, 1, 0, 0, 0),
  (58, .aload_n 2, 1, 0, 0, 0), (59, .getfield 203, 3, 3, 6, 23), (62, .invokevirtual 330, 3, 93, 0, 60), (65, .invokevirtual 317, 3, 41, 0, 57), (68, .return_, 1, 0, 0, 0), (69, .iconst 0, 1, 0, 0, 0), (70, .istore_n 3, 1, 0, 0, 0), (71, .iload_n 3, 1, 0, 0, 0),
  (72, .aload_n 2, 1, 0, 0, 0), (73, .getfield 217, 3, 3, 9, 28), (76, .if_icmp .ge 41, 3, 64, 0, 0), (79, .iload_n 3, 1, 0, 0, 0), (80, .iconst 4, 1, 0, 0, 0), (81, .if_icmp .ge 36, 3, 64, 0, 0), (84, .aload_n 2, 1, 0, 0, 0), (85, .getfield 218, 3, 3, 0, 29),
  (88, .iload_n 3, 1, 0, 0, 0), (89, .aaload, 1, 0, 0, 0), (90, .astore 4, 2, 0, 0, 0), (92, .aload 4, 2, 0, 0, 0), (94, .ifnull 17, 3, 62, 0, 0), (97, .aload_n 1, 1, 0, 0, 0), (98, .aload_n 2, 1, 0, 0, 0), (99, .getfield 203, 3, 3, 6, 23),
  (102, .iconst 1, 1, 0, 0, 0), (103, .iadd, 1, 0, 0, 0), (104, .iload_n 3, 1, 0, 0, 0), (105, .iadd, 1, 0, 0, 0), (106, .aload 4, 2, 0, 0, 0), (108, .invokevirtual 333, 3, 94, 0, 61), (111, .iinc 3 1, 3, 0, 0, 0), (114, .goto (-43), 3, 39, 0, 0),
  (117, .aload_n 2, 1, 0, 0, 0), (118, .getfield 203, 3, 3, 6, 23), (121, .aload_n 2, 1, 0, 0, 0), (122, .getfield 217, 3, 3, 9, 28), (125, .iadd, 1, 0, 0, 0), (126, .istore_n 3, 1, 0, 0, 0), (127, .aload_n 0, 1, 0, 0, 0), (128, .aload_n 1, 1, 0, 0, 0),
  (129, .aload_n 2, 1, 0, 0, 0), (130, .getfield 216, 3, 3, 8, 27), (133, .iload_n 3, 1, 0, 0, 0), (134, .invokestatic 337, 3, 3, 0, 62), (137, .invokevirtual 229, 3, 39, 0, 43), (140, .aload_n 0, 1, 0, 0, 0), (141, .bipush 6, 2, 0, 0, 0), (143, .aload_n 2, 1, 0, 0, 0),
  (144, .aload_n 1, 1, 0, 0, 0), (145, .getfield 74, 3, 6, 5, 10), (148, .iconst 1, 1, 0, 0, 0), (149, .iload_n 3, 1, 0, 0, 0), (150, .invokevirtual 317, 3, 41, 0, 57), (153, .return_, 1, 0, 0, 0)]
set_option maxRecDepth 100000 in
noncomputable def rw_36 : List PRow := [
  (0, .aload_n 2, 1, 0, 0, 0), (1, .getfield 280, 3, 3, 4, 40), (4, .aload_n 1, 1, 0, 0, 0), (5, .getfield 74, 3, 6, 5, 10), (8, .if_icmp .ge 17, 3, 14, 0, 0), (11, .aload_n 0, 1, 0, 0, 0), (12, .bipush 6, 2, 0, 0, 0), (14, .aload_n 2, 1, 0, 0, 0),
  (15, .aload_n 1, 1, 0, 0, 0), (16, .getfield 74, 3, 6, 5, 10), (19, .iconst 0, 1, 0, 0, 0), (20, .iconst 0, 1, 0, 0, 0), (21, .invokevirtual 317, 3, 41, 0, 57), (24, .return_, 1, 0, 0, 0), (25, .aload_n 1, 1, 0, 0, 0), (26, .aload_n 2, 1, 0, 0, 0),
  (27, .getfield 271, 3, 3, 2, 38), (30, .invokevirtual 324, 3, 96, 0, 58), (33, .aload_n 2, 1, 0, 0, 0), (34, .getfield 215, 3, 3, 10, 26), (37, .astore_n 3, 1, 0, 0, 0), (38, .aload_n 3, 1, 0, 0, 0), (39, .ifnull 19, 3, 31, 0, 0), (42, .aload_n 3, 1, 0, 0, 0),
  (43, .getfield 88, 3, 7, 0, 13), (46, .aload_n 1, 1, 0, 0, 0), (47, .getfield 143, 3, 6, 15, 17), (50, .if_icmp .le 8, 3, 31, 0, 0), (53, .aload_n 1, 1, 0, 0, 0), (54, .aload_n 3, 1, 0, 0, 0), (55, .invokevirtual 343, 3, 89, 0, 63), (58, .aload_n 0, 1, 0, 0, 0),
  (59, .bipush 6, 2, 0, 0, 0), (61, .aload_n 2, 1, 0, 0, 0), (62, .aload_n 1, 1, 0, 0, 0), (63, .getfield 74, 3, 6, 5, 10), (66, .iconst 1, 1, 0, 0, 0), (67, .aload_n 2, 1, 0, 0, 0), (68, .getfield 203, 3, 3, 6, 23), (71, .invokevirtual 317, 3, 41, 0, 57),
  (74, .return_, 1, 0, 0, 0)]
set_option maxRecDepth 100000 in
noncomputable def rw_37 : List PRow := [
  (0, .aload_n 1, 1, 0, 0, 0), (1, .getfield 71, 3, 6, 12, 9), (4, .iconst 3, 1, 0, 0, 0), (5, .if_icmp .ne 14, 3, 9, 0, 0), (8, .aload_n 2, 1, 0, 0, 0), (9, .getfield 280, 3, 3, 4, 40), (12, .aload_n 1, 1, 0, 0, 0), (13, .getfield 74, 3, 6, 5, 10),
  (16, .if_icmp .eq 4, 3, 10, 0, 0), (19, .return_, 1, 0, 0, 0), (20, .aload_n 2, 1, 0, 0, 0), (21, .getfield 314, 3, 3, 5, 42), (24, .ifCond .ne 40, 3, 34, 0, 0), (27, .aload_n 1, 1, 0, 0, 0), (28, .getfield 212, 3, 6, 2, 25), (31, .aload_n 2, 1, 0, 0, 0),
  (32, .getfield 271, 3, 3, 2, 38), (35, .aload_n 2, 1, 0, 0, 0), (36, .getfield 203, 3, 3, 6, 23), (39, .aload_n 1, 1, 0, 0, 0), (40, .getfield 346, 3, 6, 3, 44), (43, .aload_n 2, 1, 0, 0, 0), (44, .getfield 271, 3, 3, 2, 38), (47, .iaload, 1, 0, 0, 0),
  (48, .invokestatic 349, 3, 2, 0, 64), (51, .iconst 1, 1, 0, 0, 0), (52, .iadd, 1, 0, 0, 0), (53, .iastore, 1, 0, 0, 0), (54, .aload_n 0, 1, 0, 0, 0), (55, .aload_n 1, 1, 0, 0, 0), (56, .aload_n 2, 1, 0, 0, 0), (57, .getfield 271, 3, 3, 2, 38),
  (60, .invokevirtual 209, 3, 37, 0, 40), (63, .return_, 1, 0, 0, 0), (64, .aload_n 1, 1, 0, 0, 0), (65, .aload_n 2, 1, 0, 0, 0), (66, .getfield 271, 3, 3, 2, 38), (69, .aload_n 2, 1, 0, 0, 0), (70, .getfield 203, 3, 3, 6, 23), (73, .invokevirtual 352, 3, 99, 0, 65),
  (76, .aload_n 0, 1, 0, 0, 0), (77, .aload_n 1, 1, 0, 0, 0), (78, .invokevirtual 181, 3, 38, 0, 35), (81, .aload_n 1, 1, 0, 0, 0), (82, .getfield 71, 3, 6, 12, 9), (85, .iconst 3, 1, 0, 0, 0), (86, .if_icmp .ne 28, 3, 60, 0, 0), (89, .aload_n 1, 1, 0, 0, 0),
  (90, .getfield 212, 3, 6, 2, 25), (93, .aload_n 2, 1, 0, 0, 0), (94, .getfield 271, 3, 3, 2, 38), (97, .iaload, 1, 0, 0, 0), (98, .aload_n 1, 1, 0, 0, 0), (99, .invokevirtual 99, 3, 72, 0, 18), (102, .if_icmp .gt 12, 3, 60, 0, 0), (105, .aload_n 0, 1, 0, 0, 0),
  (106, .aload_n 1, 1, 0, 0, 0), (107, .aload_n 2, 1, 0, 0, 0), (108, .getfield 271, 3, 3, 2, 38), (111, .invokevirtual 209, 3, 37, 0, 40), (114, .return_, 1, 0, 0, 0)]
set_option maxRecDepth 100000 in
noncomputable def rw_38 : List PRow := [
  (0, .aload_n 2, 1, 0, 0, 0), (1, .getfield 280, 3, 3, 4, 40), (4, .aload_n 1, 1, 0, 0, 0), (5, .getfield 74, 3, 6, 5, 10), (8, .if_icmp .ne 31, 3, 18, 0, 0), (11, .aload_n 1, 1, 0, 0, 0), (12, .getfield 71, 3, 6, 12, 9), (15, .iconst 3, 1, 0, 0, 0),
  (16, .if_icmp .eq 23, 3, 18, 0, 0), (19, .aload_n 1, 1, 0, 0, 0), (20, .invokevirtual 153, 3, 77, 0, 28), (23, .ifCond .eq 16, 3, 18, 0, 0), (26, .aload_n 1, 1, 0, 0, 0), (27, .getfield 184, 3, 6, 8, 21), (30, .bipush 48, 2, 0, 0, 0), (32, .if_icmp .ge 7, 3, 18, 0, 0),
  (35, .iconst 1, 1, 0, 0, 0), (36, .goto 4, 3, 19, 0, 0), (39, .iconst 0, 1, 0, 0, 0), (40, .ireturn, 1, 0, 0, 0)]
set_option maxRecDepth 100000 in
noncomputable def rw_39 : List PRow := [
  (0, .aload_n 0, 1, 0, 0, 0), (1, .invokespecial 3, 3, 0, 1, 66), (4, .aload_n 0, 1, 0, 0, 0), (5, .iload_n 1, 1, 0, 0, 0), (6, .putfield 9, 3, 2, 0, 45), (9, .aload_n 0, 1, 0, 0, 0), (10, .iload_n 2, 1, 0, 0, 0), (11, .putfield 15, 3, 2, 1, 46),
  (14, .aload_n 0, 1, 0, 0, 0), (15, .aload_n 3, 1, 0, 0, 0), (16, .putfield 18, 3, 2, 2, 47), (19, .aload_n 0, 1, 0, 0, 0), (20, .iload 4, 2, 0, 0, 0), (22, .putfield 22, 3, 2, 3, 48), (25, .return_, 1, 0, 0, 0)]
set_option maxRecDepth 100000 in
noncomputable def rw_40 : List PRow := [
  (0, .aload_n 0, 1, 0, 0, 0), (1, .getfield 18, 3, 2, 2, 47), (4, .ifnull 11, 3, 7, 0, 0), (7, .aload_n 0, 1, 0, 0, 0), (8, .getfield 18, 3, 2, 2, 47), (11, .getfield 25, 3, 5, 5, 49), (14, .ireturn, 1, 0, 0, 0), (15, .aload_n 0, 1, 0, 0, 0),
  (16, .getfield 15, 3, 2, 1, 46), (19, .iconst 4, 1, 0, 0, 0), (20, .if_icmp .ne 13, 3, 15, 0, 0), (23, .aload_n 0, 1, 0, 0, 0), (24, .getfield 22, 3, 2, 3, 48), (27, .invokestatic 30, 3, 389, 0, 67), (30, .goto 4, 3, 16, 0, 0), (33, .iconst 0, 1, 0, 0, 0),
  (34, .ireturn, 1, 0, 0, 0)]
set_option maxRecDepth 100000 in
noncomputable def rw_41 : List PRow := [
  (0, .aload_n 0, 1, 0, 0, 0), (1, .getfield 18, 3, 2, 2, 47), (4, .ifnonnull 7, 3, 5, 0, 0), (7, .iconst (-1), 1, 0, 0, 0), (8, .goto 10, 3, 8, 0, 0), (11, .aload_n 0, 1, 0, 0, 0), (12, .getfield 18, 3, 2, 2, 47), (15, .getfield 36, 3, 5, 0, 50),
  (18, .ireturn, 1, 0, 0, 0)]
set_option maxRecDepth 100000 in
noncomputable def rw_42 : List PRow := [
  (0, .aload_n 0, 1, 0, 0, 0), (1, .getfield 18, 3, 2, 2, 47), (4, .ifnonnull 7, 3, 5, 0, 0), (7, .iconst 0, 1, 0, 0, 0), (8, .goto 10, 3, 8, 0, 0), (11, .aload_n 0, 1, 0, 0, 0), (12, .getfield 18, 3, 2, 2, 47), (15, .getfield 39, 3, 5, 1, 51),
  (18, .ireturn, 1, 0, 0, 0)]
set_option maxRecDepth 100000 in
noncomputable def rw_43 : List PRow := [
  (0, .aload_n 0, 1, 0, 0, 0), (1, .invokespecial 3, 3, 0, 1, 68), (4, .aload_n 0, 1, 0, 0, 0), (5, .iconst 4, 1, 0, 0, 0), (6, .anewarray 9, 3, 16, 0, 7), (9, .putfield 11, 3, 3, 0, 52), (12, .return_, 1, 0, 0, 0)]
set_option maxRecDepth 100000 in
noncomputable def rw_44 : List PRow := [
  (0, .aload_n 0, 1, 0, 0, 0), (1, .aload_n 1, 1, 0, 0, 0), (2, .getfield 17, 3, 3, 1, 53), (5, .putfield 17, 3, 3, 1, 53), (8, .aload_n 0, 1, 0, 0, 0), (9, .aload_n 1, 1, 0, 0, 0), (10, .getfield 21, 3, 3, 2, 54), (13, .putfield 21, 3, 3, 2, 54),
  (16, .aload_n 0, 1, 0, 0, 0), (17, .aload_n 1, 1, 0, 0, 0), (18, .getfield 24, 3, 3, 3, 55), (21, .putfield 24, 3, 3, 3, 55), (24, .aload_n 0, 1, 0, 0, 0), (25, .aload_n 1, 1, 0, 0, 0), (26, .getfield 27, 3, 3, 4, 56), (29, .putfield 27, 3, 3, 4, 56),
  (32, .aload_n 0, 1, 0, 0, 0), (33, .aload_n 1, 1, 0, 0, 0), (34, .getfield 30, 3, 3, 5, 57), (37, .putfield 30, 3, 3, 5, 57), (40, .aload_n 0, 1, 0, 0, 0), (41, .aload_n 1, 1, 0, 0, 0), (42, .getfield 34, 3, 3, 6, 58), (45, .putfield 34, 3, 3, 6, 58),
  (48, .aload_n 0, 1, 0, 0, 0), (49, .aload_n 1, 1, 0, 0, 0), (50, .getfield 37, 3, 3, 7, 59), (53, .putfield 37, 3, 3, 7, 59), (56, .aload_n 0, 1, 0, 0, 0), (57, .aload_n 1, 1, 0, 0, 0), (58, .getfield 40, 3, 3, 8, 60), (61, .putfield 40, 3, 3, 8, 60),
  (64, .aload_n 0, 1, 0, 0, 0), (65, .aload_n 1, 1, 0, 0, 0), (66, .getfield 43, 3, 3, 9, 61), (69, .putfield 43, 3, 3, 9, 61), (72, .aload_n 0, 1, 0, 0, 0), (73, .aload_n 1, 1, 0, 0, 0), (74, .getfield 46, 3, 3, 10, 62), (77, .putfield 46, 3, 3, 10, 62),
  (80, .iconst 0, 1, 0, 0, 0), (81, .istore_n 2, 1, 0, 0, 0), (82, .iload_n 2, 1, 0, 0, 0), (83, .iconst 4, 1, 0, 0, 0), (84, .if_icmp .ge 21, 3, 55, 0, 0), (87, .aload_n 0, 1, 0, 0, 0), (88, .getfield 11, 3, 3, 0, 52), (91, .iload_n 2, 1, 0, 0, 0),
  (92, .aload_n 1, 1, 0, 0, 0), (93, .getfield 11, 3, 3, 0, 52), (96, .iload_n 2, 1, 0, 0, 0), (97, .aaload, 1, 0, 0, 0), (98, .aastore, 1, 0, 0, 0), (99, .iinc 2 1, 3, 0, 0, 0), (102, .goto (-20), 3, 42, 0, 0), (105, .return_, 1, 0, 0, 0)]
set_option maxRecDepth 100000 in
noncomputable def rw_45 : List PRow := [
  (0, .aload_n 0, 1, 0, 0, 0), (1, .getfield 17, 3, 3, 1, 53), (4, .iconst 2, 1, 0, 0, 0), (5, .if_icmp .eq 11, 3, 8, 0, 0), (8, .aload_n 0, 1, 0, 0, 0), (9, .getfield 17, 3, 3, 1, 53), (12, .iconst 4, 1, 0, 0, 0), (13, .if_icmp .ne 16, 3, 15, 0, 0),
  (16, .aload_n 0, 1, 0, 0, 0), (17, .getfield 30, 3, 3, 5, 57), (20, .ifCond .eq 7, 3, 13, 0, 0), (23, .iconst 1, 1, 0, 0, 0), (24, .goto 4, 3, 14, 0, 0), (27, .iconst 0, 1, 0, 0, 0), (28, .ireturn, 1, 0, 0, 0), (29, .aload_n 0, 1, 0, 0, 0),
  (30, .getfield 34, 3, 3, 6, 58), (33, .aload_n 0, 1, 0, 0, 0), (34, .getfield 43, 3, 3, 9, 61), (37, .iadd, 1, 0, 0, 0), (38, .ireturn, 1, 0, 0, 0)]
set_option maxRecDepth 100000 in
noncomputable def rw_46 : List PRow := [
  (0, .aload_n 0, 1, 0, 0, 0), (1, .getfield 17, 3, 3, 1, 53), (4, .iconst 1, 1, 0, 0, 0), (5, .if_icmp .eq 22, 3, 13, 0, 0), (8, .aload_n 0, 1, 0, 0, 0), (9, .getfield 17, 3, 3, 1, 53), (12, .iconst 2, 1, 0, 0, 0), (13, .if_icmp .ne 10, 3, 11, 0, 0),
  (16, .aload_n 0, 1, 0, 0, 0), (17, .getfield 30, 3, 3, 5, 57), (20, .ifCond .ne 7, 3, 13, 0, 0), (23, .iconst 1, 1, 0, 0, 0), (24, .goto 4, 3, 14, 0, 0), (27, .iconst 0, 1, 0, 0, 0), (28, .ireturn, 1, 0, 0, 0)]
set_option maxRecDepth 100000 in
noncomputable def rw_47 : List PRow := [
  (0, .aload_n 0, 1, 0, 0, 0), (1, .invokespecial 3, 3, 0, 1, 69), (4, .aload_n 0, 1, 0, 0, 0), (5, .bipush 60, 2, 0, 0, 0), (7, .anewarray 9, 3, 17, 0, 8), (10, .putfield 11, 3, 4, 0, 63), (13, .aload_n 0, 1, 0, 0, 0), (14, .bipush 7, 2, 0, 0, 0),
  (16, .newarray .int, 2, 0, 0, 0), (18, .putfield 17, 3, 4, 1, 64), (21, .aload_n 0, 1, 0, 0, 0), (22, .new 9, 3, 3, 0, 9), (25, .dup, 1, 0, 0, 0), (26, .invokespecial 21, 3, 53, 1, 70), (29, .putfield 22, 3, 4, 2, 65), (32, .iconst 0, 1, 0, 0, 0),
  (33, .istore_n 1, 1, 0, 0, 0), (34, .iload_n 1, 1, 0, 0, 0), (35, .bipush 60, 2, 0, 0, 0), (37, .if_icmp .ge 22, 3, 29, 0, 0), (40, .aload_n 0, 1, 0, 0, 0), (41, .getfield 11, 3, 4, 0, 63), (44, .iload_n 1, 1, 0, 0, 0), (45, .new 9, 3, 3, 0, 9),
  (48, .dup, 1, 0, 0, 0), (49, .invokespecial 21, 3, 53, 1, 70), (52, .aastore, 1, 0, 0, 0), (53, .iinc 1 1, 3, 0, 0, 0), (56, .goto (-22), 3, 17, 0, 0), (59, .return_, 1, 0, 0, 0)]
set_option maxRecDepth 100000 in
noncomputable def rw_48 : List PRow := [
  (0, .aload_n 0, 1, 0, 0, 0), (1, .getfield 17, 3, 4, 1, 64), (4, .iconst 0, 1, 0, 0, 0), (5, .invokestatic 26, 3, 390, 0, 71), (8, .aload_n 0, 1, 0, 0, 0), (9, .iconst 0, 1, 0, 0, 0), (10, .putfield 32, 3, 4, 3, 66), (13, .aload_n 0, 1, 0, 0, 0),
  (14, .iconst 0, 1, 0, 0, 0), (15, .putfield 36, 3, 4, 4, 67), (18, .aload_n 0, 1, 0, 0, 0), (19, .iconst 0, 1, 0, 0, 0), (20, .putfield 39, 3, 4, 5, 68), (23, .return_, 1, 0, 0, 0)]
set_option maxRecDepth 100000 in
noncomputable def rw_49 : List PRow := [
  (0, .aload_n 1, 1, 0, 0, 0), (1, .getfield 17, 3, 4, 1, 64), (4, .iconst 0, 1, 0, 0, 0), (5, .aload_n 0, 1, 0, 0, 0), (6, .getfield 17, 3, 4, 1, 64), (9, .iconst 0, 1, 0, 0, 0), (10, .bipush 7, 2, 0, 0, 0), (12, .invokestatic 42, 3, 1, 0, 72),
  (15, .iconst 0, 1, 0, 0, 0), (16, .istore_n 2, 1, 0, 0, 0), (17, .iload_n 2, 1, 0, 0, 0), (18, .aload_n 1, 1, 0, 0, 0), (19, .getfield 32, 3, 4, 3, 66), (22, .if_icmp .ge 24, 3, 25, 0, 0), (25, .aload_n 0, 1, 0, 0, 0), (26, .getfield 11, 3, 4, 0, 63),
  (29, .iload_n 2, 1, 0, 0, 0), (30, .aaload, 1, 0, 0, 0), (31, .aload_n 1, 1, 0, 0, 0), (32, .getfield 11, 3, 4, 0, 63), (35, .iload_n 2, 1, 0, 0, 0), (36, .aaload, 1, 0, 0, 0), (37, .invokevirtual 48, 3, 54, 0, 73), (40, .iinc 2 1, 3, 0, 0, 0),
  (43, .goto (-26), 3, 10, 0, 0), (46, .aload_n 0, 1, 0, 0, 0), (47, .aload_n 1, 1, 0, 0, 0), (48, .getfield 32, 3, 4, 3, 66), (51, .putfield 32, 3, 4, 3, 66), (54, .aload_n 0, 1, 0, 0, 0), (55, .aload_n 1, 1, 0, 0, 0), (56, .getfield 36, 3, 4, 4, 67),
  (59, .putfield 36, 3, 4, 4, 67), (62, .aload_n 0, 1, 0, 0, 0), (63, .aload_n 1, 1, 0, 0, 0), (64, .getfield 39, 3, 4, 5, 68), (67, .putfield 39, 3, 4, 5, 68), (70, .return_, 1, 0, 0, 0)]
set_option maxRecDepth 100000 in
noncomputable def rw_50 : List PRow := [
  (0, .aload_n 0, 1, 0, 0, 0), (1, .getfield 17, 3, 4, 1, 64), (4, .iload_n 1, 1, 0, 0, 0), (5, .iaload, 1, 0, 0, 0), (6, .iload_n 2, 1, 0, 0, 0), (7, .ishr, 1, 0, 0, 0), (8, .iconst 1, 1, 0, 0, 0), (9, .iand, 1, 0, 0, 0),
  (10, .iconst 1, 1, 0, 0, 0), (11, .if_icmp .ne 7, 3, 12, 0, 0), (14, .iconst 1, 1, 0, 0, 0), (15, .goto 4, 3, 13, 0, 0), (18, .iconst 0, 1, 0, 0, 0), (19, .ireturn, 1, 0, 0, 0)]
set_option maxRecDepth 100000 in
noncomputable def rw_51 : List PRow := [
  (0, .aload_n 0, 1, 0, 0, 0), (1, .getfield 17, 3, 4, 1, 64), (4, .iload_n 1, 1, 0, 0, 0), (5, .dup2, 1, 0, 0, 0), (6, .iaload, 1, 0, 0, 0), (7, .iconst 1, 1, 0, 0, 0), (8, .iload_n 2, 1, 0, 0, 0), (9, .ishl, 1, 0, 0, 0),
  (10, .ixor, 1, 0, 0, 0), (11, .iastore, 1, 0, 0, 0), (12, .aload_n 0, 1, 0, 0, 0), (13, .getfield 17, 3, 4, 1, 64), (16, .iload_n 2, 1, 0, 0, 0), (17, .dup2, 1, 0, 0, 0), (18, .iaload, 1, 0, 0, 0), (19, .iconst 1, 1, 0, 0, 0),
  (20, .iload_n 1, 1, 0, 0, 0), (21, .ishl, 1, 0, 0, 0), (22, .ixor, 1, 0, 0, 0), (23, .iastore, 1, 0, 0, 0), (24, .aload_n 0, 1, 0, 0, 0), (25, .dup, 1, 0, 0, 0), (26, .getfield 36, 3, 4, 4, 67), (29, .aload_n 0, 1, 0, 0, 0),
  (30, .iload_n 1, 1, 0, 0, 0), (31, .iload_n 2, 1, 0, 0, 0), (32, .invokevirtual 52, 3, 60, 0, 74), (35, .ifCond .eq 7, 3, 30, 0, 0), (38, .iconst 1, 1, 0, 0, 0), (39, .goto 4, 3, 31, 0, 0), (42, .iconst (-1), 1, 0, 0, 0), (43, .iadd, 1, 0, 0, 0),
  (44, .putfield 36, 3, 4, 4, 67), (47, .aload_n 0, 1, 0, 0, 0), (48, .getfield 36, 3, 4, 4, 67), (51, .ireturn, 1, 0, 0, 0)]
set_option maxRecDepth 100000 in
noncomputable def rw_52 : List PRow := [
  (0, .aload_n 0, 1, 0, 0, 0), (1, .getfield 32, 3, 4, 3, 66), (4, .bipush 60, 2, 0, 0, 0), (6, .if_icmp .lt 15, 3, 12, 0, 0), (9, .aload_n 0, 1, 0, 0, 0), (10, .dup, 1, 0, 0, 0), (11, .getfield 39, 3, 4, 5, 68), (14, .iconst 1, 1, 0, 0, 0),
  (15, .iadd, 1, 0, 0, 0), (16, .putfield 39, 3, 4, 5, 68), (19, .aconst_null, 1, 0, 0, 0), (20, .areturn, 1, 0, 0, 0), (21, .aload_n 0, 1, 0, 0, 0), (22, .getfield 11, 3, 4, 0, 63), (25, .aload_n 0, 1, 0, 0, 0), (26, .getfield 32, 3, 4, 3, 66),
  (29, .aaload, 1, 0, 0, 0), (30, .astore 5, 2, 0, 0, 0), (32, .aload_n 0, 1, 0, 0, 0), (33, .dup, 1, 0, 0, 0), (34, .getfield 32, 3, 4, 3, 66), (37, .iconst 1, 1, 0, 0, 0), (38, .iadd, 1, 0, 0, 0), (39, .putfield 32, 3, 4, 3, 66),
  (42, .aload 5, 2, 0, 0, 0), (44, .iload_n 1, 1, 0, 0, 0), (45, .putfield 56, 3, 3, 1, 69), (48, .aload 5, 2, 0, 0, 0), (50, .iload_n 2, 1, 0, 0, 0), (51, .putfield 59, 3, 3, 2, 70), (54, .aload 5, 2, 0, 0, 0), (56, .iload_n 3, 1, 0, 0, 0),
  (57, .putfield 62, 3, 3, 3, 71), (60, .aload 5, 2, 0, 0, 0), (62, .iload 4, 2, 0, 0, 0), (64, .putfield 65, 3, 3, 4, 72), (67, .aload 5, 2, 0, 0, 0), (69, .iconst 0, 1, 0, 0, 0), (70, .putfield 68, 3, 3, 5, 73), (73, .aload 5, 2, 0, 0, 0),
  (75, .iconst 0, 1, 0, 0, 0), (76, .putfield 72, 3, 3, 6, 74), (79, .aload 5, 2, 0, 0, 0), (81, .iconst 0, 1, 0, 0, 0), (82, .putfield 75, 3, 3, 7, 75), (85, .aload 5, 2, 0, 0, 0), (87, .iconst 0, 1, 0, 0, 0), (88, .putfield 78, 3, 3, 8, 76),
  (91, .aload 5, 2, 0, 0, 0), (93, .iconst 0, 1, 0, 0, 0), (94, .putfield 81, 3, 3, 9, 77), (97, .aload 5, 2, 0, 0, 0), (99, .aconst_null, 1, 0, 0, 0), (100, .putfield 82, 3, 3, 10, 78), (103, .aload 5, 2, 0, 0, 0), (105, .areturn, 1, 0, 0, 0)]
set_option maxRecDepth 100000 in
noncomputable def rw_53 : List PRow := [
  (0, .aload_n 0, 1, 0, 0, 0), (1, .getfield 32, 3, 4, 3, 66), (4, .bipush 60, 2, 0, 0, 0), (6, .if_icmp .ge 39, 3, 24, 0, 0), (9, .iload_n 1, 1, 0, 0, 0), (10, .aload_n 0, 1, 0, 0, 0), (11, .getfield 32, 3, 4, 3, 66), (14, .if_icmp .ge 31, 3, 24, 0, 0),
  (17, .aload_n 0, 1, 0, 0, 0), (18, .getfield 11, 3, 4, 0, 63), (21, .aload_n 0, 1, 0, 0, 0), (22, .getfield 32, 3, 4, 3, 66), (25, .aaload, 1, 0, 0, 0), (26, .aload_n 0, 1, 0, 0, 0), (27, .getfield 11, 3, 4, 0, 63), (30, .iload_n 1, 1, 0, 0, 0),
  (31, .aaload, 1, 0, 0, 0), (32, .invokevirtual 48, 3, 54, 0, 73), (35, .aload_n 0, 1, 0, 0, 0), (36, .dup, 1, 0, 0, 0), (37, .getfield 32, 3, 4, 3, 66), (40, .iconst 1, 1, 0, 0, 0), (41, .iadd, 1, 0, 0, 0), (42, .putfield 32, 3, 4, 3, 66),
  (45, .aload_n 0, 1, 0, 0, 0), (46, .getfield 32, 3, 4, 3, 66), (49, .ireturn, 1, 0, 0, 0)]
set_option maxRecDepth 100000 in
noncomputable def rw_54 : List PRow := [
  (0, .aload_n 0, 1, 0, 0, 0), (1, .getfield 11, 3, 4, 0, 63), (4, .iload_n 1, 1, 0, 0, 0), (5, .aaload, 1, 0, 0, 0), (6, .astore_n 2, 1, 0, 0, 0), (7, .iload_n 1, 1, 0, 0, 0), (8, .iconst 1, 1, 0, 0, 0), (9, .iadd, 1, 0, 0, 0),
  (10, .istore_n 3, 1, 0, 0, 0), (11, .iload_n 3, 1, 0, 0, 0), (12, .aload_n 0, 1, 0, 0, 0), (13, .getfield 32, 3, 4, 3, 66), (16, .if_icmp .ge 23, 3, 25, 0, 0), (19, .aload_n 0, 1, 0, 0, 0), (20, .getfield 11, 3, 4, 0, 63), (23, .iload_n 3, 1, 0, 0, 0),
  (24, .iconst 1, 1, 0, 0, 0), (25, .isub, 1, 0, 0, 0), (26, .aload_n 0, 1, 0, 0, 0), (27, .getfield 11, 3, 4, 0, 63), (30, .iload_n 3, 1, 0, 0, 0), (31, .aaload, 1, 0, 0, 0), (32, .aastore, 1, 0, 0, 0), (33, .iinc 3 1, 3, 0, 0, 0),
  (36, .goto (-25), 3, 9, 0, 0), (39, .aload_n 0, 1, 0, 0, 0), (40, .dup, 1, 0, 0, 0), (41, .getfield 32, 3, 4, 3, 66), (44, .iconst 1, 1, 0, 0, 0), (45, .isub, 1, 0, 0, 0), (46, .putfield 32, 3, 4, 3, 66), (49, .aload_n 0, 1, 0, 0, 0),
  (50, .getfield 11, 3, 4, 0, 63), (53, .aload_n 0, 1, 0, 0, 0), (54, .getfield 32, 3, 4, 3, 66), (57, .aload_n 0, 1, 0, 0, 0), (58, .getfield 22, 3, 4, 2, 65), (61, .aastore, 1, 0, 0, 0), (62, .aload_n 0, 1, 0, 0, 0), (63, .aload_n 2, 1, 0, 0, 0),
  (64, .putfield 22, 3, 4, 2, 65), (67, .aload_n 2, 1, 0, 0, 0), (68, .areturn, 1, 0, 0, 0)]
set_option maxRecDepth 100000 in
noncomputable def rw_55 : List PRow := [
  (0, .aload_n 0, 1, 0, 0, 0), (1, .invokespecial 1, 3, 0, 1, 75), (4, .aload_n 0, 1, 0, 0, 0), (5, .iload_n 1, 1, 0, 0, 0), (6, .putfield 7, 3, 5, 0, 79), (9, .aload_n 0, 1, 0, 0, 0), (10, .iload_n 2, 1, 0, 0, 0), (11, .putfield 13, 3, 5, 1, 80),
  (14, .aload_n 0, 1, 0, 0, 0), (15, .iload_n 3, 1, 0, 0, 0), (16, .putfield 16, 3, 5, 2, 81), (19, .aload_n 0, 1, 0, 0, 0), (20, .iload 4, 2, 0, 0, 0), (22, .putfield 19, 3, 5, 3, 82), (25, .aload_n 0, 1, 0, 0, 0), (26, .iload 5, 2, 0, 0, 0),
  (28, .putfield 22, 3, 5, 4, 83), (31, .aload_n 0, 1, 0, 0, 0), (32, .iload 6, 2, 0, 0, 0), (34, .putfield 25, 3, 5, 5, 84), (37, .return_, 1, 0, 0, 0)]
set_option maxRecDepth 100000 in
noncomputable def rw_56 : List PRow := [
  (0, .aload_n 0, 1, 0, 0, 0), (1, .invokespecial 3, 3, 0, 1, 76), (4, .aload_n 0, 1, 0, 0, 0), (5, .new 9, 3, 8, 0, 10), (8, .dup, 1, 0, 0, 0), (9, .invokespecial 11, 3, 101, 1, 77), (12, .putfield 12, 3, 6, 1, 85), (15, .aload_n 0, 1, 0, 0, 0),
  (16, .bipush 7, 2, 0, 0, 0), (18, .newarray .int, 2, 0, 0, 0), (20, .putfield 18, 3, 6, 2, 86), (23, .aload_n 0, 1, 0, 0, 0), (24, .bipush 7, 2, 0, 0, 0), (26, .newarray .int, 2, 0, 0, 0), (28, .putfield 22, 3, 6, 3, 87), (31, .aload_n 0, 1, 0, 0, 0),
  (32, .bipush 64, 2, 0, 0, 0), (34, .anewarray 25, 3, 16, 0, 11), (37, .putfield 27, 3, 6, 7, 88), (40, .aload_n 0, 1, 0, 0, 0), (41, .iload_n 1, 1, 0, 0, 0), (42, .putfield 31, 3, 6, 0, 89), (45, .aload_n 0, 1, 0, 0, 0), (46, .aload_n 2, 1, 0, 0, 0),
  (47, .invokevirtual 35, 3, 67, 0, 78), (50, .return_, 1, 0, 0, 0)]
set_option maxRecDepth 100000 in
noncomputable def rw_57 : List PRow := [
  (0, .aload_n 0, 1, 0, 0, 0), (1, .iconst 1, 1, 0, 0, 0), (2, .putfield 39, 3, 6, 4, 90), (5, .aload_n 0, 1, 0, 0, 0), (6, .iconst 0, 1, 0, 0, 0), (7, .putfield 43, 3, 6, 5, 91), (10, .aload_n 0, 1, 0, 0, 0), (11, .iconst (-1), 1, 0, 0, 0),
  (12, .putfield 46, 3, 6, 6, 92), (15, .aload_n 0, 1, 0, 0, 0), (16, .iconst 0, 1, 0, 0, 0), (17, .putfield 49, 3, 6, 8, 93), (20, .aload_n 0, 1, 0, 0, 0), (21, .aload_n 1, 1, 0, 0, 0), (22, .putfield 52, 3, 6, 9, 94), (25, .aload_n 0, 1, 0, 0, 0),
  (26, .invokevirtual 56, 3, 86, 0, 79), (29, .aload_n 0, 1, 0, 0, 0), (30, .invokevirtual 59, 3, 68, 0, 80), (33, .return_, 1, 0, 0, 0)]
set_option maxRecDepth 100000 in
noncomputable def rw_58 : List PRow := [
  (0, .aload_n 0, 1, 0, 0, 0), (1, .iconst 0, 1, 0, 0, 0), (2, .putfield 62, 3, 6, 12, 95), (5, .aload_n 0, 1, 0, 0, 0), (6, .iconst (-1), 1, 0, 0, 0), (7, .putfield 65, 3, 6, 13, 96), (10, .aload_n 0, 1, 0, 0, 0), (11, .iconst 0, 1, 0, 0, 0),
  (12, .putfield 68, 3, 6, 14, 97), (15, .aload_n 0, 1, 0, 0, 0), (16, .aload_n 0, 1, 0, 0, 0), (17, .getfield 52, 3, 6, 9, 94), (20, .getfield 71, 3, 7, 0, 98), (23, .putfield 76, 3, 6, 15, 99), (26, .aload_n 0, 1, 0, 0, 0), (27, .getfield 12, 3, 6, 1, 85),
  (30, .aload_n 0, 1, 0, 0, 0), (31, .getfield 52, 3, 6, 9, 94), (34, .getfield 79, 3, 7, 3, 100), (37, .invokevirtual 80, 3, 102, 0, 81), (40, .return_, 1, 0, 0, 0)]
set_option maxRecDepth 100000 in
noncomputable def rw_59 : List PRow := [
  (0, .aload_n 0, 1, 0, 0, 0), (1, .iconst 0, 1, 0, 0, 0), (2, .putfield 39, 3, 6, 4, 90), (5, .aload_n 0, 1, 0, 0, 0), (6, .invokevirtual 59, 3, 68, 0, 80), (9, .return_, 1, 0, 0, 0)]
set_option maxRecDepth 100000 in
noncomputable def rw_60 : List PRow := [
  (0, .aload_n 0, 1, 0, 0, 0), (1, .getfield 12, 3, 6, 1, 85), (4, .aload_n 1, 1, 0, 0, 0), (5, .getfield 12, 3, 6, 1, 85), (8, .invokevirtual 80, 3, 102, 0, 81), (11, .aload_n 1, 1, 0, 0, 0), (12, .getfield 18, 3, 6, 2, 86), (15, .iconst 0, 1, 0, 0, 0),
  (16, .aload_n 0, 1, 0, 0, 0), (17, .getfield 18, 3, 6, 2, 86), (20, .iconst 0, 1, 0, 0, 0), (21, .bipush 7, 2, 0, 0, 0), (23, .invokestatic 84, 3, 1, 0, 82), (26, .aload_n 1, 1, 0, 0, 0), (27, .getfield 22, 3, 6, 3, 87), (30, .iconst 0, 1, 0, 0, 0),
  (31, .aload_n 0, 1, 0, 0, 0), (32, .getfield 22, 3, 6, 3, 87), (35, .iconst 0, 1, 0, 0, 0), (36, .bipush 7, 2, 0, 0, 0), (38, .invokestatic 84, 3, 1, 0, 82), (41, .aload_n 0, 1, 0, 0, 0), (42, .aload_n 1, 1, 0, 0, 0), (43, .getfield 39, 3, 6, 4, 90),
  (46, .putfield 39, 3, 6, 4, 90), (49, .aload_n 0, 1, 0, 0, 0), (50, .aload_n 1, 1, 0, 0, 0), (51, .getfield 43, 3, 6, 5, 91), (54, .putfield 43, 3, 6, 5, 91), (57, .aload_n 0, 1, 0, 0, 0), (58, .aload_n 1, 1, 0, 0, 0), (59, .getfield 46, 3, 6, 6, 92),
  (62, .putfield 46, 3, 6, 6, 92), (65, .aload_n 0, 1, 0, 0, 0), (66, .aload_n 1, 1, 0, 0, 0), (67, .getfield 52, 3, 6, 9, 94), (70, .putfield 52, 3, 6, 9, 94), (73, .aload_n 0, 1, 0, 0, 0), (74, .aload_n 1, 1, 0, 0, 0), (75, .getfield 62, 3, 6, 12, 95),
  (78, .putfield 62, 3, 6, 12, 95), (81, .aload_n 0, 1, 0, 0, 0), (82, .aload_n 1, 1, 0, 0, 0), (83, .getfield 65, 3, 6, 13, 96), (86, .putfield 65, 3, 6, 13, 96), (89, .aload_n 0, 1, 0, 0, 0), (90, .aload_n 1, 1, 0, 0, 0), (91, .getfield 68, 3, 6, 14, 97),
  (94, .putfield 68, 3, 6, 14, 97), (97, .aload_n 0, 1, 0, 0, 0), (98, .aload_n 1, 1, 0, 0, 0), (99, .getfield 76, 3, 6, 15, 99), (102, .putfield 76, 3, 6, 15, 99), (105, .aload_n 0, 1, 0, 0, 0), (106, .aload_n 1, 1, 0, 0, 0), (107, .getfield 90, 3, 6, 16, 101),
  (110, .putfield 90, 3, 6, 16, 101), (113, .aload_n 0, 1, 0, 0, 0), (114, .aload_n 1, 1, 0, 0, 0), (115, .getfield 93, 3, 6, 17, 102), (118, .putfield 93, 3, 6, 17, 102), (121, .aload_n 0, 1, 0, 0, 0), (122, .iconst 0, 1, 0, 0, 0), (123, .putfield 49, 3, 6, 8, 93),
  (126, .iconst 0, 1, 0, 0, 0), (127, .istore_n 2, 1, 0, 0, 0), (128, .iload_n 2, 1, 0, 0, 0), (129, .aload_n 1, 1, 0, 0, 0), (130, .getfield 49, 3, 6, 8, 93), (133, .if_icmp .ge 19, 3, 78, 0, 0), (136, .aload_n 0, 1, 0, 0, 0), (137, .aload_n 1, 1, 0, 0, 0),
  (138, .getfield 27, 3, 6, 7, 88), (141, .iload_n 2, 1, 0, 0, 0), (142, .aaload, 1, 0, 0, 0), (143, .invokevirtual 96, 3, 84, 0, 83), (146, .iinc 2 1, 3, 0, 0, 0), (149, .goto (-21), 3, 66, 0, 0), (152, .aload_n 0, 1, 0, 0, 0), (153, .aload_n 1, 1, 0, 0, 0),
  (154, .getfield 100, 3, 6, 10, 103), (157, .putfield 100, 3, 6, 10, 103), (160, .aload_n 0, 1, 0, 0, 0), (161, .aload_n 1, 1, 0, 0, 0), (162, .getfield 103, 3, 6, 11, 104), (165, .putfield 103, 3, 6, 11, 104), (168, .return_, 1, 0, 0, 0)]
set_option maxRecDepth 100000 in
noncomputable def rw_61 : List PRow := [
  (0, .bipush 6, 2, 0, 0, 0), (2, .iconst 3, 1, 0, 0, 0), (3, .aload_n 0, 1, 0, 0, 0), (4, .getfield 31, 3, 6, 0, 89), (7, .imul, 1, 0, 0, 0), (8, .iconst 5, 1, 0, 0, 0), (9, .aload_n 0, 1, 0, 0, 0), (10, .getfield 43, 3, 6, 5, 91),
  (13, .imul, 1, 0, 0, 0), (14, .iadd, 1, 0, 0, 0), (15, .bipush 7, 2, 0, 0, 0), (17, .irem, 1, 0, 0, 0), (18, .iadd, 1, 0, 0, 0), (19, .ireturn, 1, 0, 0, 0)]
set_option maxRecDepth 100000 in
noncomputable def rw_62 : List PRow := [
  (0, .aload_n 0, 1, 0, 0, 0), (1, .getfield 52, 3, 6, 9, 94), (4, .getfield 71, 3, 7, 0, 98), (7, .aload_n 0, 1, 0, 0, 0), (8, .getfield 49, 3, 6, 8, 93), (11, .iadd, 1, 0, 0, 0), (12, .ireturn, 1, 0, 0, 0)]
set_option maxRecDepth 100000 in
noncomputable def rw_63 : List PRow := [
  (0, .aload_n 0, 1, 0, 0, 0), (1, .getfield 49, 3, 6, 8, 93), (4, .ifCond .le 32, 3, 18, 0, 0), (7, .aload_n 0, 1, 0, 0, 0), (8, .getfield 49, 3, 6, 8, 93), (11, .aload_n 0, 1, 0, 0, 0), (12, .getfield 27, 3, 6, 7, 88), (15, .arraylength, 1, 0, 0, 0),
  (16, .if_icmp .gt 20, 3, 18, 0, 0), (19, .aload_n 0, 1, 0, 0, 0), (20, .getfield 27, 3, 6, 7, 88), (23, .aload_n 0, 1, 0, 0, 0), (24, .getfield 49, 3, 6, 8, 93), (27, .iconst 1, 1, 0, 0, 0), (28, .isub, 1, 0, 0, 0), (29, .aaload, 1, 0, 0, 0),
  (30, .getfield 106, 3, 2, 0, 105), (33, .goto 10, 3, 21, 0, 0), (36, .aload_n 0, 1, 0, 0, 0), (37, .getfield 52, 3, 6, 9, 94), (40, .getfield 107, 3, 7, 1, 106), (43, .ireturn, 1, 0, 0, 0)]
set_option maxRecDepth 100000 in
noncomputable def rw_64 : List PRow := [
  (0, .iload_n 1, 1, 0, 0, 0), (1, .aload_n 0, 1, 0, 0, 0), (2, .getfield 52, 3, 6, 9, 94), (5, .getfield 71, 3, 7, 0, 98), (8, .if_icmp .le 19, 3, 13, 0, 0), (11, .iload_n 1, 1, 0, 0, 0), (12, .aload_n 0, 1, 0, 0, 0), (13, .getfield 52, 3, 6, 9, 94),
  (16, .getfield 71, 3, 7, 0, 98), (19, .aload_n 0, 1, 0, 0, 0), (20, .getfield 49, 3, 6, 8, 93), (23, .iadd, 1, 0, 0, 0), (24, .if_icmp .le 5, 3, 15, 0, 0), (27, .aconst_null, 1, 0, 0, 0), (28, .areturn, 1, 0, 0, 0), (29, .aload_n 0, 1, 0, 0, 0),
  (30, .getfield 27, 3, 6, 7, 88), (33, .iload_n 1, 1, 0, 0, 0), (34, .aload_n 0, 1, 0, 0, 0), (35, .getfield 52, 3, 6, 9, 94), (38, .getfield 71, 3, 7, 0, 98), (41, .isub, 1, 0, 0, 0), (42, .iconst 1, 1, 0, 0, 0), (43, .isub, 1, 0, 0, 0),
  (44, .aaload, 1, 0, 0, 0), (45, .areturn, 1, 0, 0, 0)]
set_option maxRecDepth 100000 in
noncomputable def rw_65 : List PRow := [
  (0, .iload_n 1, 1, 0, 0, 0), (1, .aload_n 0, 1, 0, 0, 0), (2, .getfield 52, 3, 6, 9, 94), (5, .getfield 71, 3, 7, 0, 98), (8, .if_icmp .lt 19, 3, 13, 0, 0), (11, .iload_n 1, 1, 0, 0, 0), (12, .aload_n 0, 1, 0, 0, 0), (13, .getfield 52, 3, 6, 9, 94),
  (16, .getfield 71, 3, 7, 0, 98), (19, .aload_n 0, 1, 0, 0, 0), (20, .getfield 49, 3, 6, 8, 93), (23, .iadd, 1, 0, 0, 0), (24, .if_icmp .le 5, 3, 15, 0, 0), (27, .iconst (-1), 1, 0, 0, 0), (28, .ireturn, 1, 0, 0, 0), (29, .iload_n 1, 1, 0, 0, 0),
  (30, .aload_n 0, 1, 0, 0, 0), (31, .getfield 52, 3, 6, 9, 94), (34, .getfield 71, 3, 7, 0, 98), (37, .if_icmp .ne 13, 3, 24, 0, 0), (40, .aload_n 0, 1, 0, 0, 0), (41, .getfield 52, 3, 6, 9, 94), (44, .getfield 107, 3, 7, 1, 106), (47, .goto 22, 3, 35, 0, 0),
  (50, .aload_n 0, 1, 0, 0, 0), (51, .getfield 27, 3, 6, 7, 88), (54, .iload_n 1, 1, 0, 0, 0), (55, .aload_n 0, 1, 0, 0, 0), (56, .getfield 52, 3, 6, 9, 94), (59, .getfield 71, 3, 7, 0, 98), (62, .isub, 1, 0, 0, 0), (63, .iconst 1, 1, 0, 0, 0),
  (64, .isub, 1, 0, 0, 0), (65, .aaload, 1, 0, 0, 0), (66, .getfield 106, 3, 2, 0, 105), (69, .ireturn, 1, 0, 0, 0)]
set_option maxRecDepth 100000 in
noncomputable def rw_66 : List PRow := [
  (0, .aload_n 0, 1, 0, 0, 0), (1, .getfield 100, 3, 6, 10, 103), (4, .iload_n 1, 1, 0, 0, 0), (5, .ishr, 1, 0, 0, 0), (6, .iconst 1, 1, 0, 0, 0), (7, .iand, 1, 0, 0, 0), (8, .iconst 1, 1, 0, 0, 0), (9, .if_icmp .ne 7, 3, 10, 0, 0),
  (12, .iconst 1, 1, 0, 0, 0), (13, .goto 4, 3, 11, 0, 0), (16, .iconst 0, 1, 0, 0, 0), (17, .ireturn, 1, 0, 0, 0)]
set_option maxRecDepth 100000 in
noncomputable def rw_67 : List PRow := [
  (0, .aload_n 0, 1, 0, 0, 0), (1, .getfield 100, 3, 6, 10, 103), (4, .aload_n 0, 1, 0, 0, 0), (5, .getfield 31, 3, 6, 0, 89), (8, .ishr, 1, 0, 0, 0), (9, .iconst 1, 1, 0, 0, 0), (10, .iand, 1, 0, 0, 0), (11, .iconst 1, 1, 0, 0, 0),
  (12, .if_icmp .ne 7, 3, 11, 0, 0), (15, .iconst 1, 1, 0, 0, 0), (16, .goto 4, 3, 12, 0, 0), (19, .iconst 0, 1, 0, 0, 0), (20, .ireturn, 1, 0, 0, 0)]
set_option maxRecDepth 100000 in
noncomputable def rw_68 : List PRow := [
  (0, .iconst 2, 1, 0, 0, 0), (1, .aload_n 0, 1, 0, 0, 0), (2, .getfield 90, 3, 6, 16, 101), (5, .aload_n 0, 1, 0, 0, 0), (6, .getfield 100, 3, 6, 10, 103), (9, .iand, 1, 0, 0, 0), (10, .invokestatic 108, 3, 389, 0, 84), (13, .imul, 1, 0, 0, 0),
  (14, .aload_n 0, 1, 0, 0, 0), (15, .getfield 100, 3, 6, 10, 103), (18, .invokestatic 108, 3, 389, 0, 84), (21, .if_icmp .le 7, 3, 14, 0, 0), (24, .iconst 1, 1, 0, 0, 0), (25, .goto 4, 3, 15, 0, 0), (28, .iconst 0, 1, 0, 0, 0), (29, .ireturn, 1, 0, 0, 0)]
set_option maxRecDepth 100000 in
noncomputable def rw_69 : List PRow := [
  (0, .iconst 0, 1, 0, 0, 0), (1, .istore_n 2, 1, 0, 0, 0), (2, .iconst 0, 1, 0, 0, 0), (3, .istore_n 3, 1, 0, 0, 0), (4, .iconst 0, 1, 0, 0, 0), (5, .istore 4, 2, 0, 0, 0), (7, .iload 4, 2, 0, 0, 0), (9, .bipush 7, 2, 0, 0, 0),
  (11, .if_icmp .ge 53, 3, 36, 0, 0), (14, .aload_n 0, 1, 0, 0, 0), (15, .getfield 100, 3, 6, 10, 103), (18, .iload 4, 2, 0, 0, 0), (20, .ishr, 1, 0, 0, 0), (21, .iconst 1, 1, 0, 0, 0), (22, .iand, 1, 0, 0, 0), (23, .iconst 1, 1, 0, 0, 0),
  (24, .if_icmp .ne 34, 3, 34, 0, 0), (27, .iinc 2 1, 3, 0, 0, 0), (30, .iload_n 3, 1, 0, 0, 0), (31, .iload 4, 2, 0, 0, 0), (33, .aload_n 0, 1, 0, 0, 0), (34, .getfield 31, 3, 6, 0, 89), (37, .if_icmp .eq 14, 3, 29, 0, 0), (40, .aload_n 0, 1, 0, 0, 0),
  (41, .getfield 22, 3, 6, 3, 87), (44, .iload 4, 2, 0, 0, 0), (46, .iaload, 1, 0, 0, 0), (47, .iload_n 1, 1, 0, 0, 0), (48, .if_icmp .lt 7, 3, 31, 0, 0), (51, .iconst 1, 1, 0, 0, 0), (52, .goto 4, 3, 32, 0, 0), (55, .iconst 0, 1, 0, 0, 0),
  (56, .iadd, 1, 0, 0, 0), (57, .istore_n 3, 1, 0, 0, 0), (58, .iinc 4 1, 3, 0, 0, 0), (61, .goto (-54), 3, 6, 0, 0), (64, .iconst 2, 1, 0, 0, 0), (65, .iload_n 3, 1, 0, 0, 0), (66, .imul, 1, 0, 0, 0), (67, .iload_n 2, 1, 0, 0, 0),
  (68, .if_icmp .le 7, 3, 43, 0, 0), (71, .iconst 1, 1, 0, 0, 0), (72, .goto 4, 3, 44, 0, 0), (75, .iconst 0, 1, 0, 0, 0), (76, .ireturn, 1, 0, 0, 0)]
set_option maxRecDepth 100000 in
noncomputable def rw_70 : List PRow := [
  (0, .aload_n 0, 1, 0, 0, 0), (1, .getfield 39, 3, 6, 4, 90), (4, .ifCond .eq 22, 3, 12, 0, 0), (7, .aload_n 0, 1, 0, 0, 0), (8, .getfield 62, 3, 6, 12, 95), (11, .iconst 3, 1, 0, 0, 0), (12, .if_icmp .eq 14, 3, 12, 0, 0), (15, .aload_n 0, 1, 0, 0, 0),
  (16, .invokevirtual 114, 3, 77, 0, 85), (19, .ifCond .eq 7, 3, 12, 0, 0), (22, .iconst 1, 1, 0, 0, 0), (23, .goto 4, 3, 13, 0, 0), (26, .iconst 0, 1, 0, 0, 0), (27, .ireturn, 1, 0, 0, 0)]
set_option maxRecDepth 100000 in
noncomputable def rw_71 : List PRow := [
  (0, .aload_n 0, 1, 0, 0, 0), (1, .getfield 62, 3, 6, 12, 95), (4, .iconst 3, 1, 0, 0, 0), (5, .if_icmp .ne 42, 3, 22, 0, 0), (8, .aload_n 0, 1, 0, 0, 0), (9, .aload_n 0, 1, 0, 0, 0), (10, .getfield 76, 3, 6, 15, 99), (13, .invokevirtual 118, 3, 75, 0, 86),
  (16, .aload_n 0, 1, 0, 0, 0), (17, .getfield 43, 3, 6, 5, 91), (20, .if_icmp .ne 27, 3, 22, 0, 0), (23, .aload_n 0, 1, 0, 0, 0), (24, .getfield 103, 3, 6, 11, 104), (27, .aload_n 0, 1, 0, 0, 0), (28, .getfield 76, 3, 6, 15, 99), (31, .if_icmp .gt 16, 3, 22, 0, 0),
  (34, .aload_n 0, 1, 0, 0, 0), (35, .getfield 49, 3, 6, 8, 93), (38, .bipush 40, 2, 0, 0, 0), (40, .if_icmp .ge 7, 3, 22, 0, 0), (43, .iconst 1, 1, 0, 0, 0), (44, .goto 4, 3, 23, 0, 0), (47, .iconst 0, 1, 0, 0, 0), (48, .ireturn, 1, 0, 0, 0)]
set_option maxRecDepth 100000 in
noncomputable def rw_72 : List PRow := [
  (0, .aload_n 0, 1, 0, 0, 0), (1, .invokevirtual 121, 3, 73, 0, 87), (4, .istore_n 3, 1, 0, 0, 0), (5, .iload_n 1, 1, 0, 0, 0), (6, .iload_n 3, 1, 0, 0, 0), (7, .if_icmp .gt 16, 3, 13, 0, 0), (10, .iload_n 1, 1, 0, 0, 0), (11, .iload_n 3, 1, 0, 0, 0),
  (12, .if_icmp .ne 15, 3, 15, 0, 0), (15, .iload_n 2, 1, 0, 0, 0), (16, .aload_n 0, 1, 0, 0, 0), (17, .invokevirtual 125, 3, 72, 0, 88), (20, .if_icmp .lt 7, 3, 15, 0, 0), (23, .iconst 1, 1, 0, 0, 0), (24, .goto 4, 3, 16, 0, 0), (27, .iconst 0, 1, 0, 0, 0),
  (28, .ireturn, 1, 0, 0, 0)]
set_option maxRecDepth 100000 in
noncomputable def rw_73 : List PRow := [
  (0, .aload_n 0, 1, 0, 0, 0), (1, .invokevirtual 125, 3, 72, 0, 88), (4, .aload_n 1, 1, 0, 0, 0), (5, .invokevirtual 125, 3, 72, 0, 88), (8, .invokestatic 128, 3, 3, 0, 89), (11, .istore_n 2, 1, 0, 0, 0), (12, .aload_n 0, 1, 0, 0, 0), (13, .getfield 52, 3, 6, 9, 94),
  (16, .getfield 71, 3, 7, 0, 98), (19, .aload_n 1, 1, 0, 0, 0), (20, .getfield 52, 3, 6, 9, 94), (23, .getfield 71, 3, 7, 0, 98), (26, .invokestatic 134, 3, 2, 0, 90), (29, .istore_n 3, 1, 0, 0, 0), (30, .iload_n 2, 1, 0, 0, 0), (31, .iload_n 3, 1, 0, 0, 0),
  (32, .if_icmp .gt 5, 3, 19, 0, 0), (35, .iload_n 2, 1, 0, 0, 0), (36, .ireturn, 1, 0, 0, 0), (37, .iload_n 3, 1, 0, 0, 0), (38, .iload_n 2, 1, 0, 0, 0), (39, .if_icmp .ge 26, 3, 35, 0, 0), (42, .aload_n 0, 1, 0, 0, 0), (43, .iload_n 3, 1, 0, 0, 0),
  (44, .iconst 1, 1, 0, 0, 0), (45, .iadd, 1, 0, 0, 0), (46, .invokevirtual 118, 3, 75, 0, 86), (49, .aload_n 1, 1, 0, 0, 0), (50, .iload_n 3, 1, 0, 0, 0), (51, .iconst 1, 1, 0, 0, 0), (52, .iadd, 1, 0, 0, 0), (53, .invokevirtual 118, 3, 75, 0, 86),
  (56, .if_icmp .ne 9, 3, 35, 0, 0), (59, .iinc 3 1, 3, 0, 0, 0), (62, .goto (-25), 3, 19, 0, 0), (65, .iload_n 3, 1, 0, 0, 0), (66, .ireturn, 1, 0, 0, 0)]
set_option maxRecDepth 100000 in
noncomputable def rw_74 : List PRow := [
  (0, .aload_n 0, 1, 0, 0, 0), (1, .getfield 49, 3, 6, 8, 93), (4, .aload_n 0, 1, 0, 0, 0), (5, .getfield 27, 3, 6, 7, 88), (8, .arraylength, 1, 0, 0, 0), (9, .if_icmp .lt 7, 3, 8, 0, 0), (12, .aload_n 0, 1, 0, 0, 0), (13, .invokevirtual 137, 3, 85, 0, 91),
  (16, .aload_n 0, 1, 0, 0, 0), (17, .getfield 49, 3, 6, 8, 93), (20, .aload_n 0, 1, 0, 0, 0), (21, .getfield 27, 3, 6, 7, 88), (24, .arraylength, 1, 0, 0, 0), (25, .if_icmp .ge 23, 3, 26, 0, 0), (28, .aload_n 0, 1, 0, 0, 0), (29, .getfield 27, 3, 6, 7, 88),
  (32, .aload_n 0, 1, 0, 0, 0), (33, .getfield 49, 3, 6, 8, 93), (36, .aload_n 1, 1, 0, 0, 0), (37, .aastore, 1, 0, 0, 0), (38, .aload_n 0, 1, 0, 0, 0), (39, .dup, 1, 0, 0, 0), (40, .getfield 49, 3, 6, 8, 93), (43, .iconst 1, 1, 0, 0, 0),
  (44, .iadd, 1, 0, 0, 0), (45, .putfield 49, 3, 6, 8, 93), (48, .aload_n 1, 1, 0, 0, 0), (49, .getfield 140, 3, 2, 1, 107), (52, .iconst 4, 1, 0, 0, 0), (53, .if_icmp .ne 27, 3, 42, 0, 0), (56, .aload_n 0, 1, 0, 0, 0), (57, .aload_n 1, 1, 0, 0, 0),
  (58, .getfield 143, 3, 2, 3, 108), (61, .putfield 100, 3, 6, 10, 103), (64, .aload_n 0, 1, 0, 0, 0), (65, .aload_n 0, 1, 0, 0, 0), (66, .getfield 52, 3, 6, 9, 94), (69, .getfield 71, 3, 7, 0, 98), (72, .aload_n 0, 1, 0, 0, 0), (73, .getfield 49, 3, 6, 8, 93),
  (76, .iadd, 1, 0, 0, 0), (77, .putfield 103, 3, 6, 11, 104), (80, .return_, 1, 0, 0, 0)]
set_option maxRecDepth 100000 in
noncomputable def rw_75 : List PRow := [
  (0, .aload_n 0, 1, 0, 0, 0), (1, .getfield 27, 3, 6, 7, 88), (4, .arraylength, 1, 0, 0, 0), (5, .ldc 144, 2, 1048576, 0, 0), (7, .if_icmp .lt 4, 3, 6, 0, 0), (10, .return_, 1, 0, 0, 0), (11, .aload_n 0, 1, 0, 0, 0), (12, .getfield 27, 3, 6, 7, 88),
  (15, .arraylength, 1, 0, 0, 0), (16, .iconst 2, 1, 0, 0, 0), (17, .imul, 1, 0, 0, 0), (18, .anewarray 25, 3, 16, 0, 11), (21, .astore_n 1, 1, 0, 0, 0), (22, .iconst 0, 1, 0, 0, 0), (23, .istore_n 2, 1, 0, 0, 0), (24, .iload_n 2, 1, 0, 0, 0),
  (25, .aload_n 0, 1, 0, 0, 0), (26, .getfield 27, 3, 6, 7, 88), (29, .arraylength, 1, 0, 0, 0), (30, .if_icmp .ge 18, 3, 29, 0, 0), (33, .aload_n 1, 1, 0, 0, 0), (34, .iload_n 2, 1, 0, 0, 0), (35, .aload_n 0, 1, 0, 0, 0), (36, .getfield 27, 3, 6, 7, 88),
  (39, .iload_n 2, 1, 0, 0, 0), (40, .aaload, 1, 0, 0, 0), (41, .aastore, 1, 0, 0, 0), (42, .iinc 2 1, 3, 0, 0, 0), (45, .goto (-21), 3, 15, 0, 0), (48, .aload_n 0, 1, 0, 0, 0), (49, .aload_n 1, 1, 0, 0, 0), (50, .putfield 27, 3, 6, 7, 88),
  (53, .return_, 1, 0, 0, 0)]
set_option maxRecDepth 100000 in
noncomputable def rw_76 : List PRow := [
  (0, .aload_n 0, 1, 0, 0, 0), (1, .aload_n 0, 1, 0, 0, 0), (2, .getfield 52, 3, 6, 9, 94), (5, .getfield 145, 3, 7, 2, 109), (8, .putfield 100, 3, 6, 10, 103), (11, .aload_n 0, 1, 0, 0, 0), (12, .iconst (-1), 1, 0, 0, 0), (13, .putfield 103, 3, 6, 11, 104),
  (16, .aload_n 0, 1, 0, 0, 0), (17, .getfield 49, 3, 6, 8, 93), (20, .iconst 1, 1, 0, 0, 0), (21, .isub, 1, 0, 0, 0), (22, .istore_n 1, 1, 0, 0, 0), (23, .iload_n 1, 1, 0, 0, 0), (24, .ifCond .lt 51, 3, 41, 0, 0), (27, .aload_n 0, 1, 0, 0, 0),
  (28, .getfield 27, 3, 6, 7, 88), (31, .iload_n 1, 1, 0, 0, 0), (32, .aaload, 1, 0, 0, 0), (33, .getfield 140, 3, 2, 1, 107), (36, .iconst 4, 1, 0, 0, 0), (37, .if_icmp .ne 32, 3, 39, 0, 0), (40, .aload_n 0, 1, 0, 0, 0), (41, .aload_n 0, 1, 0, 0, 0),
  (42, .getfield 27, 3, 6, 7, 88), (45, .iload_n 1, 1, 0, 0, 0), (46, .aaload, 1, 0, 0, 0), (47, .getfield 143, 3, 2, 3, 108), (50, .putfield 100, 3, 6, 10, 103), (53, .aload_n 0, 1, 0, 0, 0), (54, .aload_n 0, 1, 0, 0, 0), (55, .getfield 52, 3, 6, 9, 94),
  (58, .getfield 71, 3, 7, 0, 98), (61, .iconst 1, 1, 0, 0, 0), (62, .iadd, 1, 0, 0, 0), (63, .iload_n 1, 1, 0, 0, 0), (64, .iadd, 1, 0, 0, 0), (65, .putfield 103, 3, 6, 11, 104), (68, .return_, 1, 0, 0, 0), (69, .iinc 1 (-1), 3, 0, 0, 0),
  (72, .goto (-49), 3, 13, 0, 0), (75, .return_, 1, 0, 0, 0)]
set_option maxRecDepth 100000 in
noncomputable def rw_77 : List PRow := [
  (0, .iload_n 1, 1, 0, 0, 0), (1, .aload_n 0, 1, 0, 0, 0), (2, .getfield 52, 3, 6, 9, 94), (5, .getfield 71, 3, 7, 0, 98), (8, .isub, 1, 0, 0, 0), (9, .iconst 1, 1, 0, 0, 0), (10, .isub, 1, 0, 0, 0), (11, .istore_n 2, 1, 0, 0, 0),
  (12, .iload_n 2, 1, 0, 0, 0), (13, .ifCond .lt 40, 3, 29, 0, 0), (16, .iload_n 2, 1, 0, 0, 0), (17, .aload_n 0, 1, 0, 0, 0), (18, .getfield 49, 3, 6, 8, 93), (21, .if_icmp .ge 26, 3, 27, 0, 0), (24, .aload_n 0, 1, 0, 0, 0), (25, .getfield 27, 3, 6, 7, 88),
  (28, .iload_n 2, 1, 0, 0, 0), (29, .aaload, 1, 0, 0, 0), (30, .getfield 140, 3, 2, 1, 107), (33, .iconst 4, 1, 0, 0, 0), (34, .if_icmp .ne 13, 3, 27, 0, 0), (37, .aload_n 0, 1, 0, 0, 0), (38, .getfield 27, 3, 6, 7, 88), (41, .iload_n 2, 1, 0, 0, 0),
  (42, .aaload, 1, 0, 0, 0), (43, .getfield 143, 3, 2, 3, 108), (46, .ireturn, 1, 0, 0, 0), (47, .iinc 2 (-1), 3, 0, 0, 0), (50, .goto (-38), 3, 8, 0, 0), (53, .aload_n 0, 1, 0, 0, 0), (54, .getfield 52, 3, 6, 9, 94), (57, .getfield 145, 3, 7, 2, 109),
  (60, .ireturn, 1, 0, 0, 0)]
set_option maxRecDepth 100000 in
noncomputable def rw_78 : List PRow := [
  (0, .aload_n 0, 1, 0, 0, 0), (1, .getfield 76, 3, 6, 15, 99), (4, .aload_n 0, 1, 0, 0, 0), (5, .getfield 52, 3, 6, 9, 94), (8, .getfield 71, 3, 7, 0, 98), (11, .isub, 1, 0, 0, 0), (12, .istore_n 1, 1, 0, 0, 0), (13, .aload_n 0, 1, 0, 0, 0),
  (14, .new 72, 3, 7, 0, 12), (17, .dup, 1, 0, 0, 0), (18, .aload_n 0, 1, 0, 0, 0), (19, .getfield 76, 3, 6, 15, 99), (22, .aload_n 0, 1, 0, 0, 0), (23, .aload_n 0, 1, 0, 0, 0), (24, .getfield 76, 3, 6, 15, 99), (27, .invokevirtual 118, 3, 75, 0, 86),
  (30, .aload_n 0, 1, 0, 0, 0), (31, .aload_n 0, 1, 0, 0, 0), (32, .getfield 76, 3, 6, 15, 99), (35, .invokevirtual 146, 3, 87, 0, 92), (38, .aload_n 0, 1, 0, 0, 0), (39, .getfield 12, 3, 6, 1, 85), (42, .invokespecial 149, 3, 100, 1, 93), (45, .iload_n 1, 1, 0, 0, 0),
  (46, .invokevirtual 152, 3, 90, 0, 94), (49, .iload_n 1, 1, 0, 0, 0), (50, .ireturn, 1, 0, 0, 0)]
set_option maxRecDepth 100000 in
noncomputable def rw_79 : List PRow := [
  (0, .aload_n 0, 1, 0, 0, 0), (1, .aload_n 1, 1, 0, 0, 0), (2, .getfield 71, 3, 7, 0, 98), (5, .aload_n 1, 1, 0, 0, 0), (6, .getfield 107, 3, 7, 1, 106), (9, .invokevirtual 156, 3, 91, 0, 95), (12, .istore_n 2, 1, 0, 0, 0), (13, .aload_n 0, 1, 0, 0, 0),
  (14, .aload_n 1, 1, 0, 0, 0), (15, .iload_n 2, 1, 0, 0, 0), (16, .ifCond .eq 18, 3, 18, 0, 0), (19, .aload_n 1, 1, 0, 0, 0), (20, .getfield 71, 3, 7, 0, 98), (23, .aload_n 0, 1, 0, 0, 0), (24, .getfield 52, 3, 6, 9, 94), (27, .getfield 71, 3, 7, 0, 98),
  (30, .isub, 1, 0, 0, 0), (31, .goto 7, 3, 20, 0, 0), (34, .aload_n 0, 1, 0, 0, 0), (35, .getfield 49, 3, 6, 8, 93), (38, .invokevirtual 152, 3, 90, 0, 94), (41, .aload_n 0, 1, 0, 0, 0), (42, .aload_n 1, 1, 0, 0, 0), (43, .getfield 71, 3, 7, 0, 98),
  (46, .putfield 76, 3, 6, 15, 99), (49, .aload_n 0, 1, 0, 0, 0), (50, .getfield 12, 3, 6, 1, 85), (53, .aload_n 1, 1, 0, 0, 0), (54, .getfield 79, 3, 7, 3, 100), (57, .invokevirtual 80, 3, 102, 0, 81), (60, .return_, 1, 0, 0, 0)]
set_option maxRecDepth 100000 in
noncomputable def rw_80 : List PRow := [
  (0, .iload_n 2, 1, 0, 0, 0), (1, .iconst 0, 1, 0, 0, 0), (2, .invokestatic 134, 3, 2, 0, 90), (5, .istore_n 3, 1, 0, 0, 0), (6, .iload_n 3, 1, 0, 0, 0), (7, .aload_n 0, 1, 0, 0, 0), (8, .getfield 49, 3, 6, 8, 93), (11, .if_icmp .ge 23, 3, 20, 0, 0),
  (14, .aload_n 0, 1, 0, 0, 0), (15, .getfield 27, 3, 6, 7, 88), (18, .iload_n 3, 1, 0, 0, 0), (19, .iload_n 2, 1, 0, 0, 0), (20, .isub, 1, 0, 0, 0), (21, .aload_n 0, 1, 0, 0, 0), (22, .getfield 27, 3, 6, 7, 88), (25, .iload_n 3, 1, 0, 0, 0),
  (26, .aaload, 1, 0, 0, 0), (27, .aastore, 1, 0, 0, 0), (28, .iinc 3 1, 3, 0, 0, 0), (31, .goto (-25), 3, 4, 0, 0), (34, .aload_n 0, 1, 0, 0, 0), (35, .dup, 1, 0, 0, 0), (36, .getfield 49, 3, 6, 8, 93), (39, .iload_n 2, 1, 0, 0, 0),
  (40, .isub, 1, 0, 0, 0), (41, .putfield 49, 3, 6, 8, 93), (44, .aload_n 0, 1, 0, 0, 0), (45, .aload_n 1, 1, 0, 0, 0), (46, .putfield 52, 3, 6, 9, 94), (49, .aload_n 0, 1, 0, 0, 0), (50, .invokevirtual 56, 3, 86, 0, 79), (53, .return_, 1, 0, 0, 0)]
set_option maxRecDepth 100000 in
noncomputable def rw_81 : List PRow := [
  (0, .aload_n 0, 1, 0, 0, 0), (1, .iload_n 1, 1, 0, 0, 0), (2, .invokevirtual 160, 3, 74, 0, 96), (5, .astore_n 3, 1, 0, 0, 0), (6, .aload_n 3, 1, 0, 0, 0), (7, .ifnull 15, 3, 12, 0, 0), (10, .aload_n 3, 1, 0, 0, 0), (11, .getfield 106, 3, 2, 0, 105),
  (14, .iload_n 2, 1, 0, 0, 0), (15, .if_icmp .ne 7, 3, 12, 0, 0), (18, .iconst 1, 1, 0, 0, 0), (19, .goto 4, 3, 13, 0, 0), (22, .iconst 0, 1, 0, 0, 0), (23, .ireturn, 1, 0, 0, 0)]
set_option maxRecDepth 100000 in
noncomputable def rw_82 : List PRow := [
  (0, .iload_n 1, 1, 0, 0, 0), (1, .aload_n 0, 1, 0, 0, 0), (2, .getfield 52, 3, 6, 9, 94), (5, .getfield 71, 3, 7, 0, 98), (8, .if_icmp .le 12, 3, 10, 0, 0), (11, .aload_n 0, 1, 0, 0, 0), (12, .iload_n 1, 1, 0, 0, 0), (13, .iload_n 2, 1, 0, 0, 0),
  (14, .invokevirtual 156, 3, 91, 0, 95), (17, .ifCond .eq 7, 3, 12, 0, 0), (20, .iconst 1, 1, 0, 0, 0), (21, .goto 4, 3, 13, 0, 0), (24, .iconst 0, 1, 0, 0, 0), (25, .ireturn, 1, 0, 0, 0)]
set_option maxRecDepth 100000 in
noncomputable def rw_83 : List PRow := [
  (0, .aload_n 0, 1, 0, 0, 0), (1, .invokevirtual 125, 3, 72, 0, 88), (4, .iload_n 1, 1, 0, 0, 0), (5, .if_icmp .ge 8, 3, 7, 0, 0), (8, .aload_n 0, 1, 0, 0, 0), (9, .invokevirtual 125, 3, 72, 0, 88), (12, .ireturn, 1, 0, 0, 0), (13, .aload_n 0, 1, 0, 0, 0),
  (14, .iload_n 1, 1, 0, 0, 0), (15, .invokevirtual 118, 3, 75, 0, 86), (18, .istore_n 2, 1, 0, 0, 0), (19, .iload_n 1, 1, 0, 0, 0), (20, .istore_n 3, 1, 0, 0, 0), (21, .iload_n 3, 1, 0, 0, 0), (22, .aload_n 0, 1, 0, 0, 0), (23, .getfield 52, 3, 6, 9, 94),
  (26, .getfield 71, 3, 7, 0, 98), (29, .if_icmp .le 18, 3, 25, 0, 0), (32, .aload_n 0, 1, 0, 0, 0), (33, .iload_n 3, 1, 0, 0, 0), (34, .invokevirtual 118, 3, 75, 0, 86), (37, .iload_n 2, 1, 0, 0, 0), (38, .if_icmp .ne 9, 3, 25, 0, 0), (41, .iinc 3 (-1), 3, 0, 0, 0),
  (44, .goto (-23), 3, 13, 0, 0), (47, .iload_n 3, 1, 0, 0, 0), (48, .aload_n 0, 1, 0, 0, 0), (49, .getfield 76, 3, 6, 15, 99), (52, .invokestatic 134, 3, 2, 0, 90), (55, .ireturn, 1, 0, 0, 0)]
set_option maxRecDepth 100000 in
noncomputable def rw_84 : List PRow := [
  (0, .iload_n 1, 1, 0, 0, 0), (1, .aload_n 0, 1, 0, 0, 0), (2, .getfield 52, 3, 6, 9, 94), (5, .getfield 71, 3, 7, 0, 98), (8, .if_icmp .le 15, 3, 11, 0, 0), (11, .aload_n 0, 1, 0, 0, 0), (12, .iload_n 1, 1, 0, 0, 0), (13, .aload_n 2, 1, 0, 0, 0),
  (14, .getfield 106, 3, 2, 0, 105), (17, .invokevirtual 156, 3, 91, 0, 95), (20, .ifCond .eq 4, 3, 12, 0, 0), (23, .return_, 1, 0, 0, 0), (24, .iload_n 1, 1, 0, 0, 0), (25, .aload_n 0, 1, 0, 0, 0), (26, .invokevirtual 125, 3, 72, 0, 88), (29, .if_icmp .gt 22, 3, 27, 0, 0),
  (32, .aload_n 0, 1, 0, 0, 0), (33, .iload_n 1, 1, 0, 0, 0), (34, .aload_n 0, 1, 0, 0, 0), (35, .getfield 52, 3, 6, 9, 94), (38, .getfield 71, 3, 7, 0, 98), (41, .isub, 1, 0, 0, 0), (42, .iconst 1, 1, 0, 0, 0), (43, .isub, 1, 0, 0, 0),
  (44, .putfield 49, 3, 6, 8, 93), (47, .aload_n 0, 1, 0, 0, 0), (48, .invokevirtual 56, 3, 86, 0, 79), (51, .aload_n 0, 1, 0, 0, 0), (52, .aload_n 2, 1, 0, 0, 0), (53, .invokevirtual 96, 3, 84, 0, 83), (56, .return_, 1, 0, 0, 0)]
set_option maxRecDepth 100000 in
noncomputable def rw_85 : List PRow := [
  (0, .aload_n 0, 1, 0, 0, 0), (1, .iload_n 1, 1, 0, 0, 0), (2, .putfield 43, 3, 6, 5, 91), (5, .aload_n 0, 1, 0, 0, 0), (6, .iconst (-1), 1, 0, 0, 0), (7, .putfield 46, 3, 6, 6, 92), (10, .aload_n 0, 1, 0, 0, 0), (11, .iconst 0, 1, 0, 0, 0),
  (12, .putfield 62, 3, 6, 12, 95), (15, .aload_n 0, 1, 0, 0, 0), (16, .iconst (-1), 1, 0, 0, 0), (17, .putfield 65, 3, 6, 13, 96), (20, .return_, 1, 0, 0, 0)]
set_option maxRecDepth 100000 in
noncomputable def rw_86 : List PRow := [
  (0, .aload_n 0, 1, 0, 0, 0), (1, .iconst 0, 1, 0, 0, 0), (2, .putfield 62, 3, 6, 12, 95), (5, .aload_n 0, 1, 0, 0, 0), (6, .iload_n 1, 1, 0, 0, 0), (7, .putfield 65, 3, 6, 13, 96), (10, .aload_n 0, 1, 0, 0, 0), (11, .iconst 0, 1, 0, 0, 0),
  (12, .putfield 68, 3, 6, 14, 97), (15, .return_, 1, 0, 0, 0)]
set_option maxRecDepth 100000 in
noncomputable def rw_87 : List PRow := [
  (0, .aload_n 0, 1, 0, 0, 0), (1, .iload_n 1, 1, 0, 0, 0), (2, .putfield 62, 3, 6, 12, 95), (5, .aload_n 0, 1, 0, 0, 0), (6, .iconst (-1), 1, 0, 0, 0), (7, .putfield 65, 3, 6, 13, 96), (10, .aload_n 0, 1, 0, 0, 0), (11, .iconst 0, 1, 0, 0, 0),
  (12, .putfield 68, 3, 6, 14, 97), (15, .aload_n 0, 1, 0, 0, 0), (16, .iconst 1, 1, 0, 0, 0), (17, .aload_n 0, 1, 0, 0, 0), (18, .getfield 31, 3, 6, 0, 89), (21, .ishl, 1, 0, 0, 0), (22, .putfield 90, 3, 6, 16, 101), (25, .return_, 1, 0, 0, 0)]
set_option maxRecDepth 100000 in
noncomputable def rw_88 : List PRow := [
  (0, .aload_n 0, 1, 0, 0, 0), (1, .iconst 3, 1, 0, 0, 0), (2, .putfield 62, 3, 6, 12, 95), (5, .aload_n 0, 1, 0, 0, 0), (6, .iconst (-1), 1, 0, 0, 0), (7, .putfield 65, 3, 6, 13, 96), (10, .aload_n 0, 1, 0, 0, 0), (11, .iconst 0, 1, 0, 0, 0),
  (12, .putfield 93, 3, 6, 17, 102), (15, .aload_n 0, 1, 0, 0, 0), (16, .getfield 18, 3, 6, 2, 86), (19, .aload_n 0, 1, 0, 0, 0), (20, .invokevirtual 125, 3, 72, 0, 88), (23, .iconst 1, 1, 0, 0, 0), (24, .iadd, 1, 0, 0, 0), (25, .invokestatic 164, 3, 390, 0, 97),
  (28, .aload_n 0, 1, 0, 0, 0), (29, .getfield 22, 3, 6, 3, 87), (32, .iconst 0, 1, 0, 0, 0), (33, .invokestatic 164, 3, 390, 0, 97), (36, .aload_n 0, 1, 0, 0, 0), (37, .new 25, 3, 2, 0, 13), (40, .dup, 1, 0, 0, 0), (41, .aload_n 0, 1, 0, 0, 0),
  (42, .getfield 43, 3, 6, 5, 91), (45, .iconst 0, 1, 0, 0, 0), (46, .aconst_null, 1, 0, 0, 0), (47, .iconst 0, 1, 0, 0, 0), (48, .invokespecial 170, 3, 49, 1, 98), (51, .invokevirtual 96, 3, 84, 0, 83), (54, .return_, 1, 0, 0, 0)]
set_option maxRecDepth 100000 in
noncomputable def rw_89 : List PRow := [
  (0, .iload_n 2, 1, 0, 0, 0), (1, .aload_n 0, 1, 0, 0, 0), (2, .getfield 22, 3, 6, 3, 87), (5, .iload_n 1, 1, 0, 0, 0), (6, .iaload, 1, 0, 0, 0), (7, .if_icmp .le 19, 3, 18, 0, 0), (10, .aload_n 0, 1, 0, 0, 0), (11, .getfield 22, 3, 6, 3, 87),
  (14, .iload_n 1, 1, 0, 0, 0), (15, .iload_n 2, 1, 0, 0, 0), (16, .iastore, 1, 0, 0, 0), (17, .aload_n 0, 1, 0, 0, 0), (18, .getfield 18, 3, 6, 2, 86), (21, .iload_n 1, 1, 0, 0, 0), (22, .iload_n 2, 1, 0, 0, 0), (23, .iconst 1, 1, 0, 0, 0),
  (24, .iadd, 1, 0, 0, 0), (25, .iastore, 1, 0, 0, 0), (26, .return_, 1, 0, 0, 0)]
set_option maxRecDepth 100000 in
noncomputable def rw_90 : List PRow := [
  (0, .aload_n 0, 1, 0, 0, 0), (1, .invokespecial 1, 3, 0, 1, 99), (4, .aload_n 0, 1, 0, 0, 0), (5, .new 7, 3, 8, 0, 14), (8, .dup, 1, 0, 0, 0), (9, .invokespecial 9, 3, 101, 1, 100), (12, .putfield 10, 3, 7, 3, 110), (15, .aload_n 0, 1, 0, 0, 0),
  (16, .iload_n 1, 1, 0, 0, 0), (17, .putfield 16, 3, 7, 0, 111), (20, .aload_n 0, 1, 0, 0, 0), (21, .iload_n 2, 1, 0, 0, 0), (22, .putfield 20, 3, 7, 1, 112), (25, .aload_n 0, 1, 0, 0, 0), (26, .iload_n 3, 1, 0, 0, 0), (27, .putfield 23, 3, 7, 2, 113),
  (30, .aload 4, 2, 0, 0, 0), (32, .ifnull 12, 3, 22, 0, 0), (35, .aload_n 0, 1, 0, 0, 0), (36, .getfield 10, 3, 7, 3, 110), (39, .aload 4, 2, 0, 0, 0), (41, .invokevirtual 26, 3, 102, 0, 101), (44, .return_, 1, 0, 0, 0)]
set_option maxRecDepth 100000 in
noncomputable def rw_91 : List PRow := [
  (0, .aload_n 0, 1, 0, 0, 0), (1, .invokespecial 3, 3, 0, 1, 102), (4, .aload_n 0, 1, 0, 0, 0), (5, .bipush 8, 2, 0, 0, 0), (7, .newarray .int, 2, 0, 0, 0), (9, .putfield 9, 3, 8, 0, 114), (12, .aload_n 0, 1, 0, 0, 0), (13, .iconst 4, 1, 0, 0, 0),
  (14, .newarray .int, 2, 0, 0, 0), (16, .putfield 15, 3, 8, 1, 115), (19, .aload_n 0, 1, 0, 0, 0), (20, .iconst 4, 1, 0, 0, 0), (21, .newarray .int, 2, 0, 0, 0), (23, .putfield 18, 3, 8, 2, 116), (26, .return_, 1, 0, 0, 0)]
set_option maxRecDepth 100000 in
noncomputable def rw_92 : List PRow := [
  (0, .aload_n 1, 1, 0, 0, 0), (1, .getfield 9, 3, 8, 0, 114), (4, .iconst 0, 1, 0, 0, 0), (5, .aload_n 0, 1, 0, 0, 0), (6, .getfield 9, 3, 8, 0, 114), (9, .iconst 0, 1, 0, 0, 0), (10, .bipush 8, 2, 0, 0, 0), (12, .invokestatic 21, 3, 1, 0, 103),
  (15, .aload_n 1, 1, 0, 0, 0), (16, .getfield 15, 3, 8, 1, 115), (19, .iconst 0, 1, 0, 0, 0), (20, .aload_n 0, 1, 0, 0, 0), (21, .getfield 15, 3, 8, 1, 115), (24, .iconst 0, 1, 0, 0, 0), (25, .iconst 4, 1, 0, 0, 0), (26, .invokestatic 21, 3, 1, 0, 103),
  (29, .aload_n 1, 1, 0, 0, 0), (30, .getfield 18, 3, 8, 2, 116), (33, .iconst 0, 1, 0, 0, 0), (34, .aload_n 0, 1, 0, 0, 0), (35, .getfield 18, 3, 8, 2, 116), (38, .iconst 0, 1, 0, 0, 0), (39, .iconst 4, 1, 0, 0, 0), (40, .invokestatic 21, 3, 1, 0, 103),
  (43, .return_, 1, 0, 0, 0)]
set_option maxRecDepth 100000 in
noncomputable def rw_93 : List PRow := [
  (0, .aload_n 1, 1, 0, 0, 0), (1, .getfield 27, 3, 5, 1, 117), (4, .aload_n 0, 1, 0, 0, 0), (5, .getfield 15, 3, 8, 1, 115), (8, .aload_n 1, 1, 0, 0, 0), (9, .getfield 33, 3, 5, 0, 118), (12, .iaload, 1, 0, 0, 0), (13, .if_icmp .gt 4, 3, 9, 0, 0),
  (16, .return_, 1, 0, 0, 0), (17, .aload_n 0, 1, 0, 0, 0), (18, .getfield 15, 3, 8, 1, 115), (21, .aload_n 1, 1, 0, 0, 0), (22, .getfield 33, 3, 5, 0, 118), (25, .aload_n 1, 1, 0, 0, 0), (26, .getfield 27, 3, 5, 1, 117), (29, .iastore, 1, 0, 0, 0),
  (30, .aload_n 0, 1, 0, 0, 0), (31, .getfield 9, 3, 8, 0, 114), (34, .aload_n 1, 1, 0, 0, 0), (35, .getfield 36, 3, 5, 3, 119), (38, .iaload, 1, 0, 0, 0), (39, .istore_n 2, 1, 0, 0, 0), (40, .aload_n 1, 1, 0, 0, 0), (41, .getfield 39, 3, 5, 2, 120),
  (44, .iconst 1, 1, 0, 0, 0), (45, .if_icmp .ne 29, 3, 40, 0, 0), (48, .aload_n 0, 1, 0, 0, 0), (49, .getfield 9, 3, 8, 0, 114), (52, .aload_n 1, 1, 0, 0, 0), (53, .getfield 36, 3, 5, 3, 119), (56, .aload_n 1, 1, 0, 0, 0), (57, .getfield 42, 3, 5, 5, 121),
  (60, .iastore, 1, 0, 0, 0), (61, .aload_n 0, 1, 0, 0, 0), (62, .getfield 18, 3, 8, 2, 116), (65, .aload_n 1, 1, 0, 0, 0), (66, .getfield 33, 3, 5, 0, 118), (69, .iload_n 2, 1, 0, 0, 0), (70, .iastore, 1, 0, 0, 0), (71, .goto 94, 3, 89, 0, 0),
  (74, .aload_n 1, 1, 0, 0, 0), (75, .getfield 39, 3, 5, 2, 120), (78, .iconst 2, 1, 0, 0, 0), (79, .if_icmp .ne 39, 3, 64, 0, 0), (82, .aload_n 0, 1, 0, 0, 0), (83, .getfield 9, 3, 8, 0, 114), (86, .aload_n 1, 1, 0, 0, 0), (87, .getfield 36, 3, 5, 3, 119),
  (90, .iload_n 2, 1, 0, 0, 0), (91, .aload_n 1, 1, 0, 0, 0), (92, .getfield 42, 3, 5, 5, 121), (95, .iadd, 1, 0, 0, 0), (96, .iastore, 1, 0, 0, 0), (97, .aload_n 0, 1, 0, 0, 0), (98, .getfield 18, 3, 8, 2, 116), (101, .aload_n 1, 1, 0, 0, 0),
  (102, .getfield 33, 3, 5, 0, 118), (105, .aload_n 0, 1, 0, 0, 0), (106, .getfield 9, 3, 8, 0, 114), (109, .aload_n 1, 1, 0, 0, 0), (110, .getfield 36, 3, 5, 3, 119), (113, .iaload, 1, 0, 0, 0), (114, .iastore, 1, 0, 0, 0), (115, .goto 50, 3, 89, 0, 0),
  (118, .aload_n 0, 1, 0, 0, 0), (119, .getfield 9, 3, 8, 0, 114), (122, .aload_n 1, 1, 0, 0, 0), (123, .getfield 36, 3, 5, 3, 119), (126, .iload_n 2, 1, 0, 0, 0), (127, .aload_n 1, 1, 0, 0, 0), (128, .getfield 45, 3, 5, 4, 122), (131, .if_icmp .ne 10, 3, 75, 0, 0),
  (134, .aload_n 1, 1, 0, 0, 0), (135, .getfield 42, 3, 5, 5, 121), (138, .goto 4, 3, 76, 0, 0), (141, .iload_n 2, 1, 0, 0, 0), (142, .iastore, 1, 0, 0, 0), (143, .aload_n 0, 1, 0, 0, 0), (144, .getfield 18, 3, 8, 2, 116), (147, .aload_n 1, 1, 0, 0, 0),
  (148, .getfield 33, 3, 5, 0, 118), (151, .iload_n 2, 1, 0, 0, 0), (152, .aload_n 1, 1, 0, 0, 0), (153, .getfield 45, 3, 5, 4, 122), (156, .if_icmp .ne 7, 3, 87, 0, 0), (159, .iconst 1, 1, 0, 0, 0), (160, .goto 4, 3, 88, 0, 0), (163, .iconst 0, 1, 0, 0, 0),
  (164, .iastore, 1, 0, 0, 0), (165, .return_, 1, 0, 0, 0)]
set_option maxRecDepth 100000 in
noncomputable def rw_94 : List PRow := [
  (0, .aload_n 0, 1, 0, 0, 0), (1, .invokespecial 1, 3, 0, 1, 104), (4, .aload_n 0, 1, 0, 0, 0), (5, .new 7, 3, 1, 0, 15), (8, .dup, 1, 0, 0, 0), (9, .invokespecial 9, 3, 16, 1, 105), (12, .putfield 10, 3, 9, 0, 123), (15, .aload_n 0, 1, 0, 0, 0),
  (16, .new 7, 3, 1, 0, 15), (19, .dup, 1, 0, 0, 0), (20, .invokespecial 9, 3, 16, 1, 105), (23, .putfield 16, 3, 9, 1, 124), (26, .return_, 1, 0, 0, 0)]
set_option maxRecDepth 100000 in
noncomputable def rw_95 : List PRow := [
  (0, .iload_n 1, 1, 0, 0, 0), (1, .iconst 1, 1, 0, 0, 0), (2, .if_icmp .lt 9, 3, 6, 0, 0), (5, .iload_n 1, 1, 0, 0, 0), (6, .bipush 7, 2, 0, 0, 0), (8, .if_icmp .le 13, 3, 11, 0, 0), (11, .new 19, 3, 100, 0, 0), (14, .dup, 1, 0, 0, 0),
  (15, .ldc 21, 2, 0, 0, 0), (17, .invokespecial 23, 3, 9, 1, 0), (20, .athrow, 1, 0, 0, 0), (21, .aload_n 0, 1, 0, 0, 0), (22, .getfield 10, 3, 9, 0, 123), (25, .iload_n 1, 1, 0, 0, 0), (26, .invokevirtual 26, 3, 18, 0, 106), (29, .iload_n 1, 1, 0, 0, 0),
  (30, .iconst 2, 1, 0, 0, 0), (31, .idiv, 1, 0, 0, 0), (32, .iconst 1, 1, 0, 0, 0), (33, .iadd, 1, 0, 0, 0), (34, .ireturn, 1, 0, 0, 0)]
set_option maxRecDepth 100000 in
noncomputable def rw_96 : List PRow := [
  (0, .aload_n 0, 1, 0, 0, 0), (1, .iload_n 1, 1, 0, 0, 0), (2, .invokevirtual 30, 3, 186, 0, 107), (5, .astore_n 2, 1, 0, 0, 0), (6, .aload_n 2, 1, 0, 0, 0), (7, .getfield 34, 3, 6, 4, 125), (10, .ifCond .ne 7, 3, 9, 0, 0), (13, .iconst 1, 1, 0, 0, 0),
  (14, .goto 4, 3, 10, 0, 0), (17, .iconst 0, 1, 0, 0, 0), (18, .invokestatic 40, 3, 178, 0, 108), (21, .aload_n 2, 1, 0, 0, 0), (22, .invokevirtual 44, 3, 69, 0, 109), (25, .aload_n 0, 1, 0, 0, 0), (26, .getfield 10, 3, 9, 0, 123), (29, .invokevirtual 47, 3, 20, 0, 110),
  (32, .ireturn, 1, 0, 0, 0)]
set_option maxRecDepth 100000 in
noncomputable def rw_97 : List PRow := [
  (0, .aload_n 0, 1, 0, 0, 0), (1, .iload_n 1, 1, 0, 0, 0), (2, .invokevirtual 30, 3, 186, 0, 107), (5, .astore_n 2, 1, 0, 0, 0), (6, .aload_n 2, 1, 0, 0, 0), (7, .getfield 34, 3, 6, 4, 125), (10, .invokestatic 40, 3, 178, 0, 108), (13, .aload_n 2, 1, 0, 0, 0),
  (14, .iconst 1, 1, 0, 0, 0), (15, .putfield 34, 3, 6, 4, 125), (18, .aload_n 0, 1, 0, 0, 0), (19, .getfield 10, 3, 9, 0, 123), (22, .invokevirtual 47, 3, 20, 0, 110), (25, .ireturn, 1, 0, 0, 0)]
set_option maxRecDepth 100000 in
noncomputable def rw_98 : List PRow := [
  (0, .iload_n 1, 1, 0, 0, 0), (1, .iload_n 2, 1, 0, 0, 0), (2, .invokestatic 51, 3, 180, 0, 111), (5, .aload_n 0, 1, 0, 0, 0), (6, .getfield 10, 3, 9, 0, 123), (9, .getfield 55, 3, 1, 2, 126), (12, .iload_n 1, 1, 0, 0, 0), (13, .iload_n 2, 1, 0, 0, 0),
  (14, .invokevirtual 59, 3, 60, 0, 112), (17, .invokestatic 40, 3, 178, 0, 108), (20, .aload_n 0, 1, 0, 0, 0), (21, .getfield 10, 3, 9, 0, 123), (24, .getfield 55, 3, 1, 2, 126), (27, .iload_n 1, 1, 0, 0, 0), (28, .iload_n 2, 1, 0, 0, 0), (29, .invokevirtual 65, 3, 61, 0, 113),
  (32, .ireturn, 1, 0, 0, 0)]
set_option maxRecDepth 100000 in
noncomputable def rw_99 : List PRow := [
  (0, .iload_n 1, 1, 0, 0, 0), (1, .iload_n 2, 1, 0, 0, 0), (2, .invokestatic 51, 3, 180, 0, 111), (5, .aload_n 0, 1, 0, 0, 0), (6, .getfield 10, 3, 9, 0, 123), (9, .getfield 55, 3, 1, 2, 126), (12, .iload_n 1, 1, 0, 0, 0), (13, .iload_n 2, 1, 0, 0, 0),
  (14, .invokevirtual 59, 3, 60, 0, 112), (17, .ifCond .ne 7, 3, 12, 0, 0), (20, .iconst 1, 1, 0, 0, 0), (21, .goto 4, 3, 13, 0, 0), (24, .iconst 0, 1, 0, 0, 0), (25, .invokestatic 40, 3, 178, 0, 108), (28, .aload_n 0, 1, 0, 0, 0), (29, .getfield 10, 3, 9, 0, 123),
  (32, .getfield 55, 3, 1, 2, 126), (35, .iload_n 1, 1, 0, 0, 0), (36, .iload_n 2, 1, 0, 0, 0), (37, .invokevirtual 65, 3, 61, 0, 113), (40, .ireturn, 1, 0, 0, 0)]
set_option maxRecDepth 100000 in
noncomputable def rw_100 : List PRow := [
  (0, .iload_n 1, 1, 0, 0, 0), (1, .iconst 1, 1, 0, 0, 0), (2, .if_icmp .lt 9, 3, 6, 0, 0), (5, .iload_n 1, 1, 0, 0, 0), (6, .bipush 30, 2, 0, 0, 0), (8, .if_icmp .le 13, 3, 11, 0, 0), (11, .new 19, 3, 100, 0, 1), (14, .dup, 1, 0, 0, 0),
  (15, .ldc 69, 2, 0, 0, 0), (17, .invokespecial 23, 3, 9, 1, 0), (20, .athrow, 1, 0, 0, 0), (21, .aload_n 0, 1, 0, 0, 0), (22, .getfield 10, 3, 9, 0, 123), (25, .getfield 55, 3, 1, 2, 126), (28, .getfield 71, 3, 4, 5, 127), (31, .istore_n 2, 1, 0, 0, 0),
  (32, .iconst 0, 1, 0, 0, 0), (33, .istore_n 3, 1, 0, 0, 0), (34, .iload_n 3, 1, 0, 0, 0), (35, .iload_n 1, 1, 0, 0, 0), (36, .if_icmp .ge 16, 3, 26, 0, 0), (39, .aload_n 0, 1, 0, 0, 0), (40, .getfield 10, 3, 9, 0, 123), (43, .invokevirtual 75, 3, 31, 0, 114),
  (46, .iinc 3 1, 3, 0, 0, 0), (49, .goto (-15), 3, 18, 0, 0), (52, .aload_n 0, 1, 0, 0, 0), (53, .getfield 10, 3, 9, 0, 123), (56, .getfield 55, 3, 1, 2, 126), (59, .getfield 71, 3, 4, 5, 127), (62, .iload_n 2, 1, 0, 0, 0), (63, .isub, 1, 0, 0, 0),
  (64, .ireturn, 1, 0, 0, 0)]
set_option maxRecDepth 100000 in
noncomputable def rw_101 : List PRow := [
  (0, .aload_n 0, 1, 0, 0, 0), (1, .iload_n 1, 1, 0, 0, 0), (2, .invokevirtual 30, 3, 186, 0, 107), (5, .astore_n 2, 1, 0, 0, 0), (6, .aload_n 2, 1, 0, 0, 0), (7, .invokevirtual 78, 3, 80, 0, 115), (10, .ifCond .ne 7, 3, 9, 0, 0), (13, .iconst 1, 1, 0, 0, 0),
  (14, .goto 4, 3, 10, 0, 0), (17, .iconst 0, 1, 0, 0, 0), (18, .invokestatic 40, 3, 178, 0, 108), (21, .aload_n 0, 1, 0, 0, 0), (22, .getfield 10, 3, 9, 0, 123), (25, .aload_n 2, 1, 0, 0, 0), (26, .iconst 1, 1, 0, 0, 0), (27, .invokevirtual 82, 3, 32, 0, 116),
  (30, .aload_n 2, 1, 0, 0, 0), (31, .getfield 86, 3, 6, 12, 128), (34, .ireturn, 1, 0, 0, 0)]
set_option maxRecDepth 100000 in
noncomputable def rw_102 : List PRow := [
  (0, .aload_n 0, 1, 0, 0, 0), (1, .iload_n 1, 1, 0, 0, 0), (2, .invokevirtual 30, 3, 186, 0, 107), (5, .astore_n 2, 1, 0, 0, 0), (6, .aload_n 2, 1, 0, 0, 0), (7, .getfield 86, 3, 6, 12, 128), (10, .iconst 3, 1, 0, 0, 0), (11, .if_icmp .eq 7, 3, 10, 0, 0),
  (14, .iconst 1, 1, 0, 0, 0), (15, .goto 4, 3, 11, 0, 0), (18, .iconst 0, 1, 0, 0, 0), (19, .invokestatic 40, 3, 178, 0, 108), (22, .aload_n 0, 1, 0, 0, 0), (23, .getfield 10, 3, 9, 0, 123), (26, .aload_n 2, 1, 0, 0, 0), (27, .invokevirtual 89, 3, 36, 0, 117),
  (30, .ireturn, 1, 0, 0, 0)]
set_option maxRecDepth 100000 in
noncomputable def rw_103 : List PRow := [
  (0, .aload_n 0, 1, 0, 0, 0), (1, .iload_n 1, 1, 0, 0, 0), (2, .invokevirtual 30, 3, 186, 0, 107), (5, .astore_n 2, 1, 0, 0, 0), (6, .aload_n 2, 1, 0, 0, 0), (7, .getfield 34, 3, 6, 4, 125), (10, .ifCond .eq 17, 3, 13, 0, 0), (13, .aload_n 2, 1, 0, 0, 0),
  (14, .getfield 93, 3, 6, 15, 129), (17, .aload_n 2, 1, 0, 0, 0), (18, .getfield 96, 3, 6, 9, 130), (21, .getfield 100, 3, 7, 0, 131), (24, .if_icmp .gt 7, 3, 15, 0, 0), (27, .iconst 1, 1, 0, 0, 0), (28, .goto 4, 3, 16, 0, 0), (31, .iconst 0, 1, 0, 0, 0),
  (32, .invokestatic 40, 3, 178, 0, 108), (35, .aload_n 2, 1, 0, 0, 0), (36, .invokevirtual 105, 3, 88, 0, 118), (39, .ireturn, 1, 0, 0, 0)]
set_option maxRecDepth 100000 in
noncomputable def rw_104 : List PRow := [
  (0, .iload_n 1, 1, 0, 0, 0), (1, .iload_n 2, 1, 0, 0, 0), (2, .invokestatic 51, 3, 180, 0, 111), (5, .aload_n 0, 1, 0, 0, 0), (6, .getfield 10, 3, 9, 0, 123), (9, .getfield 108, 3, 1, 0, 132), (12, .iload_n 1, 1, 0, 0, 0), (13, .aaload, 1, 0, 0, 0),
  (14, .astore_n 3, 1, 0, 0, 0), (15, .aload_n 3, 1, 0, 0, 0), (16, .getfield 86, 3, 6, 12, 128), (19, .iconst 3, 1, 0, 0, 0), (20, .if_icmp .ne 24, 3, 24, 0, 0), (23, .aload_n 3, 1, 0, 0, 0), (24, .iload_n 2, 1, 0, 0, 0), (25, .invokevirtual 112, 3, 76, 0, 119),
  (28, .ifCond .eq 16, 3, 24, 0, 0), (31, .aload_n 3, 1, 0, 0, 0), (32, .getfield 116, 3, 6, 3, 133), (35, .iload_n 2, 1, 0, 0, 0), (36, .iaload, 1, 0, 0, 0), (37, .aload_n 3, 1, 0, 0, 0), (38, .invokevirtual 120, 3, 72, 0, 120), (41, .if_icmp .ge 7, 3, 26, 0, 0),
  (44, .iconst 1, 1, 0, 0, 0), (45, .goto 4, 3, 27, 0, 0), (48, .iconst 0, 1, 0, 0, 0), (49, .invokestatic 40, 3, 178, 0, 108), (52, .aload_n 0, 1, 0, 0, 0), (53, .getfield 10, 3, 9, 0, 123), (56, .getfield 55, 3, 1, 2, 126), (59, .bipush 8, 2, 0, 0, 0),
  (61, .iload_n 1, 1, 0, 0, 0), (62, .iload_n 2, 1, 0, 0, 0), (63, .aload_n 3, 1, 0, 0, 0), (64, .getfield 123, 3, 6, 5, 134), (67, .invokevirtual 126, 3, 62, 0, 121), (70, .pop, 1, 0, 0, 0), (71, .aload_n 0, 1, 0, 0, 0), (72, .getfield 10, 3, 9, 0, 123),
  (75, .getfield 55, 3, 1, 2, 126), (78, .getfield 130, 3, 4, 3, 135), (81, .ireturn, 1, 0, 0, 0)]
set_option maxRecDepth 100000 in
noncomputable def rw_105 : List PRow := [
  (0, .aload_n 0, 1, 0, 0, 0), (1, .iload_n 1, 1, 0, 0, 0), (2, .invokevirtual 30, 3, 186, 0, 107), (5, .astore_n 3, 1, 0, 0, 0), (6, .iload_n 2, 1, 0, 0, 0), (7, .invokestatic 133, 3, 179, 0, 122), (10, .aload_n 3, 1, 0, 0, 0), (11, .invokevirtual 136, 3, 81, 0, 123),
  (14, .ifCond .eq 11, 3, 13, 0, 0), (17, .aload_n 3, 1, 0, 0, 0), (18, .iload_n 2, 1, 0, 0, 0), (19, .invokevirtual 112, 3, 76, 0, 119), (22, .ifCond .eq 7, 3, 15, 0, 0), (25, .iconst 1, 1, 0, 0, 0), (26, .goto 4, 3, 16, 0, 0), (29, .iconst 0, 1, 0, 0, 0),
  (30, .invokestatic 40, 3, 178, 0, 108), (33, .aload_n 3, 1, 0, 0, 0), (34, .new 139, 3, 2, 0, 16), (37, .dup, 1, 0, 0, 0), (38, .aload_n 3, 1, 0, 0, 0), (39, .getfield 123, 3, 6, 5, 134), (42, .iconst 4, 1, 0, 0, 0), (43, .aconst_null, 1, 0, 0, 0),
  (44, .aload_n 3, 1, 0, 0, 0), (45, .getfield 141, 3, 6, 10, 136), (48, .iconst 1, 1, 0, 0, 0), (49, .iload_n 2, 1, 0, 0, 0), (50, .ishl, 1, 0, 0, 0), (51, .ior, 1, 0, 0, 0), (52, .invokespecial 144, 3, 49, 1, 124), (55, .invokevirtual 147, 3, 84, 0, 125),
  (58, .aload_n 3, 1, 0, 0, 0), (59, .invokevirtual 120, 3, 72, 0, 120), (62, .istore 4, 2, 0, 0, 0), (64, .aload_n 3, 1, 0, 0, 0), (65, .getfield 151, 3, 6, 2, 137), (68, .iload_n 2, 1, 0, 0, 0), (69, .iload 4, 2, 0, 0, 0), (71, .iastore, 1, 0, 0, 0),
  (72, .aload_n 3, 1, 0, 0, 0), (73, .getfield 116, 3, 6, 3, 133), (76, .iload_n 2, 1, 0, 0, 0), (77, .iconst 0, 1, 0, 0, 0), (78, .iastore, 1, 0, 0, 0), (79, .aload_n 0, 1, 0, 0, 0), (80, .getfield 10, 3, 9, 0, 123), (83, .aload_n 3, 1, 0, 0, 0),
  (84, .invokevirtual 154, 3, 38, 0, 126), (87, .iload 4, 2, 0, 0, 0), (89, .ireturn, 1, 0, 0, 0)]
set_option maxRecDepth 100000 in
noncomputable def rw_106 : List PRow := [
  (0, .aload_n 0, 1, 0, 0, 0), (1, .iload_n 1, 1, 0, 0, 0), (2, .invokevirtual 30, 3, 186, 0, 107), (5, .astore_n 3, 1, 0, 0, 0), (6, .iload_n 2, 1, 0, 0, 0), (7, .invokestatic 133, 3, 179, 0, 122), (10, .aload_n 3, 1, 0, 0, 0), (11, .getfield 141, 3, 6, 10, 136),
  (14, .iconst 1, 1, 0, 0, 0), (15, .iload_n 2, 1, 0, 0, 0), (16, .ishl, 1, 0, 0, 0), (17, .iconst (-1), 1, 0, 0, 0), (18, .ixor, 1, 0, 0, 0), (19, .iand, 1, 0, 0, 0), (20, .istore 4, 2, 0, 0, 0), (22, .aload_n 3, 1, 0, 0, 0),
  (23, .invokevirtual 136, 3, 81, 0, 123), (26, .ifCond .eq 16, 3, 24, 0, 0), (29, .aload_n 3, 1, 0, 0, 0), (30, .iload_n 2, 1, 0, 0, 0), (31, .invokevirtual 112, 3, 76, 0, 119), (34, .ifCond .eq 8, 3, 24, 0, 0), (37, .iload 4, 2, 0, 0, 0), (39, .ifCond .ne 7, 3, 26, 0, 0),
  (42, .iconst 1, 1, 0, 0, 0), (43, .goto 4, 3, 27, 0, 0), (46, .iconst 0, 1, 0, 0, 0), (47, .invokestatic 40, 3, 178, 0, 108), (50, .aload_n 3, 1, 0, 0, 0), (51, .new 139, 3, 2, 0, 16), (54, .dup, 1, 0, 0, 0), (55, .aload_n 3, 1, 0, 0, 0),
  (56, .getfield 123, 3, 6, 5, 134), (59, .iconst 4, 1, 0, 0, 0), (60, .aconst_null, 1, 0, 0, 0), (61, .iload 4, 2, 0, 0, 0), (63, .invokespecial 144, 3, 49, 1, 124), (66, .invokevirtual 147, 3, 84, 0, 125), (69, .aload_n 3, 1, 0, 0, 0), (70, .invokevirtual 120, 3, 72, 0, 120),
  (73, .istore 5, 2, 0, 0, 0), (75, .aload_n 0, 1, 0, 0, 0), (76, .getfield 10, 3, 9, 0, 123), (79, .aload_n 3, 1, 0, 0, 0), (80, .invokevirtual 154, 3, 38, 0, 126), (83, .iload 5, 2, 0, 0, 0), (85, .ireturn, 1, 0, 0, 0)]
set_option maxRecDepth 100000 in
noncomputable def rw_107 : List PRow := [
  (0, .aload_n 0, 1, 0, 0, 0), (1, .getfield 10, 3, 9, 0, 123), (4, .getfield 55, 3, 1, 2, 126), (7, .getfield 130, 3, 4, 3, 135), (10, .ireturn, 1, 0, 0, 0)]
set_option maxRecDepth 100000 in
noncomputable def rw_108 : List PRow := [
  (0, .aload_n 0, 1, 0, 0, 0), (1, .iload_n 1, 1, 0, 0, 0), (2, .invokevirtual 158, 3, 183, 0, 127), (5, .aload_n 0, 1, 0, 0, 0), (6, .getfield 10, 3, 9, 0, 123), (9, .iload_n 1, 1, 0, 0, 0), (10, .invokevirtual 161, 3, 40, 0, 128), (13, .ireturn, 1, 0, 0, 0)]
set_option maxRecDepth 100000 in
noncomputable def rw_109 : List PRow := [
  (0, .aload_n 0, 1, 0, 0, 0), (1, .iload_n 1, 1, 0, 0, 0), (2, .invokevirtual 158, 3, 183, 0, 127), (5, .aload_n 0, 1, 0, 0, 0), (6, .getfield 10, 3, 9, 0, 123), (9, .getfield 55, 3, 1, 2, 126), (12, .iload_n 1, 1, 0, 0, 0), (13, .invokevirtual 164, 3, 64, 0, 129),
  (16, .pop, 1, 0, 0, 0), (17, .aload_n 0, 1, 0, 0, 0), (18, .getfield 10, 3, 9, 0, 123), (21, .getfield 55, 3, 1, 2, 126), (24, .dup, 1, 0, 0, 0), (25, .getfield 71, 3, 4, 5, 127), (28, .iconst 1, 1, 0, 0, 0), (29, .iadd, 1, 0, 0, 0),
  (30, .putfield 71, 3, 4, 5, 127), (33, .aload_n 0, 1, 0, 0, 0), (34, .getfield 10, 3, 9, 0, 123), (37, .getfield 55, 3, 1, 2, 126), (40, .getfield 130, 3, 4, 3, 135), (43, .ireturn, 1, 0, 0, 0)]
set_option maxRecDepth 100000 in
noncomputable def rw_110 : List PRow := [
  (0, .aload_n 0, 1, 0, 0, 0), (1, .iload_n 1, 1, 0, 0, 0), (2, .invokevirtual 158, 3, 183, 0, 127), (5, .aload_n 0, 1, 0, 0, 0), (6, .getfield 10, 3, 9, 0, 123), (9, .getfield 55, 3, 1, 2, 126), (12, .getfield 130, 3, 4, 3, 135), (15, .bipush 60, 2, 0, 0, 0),
  (17, .if_icmp .lt 7, 3, 11, 0, 0), (20, .iconst 1, 1, 0, 0, 0), (21, .goto 4, 3, 12, 0, 0), (24, .iconst 0, 1, 0, 0, 0), (25, .invokestatic 40, 3, 178, 0, 108), (28, .aload_n 0, 1, 0, 0, 0), (29, .getfield 10, 3, 9, 0, 123), (32, .getfield 55, 3, 1, 2, 126),
  (35, .iload_n 1, 1, 0, 0, 0), (36, .invokevirtual 168, 3, 63, 0, 130), (39, .ireturn, 1, 0, 0, 0)]
set_option maxRecDepth 100000 in
noncomputable def rw_111 : List PRow := [
  (0, .aload_n 0, 1, 0, 0, 0), (1, .iload_n 1, 1, 0, 0, 0), (2, .invokevirtual 172, 3, 187, 0, 131), (5, .getfield 175, 3, 3, 1, 138), (8, .ireturn, 1, 0, 0, 0)]
set_option maxRecDepth 100000 in
noncomputable def rw_112 : List PRow := [
  (0, .aload_n 0, 1, 0, 0, 0), (1, .iload_n 1, 1, 0, 0, 0), (2, .invokevirtual 172, 3, 187, 0, 131), (5, .getfield 180, 3, 3, 2, 139), (8, .ireturn, 1, 0, 0, 0)]
set_option maxRecDepth 100000 in
noncomputable def rw_113 : List PRow := [
  (0, .aload_n 0, 1, 0, 0, 0), (1, .iload_n 1, 1, 0, 0, 0), (2, .invokevirtual 172, 3, 187, 0, 131), (5, .getfield 183, 3, 3, 3, 140), (8, .ireturn, 1, 0, 0, 0)]
set_option maxRecDepth 100000 in
noncomputable def rw_114 : List PRow := [
  (0, .aload_n 0, 1, 0, 0, 0), (1, .iload_n 1, 1, 0, 0, 0), (2, .invokevirtual 172, 3, 187, 0, 131), (5, .getfield 186, 3, 3, 4, 141), (8, .ireturn, 1, 0, 0, 0)]
set_option maxRecDepth 100000 in
noncomputable def rw_115 : List PRow := [
  (0, .aload_n 0, 1, 0, 0, 0), (1, .iload_n 1, 1, 0, 0, 0), (2, .invokevirtual 172, 3, 187, 0, 131), (5, .invokevirtual 187, 3, 55, 0, 132), (8, .ireturn, 1, 0, 0, 0)]
set_option maxRecDepth 100000 in
noncomputable def rw_116 : List PRow := [
  (0, .aload_n 0, 1, 0, 0, 0), (1, .iload_n 1, 1, 0, 0, 0), (2, .iload_n 2, 1, 0, 0, 0), (3, .iconst 0, 1, 0, 0, 0), (4, .iload_n 3, 1, 0, 0, 0), (5, .invokevirtual 190, 3, 184, 0, 133), (8, .aload_n 0, 1, 0, 0, 0), (9, .getfield 10, 3, 9, 0, 123),
  (12, .getfield 194, 3, 1, 1, 142), (15, .iload_n 1, 1, 0, 0, 0), (16, .aaload, 1, 0, 0, 0), (17, .iload_n 1, 1, 0, 0, 0), (18, .iconst 1, 1, 0, 0, 0), (19, .iload_n 2, 1, 0, 0, 0), (20, .iconst 0, 1, 0, 0, 0), (21, .iload_n 3, 1, 0, 0, 0),
  (22, .invokevirtual 198, 3, 15, 0, 134), (25, .ireturn, 1, 0, 0, 0)]
set_option maxRecDepth 100000 in
noncomputable def rw_117 : List PRow := [
  (0, .aload_n 0, 1, 0, 0, 0), (1, .iload_n 1, 1, 0, 0, 0), (2, .iload_n 2, 1, 0, 0, 0), (3, .iconst 0, 1, 0, 0, 0), (4, .iload_n 3, 1, 0, 0, 0), (5, .invokevirtual 190, 3, 184, 0, 133), (8, .aload_n 0, 1, 0, 0, 0), (9, .getfield 10, 3, 9, 0, 123),
  (12, .getfield 194, 3, 1, 1, 142), (15, .iload_n 1, 1, 0, 0, 0), (16, .aaload, 1, 0, 0, 0), (17, .iload_n 1, 1, 0, 0, 0), (18, .iconst 2, 1, 0, 0, 0), (19, .iload_n 2, 1, 0, 0, 0), (20, .iconst 0, 1, 0, 0, 0), (21, .iload_n 3, 1, 0, 0, 0),
  (22, .invokevirtual 198, 3, 15, 0, 134), (25, .ireturn, 1, 0, 0, 0)]
set_option maxRecDepth 100000 in
noncomputable def rw_118 : List PRow := [
  (0, .aload_n 0, 1, 0, 0, 0), (1, .iload_n 1, 1, 0, 0, 0), (2, .iload_n 2, 1, 0, 0, 0), (3, .iload_n 3, 1, 0, 0, 0), (4, .iload 4, 2, 0, 0, 0), (6, .invokevirtual 190, 3, 184, 0, 133), (9, .aload_n 0, 1, 0, 0, 0), (10, .getfield 10, 3, 9, 0, 123),
  (13, .getfield 194, 3, 1, 1, 142), (16, .iload_n 1, 1, 0, 0, 0), (17, .aaload, 1, 0, 0, 0), (18, .iload_n 1, 1, 0, 0, 0), (19, .iconst 3, 1, 0, 0, 0), (20, .iload_n 2, 1, 0, 0, 0), (21, .iload_n 3, 1, 0, 0, 0), (22, .iload 4, 2, 0, 0, 0),
  (24, .invokevirtual 198, 3, 15, 0, 134), (27, .ireturn, 1, 0, 0, 0)]
set_option maxRecDepth 100000 in
noncomputable def rw_119 : List PRow := [
  (0, .iload_n 1, 1, 0, 0, 0), (1, .invokestatic 204, 3, 181, 0, 135), (4, .aload_n 0, 1, 0, 0, 0), (5, .iload_n 2, 1, 0, 0, 0), (6, .invokevirtual 30, 3, 186, 0, 107), (9, .astore_n 3, 1, 0, 0, 0), (10, .aload_n 0, 1, 0, 0, 0), (11, .getfield 10, 3, 9, 0, 123),
  (14, .getfield 194, 3, 1, 1, 142), (17, .iload_n 1, 1, 0, 0, 0), (18, .aaload, 1, 0, 0, 0), (19, .getfield 207, 3, 0, 0, 143), (22, .astore 4, 2, 0, 0, 0), (24, .aload 4, 2, 0, 0, 0), (26, .ifnull 18, 3, 22, 0, 0), (29, .aload_n 0, 1, 0, 0, 0),
  (30, .getfield 10, 3, 9, 0, 123), (33, .getfield 194, 3, 1, 1, 142), (36, .iload_n 1, 1, 0, 0, 0), (37, .aaload, 1, 0, 0, 0), (38, .getfield 211, 3, 0, 1, 144), (41, .ifCond .eq 13, 3, 27, 0, 0), (44, .new 214, 3, 101, 0, 2), (47, .dup, 1, 0, 0, 0),
  (48, .ldc 216, 2, 0, 0, 0), (50, .invokespecial 218, 3, 9, 1, 0), (53, .athrow, 1, 0, 0, 0), (54, .aload_n 3, 1, 0, 0, 0), (55, .getfield 86, 3, 6, 12, 128), (58, .iconst 3, 1, 0, 0, 0), (59, .if_icmp .ne 12, 3, 35, 0, 0), (62, .aload_n 3, 1, 0, 0, 0),
  (63, .getfield 219, 3, 6, 8, 145), (66, .bipush 40, 2, 0, 0, 0), (68, .if_icmp .lt 7, 3, 37, 0, 0), (71, .iconst 1, 1, 0, 0, 0), (72, .goto 4, 3, 38, 0, 0), (75, .iconst 0, 1, 0, 0, 0), (76, .invokestatic 40, 3, 178, 0, 108), (79, .aload_n 3, 1, 0, 0, 0),
  (80, .new 139, 3, 2, 0, 16), (83, .dup, 1, 0, 0, 0), (84, .aload_n 3, 1, 0, 0, 0), (85, .getfield 123, 3, 6, 5, 134), (88, .aload 4, 2, 0, 0, 0), (90, .getfield 220, 3, 5, 2, 146), (93, .aload 4, 2, 0, 0, 0), (95, .iconst 0, 1, 0, 0, 0),
  (96, .invokespecial 144, 3, 49, 1, 124), (99, .invokevirtual 147, 3, 84, 0, 125), (102, .aload_n 3, 1, 0, 0, 0), (103, .invokevirtual 120, 3, 72, 0, 120), (106, .istore 5, 2, 0, 0, 0), (108, .aload_n 0, 1, 0, 0, 0), (109, .getfield 10, 3, 9, 0, 123), (112, .aload_n 3, 1, 0, 0, 0),
  (113, .invokevirtual 154, 3, 38, 0, 126), (116, .iload 5, 2, 0, 0, 0), (118, .ireturn, 1, 0, 0, 0)]
set_option maxRecDepth 100000 in
noncomputable def rw_120 : List PRow := [
  (0, .iload_n 1, 1, 0, 0, 0), (1, .invokestatic 204, 3, 181, 0, 135), (4, .aload_n 0, 1, 0, 0, 0), (5, .getfield 10, 3, 9, 0, 123), (8, .getfield 194, 3, 1, 1, 142), (11, .iload_n 1, 1, 0, 0, 0), (12, .aaload, 1, 0, 0, 0), (13, .invokevirtual 223, 3, 13, 0, 136),
  (16, .ireturn, 1, 0, 0, 0)]
set_option maxRecDepth 100000 in
noncomputable def rw_121 : List PRow := [
  (0, .iload_n 1, 1, 0, 0, 0), (1, .invokestatic 204, 3, 181, 0, 135), (4, .aload_n 0, 1, 0, 0, 0), (5, .getfield 10, 3, 9, 0, 123), (8, .getfield 194, 3, 1, 1, 142), (11, .iload_n 1, 1, 0, 0, 0), (12, .aaload, 1, 0, 0, 0), (13, .getfield 211, 3, 0, 1, 144),
  (16, .ireturn, 1, 0, 0, 0)]
set_option maxRecDepth 100000 in
noncomputable def rw_122 : List PRow := [
  (0, .iload_n 1, 1, 0, 0, 0), (1, .invokestatic 204, 3, 181, 0, 135), (4, .aload_n 0, 1, 0, 0, 0), (5, .getfield 10, 3, 9, 0, 123), (8, .getfield 194, 3, 1, 1, 142), (11, .iload_n 1, 1, 0, 0, 0), (12, .aaload, 1, 0, 0, 0), (13, .getfield 211, 3, 0, 1, 144),
  (16, .ifCond .ne 7, 3, 11, 0, 0), (19, .iconst 1, 1, 0, 0, 0), (20, .goto 4, 3, 12, 0, 0), (23, .iconst 0, 1, 0, 0, 0), (24, .invokestatic 40, 3, 178, 0, 108), (27, .aload_n 0, 1, 0, 0, 0), (28, .getfield 10, 3, 9, 0, 123), (31, .getfield 194, 3, 1, 1, 142),
  (34, .iload_n 1, 1, 0, 0, 0), (35, .aaload, 1, 0, 0, 0), (36, .getfield 226, 3, 0, 2, 147), (39, .ireturn, 1, 0, 0, 0)]
set_option maxRecDepth 100000 in
noncomputable def rw_123 : List PRow := [
  (0, .aload_n 0, 1, 0, 0, 0), (1, .getfield 10, 3, 9, 0, 123), (4, .getfield 229, 3, 1, 3, 148), (7, .ireturn, 1, 0, 0, 0)]
set_option maxRecDepth 100000 in
noncomputable def rw_124 : List PRow := [
  (0, .aload_n 0, 1, 0, 0, 0), (1, .getfield 10, 3, 9, 0, 123), (4, .getfield 55, 3, 1, 2, 126), (7, .getfield 71, 3, 4, 5, 127), (10, .ireturn, 1, 0, 0, 0)]
set_option maxRecDepth 100000 in
noncomputable def rw_125 : List PRow := [
  (0, .aload_n 0, 1, 0, 0, 0), (1, .iload_n 1, 1, 0, 0, 0), (2, .invokevirtual 30, 3, 186, 0, 107), (5, .getfield 34, 3, 6, 4, 125), (8, .ireturn, 1, 0, 0, 0)]
set_option maxRecDepth 100000 in
noncomputable def rw_126 : List PRow := [
  (0, .aload_n 0, 1, 0, 0, 0), (1, .iload_n 1, 1, 0, 0, 0), (2, .invokevirtual 30, 3, 186, 0, 107), (5, .getfield 86, 3, 6, 12, 128), (8, .ireturn, 1, 0, 0, 0)]
set_option maxRecDepth 100000 in
noncomputable def rw_127 : List PRow := [
  (0, .aload_n 0, 1, 0, 0, 0), (1, .iload_n 1, 1, 0, 0, 0), (2, .invokevirtual 30, 3, 186, 0, 107), (5, .getfield 123, 3, 6, 5, 134), (8, .ireturn, 1, 0, 0, 0)]
set_option maxRecDepth 100000 in
noncomputable def rw_128 : List PRow := [
  (0, .aload_n 0, 1, 0, 0, 0), (1, .iload_n 1, 1, 0, 0, 0), (2, .invokevirtual 30, 3, 186, 0, 107), (5, .getfield 232, 3, 6, 6, 149), (8, .ireturn, 1, 0, 0, 0)]
set_option maxRecDepth 100000 in
noncomputable def rw_129 : List PRow := [
  (0, .aload_n 0, 1, 0, 0, 0), (1, .iload_n 1, 1, 0, 0, 0), (2, .invokevirtual 30, 3, 186, 0, 107), (5, .getfield 235, 3, 6, 13, 150), (8, .ireturn, 1, 0, 0, 0)]
set_option maxRecDepth 100000 in
noncomputable def rw_130 : List PRow := [
  (0, .aload_n 0, 1, 0, 0, 0), (1, .iload_n 1, 1, 0, 0, 0), (2, .invokevirtual 30, 3, 186, 0, 107), (5, .getfield 238, 3, 6, 14, 151), (8, .ireturn, 1, 0, 0, 0)]
set_option maxRecDepth 100000 in
noncomputable def rw_131 : List PRow := [
  (0, .aload_n 0, 1, 0, 0, 0), (1, .iload_n 1, 1, 0, 0, 0), (2, .invokevirtual 30, 3, 186, 0, 107), (5, .invokevirtual 241, 3, 71, 0, 137), (8, .ireturn, 1, 0, 0, 0)]
set_option maxRecDepth 100000 in
noncomputable def rw_132 : List PRow := [
  (0, .aload_n 0, 1, 0, 0, 0), (1, .iload_n 1, 1, 0, 0, 0), (2, .invokevirtual 30, 3, 186, 0, 107), (5, .getfield 96, 3, 6, 9, 130), (8, .getfield 100, 3, 7, 0, 131), (11, .ireturn, 1, 0, 0, 0)]
set_option maxRecDepth 100000 in
noncomputable def rw_133 : List PRow := [
  (0, .aload_n 0, 1, 0, 0, 0), (1, .iload_n 1, 1, 0, 0, 0), (2, .invokevirtual 30, 3, 186, 0, 107), (5, .invokevirtual 120, 3, 72, 0, 120), (8, .ireturn, 1, 0, 0, 0)]
set_option maxRecDepth 100000 in
noncomputable def rw_134 : List PRow := [
  (0, .aload_n 0, 1, 0, 0, 0), (1, .iload_n 1, 1, 0, 0, 0), (2, .invokevirtual 30, 3, 186, 0, 107), (5, .invokevirtual 244, 3, 73, 0, 138), (8, .ireturn, 1, 0, 0, 0)]
set_option maxRecDepth 100000 in
noncomputable def rw_135 : List PRow := [
  (0, .aload_n 0, 1, 0, 0, 0), (1, .iload_n 1, 1, 0, 0, 0), (2, .invokevirtual 30, 3, 186, 0, 107), (5, .getfield 93, 3, 6, 15, 129), (8, .ireturn, 1, 0, 0, 0)]
set_option maxRecDepth 100000 in
noncomputable def rw_136 : List PRow := [
  (0, .aload_n 0, 1, 0, 0, 0), (1, .iload_n 1, 1, 0, 0, 0), (2, .invokevirtual 30, 3, 186, 0, 107), (5, .getfield 141, 3, 6, 10, 136), (8, .invokestatic 247, 3, 389, 0, 139), (11, .ireturn, 1, 0, 0, 0)]
set_option maxRecDepth 100000 in
noncomputable def rw_137 : List PRow := [
  (0, .iload_n 2, 1, 0, 0, 0), (1, .invokestatic 133, 3, 179, 0, 122), (4, .aload_n 0, 1, 0, 0, 0), (5, .iload_n 1, 1, 0, 0, 0), (6, .invokevirtual 30, 3, 186, 0, 107), (9, .iload_n 2, 1, 0, 0, 0), (10, .invokevirtual 112, 3, 76, 0, 119), (13, .ireturn, 1, 0, 0, 0)]
set_option maxRecDepth 100000 in
noncomputable def rw_138 : List PRow := [
  (0, .aload_n 0, 1, 0, 0, 0), (1, .iload_n 1, 1, 0, 0, 0), (2, .invokevirtual 30, 3, 186, 0, 107), (5, .iload_n 2, 1, 0, 0, 0), (6, .invokevirtual 252, 3, 75, 0, 140), (9, .istore_n 3, 1, 0, 0, 0), (10, .iload_n 3, 1, 0, 0, 0), (11, .ifCond .ge 14, 3, 13, 0, 0),
  (14, .new 255, 3, 102, 0, 3), (17, .dup, 1, 0, 0, 0), (18, .ldc_w 257, 3, 0, 0, 0), (21, .invokespecial 259, 3, 9, 1, 0), (24, .athrow, 1, 0, 0, 0), (25, .iload_n 3, 1, 0, 0, 0), (26, .ireturn, 1, 0, 0, 0)]
set_option maxRecDepth 100000 in
noncomputable def rw_139 : List PRow := [
  (0, .aload_n 0, 1, 0, 0, 0), (1, .iload_n 1, 1, 0, 0, 0), (2, .iload_n 2, 1, 0, 0, 0), (3, .invokevirtual 260, 3, 188, 0, 141), (6, .getfield 264, 3, 2, 1, 152), (9, .ireturn, 1, 0, 0, 0)]
set_option maxRecDepth 100000 in
noncomputable def rw_140 : List PRow := [
  (0, .aload_n 0, 1, 0, 0, 0), (1, .iload_n 1, 1, 0, 0, 0), (2, .iload_n 2, 1, 0, 0, 0), (3, .invokevirtual 260, 3, 188, 0, 141), (6, .invokevirtual 265, 3, 50, 0, 142), (9, .ireturn, 1, 0, 0, 0)]
set_option maxRecDepth 100000 in
noncomputable def rw_141 : List PRow := [
  (0, .aload_n 0, 1, 0, 0, 0), (1, .iload_n 1, 1, 0, 0, 0), (2, .iload_n 2, 1, 0, 0, 0), (3, .invokevirtual 260, 3, 188, 0, 141), (6, .invokevirtual 268, 3, 51, 0, 143), (9, .ireturn, 1, 0, 0, 0)]
set_option maxRecDepth 100000 in
noncomputable def rw_142 : List PRow := [
  (0, .aload_n 0, 1, 0, 0, 0), (1, .iload_n 1, 1, 0, 0, 0), (2, .iload_n 2, 1, 0, 0, 0), (3, .invokevirtual 260, 3, 188, 0, 141), (6, .invokevirtual 271, 3, 52, 0, 144), (9, .ireturn, 1, 0, 0, 0)]
set_option maxRecDepth 100000 in
noncomputable def rw_143 : List PRow := [
  (0, .iload_n 2, 1, 0, 0, 0), (1, .invokestatic 272, 3, 182, 0, 145), (4, .aload_n 0, 1, 0, 0, 0), (5, .iload_n 1, 1, 0, 0, 0), (6, .invokevirtual 30, 3, 186, 0, 107), (9, .getfield 275, 3, 6, 1, 153), (12, .getfield 279, 3, 8, 0, 154), (15, .iload_n 2, 1, 0, 0, 0),
  (16, .iaload, 1, 0, 0, 0), (17, .ireturn, 1, 0, 0, 0)]
set_option maxRecDepth 100000 in
noncomputable def rw_144 : List PRow := [
  (0, .iload_n 2, 1, 0, 0, 0), (1, .invokestatic 204, 3, 181, 0, 135), (4, .aload_n 0, 1, 0, 0, 0), (5, .iload_n 1, 1, 0, 0, 0), (6, .invokevirtual 30, 3, 186, 0, 107), (9, .getfield 275, 3, 6, 1, 153), (12, .getfield 284, 3, 8, 1, 155), (15, .iload_n 2, 1, 0, 0, 0),
  (16, .iaload, 1, 0, 0, 0), (17, .ireturn, 1, 0, 0, 0)]
set_option maxRecDepth 100000 in
noncomputable def rw_145 : List PRow := [
  (0, .iload_n 1, 1, 0, 0, 0), (1, .iload_n 2, 1, 0, 0, 0), (2, .invokestatic 51, 3, 180, 0, 111), (5, .aload_n 0, 1, 0, 0, 0), (6, .getfield 10, 3, 9, 0, 123), (9, .getfield 108, 3, 1, 0, 132), (12, .iload_n 1, 1, 0, 0, 0), (13, .aaload, 1, 0, 0, 0),
  (14, .getfield 86, 3, 6, 12, 128), (17, .iconst 3, 1, 0, 0, 0), (18, .if_icmp .eq 7, 3, 13, 0, 0), (21, .iconst 1, 1, 0, 0, 0), (22, .goto 4, 3, 14, 0, 0), (25, .iconst 0, 1, 0, 0, 0), (26, .invokestatic 40, 3, 178, 0, 108), (29, .aload_n 0, 1, 0, 0, 0),
  (30, .getfield 10, 3, 9, 0, 123), (33, .getfield 108, 3, 1, 0, 132), (36, .iload_n 1, 1, 0, 0, 0), (37, .aaload, 1, 0, 0, 0), (38, .getfield 151, 3, 6, 2, 137), (41, .iload_n 2, 1, 0, 0, 0), (42, .iaload, 1, 0, 0, 0), (43, .ireturn, 1, 0, 0, 0)]
set_option maxRecDepth 100000 in
noncomputable def rw_146 : List PRow := [
  (0, .iload_n 1, 1, 0, 0, 0), (1, .iload_n 2, 1, 0, 0, 0), (2, .invokestatic 51, 3, 180, 0, 111), (5, .aload_n 0, 1, 0, 0, 0), (6, .getfield 10, 3, 9, 0, 123), (9, .getfield 108, 3, 1, 0, 132), (12, .iload_n 1, 1, 0, 0, 0), (13, .aaload, 1, 0, 0, 0),
  (14, .getfield 86, 3, 6, 12, 128), (17, .iconst 3, 1, 0, 0, 0), (18, .if_icmp .eq 7, 3, 13, 0, 0), (21, .iconst 1, 1, 0, 0, 0), (22, .goto 4, 3, 14, 0, 0), (25, .iconst 0, 1, 0, 0, 0), (26, .invokestatic 40, 3, 178, 0, 108), (29, .aload_n 0, 1, 0, 0, 0),
  (30, .getfield 10, 3, 9, 0, 123), (33, .getfield 108, 3, 1, 0, 132), (36, .iload_n 1, 1, 0, 0, 0), (37, .aaload, 1, 0, 0, 0), (38, .getfield 116, 3, 6, 3, 133), (41, .iload_n 2, 1, 0, 0, 0), (42, .iaload, 1, 0, 0, 0), (43, .ireturn, 1, 0, 0, 0)]
set_option maxRecDepth 100000 in
noncomputable def rw_147 : List PRow := [
  (0, .aload_n 0, 1, 0, 0, 0), (1, .getfield 10, 3, 9, 0, 123), (4, .invokevirtual 287, 3, 22, 0, 146), (7, .astore_n 1, 1, 0, 0, 0), (8, .aload_n 1, 1, 0, 0, 0), (9, .ifnonnull 7, 3, 8, 0, 0), (12, .iconst (-1), 1, 0, 0, 0), (13, .goto 7, 3, 10, 0, 0),
  (16, .aload_n 1, 1, 0, 0, 0), (17, .getfield 291, 3, 6, 0, 156), (20, .ireturn, 1, 0, 0, 0)]
set_option maxRecDepth 100000 in
noncomputable def rw_148 : List PRow := [
  (0, .aload_n 0, 1, 0, 0, 0), (1, .getfield 10, 3, 9, 0, 123), (4, .invokevirtual 294, 3, 21, 0, 147), (7, .ireturn, 1, 0, 0, 0)]
set_option maxRecDepth 100000 in
noncomputable def rw_149 : List PRow := [
  (0, .iconst 0, 1, 0, 0, 0), (1, .istore_n 1, 1, 0, 0, 0), (2, .aload_n 0, 1, 0, 0, 0), (3, .getfield 10, 3, 9, 0, 123), (6, .getfield 108, 3, 1, 0, 132), (9, .astore_n 2, 1, 0, 0, 0), (10, .aload_n 2, 1, 0, 0, 0), (11, .arraylength, 1, 0, 0, 0),
  (12, .istore_n 3, 1, 0, 0, 0), (13, .iconst 0, 1, 0, 0, 0), (14, .istore 4, 2, 0, 0, 0), (16, .iload 4, 2, 0, 0, 0), (18, .iload_n 3, 1, 0, 0, 0), (19, .if_icmp .ge 25, 3, 25, 0, 0), (22, .aload_n 2, 1, 0, 0, 0), (23, .iload 4, 2, 0, 0, 0),
  (25, .aaload, 1, 0, 0, 0), (26, .astore 5, 2, 0, 0, 0), (28, .iload_n 1, 1, 0, 0, 0), (29, .aload 5, 2, 0, 0, 0), (31, .getfield 93, 3, 6, 15, 129), (34, .invokestatic 297, 3, 2, 0, 148), (37, .istore_n 1, 1, 0, 0, 0), (38, .iinc 4 1, 3, 0, 0, 0),
  (41, .goto (-25), 3, 11, 0, 0), (44, .iload_n 1, 1, 0, 0, 0), (45, .ireturn, 1, 0, 0, 0)]
set_option maxRecDepth 100000 in
noncomputable def rw_150 : List PRow := [
  (0, .iload_n 2, 1, 0, 0, 0), (1, .invokestatic 133, 3, 179, 0, 122), (4, .aload_n 0, 1, 0, 0, 0), (5, .iload_n 1, 1, 0, 0, 0), (6, .invokevirtual 30, 3, 186, 0, 107), (9, .aload_n 0, 1, 0, 0, 0), (10, .getfield 10, 3, 9, 0, 123), (13, .getfield 108, 3, 1, 0, 132),
  (16, .iload_n 2, 1, 0, 0, 0), (17, .aaload, 1, 0, 0, 0), (18, .invokevirtual 302, 3, 83, 0, 149), (21, .ireturn, 1, 0, 0, 0)]
set_option maxRecDepth 100000 in
noncomputable def rw_151 : List PRow := [
  (0, .aload_n 0, 1, 0, 0, 0), (1, .iload_n 1, 1, 0, 0, 0), (2, .iload_n 2, 1, 0, 0, 0), (3, .invokevirtual 260, 3, 188, 0, 141), (6, .astore_n 3, 1, 0, 0, 0), (7, .aload_n 0, 1, 0, 0, 0), (8, .getfield 10, 3, 9, 0, 123), (11, .aload_n 0, 1, 0, 0, 0),
  (12, .getfield 10, 3, 9, 0, 123), (15, .getfield 108, 3, 1, 0, 132), (18, .iload_n 1, 1, 0, 0, 0), (19, .aaload, 1, 0, 0, 0), (20, .iload_n 2, 1, 0, 0, 0), (21, .aload_n 3, 1, 0, 0, 0), (22, .getfield 305, 3, 2, 0, 157), (25, .invokevirtual 306, 3, 23, 0, 150),
  (28, .ireturn, 1, 0, 0, 0)]
set_option maxRecDepth 100000 in
noncomputable def rw_152 : List PRow := [
  (0, .aload_n 0, 1, 0, 0, 0), (1, .getfield 10, 3, 9, 0, 123), (4, .aload_n 0, 1, 0, 0, 0), (5, .iload_n 1, 1, 0, 0, 0), (6, .invokevirtual 30, 3, 186, 0, 107), (9, .invokevirtual 310, 3, 24, 0, 151), (12, .ireturn, 1, 0, 0, 0)]
set_option maxRecDepth 100000 in
noncomputable def rw_153 : List PRow := [
  (0, .iload_n 1, 1, 0, 0, 0), (1, .invokestatic 272, 3, 182, 0, 145), (4, .aload_n 0, 1, 0, 0, 0), (5, .getfield 10, 3, 9, 0, 123), (8, .iload_n 1, 1, 0, 0, 0), (9, .invokevirtual 314, 3, 25, 0, 152), (12, .ireturn, 1, 0, 0, 0)]
set_option maxRecDepth 100000 in
noncomputable def rw_154 : List PRow := [
  (0, .aload_n 0, 1, 0, 0, 0), (1, .getfield 16, 3, 9, 1, 124), (4, .aload_n 0, 1, 0, 0, 0), (5, .getfield 10, 3, 9, 0, 123), (8, .invokevirtual 317, 3, 19, 0, 153), (11, .aload_n 0, 1, 0, 0, 0), (12, .iconst 0, 1, 0, 0, 0), (13, .iconst 0, 1, 0, 0, 0),
  (14, .invokevirtual 321, 3, 177, 0, 154), (17, .ireturn, 1, 0, 0, 0)]
set_option maxRecDepth 100000 in
noncomputable def rw_155 : List PRow := [
  (0, .iload_n 1, 1, 0, 0, 0), (1, .invokestatic 204, 3, 181, 0, 135), (4, .aload_n 0, 1, 0, 0, 0), (5, .getfield 16, 3, 9, 1, 124), (8, .aload_n 0, 1, 0, 0, 0), (9, .getfield 10, 3, 9, 0, 123), (12, .invokevirtual 317, 3, 19, 0, 153), (15, .aload_n 0, 1, 0, 0, 0),
  (16, .iconst 1, 1, 0, 0, 0), (17, .iload_n 1, 1, 0, 0, 0), (18, .invokevirtual 321, 3, 177, 0, 154), (21, .ireturn, 1, 0, 0, 0)]
set_option maxRecDepth 100000 in
noncomputable def rw_156 : List PRow := [
  (0, .aload_n 0, 1, 0, 0, 0), (1, .getfield 16, 3, 9, 1, 124), (4, .aload_n 0, 1, 0, 0, 0), (5, .getfield 10, 3, 9, 0, 123), (8, .invokevirtual 317, 3, 19, 0, 153), (11, .aload_n 0, 1, 0, 0, 0), (12, .iconst 2, 1, 0, 0, 0), (13, .iconst 0, 1, 0, 0, 0),
  (14, .invokevirtual 321, 3, 177, 0, 154), (17, .ireturn, 1, 0, 0, 0)]
set_option maxRecDepth 100000 in
noncomputable def rw_157 : List PRow := [
  (0, .aload_n 0, 1, 0, 0, 0), (1, .iload_n 1, 1, 0, 0, 0), (2, .invokevirtual 30, 3, 186, 0, 107), (5, .invokevirtual 78, 3, 80, 0, 115), (8, .ifCond .ne 5, 3, 7, 0, 0), (11, .iconst (-1), 1, 0, 0, 0), (12, .ireturn, 1, 0, 0, 0), (13, .aload_n 0, 1, 0, 0, 0),
  (14, .getfield 16, 3, 9, 1, 124), (17, .aload_n 0, 1, 0, 0, 0), (18, .getfield 10, 3, 9, 0, 123), (21, .invokevirtual 317, 3, 19, 0, 153), (24, .aload_n 0, 1, 0, 0, 0), (25, .getfield 16, 3, 9, 1, 124), (28, .getfield 108, 3, 1, 0, 132), (31, .iload_n 1, 1, 0, 0, 0),
  (32, .aaload, 1, 0, 0, 0), (33, .astore_n 2, 1, 0, 0, 0), (34, .aload_n 0, 1, 0, 0, 0), (35, .getfield 16, 3, 9, 1, 124), (38, .aload_n 2, 1, 0, 0, 0), (39, .iconst 1, 1, 0, 0, 0), (40, .invokevirtual 82, 3, 32, 0, 116), (43, .iconst 0, 1, 0, 0, 0),
  (44, .istore_n 3, 1, 0, 0, 0), (45, .iload_n 3, 1, 0, 0, 0), (46, .iconst 3, 1, 0, 0, 0), (47, .if_icmp .ge 16, 3, 33, 0, 0), (50, .aload_n 0, 1, 0, 0, 0), (51, .getfield 16, 3, 9, 1, 124), (54, .invokevirtual 75, 3, 31, 0, 114), (57, .iinc 3 1, 3, 0, 0, 0),
  (60, .goto (-15), 3, 25, 0, 0), (63, .aload_n 2, 1, 0, 0, 0), (64, .getfield 86, 3, 6, 12, 128), (67, .ireturn, 1, 0, 0, 0)]
set_option maxRecDepth 100000 in
noncomputable def rw_158 : List PRow := [
  (0, .aload_n 0, 1, 0, 0, 0), (1, .iload_n 1, 1, 0, 0, 0), (2, .invokevirtual 30, 3, 186, 0, 107), (5, .getfield 34, 3, 6, 4, 125), (8, .ifCond .ne 7, 3, 7, 0, 0), (11, .iconst 1, 1, 0, 0, 0), (12, .goto 4, 3, 8, 0, 0), (15, .iconst 0, 1, 0, 0, 0),
  (16, .invokestatic 40, 3, 178, 0, 108), (19, .aload_n 0, 1, 0, 0, 0), (20, .getfield 16, 3, 9, 1, 124), (23, .aload_n 0, 1, 0, 0, 0), (24, .getfield 10, 3, 9, 0, 123), (27, .invokevirtual 317, 3, 19, 0, 153), (30, .aload_n 0, 1, 0, 0, 0), (31, .getfield 16, 3, 9, 1, 124),
  (34, .getfield 108, 3, 1, 0, 132), (37, .iload_n 1, 1, 0, 0, 0), (38, .aaload, 1, 0, 0, 0), (39, .invokevirtual 44, 3, 69, 0, 109), (42, .aload_n 0, 1, 0, 0, 0), (43, .iconst 3, 1, 0, 0, 0), (44, .iconst 0, 1, 0, 0, 0), (45, .invokevirtual 321, 3, 177, 0, 154),
  (48, .ireturn, 1, 0, 0, 0)]
set_option maxRecDepth 100000 in
noncomputable def rw_159 : List PRow := [
  (0, .dconst 0, 1, 0, 0, 0), (1, .dstore_n 1, 1, 0, 0, 0), (2, .iconst 0, 1, 0, 0, 0), (3, .istore_n 3, 1, 0, 0, 0), (4, .aload_n 0, 1, 0, 0, 0), (5, .getfield 10, 3, 9, 0, 123), (8, .getfield 108, 3, 1, 0, 132), (11, .astore 4, 2, 0, 0, 0),
  (13, .aload 4, 2, 0, 0, 0), (15, .arraylength, 1, 0, 0, 0), (16, .istore 5, 2, 0, 0, 0), (18, .iconst 0, 1, 0, 0, 0), (19, .istore 6, 2, 0, 0, 0), (21, .iload 6, 2, 0, 0, 0), (23, .iload 5, 2, 0, 0, 0), (25, .if_icmp .ge 36, 3, 32, 0, 0),
  (28, .aload 4, 2, 0, 0, 0), (30, .iload 6, 2, 0, 0, 0), (32, .aaload, 1, 0, 0, 0), (33, .astore 7, 2, 0, 0, 0), (35, .aload 7, 2, 0, 0, 0), (37, .getfield 34, 3, 6, 4, 125), (40, .ifCond .eq 15, 3, 30, 0, 0), (43, .dload_n 1, 1, 0, 0, 0),
  (44, .aload 7, 2, 0, 0, 0), (46, .getfield 93, 3, 6, 15, 129), (49, .i2d, 1, 0, 0, 0), (50, .dadd, 1, 0, 0, 0), (51, .dstore_n 1, 1, 0, 0, 0), (52, .iinc 3 1, 3, 0, 0, 0), (55, .iinc 6 1, 3, 0, 0, 0), (58, .goto (-37), 3, 13, 0, 0),
  (61, .iload_n 3, 1, 0, 0, 0), (62, .ifCond .ne 7, 3, 36, 0, 0), (65, .dconst 0, 1, 0, 0, 0), (66, .goto 7, 3, 40, 0, 0), (69, .dload_n 1, 1, 0, 0, 0), (70, .iload_n 3, 1, 0, 0, 0), (71, .i2d, 1, 0, 0, 0), (72, .ddiv, 1, 0, 0, 0),
  (73, .dreturn, 1, 0, 0, 0)]
set_option maxRecDepth 100000 in
noncomputable def rw_160 : List PRow := [
  (0, .ldc2_w 324, 3, 2423, 0, 1), (3, .lstore_n 1, 1, 0, 0, 0), (4, .lload_n 1, 1, 0, 0, 0), (5, .ldc2_w 326, 3, 31, 0, 2), (8, .lmul, 1, 0, 0, 0), (9, .aload_n 0, 1, 0, 0, 0), (10, .invokevirtual 328, 3, 133, 0, 155), (13, .i2l, 1, 0, 0, 0),
  (14, .ladd, 1, 0, 0, 0), (15, .lstore_n 1, 1, 0, 0, 0), (16, .lload_n 1, 1, 0, 0, 0), (17, .ldc2_w 326, 3, 31, 0, 2), (20, .lmul, 1, 0, 0, 0), (21, .aload_n 0, 1, 0, 0, 0), (22, .invokevirtual 331, 3, 134, 0, 156), (25, .i2l, 1, 0, 0, 0),
  (26, .ladd, 1, 0, 0, 0), (27, .lstore_n 1, 1, 0, 0, 0), (28, .lload_n 1, 1, 0, 0, 0), (29, .ldc2_w 326, 3, 31, 0, 2), (32, .lmul, 1, 0, 0, 0), (33, .aload_n 0, 1, 0, 0, 0), (34, .invokevirtual 334, 3, 117, 0, 157), (37, .i2l, 1, 0, 0, 0),
  (38, .ladd, 1, 0, 0, 0), (39, .lstore_n 1, 1, 0, 0, 0), (40, .lload_n 1, 1, 0, 0, 0), (41, .ldc2_w 326, 3, 31, 0, 2), (44, .lmul, 1, 0, 0, 0), (45, .aload_n 0, 1, 0, 0, 0), (46, .invokevirtual 337, 3, 157, 0, 158), (49, .i2l, 1, 0, 0, 0),
  (50, .ladd, 1, 0, 0, 0), (51, .lstore_n 1, 1, 0, 0, 0), (52, .lload_n 1, 1, 0, 0, 0), (53, .ldc2_w 326, 3, 31, 0, 2), (56, .lmul, 1, 0, 0, 0), (57, .aload_n 0, 1, 0, 0, 0), (58, .invokevirtual 340, 3, 158, 0, 159), (61, .i2l, 1, 0, 0, 0),
  (62, .ladd, 1, 0, 0, 0), (63, .lstore_n 1, 1, 0, 0, 0), (64, .lload_n 1, 1, 0, 0, 0), (65, .ldc2_w 326, 3, 31, 0, 2), (68, .lmul, 1, 0, 0, 0), (69, .aload_n 0, 1, 0, 0, 0), (70, .invokevirtual 343, 3, 159, 0, 160), (73, .i2l, 1, 0, 0, 0),
  (74, .ladd, 1, 0, 0, 0), (75, .lstore_n 1, 1, 0, 0, 0), (76, .aload_n 0, 1, 0, 0, 0), (77, .lload_n 1, 1, 0, 0, 0), (78, .invokevirtual 345, 3, 171, 0, 161), (81, .lstore_n 1, 1, 0, 0, 0), (82, .aload_n 0, 1, 0, 0, 0), (83, .lload_n 1, 1, 0, 0, 0),
  (84, .invokevirtual 349, 3, 172, 0, 162), (87, .lstore_n 1, 1, 0, 0, 0), (88, .aload_n 0, 1, 0, 0, 0), (89, .getfield 10, 3, 9, 0, 123), (92, .getfield 108, 3, 1, 0, 132), (95, .astore_n 3, 1, 0, 0, 0), (96, .aload_n 3, 1, 0, 0, 0), (97, .arraylength, 1, 0, 0, 0),
  (98, .istore 4, 2, 0, 0, 0), (100, .iconst 0, 1, 0, 0, 0), (101, .istore 5, 2, 0, 0, 0), (103, .iload 5, 2, 0, 0, 0), (105, .iload 4, 2, 0, 0, 0), (107, .if_icmp .ge 49, 3, 96, 0, 0), (110, .aload_n 3, 1, 0, 0, 0), (111, .iload 5, 2, 0, 0, 0),
  (113, .aaload, 1, 0, 0, 0), (114, .astore 6, 2, 0, 0, 0), (116, .aload_n 0, 1, 0, 0, 0), (117, .lload_n 1, 1, 0, 0, 0), (118, .aload 6, 2, 0, 0, 0), (120, .invokevirtual 352, 3, 173, 0, 163), (123, .lstore_n 1, 1, 0, 0, 0), (124, .aload_n 0, 1, 0, 0, 0),
  (125, .lload_n 1, 1, 0, 0, 0), (126, .aload 6, 2, 0, 0, 0), (128, .invokevirtual 356, 3, 174, 0, 164), (131, .lstore_n 1, 1, 0, 0, 0), (132, .lload_n 1, 1, 0, 0, 0), (133, .aload 6, 2, 0, 0, 0), (135, .getfield 275, 3, 6, 1, 153), (138, .invokestatic 359, 3, 175, 0, 165),
  (141, .lstore_n 1, 1, 0, 0, 0), (142, .aload_n 0, 1, 0, 0, 0), (143, .lload_n 1, 1, 0, 0, 0), (144, .aload 6, 2, 0, 0, 0), (146, .invokevirtual 363, 3, 176, 0, 166), (149, .lstore_n 1, 1, 0, 0, 0), (150, .iinc 5 1, 3, 0, 0, 0), (153, .goto (-50), 3, 67, 0, 0),
  (156, .lload_n 1, 1, 0, 0, 0), (157, .lreturn, 1, 0, 0, 0)]
set_option maxRecDepth 100000 in
noncomputable def rw_161 : List PRow := [
  (0, .lload_n 1, 1, 0, 0, 0), (1, .lstore_n 3, 1, 0, 0, 0), (2, .iconst 0, 1, 0, 0, 0), (3, .istore 5, 2, 0, 0, 0), (5, .iload 5, 2, 0, 0, 0), (7, .aload_n 0, 1, 0, 0, 0), (8, .getfield 10, 3, 9, 0, 123), (11, .getfield 55, 3, 1, 2, 126),
  (14, .getfield 130, 3, 4, 3, 135), (17, .if_icmp .ge 89, 3, 59, 0, 0), (20, .aload_n 0, 1, 0, 0, 0), (21, .getfield 10, 3, 9, 0, 123), (24, .getfield 55, 3, 1, 2, 126), (27, .getfield 366, 3, 4, 0, 158), (30, .iload 5, 2, 0, 0, 0), (32, .aaload, 1, 0, 0, 0),
  (33, .astore 6, 2, 0, 0, 0), (35, .lload_n 3, 1, 0, 0, 0), (36, .ldc2_w 326, 3, 31, 0, 2), (39, .lmul, 1, 0, 0, 0), (40, .aload 6, 2, 0, 0, 0), (42, .getfield 175, 3, 3, 1, 138), (45, .i2l, 1, 0, 0, 0), (46, .ladd, 1, 0, 0, 0),
  (47, .lstore_n 3, 1, 0, 0, 0), (48, .lload_n 3, 1, 0, 0, 0), (49, .ldc2_w 326, 3, 31, 0, 2), (52, .lmul, 1, 0, 0, 0), (53, .aload 6, 2, 0, 0, 0), (55, .getfield 180, 3, 3, 2, 139), (58, .i2l, 1, 0, 0, 0), (59, .ladd, 1, 0, 0, 0),
  (60, .lstore_n 3, 1, 0, 0, 0), (61, .lload_n 3, 1, 0, 0, 0), (62, .ldc2_w 326, 3, 31, 0, 2), (65, .lmul, 1, 0, 0, 0), (66, .aload 6, 2, 0, 0, 0), (68, .getfield 183, 3, 3, 3, 140), (71, .i2l, 1, 0, 0, 0), (72, .ladd, 1, 0, 0, 0),
  (73, .lstore_n 3, 1, 0, 0, 0), (74, .lload_n 3, 1, 0, 0, 0), (75, .ldc2_w 326, 3, 31, 0, 2), (78, .lmul, 1, 0, 0, 0), (79, .aload 6, 2, 0, 0, 0), (81, .getfield 186, 3, 3, 4, 141), (84, .i2l, 1, 0, 0, 0), (85, .ladd, 1, 0, 0, 0),
  (86, .lstore_n 3, 1, 0, 0, 0), (87, .lload_n 3, 1, 0, 0, 0), (88, .ldc2_w 326, 3, 31, 0, 2), (91, .lmul, 1, 0, 0, 0), (92, .aload 6, 2, 0, 0, 0), (94, .invokevirtual 187, 3, 55, 0, 132), (97, .i2l, 1, 0, 0, 0), (98, .ladd, 1, 0, 0, 0),
  (99, .lstore_n 3, 1, 0, 0, 0), (100, .iinc 5 1, 3, 0, 0, 0), (103, .goto (-98), 3, 4, 0, 0), (106, .lload_n 3, 1, 0, 0, 0), (107, .lreturn, 1, 0, 0, 0)]
set_option maxRecDepth 100000 in
noncomputable def rw_162 : List PRow := [
  (0, .lload_n 1, 1, 0, 0, 0), (1, .lstore_n 3, 1, 0, 0, 0), (2, .aload_n 0, 1, 0, 0, 0), (3, .getfield 10, 3, 9, 0, 123), (6, .getfield 194, 3, 1, 1, 142), (9, .astore 5, 2, 0, 0, 0), (11, .aload 5, 2, 0, 0, 0), (13, .arraylength, 1, 0, 0, 0),
  (14, .istore 6, 2, 0, 0, 0), (16, .iconst 0, 1, 0, 0, 0), (17, .istore 7, 2, 0, 0, 0), (19, .iload 7, 2, 0, 0, 0), (21, .iload 6, 2, 0, 0, 0), (23, .if_icmp .ge 71, 3, 51, 0, 0), (26, .aload 5, 2, 0, 0, 0), (28, .iload 7, 2, 0, 0, 0),
  (30, .aaload, 1, 0, 0, 0), (31, .astore 8, 2, 0, 0, 0), (33, .lload_n 3, 1, 0, 0, 0), (34, .ldc2_w 326, 3, 31, 0, 2), (37, .lmul, 1, 0, 0, 0), (38, .aload 8, 2, 0, 0, 0), (40, .invokevirtual 223, 3, 13, 0, 136), (43, .i2l, 1, 0, 0, 0),
  (44, .ladd, 1, 0, 0, 0), (45, .lstore_n 3, 1, 0, 0, 0), (46, .lload_n 3, 1, 0, 0, 0), (47, .ldc2_w 326, 3, 31, 0, 2), (50, .lmul, 1, 0, 0, 0), (51, .aload 8, 2, 0, 0, 0), (53, .getfield 211, 3, 0, 1, 144), (56, .ifCond .eq 7, 3, 34, 0, 0),
  (59, .iconst 1, 1, 0, 0, 0), (60, .goto 4, 3, 35, 0, 0), (63, .iconst 0, 1, 0, 0, 0), (64, .i2l, 1, 0, 0, 0), (65, .ladd, 1, 0, 0, 0), (66, .lstore_n 3, 1, 0, 0, 0), (67, .aload 8, 2, 0, 0, 0), (69, .getfield 211, 3, 0, 1, 144),
  (72, .ifCond .eq 16, 3, 49, 0, 0), (75, .lload_n 3, 1, 0, 0, 0), (76, .ldc2_w 326, 3, 31, 0, 2), (79, .lmul, 1, 0, 0, 0), (80, .aload 8, 2, 0, 0, 0), (82, .getfield 226, 3, 0, 2, 147), (85, .i2l, 1, 0, 0, 0), (86, .ladd, 1, 0, 0, 0),
  (87, .lstore_n 3, 1, 0, 0, 0), (88, .iinc 7 1, 3, 0, 0, 0), (91, .goto (-72), 3, 11, 0, 0), (94, .lload_n 3, 1, 0, 0, 0), (95, .lreturn, 1, 0, 0, 0)]
set_option maxRecDepth 100000 in
noncomputable def rw_163 : List PRow := [
  (0, .lload_n 1, 1, 0, 0, 0), (1, .lstore 4, 2, 0, 0, 0), (3, .lload 4, 2, 0, 0, 0), (5, .ldc2_w 326, 3, 31, 0, 2), (8, .lmul, 1, 0, 0, 0), (9, .aload_n 3, 1, 0, 0, 0), (10, .getfield 34, 3, 6, 4, 125), (13, .ifCond .eq 7, 3, 10, 0, 0),
  (16, .iconst 1, 1, 0, 0, 0), (17, .goto 4, 3, 11, 0, 0), (20, .iconst 0, 1, 0, 0, 0), (21, .i2l, 1, 0, 0, 0), (22, .ladd, 1, 0, 0, 0), (23, .lstore 4, 2, 0, 0, 0), (25, .lload 4, 2, 0, 0, 0), (27, .ldc2_w 326, 3, 31, 0, 2),
  (30, .lmul, 1, 0, 0, 0), (31, .aload_n 3, 1, 0, 0, 0), (32, .getfield 86, 3, 6, 12, 128), (35, .i2l, 1, 0, 0, 0), (36, .ladd, 1, 0, 0, 0), (37, .lstore 4, 2, 0, 0, 0), (39, .lload 4, 2, 0, 0, 0), (41, .ldc2_w 326, 3, 31, 0, 2),
  (44, .lmul, 1, 0, 0, 0), (45, .aload_n 3, 1, 0, 0, 0), (46, .getfield 123, 3, 6, 5, 134), (49, .i2l, 1, 0, 0, 0), (50, .ladd, 1, 0, 0, 0), (51, .lstore 4, 2, 0, 0, 0), (53, .lload 4, 2, 0, 0, 0), (55, .ldc2_w 326, 3, 31, 0, 2),
  (58, .lmul, 1, 0, 0, 0), (59, .aload_n 3, 1, 0, 0, 0), (60, .getfield 232, 3, 6, 6, 149), (63, .i2l, 1, 0, 0, 0), (64, .ladd, 1, 0, 0, 0), (65, .lstore 4, 2, 0, 0, 0), (67, .lload 4, 2, 0, 0, 0), (69, .ldc2_w 326, 3, 31, 0, 2),
  (72, .lmul, 1, 0, 0, 0), (73, .aload_n 3, 1, 0, 0, 0), (74, .getfield 235, 3, 6, 13, 150), (77, .i2l, 1, 0, 0, 0), (78, .ladd, 1, 0, 0, 0), (79, .lstore 4, 2, 0, 0, 0), (81, .lload 4, 2, 0, 0, 0), (83, .ldc2_w 326, 3, 31, 0, 2),
  (86, .lmul, 1, 0, 0, 0), (87, .aload_n 3, 1, 0, 0, 0), (88, .getfield 238, 3, 6, 14, 151), (91, .i2l, 1, 0, 0, 0), (92, .ladd, 1, 0, 0, 0), (93, .lstore 4, 2, 0, 0, 0), (95, .lload 4, 2, 0, 0, 0), (97, .ldc2_w 326, 3, 31, 0, 2),
  (100, .lmul, 1, 0, 0, 0), (101, .aload_n 3, 1, 0, 0, 0), (102, .getfield 96, 3, 6, 9, 130), (105, .getfield 100, 3, 7, 0, 131), (108, .i2l, 1, 0, 0, 0), (109, .ladd, 1, 0, 0, 0), (110, .lstore 4, 2, 0, 0, 0), (112, .lload 4, 2, 0, 0, 0),
  (114, .ldc2_w 326, 3, 31, 0, 2), (117, .lmul, 1, 0, 0, 0), (118, .aload_n 3, 1, 0, 0, 0), (119, .invokevirtual 120, 3, 72, 0, 120), (122, .i2l, 1, 0, 0, 0), (123, .ladd, 1, 0, 0, 0), (124, .lstore 4, 2, 0, 0, 0), (126, .lload 4, 2, 0, 0, 0),
  (128, .ldc2_w 326, 3, 31, 0, 2), (131, .lmul, 1, 0, 0, 0), (132, .aload_n 3, 1, 0, 0, 0), (133, .invokevirtual 244, 3, 73, 0, 138), (136, .i2l, 1, 0, 0, 0), (137, .ladd, 1, 0, 0, 0), (138, .lstore 4, 2, 0, 0, 0), (140, .lload 4, 2, 0, 0, 0),
  (142, .ldc2_w 326, 3, 31, 0, 2), (145, .lmul, 1, 0, 0, 0), (146, .aload_n 3, 1, 0, 0, 0), (147, .getfield 93, 3, 6, 15, 129), (150, .i2l, 1, 0, 0, 0), (151, .ladd, 1, 0, 0, 0), (152, .lstore 4, 2, 0, 0, 0), (154, .lload 4, 2, 0, 0, 0),
  (156, .ldc2_w 326, 3, 31, 0, 2), (159, .lmul, 1, 0, 0, 0), (160, .aload_n 3, 1, 0, 0, 0), (161, .getfield 141, 3, 6, 10, 136), (164, .invokestatic 247, 3, 389, 0, 139), (167, .i2l, 1, 0, 0, 0), (168, .ladd, 1, 0, 0, 0), (169, .lstore 4, 2, 0, 0, 0),
  (171, .lload 4, 2, 0, 0, 0), (173, .ldc2_w 326, 3, 31, 0, 2), (176, .lmul, 1, 0, 0, 0), (177, .aload_n 0, 1, 0, 0, 0), (178, .getfield 10, 3, 9, 0, 123), (181, .aload_n 3, 1, 0, 0, 0), (182, .invokevirtual 310, 3, 24, 0, 151), (185, .ifCond .eq 7, 3, 106, 0, 0),
  (188, .iconst 1, 1, 0, 0, 0), (189, .goto 4, 3, 107, 0, 0), (192, .iconst 0, 1, 0, 0, 0), (193, .i2l, 1, 0, 0, 0), (194, .ladd, 1, 0, 0, 0), (195, .lstore 4, 2, 0, 0, 0), (197, .lload 4, 2, 0, 0, 0), (199, .lreturn, 1, 0, 0, 0)]
set_option maxRecDepth 100000 in
noncomputable def rw_164 : List PRow := [
  (0, .lload_n 1, 1, 0, 0, 0), (1, .lstore 4, 2, 0, 0, 0), (3, .iconst 0, 1, 0, 0, 0), (4, .istore 6, 2, 0, 0, 0), (6, .iload 6, 2, 0, 0, 0), (8, .aload_n 3, 1, 0, 0, 0), (9, .getfield 219, 3, 6, 8, 145), (12, .if_icmp .ge 138, 3, 79, 0, 0),
  (15, .iload 6, 2, 0, 0, 0), (17, .aload_n 3, 1, 0, 0, 0), (18, .getfield 370, 3, 6, 7, 159), (21, .arraylength, 1, 0, 0, 0), (22, .if_icmp .ge 128, 3, 79, 0, 0), (25, .aload_n 3, 1, 0, 0, 0), (26, .getfield 370, 3, 6, 7, 159), (29, .iload 6, 2, 0, 0, 0),
  (31, .aaload, 1, 0, 0, 0), (32, .astore 7, 2, 0, 0, 0), (34, .lload 4, 2, 0, 0, 0), (36, .ldc2_w 326, 3, 31, 0, 2), (39, .lmul, 1, 0, 0, 0), (40, .aload 7, 2, 0, 0, 0), (42, .getfield 305, 3, 2, 0, 157), (45, .i2l, 1, 0, 0, 0),
  (46, .ladd, 1, 0, 0, 0), (47, .lstore 4, 2, 0, 0, 0), (49, .lload 4, 2, 0, 0, 0), (51, .ldc2_w 326, 3, 31, 0, 2), (54, .lmul, 1, 0, 0, 0), (55, .aload 7, 2, 0, 0, 0), (57, .getfield 264, 3, 2, 1, 152), (60, .i2l, 1, 0, 0, 0),
  (61, .ladd, 1, 0, 0, 0), (62, .lstore 4, 2, 0, 0, 0), (64, .lload 4, 2, 0, 0, 0), (66, .ldc2_w 326, 3, 31, 0, 2), (69, .lmul, 1, 0, 0, 0), (70, .aload 7, 2, 0, 0, 0), (72, .invokevirtual 265, 3, 50, 0, 142), (75, .i2l, 1, 0, 0, 0),
  (76, .ladd, 1, 0, 0, 0), (77, .lstore 4, 2, 0, 0, 0), (79, .lload 4, 2, 0, 0, 0), (81, .ldc2_w 326, 3, 31, 0, 2), (84, .lmul, 1, 0, 0, 0), (85, .aload 7, 2, 0, 0, 0), (87, .invokevirtual 268, 3, 51, 0, 143), (90, .i2l, 1, 0, 0, 0),
  (91, .ladd, 1, 0, 0, 0), (92, .lstore 4, 2, 0, 0, 0), (94, .lload 4, 2, 0, 0, 0), (96, .ldc2_w 326, 3, 31, 0, 2), (99, .lmul, 1, 0, 0, 0), (100, .aload 7, 2, 0, 0, 0), (102, .invokevirtual 271, 3, 52, 0, 144), (105, .i2l, 1, 0, 0, 0),
  (106, .ladd, 1, 0, 0, 0), (107, .lstore 4, 2, 0, 0, 0), (109, .lload 4, 2, 0, 0, 0), (111, .ldc2_w 326, 3, 31, 0, 2), (114, .lmul, 1, 0, 0, 0), (115, .aload_n 0, 1, 0, 0, 0), (116, .getfield 10, 3, 9, 0, 123), (119, .aload_n 3, 1, 0, 0, 0),
  (120, .aload_n 3, 1, 0, 0, 0), (121, .getfield 96, 3, 6, 9, 130), (124, .getfield 100, 3, 7, 0, 131), (127, .iconst 1, 1, 0, 0, 0), (128, .iadd, 1, 0, 0, 0), (129, .iload 6, 2, 0, 0, 0), (131, .iadd, 1, 0, 0, 0), (132, .aload 7, 2, 0, 0, 0),
  (134, .getfield 305, 3, 2, 0, 157), (137, .invokevirtual 306, 3, 23, 0, 150), (140, .i2l, 1, 0, 0, 0), (141, .ladd, 1, 0, 0, 0), (142, .lstore 4, 2, 0, 0, 0), (144, .iinc 6 1, 3, 0, 0, 0), (147, .goto (-141), 3, 4, 0, 0), (150, .lload 4, 2, 0, 0, 0),
  (152, .lreturn, 1, 0, 0, 0)]
set_option maxRecDepth 100000 in
noncomputable def rw_165 : List PRow := [
  (0, .lload_n 0, 1, 0, 0, 0), (1, .lstore_n 3, 1, 0, 0, 0), (2, .aload_n 2, 1, 0, 0, 0), (3, .getfield 279, 3, 8, 0, 154), (6, .astore 5, 2, 0, 0, 0), (8, .aload 5, 2, 0, 0, 0), (10, .arraylength, 1, 0, 0, 0), (11, .istore 6, 2, 0, 0, 0),
  (13, .iconst 0, 1, 0, 0, 0), (14, .istore 7, 2, 0, 0, 0), (16, .iload 7, 2, 0, 0, 0), (18, .iload 6, 2, 0, 0, 0), (20, .if_icmp .ge 26, 3, 26, 0, 0), (23, .aload 5, 2, 0, 0, 0), (25, .iload 7, 2, 0, 0, 0), (27, .iaload, 1, 0, 0, 0),
  (28, .istore 8, 2, 0, 0, 0), (30, .lload_n 3, 1, 0, 0, 0), (31, .ldc2_w 326, 3, 31, 0, 2), (34, .lmul, 1, 0, 0, 0), (35, .iload 8, 2, 0, 0, 0), (37, .i2l, 1, 0, 0, 0), (38, .ladd, 1, 0, 0, 0), (39, .lstore_n 3, 1, 0, 0, 0),
  (40, .iinc 7 1, 3, 0, 0, 0), (43, .goto (-27), 3, 10, 0, 0), (46, .aload_n 2, 1, 0, 0, 0), (47, .getfield 284, 3, 8, 1, 155), (50, .astore 5, 2, 0, 0, 0), (52, .aload 5, 2, 0, 0, 0), (54, .arraylength, 1, 0, 0, 0), (55, .istore 6, 2, 0, 0, 0),
  (57, .iconst 0, 1, 0, 0, 0), (58, .istore 7, 2, 0, 0, 0), (60, .iload 7, 2, 0, 0, 0), (62, .iload 6, 2, 0, 0, 0), (64, .if_icmp .ge 26, 3, 50, 0, 0), (67, .aload 5, 2, 0, 0, 0), (69, .iload 7, 2, 0, 0, 0), (71, .iaload, 1, 0, 0, 0),
  (72, .istore 8, 2, 0, 0, 0), (74, .lload_n 3, 1, 0, 0, 0), (75, .ldc2_w 326, 3, 31, 0, 2), (78, .lmul, 1, 0, 0, 0), (79, .iload 8, 2, 0, 0, 0), (81, .i2l, 1, 0, 0, 0), (82, .ladd, 1, 0, 0, 0), (83, .lstore_n 3, 1, 0, 0, 0),
  (84, .iinc 7 1, 3, 0, 0, 0), (87, .goto (-27), 3, 34, 0, 0), (90, .lload_n 3, 1, 0, 0, 0), (91, .lreturn, 1, 0, 0, 0)]
set_option maxRecDepth 100000 in
noncomputable def rw_166 : List PRow := [
  (0, .lload_n 1, 1, 0, 0, 0), (1, .lstore 4, 2, 0, 0, 0), (3, .iconst 0, 1, 0, 0, 0), (4, .istore 6, 2, 0, 0, 0), (6, .iload 6, 2, 0, 0, 0), (8, .bipush 7, 2, 0, 0, 0), (10, .if_icmp .ge 60, 3, 37, 0, 0), (13, .aload_n 3, 1, 0, 0, 0),
  (14, .getfield 86, 3, 6, 12, 128), (17, .iconst 3, 1, 0, 0, 0), (18, .if_icmp .ne 46, 3, 35, 0, 0), (21, .iload 6, 2, 0, 0, 0), (23, .aload_n 3, 1, 0, 0, 0), (24, .getfield 291, 3, 6, 0, 156), (27, .if_icmp .eq 37, 3, 35, 0, 0), (30, .lload 4, 2, 0, 0, 0),
  (32, .ldc2_w 326, 3, 31, 0, 2), (35, .lmul, 1, 0, 0, 0), (36, .aload_n 3, 1, 0, 0, 0), (37, .getfield 151, 3, 6, 2, 137), (40, .iload 6, 2, 0, 0, 0), (42, .iaload, 1, 0, 0, 0), (43, .i2l, 1, 0, 0, 0), (44, .ladd, 1, 0, 0, 0),
  (45, .lstore 4, 2, 0, 0, 0), (47, .lload 4, 2, 0, 0, 0), (49, .ldc2_w 326, 3, 31, 0, 2), (52, .lmul, 1, 0, 0, 0), (53, .aload_n 3, 1, 0, 0, 0), (54, .getfield 116, 3, 6, 3, 133), (57, .iload 6, 2, 0, 0, 0), (59, .iaload, 1, 0, 0, 0),
  (60, .i2l, 1, 0, 0, 0), (61, .ladd, 1, 0, 0, 0), (62, .lstore 4, 2, 0, 0, 0), (64, .iinc 6 1, 3, 0, 0, 0), (67, .goto (-61), 3, 4, 0, 0), (70, .aload_n 0, 1, 0, 0, 0), (71, .getfield 10, 3, 9, 0, 123), (74, .getfield 108, 3, 1, 0, 132),
  (77, .astore 6, 2, 0, 0, 0), (79, .aload 6, 2, 0, 0, 0), (81, .arraylength, 1, 0, 0, 0), (82, .istore 7, 2, 0, 0, 0), (84, .iconst 0, 1, 0, 0, 0), (85, .istore 8, 2, 0, 0, 0), (87, .iload 8, 2, 0, 0, 0), (89, .iload 7, 2, 0, 0, 0),
  (91, .if_icmp .ge 32, 3, 64, 0, 0), (94, .aload 6, 2, 0, 0, 0), (96, .iload 8, 2, 0, 0, 0), (98, .aaload, 1, 0, 0, 0), (99, .astore 9, 2, 0, 0, 0), (101, .lload 4, 2, 0, 0, 0), (103, .ldc2_w 326, 3, 31, 0, 2), (106, .lmul, 1, 0, 0, 0),
  (107, .aload_n 3, 1, 0, 0, 0), (108, .aload 9, 2, 0, 0, 0), (110, .invokevirtual 302, 3, 83, 0, 149), (113, .i2l, 1, 0, 0, 0), (114, .ladd, 1, 0, 0, 0), (115, .lstore 4, 2, 0, 0, 0), (117, .iinc 8 1, 3, 0, 0, 0), (120, .goto (-33), 3, 46, 0, 0),
  (123, .lload 4, 2, 0, 0, 0), (125, .lreturn, 1, 0, 0, 0)]
set_option maxRecDepth 100000 in
noncomputable def rw_167 : List PRow := [
  (0, .iconst 0, 1, 0, 0, 0), (1, .istore_n 3, 1, 0, 0, 0), (2, .iload_n 3, 1, 0, 0, 0), (3, .bipush 30, 2, 0, 0, 0), (5, .if_icmp .gt 34, 3, 20, 0, 0), (8, .iload_n 3, 1, 0, 0, 0), (9, .ifCond .le 10, 3, 10, 0, 0), (12, .aload_n 0, 1, 0, 0, 0),
  (13, .getfield 16, 3, 9, 1, 124), (16, .invokevirtual 75, 3, 31, 0, 114), (19, .aload_n 0, 1, 0, 0, 0), (20, .getfield 16, 3, 9, 1, 124), (23, .iload_n 1, 1, 0, 0, 0), (24, .iload_n 2, 1, 0, 0, 0), (25, .invokevirtual 374, 3, 27, 0, 167), (28, .ifCond .eq 5, 3, 18, 0, 0),
  (31, .iload_n 3, 1, 0, 0, 0), (32, .ireturn, 1, 0, 0, 0), (33, .iinc 3 1, 3, 0, 0, 0), (36, .goto (-34), 3, 2, 0, 0), (39, .iconst (-1), 1, 0, 0, 0), (40, .ireturn, 1, 0, 0, 0)]
set_option maxRecDepth 100000 in
noncomputable def rw_168 : List PRow := [
  (0, .iload_n 0, 1, 0, 0, 0), (1, .ifCond .eq 14, 3, 7, 0, 0), (4, .new 214, 3, 101, 0, 4), (7, .dup, 1, 0, 0, 0), (8, .ldc_w 377, 3, 0, 0, 0), (11, .invokespecial 218, 3, 9, 1, 0), (14, .athrow, 1, 0, 0, 0), (15, .return_, 1, 0, 0, 0)]
set_option maxRecDepth 100000 in
noncomputable def rw_169 : List PRow := [
  (0, .iload_n 0, 1, 0, 0, 0), (1, .ifCond .lt 9, 3, 5, 0, 0), (4, .iload_n 0, 1, 0, 0, 0), (5, .bipush 7, 2, 0, 0, 0), (7, .if_icmp .lt 14, 3, 10, 0, 0), (10, .new 255, 3, 102, 0, 5), (13, .dup, 1, 0, 0, 0), (14, .ldc_w 379, 3, 0, 0, 0),
  (17, .invokespecial 259, 3, 9, 1, 0), (20, .athrow, 1, 0, 0, 0), (21, .return_, 1, 0, 0, 0)]
set_option maxRecDepth 100000 in
noncomputable def rw_170 : List PRow := [
  (0, .iload_n 0, 1, 0, 0, 0), (1, .invokestatic 133, 3, 179, 0, 122), (4, .iload_n 1, 1, 0, 0, 0), (5, .invokestatic 133, 3, 179, 0, 122), (8, .iload_n 0, 1, 0, 0, 0), (9, .iload_n 1, 1, 0, 0, 0), (10, .if_icmp .ne 14, 3, 12, 0, 0), (13, .new 19, 3, 100, 0, 6),
  (16, .dup, 1, 0, 0, 0), (17, .ldc_w 381, 3, 0, 0, 0), (20, .invokespecial 23, 3, 9, 1, 0), (23, .athrow, 1, 0, 0, 0), (24, .return_, 1, 0, 0, 0)]
set_option maxRecDepth 100000 in
noncomputable def rw_171 : List PRow := [
  (0, .iload_n 0, 1, 0, 0, 0), (1, .ifCond .lt 8, 3, 5, 0, 0), (4, .iload_n 0, 1, 0, 0, 0), (5, .iconst 4, 1, 0, 0, 0), (6, .if_icmp .lt 14, 3, 10, 0, 0), (9, .new 255, 3, 102, 0, 7), (12, .dup, 1, 0, 0, 0), (13, .ldc_w 383, 3, 0, 0, 0),
  (16, .invokespecial 259, 3, 9, 1, 0), (19, .athrow, 1, 0, 0, 0), (20, .return_, 1, 0, 0, 0)]
set_option maxRecDepth 100000 in
noncomputable def rw_172 : List PRow := [
  (0, .iload_n 0, 1, 0, 0, 0), (1, .ifCond .lt 9, 3, 5, 0, 0), (4, .iload_n 0, 1, 0, 0, 0), (5, .bipush 8, 2, 0, 0, 0), (7, .if_icmp .lt 14, 3, 10, 0, 0), (10, .new 255, 3, 102, 0, 8), (13, .dup, 1, 0, 0, 0), (14, .ldc_w 385, 3, 0, 0, 0),
  (17, .invokespecial 259, 3, 9, 1, 0), (20, .athrow, 1, 0, 0, 0), (21, .return_, 1, 0, 0, 0)]
set_option maxRecDepth 100000 in
noncomputable def rw_173 : List PRow := [
  (0, .iload_n 1, 1, 0, 0, 0), (1, .ifCond .lt 17, 3, 8, 0, 0), (4, .iload_n 1, 1, 0, 0, 0), (5, .aload_n 0, 1, 0, 0, 0), (6, .getfield 10, 3, 9, 0, 123), (9, .getfield 55, 3, 1, 2, 126), (12, .getfield 130, 3, 4, 3, 135), (15, .if_icmp .lt 14, 3, 13, 0, 0),
  (18, .new 255, 3, 102, 0, 9), (21, .dup, 1, 0, 0, 0), (22, .ldc_w 387, 3, 0, 0, 0), (25, .invokespecial 259, 3, 9, 1, 0), (28, .athrow, 1, 0, 0, 0), (29, .return_, 1, 0, 0, 0)]
set_option maxRecDepth 100000 in
noncomputable def rw_174 : List PRow := [
  (0, .iload_n 1, 1, 0, 0, 0), (1, .invokestatic 204, 3, 181, 0, 135), (4, .iload_n 2, 1, 0, 0, 0), (5, .invokestatic 272, 3, 182, 0, 145), (8, .iload_n 3, 1, 0, 0, 0), (9, .invokestatic 389, 3, 185, 0, 168), (12, .ifCond .ne 11, 3, 10, 0, 0), (15, .iload 4, 2, 0, 0, 0),
  (17, .invokestatic 389, 3, 185, 0, 168), (20, .ifCond .eq 14, 3, 15, 0, 0), (23, .new 19, 3, 100, 0, 10), (26, .dup, 1, 0, 0, 0), (27, .ldc_w 392, 3, 0, 0, 0), (30, .invokespecial 23, 3, 9, 1, 0), (33, .athrow, 1, 0, 0, 0), (34, .aload_n 0, 1, 0, 0, 0),
  (35, .getfield 10, 3, 9, 0, 123), (38, .getfield 194, 3, 1, 1, 142), (41, .iload_n 1, 1, 0, 0, 0), (42, .aaload, 1, 0, 0, 0), (43, .invokevirtual 394, 3, 14, 0, 169), (46, .invokestatic 40, 3, 178, 0, 108), (49, .return_, 1, 0, 0, 0)]
set_option maxRecDepth 100000 in
noncomputable def rw_175 : List PRow := [
  (0, .iload_n 0, 1, 0, 0, 0), (1, .sipush (-9999), 3, 0, 0, 0), (4, .if_icmp .lt 10, 3, 6, 0, 0), (7, .iload_n 0, 1, 0, 0, 0), (8, .sipush 9999, 3, 0, 0, 0), (11, .if_icmp .le 7, 3, 8, 0, 0), (14, .iconst 1, 1, 0, 0, 0), (15, .goto 4, 3, 9, 0, 0),
  (18, .iconst 0, 1, 0, 0, 0), (19, .ireturn, 1, 0, 0, 0)]
set_option maxRecDepth 100000 in
noncomputable def rw_176 : List PRow := [
  (0, .iload_n 1, 1, 0, 0, 0), (1, .invokestatic 133, 3, 179, 0, 122), (4, .aload_n 0, 1, 0, 0, 0), (5, .getfield 10, 3, 9, 0, 123), (8, .getfield 108, 3, 1, 0, 132), (11, .iload_n 1, 1, 0, 0, 0), (12, .aaload, 1, 0, 0, 0), (13, .areturn, 1, 0, 0, 0)]
set_option maxRecDepth 100000 in
noncomputable def rw_177 : List PRow := [
  (0, .aload_n 0, 1, 0, 0, 0), (1, .iload_n 1, 1, 0, 0, 0), (2, .invokevirtual 158, 3, 183, 0, 127), (5, .aload_n 0, 1, 0, 0, 0), (6, .getfield 10, 3, 9, 0, 123), (9, .getfield 55, 3, 1, 2, 126), (12, .getfield 366, 3, 4, 0, 158), (15, .iload_n 1, 1, 0, 0, 0),
  (16, .aaload, 1, 0, 0, 0), (17, .areturn, 1, 0, 0, 0)]
set_option maxRecDepth 100000 in
noncomputable def rw_178 : List PRow := [
  (0, .aload_n 0, 1, 0, 0, 0), (1, .iload_n 1, 1, 0, 0, 0), (2, .invokevirtual 30, 3, 186, 0, 107), (5, .iload_n 2, 1, 0, 0, 0), (6, .invokevirtual 397, 3, 74, 0, 170), (9, .astore_n 3, 1, 0, 0, 0), (10, .aload_n 3, 1, 0, 0, 0), (11, .ifnonnull 14, 3, 13, 0, 0),
  (14, .new 255, 3, 102, 0, 11), (17, .dup, 1, 0, 0, 0), (18, .ldc_w 401, 3, 0, 0, 0), (21, .invokespecial 259, 3, 9, 1, 0), (24, .athrow, 1, 0, 0, 0), (25, .aload_n 3, 1, 0, 0, 0), (26, .areturn, 1, 0, 0, 0)]
set_option maxRecDepth 100000 in
noncomputable def rw_179 : List PRow := [
  (0, .aload_n 0, 1, 0, 0, 0), (1, .invokespecial 3, 3, 0, 1, 171), (4, .aload_n 0, 1, 0, 0, 0), (5, .bipush 7, 2, 0, 0, 0), (7, .newarray .boolean, 2, 0, 0, 0), (9, .putfield 9, 3, 10, 2, 160), (12, .aload_n 0, 1, 0, 0, 0), (13, .bipush 7, 2, 0, 0, 0),
  (15, .newarray .int, 2, 0, 0, 0), (17, .putfield 15, 3, 10, 3, 161), (20, .aload_n 0, 1, 0, 0, 0), (21, .bipush 7, 2, 0, 0, 0), (23, .newarray .int, 2, 0, 0, 0), (25, .putfield 19, 3, 10, 4, 162), (28, .aload_n 0, 1, 0, 0, 0), (29, .bipush 7, 2, 0, 0, 0),
  (31, .newarray .int, 2, 0, 0, 0), (33, .putfield 22, 3, 10, 5, 163), (36, .aload_n 0, 1, 0, 0, 0), (37, .bipush 7, 2, 0, 0, 0), (39, .newarray .int, 2, 0, 0, 0), (41, .putfield 25, 3, 10, 6, 164), (44, .aload_n 0, 1, 0, 0, 0), (45, .bipush 7, 2, 0, 0, 0),
  (47, .newarray .int, 2, 0, 0, 0), (49, .putfield 28, 3, 10, 7, 165), (52, .aload_n 0, 1, 0, 0, 0), (53, .bipush 7, 2, 0, 0, 0), (55, .newarray .int, 2, 0, 0, 0), (57, .putfield 31, 3, 10, 8, 166), (60, .aload_n 0, 1, 0, 0, 0), (61, .bipush 7, 2, 0, 0, 0),
  (63, .newarray .int, 2, 0, 0, 0), (65, .putfield 34, 3, 10, 9, 167), (68, .aload_n 0, 1, 0, 0, 0), (69, .bipush 7, 2, 0, 0, 0), (71, .newarray .int, 2, 0, 0, 0), (73, .putfield 37, 3, 10, 10, 168), (76, .aload_n 0, 1, 0, 0, 0), (77, .bipush 7, 2, 0, 0, 0),
  (79, .newarray .int, 2, 0, 0, 0), (81, .putfield 40, 3, 10, 11, 169), (84, .aload_n 0, 1, 0, 0, 0), (85, .bipush 7, 2, 0, 0, 0), (87, .newarray .int, 2, 0, 0, 0), (89, .putfield 43, 3, 10, 12, 170), (92, .aload_n 0, 1, 0, 0, 0), (93, .bipush 7, 2, 0, 0, 0),
  (95, .newarray .int, 2, 0, 0, 0), (97, .putfield 46, 3, 10, 13, 171), (100, .aload_n 0, 1, 0, 0, 0), (101, .bipush 7, 2, 0, 0, 0), (103, .newarray .int, 2, 0, 0, 0), (105, .putfield 49, 3, 10, 14, 172), (108, .aload_n 0, 1, 0, 0, 0), (109, .bipush 7, 2, 0, 0, 0),
  (111, .newarray .int, 2, 0, 0, 0), (113, .putfield 52, 3, 10, 15, 173), (116, .aload_n 0, 1, 0, 0, 0), (117, .bipush 7, 2, 0, 0, 0), (119, .bipush 16, 2, 0, 0, 0), (121, .multianewarray 55 2, 4, 19, 0, 17), (125, .putfield 57, 3, 10, 16, 174), (128, .aload_n 0, 1, 0, 0, 0),
  (129, .bipush 7, 2, 0, 0, 0), (131, .bipush 16, 2, 0, 0, 0), (133, .multianewarray 55 2, 4, 19, 0, 17), (137, .putfield 60, 3, 10, 17, 175), (140, .aload_n 0, 1, 0, 0, 0), (141, .bipush 7, 2, 0, 0, 0), (143, .newarray .int, 2, 0, 0, 0), (145, .putfield 63, 3, 10, 18, 176),
  (148, .aload_n 0, 1, 0, 0, 0), (149, .bipush 7, 2, 0, 0, 0), (151, .bipush 112, 2, 0, 0, 0), (153, .multianewarray 55 2, 4, 19, 0, 17), (157, .putfield 66, 3, 10, 19, 177), (160, .aload_n 0, 1, 0, 0, 0), (161, .bipush 7, 2, 0, 0, 0), (163, .bipush 7, 2, 0, 0, 0),
  (165, .multianewarray 55 2, 4, 19, 0, 17), (169, .putfield 69, 3, 10, 20, 178), (172, .aload_n 0, 1, 0, 0, 0), (173, .bipush 7, 2, 0, 0, 0), (175, .bipush 7, 2, 0, 0, 0), (177, .multianewarray 55 2, 4, 19, 0, 17), (181, .putfield 72, 3, 10, 21, 179), (184, .aload_n 0, 1, 0, 0, 0),
  (185, .sipush 2160, 3, 0, 0, 0), (188, .newarray .int, 2, 0, 0, 0), (190, .putfield 75, 3, 10, 23, 180), (193, .aload_n 0, 1, 0, 0, 0), (194, .bipush 36, 2, 0, 0, 0), (196, .newarray .int, 2, 0, 0, 0), (198, .putfield 78, 3, 10, 24, 181), (201, .aload_n 0, 1, 0, 0, 0),
  (202, .bipush 28, 2, 0, 0, 0), (204, .newarray .int, 2, 0, 0, 0), (206, .putfield 81, 3, 10, 25, 182), (209, .aload_n 0, 1, 0, 0, 0), (210, .iconst 4, 1, 0, 0, 0), (211, .newarray .int, 2, 0, 0, 0), (213, .putfield 84, 3, 10, 26, 183), (216, .aload_n 0, 1, 0, 0, 0),
  (217, .iconst 4, 1, 0, 0, 0), (218, .newarray .int, 2, 0, 0, 0), (220, .putfield 87, 3, 10, 27, 184), (223, .return_, 1, 0, 0, 0)]
set_option maxRecDepth 100000 in
noncomputable def rw_180 : List PRow := [
  (0, .aload_n 0, 1, 0, 0, 0), (1, .iconst 0, 1, 0, 0, 0), (2, .aload_n 1, 1, 0, 0, 0), (3, .iconst 0, 1, 0, 0, 0), (4, .aload_n 0, 1, 0, 0, 0), (5, .arraylength, 1, 0, 0, 0), (6, .invokestatic 90, 3, 1, 0, 172), (9, .return_, 1, 0, 0, 0)]
set_option maxRecDepth 100000 in
noncomputable def rw_181 : List PRow := [
  (0, .aload_n 0, 1, 0, 0, 0), (1, .aload_n 1, 1, 0, 0, 0), (2, .getfield 96, 3, 10, 0, 185), (5, .putfield 96, 3, 10, 0, 185), (8, .aload_n 0, 1, 0, 0, 0), (9, .aload_n 1, 1, 0, 0, 0), (10, .getfield 100, 3, 10, 1, 186), (13, .putfield 100, 3, 10, 1, 186),
  (16, .aload_n 1, 1, 0, 0, 0), (17, .getfield 9, 3, 10, 2, 160), (20, .iconst 0, 1, 0, 0, 0), (21, .aload_n 0, 1, 0, 0, 0), (22, .getfield 9, 3, 10, 2, 160), (25, .iconst 0, 1, 0, 0, 0), (26, .bipush 7, 2, 0, 0, 0), (28, .invokestatic 90, 3, 1, 0, 172),
  (31, .aload_n 1, 1, 0, 0, 0), (32, .getfield 15, 3, 10, 3, 161), (35, .aload_n 0, 1, 0, 0, 0), (36, .getfield 15, 3, 10, 3, 161), (39, .invokestatic 103, 3, 190, 0, 173), (42, .aload_n 1, 1, 0, 0, 0), (43, .getfield 19, 3, 10, 4, 162), (46, .aload_n 0, 1, 0, 0, 0),
  (47, .getfield 19, 3, 10, 4, 162), (50, .invokestatic 103, 3, 190, 0, 173), (53, .aload_n 1, 1, 0, 0, 0), (54, .getfield 22, 3, 10, 5, 163), (57, .aload_n 0, 1, 0, 0, 0), (58, .getfield 22, 3, 10, 5, 163), (61, .invokestatic 103, 3, 190, 0, 173), (64, .aload_n 1, 1, 0, 0, 0),
  (65, .getfield 25, 3, 10, 6, 164), (68, .aload_n 0, 1, 0, 0, 0), (69, .getfield 25, 3, 10, 6, 164), (72, .invokestatic 103, 3, 190, 0, 173), (75, .aload_n 1, 1, 0, 0, 0), (76, .getfield 28, 3, 10, 7, 165), (79, .aload_n 0, 1, 0, 0, 0), (80, .getfield 28, 3, 10, 7, 165),
  (83, .invokestatic 103, 3, 190, 0, 173), (86, .aload_n 1, 1, 0, 0, 0), (87, .getfield 31, 3, 10, 8, 166), (90, .aload_n 0, 1, 0, 0, 0), (91, .getfield 31, 3, 10, 8, 166), (94, .invokestatic 103, 3, 190, 0, 173), (97, .aload_n 1, 1, 0, 0, 0), (98, .getfield 34, 3, 10, 9, 167),
  (101, .aload_n 0, 1, 0, 0, 0), (102, .getfield 34, 3, 10, 9, 167), (105, .invokestatic 103, 3, 190, 0, 173), (108, .aload_n 1, 1, 0, 0, 0), (109, .getfield 37, 3, 10, 10, 168), (112, .aload_n 0, 1, 0, 0, 0), (113, .getfield 37, 3, 10, 10, 168), (116, .invokestatic 103, 3, 190, 0, 173),
  (119, .aload_n 1, 1, 0, 0, 0), (120, .getfield 40, 3, 10, 11, 169), (123, .aload_n 0, 1, 0, 0, 0), (124, .getfield 40, 3, 10, 11, 169), (127, .invokestatic 103, 3, 190, 0, 173), (130, .aload_n 1, 1, 0, 0, 0), (131, .getfield 43, 3, 10, 12, 170), (134, .aload_n 0, 1, 0, 0, 0),
  (135, .getfield 43, 3, 10, 12, 170), (138, .invokestatic 103, 3, 190, 0, 173), (141, .aload_n 1, 1, 0, 0, 0), (142, .getfield 46, 3, 10, 13, 171), (145, .aload_n 0, 1, 0, 0, 0), (146, .getfield 46, 3, 10, 13, 171), (149, .invokestatic 103, 3, 190, 0, 173), (152, .aload_n 1, 1, 0, 0, 0),
  (153, .getfield 49, 3, 10, 14, 172), (156, .aload_n 0, 1, 0, 0, 0), (157, .getfield 49, 3, 10, 14, 172), (160, .invokestatic 103, 3, 190, 0, 173), (163, .aload_n 1, 1, 0, 0, 0), (164, .getfield 52, 3, 10, 15, 173), (167, .aload_n 0, 1, 0, 0, 0), (168, .getfield 52, 3, 10, 15, 173),
  (171, .invokestatic 103, 3, 190, 0, 173), (174, .aload_n 1, 1, 0, 0, 0), (175, .getfield 63, 3, 10, 18, 176), (178, .aload_n 0, 1, 0, 0, 0), (179, .getfield 63, 3, 10, 18, 176), (182, .invokestatic 103, 3, 190, 0, 173), (185, .iconst 0, 1, 0, 0, 0), (186, .istore_n 2, 1, 0, 0, 0),
  (187, .iload_n 2, 1, 0, 0, 0), (188, .bipush 7, 2, 0, 0, 0), (190, .if_icmp .ge 106, 3, 153, 0, 0), (193, .aload_n 1, 1, 0, 0, 0), (194, .getfield 57, 3, 10, 16, 174), (197, .iload_n 2, 1, 0, 0, 0), (198, .aaload, 1, 0, 0, 0), (199, .aload_n 0, 1, 0, 0, 0),
  (200, .getfield 57, 3, 10, 16, 174), (203, .iload_n 2, 1, 0, 0, 0), (204, .aaload, 1, 0, 0, 0), (205, .invokestatic 103, 3, 190, 0, 173), (208, .aload_n 1, 1, 0, 0, 0), (209, .getfield 60, 3, 10, 17, 175), (212, .iload_n 2, 1, 0, 0, 0), (213, .aaload, 1, 0, 0, 0),
  (214, .aload_n 0, 1, 0, 0, 0), (215, .getfield 60, 3, 10, 17, 175), (218, .iload_n 2, 1, 0, 0, 0), (219, .aaload, 1, 0, 0, 0), (220, .invokestatic 103, 3, 190, 0, 173), (223, .aload_n 1, 1, 0, 0, 0), (224, .getfield 69, 3, 10, 20, 178), (227, .iload_n 2, 1, 0, 0, 0),
  (228, .aaload, 1, 0, 0, 0), (229, .aload_n 0, 1, 0, 0, 0), (230, .getfield 69, 3, 10, 20, 178), (233, .iload_n 2, 1, 0, 0, 0), (234, .aaload, 1, 0, 0, 0), (235, .invokestatic 103, 3, 190, 0, 173), (238, .aload_n 1, 1, 0, 0, 0), (239, .getfield 72, 3, 10, 21, 179),
  (242, .iload_n 2, 1, 0, 0, 0), (243, .aaload, 1, 0, 0, 0), (244, .aload_n 0, 1, 0, 0, 0), (245, .getfield 72, 3, 10, 21, 179), (248, .iload_n 2, 1, 0, 0, 0), (249, .aaload, 1, 0, 0, 0), (250, .invokestatic 103, 3, 190, 0, 173), (253, .aload_n 0, 1, 0, 0, 0),
  (254, .iload_n 2, 1, 0, 0, 0), (255, .aload_n 0, 1, 0, 0, 0), (256, .getfield 63, 3, 10, 18, 176), (259, .iload_n 2, 1, 0, 0, 0), (260, .iaload, 1, 0, 0, 0), (261, .invokevirtual 107, 3, 194, 0, 174), (264, .aload_n 1, 1, 0, 0, 0), (265, .getfield 66, 3, 10, 19, 177),
  (268, .iload_n 2, 1, 0, 0, 0), (269, .aaload, 1, 0, 0, 0), (270, .iconst 0, 1, 0, 0, 0), (271, .aload_n 0, 1, 0, 0, 0), (272, .getfield 66, 3, 10, 19, 177), (275, .iload_n 2, 1, 0, 0, 0), (276, .aaload, 1, 0, 0, 0), (277, .iconst 0, 1, 0, 0, 0),
  (278, .aload_n 0, 1, 0, 0, 0), (279, .getfield 63, 3, 10, 18, 176), (282, .iload_n 2, 1, 0, 0, 0), (283, .iaload, 1, 0, 0, 0), (284, .bipush 7, 2, 0, 0, 0), (286, .imul, 1, 0, 0, 0), (287, .invokestatic 90, 3, 1, 0, 172), (290, .iinc 2 1, 3, 0, 0, 0),
  (293, .goto (-106), 3, 88, 0, 0), (296, .aload_n 0, 1, 0, 0, 0), (297, .aload_n 1, 1, 0, 0, 0), (298, .getfield 111, 3, 10, 22, 187), (301, .putfield 111, 3, 10, 22, 187), (304, .aload_n 1, 1, 0, 0, 0), (305, .getfield 75, 3, 10, 23, 180), (308, .iconst 0, 1, 0, 0, 0),
  (309, .aload_n 0, 1, 0, 0, 0), (310, .getfield 75, 3, 10, 23, 180), (313, .iconst 0, 1, 0, 0, 0), (314, .aload_n 0, 1, 0, 0, 0), (315, .getfield 111, 3, 10, 22, 187), (318, .bipush 36, 2, 0, 0, 0), (320, .imul, 1, 0, 0, 0), (321, .invokestatic 90, 3, 1, 0, 172),
  (324, .aload_n 1, 1, 0, 0, 0), (325, .getfield 81, 3, 10, 25, 182), (328, .aload_n 0, 1, 0, 0, 0), (329, .getfield 81, 3, 10, 25, 182), (332, .invokestatic 103, 3, 190, 0, 173), (335, .aload_n 1, 1, 0, 0, 0), (336, .getfield 84, 3, 10, 26, 183), (339, .aload_n 0, 1, 0, 0, 0),
  (340, .getfield 84, 3, 10, 26, 183), (343, .invokestatic 103, 3, 190, 0, 173), (346, .aload_n 1, 1, 0, 0, 0), (347, .getfield 87, 3, 10, 27, 184), (350, .aload_n 0, 1, 0, 0, 0), (351, .getfield 87, 3, 10, 27, 184), (354, .invokestatic 103, 3, 190, 0, 173), (357, .return_, 1, 0, 0, 0)]
set_option maxRecDepth 100000 in
noncomputable def rw_182 : List PRow := [
  (0, .aload_n 0, 1, 0, 0, 0), (1, .iconst 0, 1, 0, 0, 0), (2, .putfield 96, 3, 10, 0, 185), (5, .aload_n 0, 1, 0, 0, 0), (6, .iconst 0, 1, 0, 0, 0), (7, .putfield 100, 3, 10, 1, 186), (10, .aload_n 0, 1, 0, 0, 0), (11, .iconst 0, 1, 0, 0, 0),
  (12, .putfield 111, 3, 10, 22, 187), (15, .iconst 0, 1, 0, 0, 0), (16, .istore_n 2, 1, 0, 0, 0), (17, .iload_n 2, 1, 0, 0, 0), (18, .bipush 7, 2, 0, 0, 0), (20, .if_icmp .ge 97, 3, 77, 0, 0), (23, .aload_n 0, 1, 0, 0, 0), (24, .getfield 9, 3, 10, 2, 160),
  (27, .iload_n 2, 1, 0, 0, 0), (28, .iconst 1, 1, 0, 0, 0), (29, .bastore, 1, 0, 0, 0), (30, .aload_n 0, 1, 0, 0, 0), (31, .getfield 15, 3, 10, 3, 161), (34, .iload_n 2, 1, 0, 0, 0), (35, .iconst 0, 1, 0, 0, 0), (36, .iastore, 1, 0, 0, 0),
  (37, .aload_n 0, 1, 0, 0, 0), (38, .getfield 19, 3, 10, 4, 162), (41, .iload_n 2, 1, 0, 0, 0), (42, .iconst (-1), 1, 0, 0, 0), (43, .iastore, 1, 0, 0, 0), (44, .aload_n 0, 1, 0, 0, 0), (45, .getfield 43, 3, 10, 12, 170), (48, .iload_n 2, 1, 0, 0, 0),
  (49, .iconst 0, 1, 0, 0, 0), (50, .iastore, 1, 0, 0, 0), (51, .aload_n 0, 1, 0, 0, 0), (52, .getfield 46, 3, 10, 13, 171), (55, .iload_n 2, 1, 0, 0, 0), (56, .iconst 0, 1, 0, 0, 0), (57, .iastore, 1, 0, 0, 0), (58, .aload_n 0, 1, 0, 0, 0),
  (59, .getfield 49, 3, 10, 14, 172), (62, .iload_n 2, 1, 0, 0, 0), (63, .iconst 0, 1, 0, 0, 0), (64, .iastore, 1, 0, 0, 0), (65, .aload_n 0, 1, 0, 0, 0), (66, .getfield 52, 3, 10, 15, 173), (69, .iload_n 2, 1, 0, 0, 0), (70, .iconst 1, 1, 0, 0, 0),
  (71, .iload_n 1, 1, 0, 0, 0), (72, .ishl, 1, 0, 0, 0), (73, .iconst 1, 1, 0, 0, 0), (74, .isub, 1, 0, 0, 0), (75, .iastore, 1, 0, 0, 0), (76, .iconst 0, 1, 0, 0, 0), (77, .istore_n 3, 1, 0, 0, 0), (78, .iload_n 3, 1, 0, 0, 0),
  (79, .bipush 16, 2, 0, 0, 0), (81, .if_icmp .ge 18, 3, 67, 0, 0), (84, .aload_n 0, 1, 0, 0, 0), (85, .getfield 57, 3, 10, 16, 174), (88, .iload_n 2, 1, 0, 0, 0), (89, .aaload, 1, 0, 0, 0), (90, .iload_n 3, 1, 0, 0, 0), (91, .iconst 0, 1, 0, 0, 0),
  (92, .iastore, 1, 0, 0, 0), (93, .iinc 3 1, 3, 0, 0, 0), (96, .goto (-18), 3, 55, 0, 0), (99, .aload_n 0, 1, 0, 0, 0), (100, .getfield 63, 3, 10, 18, 176), (103, .iload_n 2, 1, 0, 0, 0), (104, .iconst 0, 1, 0, 0, 0), (105, .iastore, 1, 0, 0, 0),
  (106, .aload_n 0, 1, 0, 0, 0), (107, .iload_n 2, 1, 0, 0, 0), (108, .invokevirtual 114, 3, 193, 0, 175), (111, .iinc 2 1, 3, 0, 0, 0), (114, .goto (-97), 3, 11, 0, 0), (117, .iconst 0, 1, 0, 0, 0), (118, .istore_n 2, 1, 0, 0, 0), (119, .iload_n 2, 1, 0, 0, 0),
  (120, .bipush 28, 2, 0, 0, 0), (122, .if_icmp .ge 16, 3, 89, 0, 0), (125, .aload_n 0, 1, 0, 0, 0), (126, .getfield 81, 3, 10, 25, 182), (129, .iload_n 2, 1, 0, 0, 0), (130, .iconst 0, 1, 0, 0, 0), (131, .iastore, 1, 0, 0, 0), (132, .iinc 2 1, 3, 0, 0, 0),
  (135, .goto (-16), 3, 79, 0, 0), (138, .iconst 0, 1, 0, 0, 0), (139, .istore_n 2, 1, 0, 0, 0), (140, .iload_n 2, 1, 0, 0, 0), (141, .iconst 4, 1, 0, 0, 0), (142, .if_icmp .ge 23, 3, 106, 0, 0), (145, .aload_n 0, 1, 0, 0, 0), (146, .getfield 84, 3, 10, 26, 183),
  (149, .iload_n 2, 1, 0, 0, 0), (150, .iconst 0, 1, 0, 0, 0), (151, .iastore, 1, 0, 0, 0), (152, .aload_n 0, 1, 0, 0, 0), (153, .getfield 87, 3, 10, 27, 184), (156, .iload_n 2, 1, 0, 0, 0), (157, .iconst 0, 1, 0, 0, 0), (158, .iastore, 1, 0, 0, 0),
  (159, .iinc 2 1, 3, 0, 0, 0), (162, .goto (-22), 3, 91, 0, 0), (165, .return_, 1, 0, 0, 0)]
set_option maxRecDepth 100000 in
noncomputable def rw_183 : List PRow := [
  (0, .aload_n 0, 1, 0, 0, 0), (1, .getfield 22, 3, 10, 5, 163), (4, .iload_n 1, 1, 0, 0, 0), (5, .iconst 0, 1, 0, 0, 0), (6, .iastore, 1, 0, 0, 0), (7, .aload_n 0, 1, 0, 0, 0), (8, .getfield 25, 3, 10, 6, 164), (11, .iload_n 1, 1, 0, 0, 0),
  (12, .iconst (-1), 1, 0, 0, 0), (13, .iastore, 1, 0, 0, 0), (14, .aload_n 0, 1, 0, 0, 0), (15, .getfield 28, 3, 10, 7, 165), (18, .iload_n 1, 1, 0, 0, 0), (19, .iconst 0, 1, 0, 0, 0), (20, .iastore, 1, 0, 0, 0), (21, .aload_n 0, 1, 0, 0, 0),
  (22, .getfield 31, 3, 10, 8, 166), (25, .iload_n 1, 1, 0, 0, 0), (26, .aload_n 0, 1, 0, 0, 0), (27, .getfield 46, 3, 10, 13, 171), (30, .iload_n 1, 1, 0, 0, 0), (31, .iaload, 1, 0, 0, 0), (32, .iastore, 1, 0, 0, 0), (33, .aload_n 0, 1, 0, 0, 0),
  (34, .getfield 34, 3, 10, 9, 167), (37, .iload_n 1, 1, 0, 0, 0), (38, .aload_n 0, 1, 0, 0, 0), (39, .getfield 46, 3, 10, 13, 171), (42, .iload_n 1, 1, 0, 0, 0), (43, .iaload, 1, 0, 0, 0), (44, .iastore, 1, 0, 0, 0), (45, .aload_n 0, 1, 0, 0, 0),
  (46, .getfield 57, 3, 10, 16, 174), (49, .iload_n 1, 1, 0, 0, 0), (50, .aaload, 1, 0, 0, 0), (51, .aload_n 0, 1, 0, 0, 0), (52, .getfield 60, 3, 10, 17, 175), (55, .iload_n 1, 1, 0, 0, 0), (56, .aaload, 1, 0, 0, 0), (57, .invokestatic 103, 3, 190, 0, 173),
  (60, .return_, 1, 0, 0, 0)]
set_option maxRecDepth 100000 in
noncomputable def rw_184 : List PRow := [
  (0, .aload_n 0, 1, 0, 0, 0), (1, .getfield 66, 3, 10, 19, 177), (4, .iload_n 1, 1, 0, 0, 0), (5, .aaload, 1, 0, 0, 0), (6, .arraylength, 1, 0, 0, 0), (7, .iload_n 2, 1, 0, 0, 0), (8, .bipush 7, 2, 0, 0, 0), (10, .imul, 1, 0, 0, 0),
  (11, .if_icmp .lt 4, 3, 10, 0, 0), (14, .return_, 1, 0, 0, 0), (15, .iconst 2, 1, 0, 0, 0), (16, .iload_n 2, 1, 0, 0, 0), (17, .imul, 1, 0, 0, 0), (18, .bipush 7, 2, 0, 0, 0), (20, .imul, 1, 0, 0, 0), (21, .newarray .int, 2, 0, 0, 0),
  (23, .astore_n 3, 1, 0, 0, 0), (24, .aload_n 0, 1, 0, 0, 0), (25, .getfield 66, 3, 10, 19, 177), (28, .iload_n 1, 1, 0, 0, 0), (29, .aaload, 1, 0, 0, 0), (30, .aload_n 3, 1, 0, 0, 0), (31, .invokestatic 103, 3, 190, 0, 173), (34, .aload_n 0, 1, 0, 0, 0),
  (35, .getfield 66, 3, 10, 19, 177), (38, .iload_n 1, 1, 0, 0, 0), (39, .aload_n 3, 1, 0, 0, 0), (40, .aastore, 1, 0, 0, 0), (41, .return_, 1, 0, 0, 0)]
set_option maxRecDepth 100000 in
noncomputable def rw_185 : List PRow := [
  (0, .aload_n 0, 1, 0, 0, 0), (1, .iload_n 1, 1, 0, 0, 0), (2, .aload_n 0, 1, 0, 0, 0), (3, .getfield 63, 3, 10, 18, 176), (6, .iload_n 1, 1, 0, 0, 0), (7, .iaload, 1, 0, 0, 0), (8, .iconst 1, 1, 0, 0, 0), (9, .iadd, 1, 0, 0, 0),
  (10, .invokevirtual 107, 3, 194, 0, 174), (13, .aload_n 2, 1, 0, 0, 0), (14, .iload_n 3, 1, 0, 0, 0), (15, .aload_n 0, 1, 0, 0, 0), (16, .getfield 66, 3, 10, 19, 177), (19, .iload_n 1, 1, 0, 0, 0), (20, .aaload, 1, 0, 0, 0), (21, .aload_n 0, 1, 0, 0, 0),
  (22, .getfield 63, 3, 10, 18, 176), (25, .iload_n 1, 1, 0, 0, 0), (26, .iaload, 1, 0, 0, 0), (27, .bipush 7, 2, 0, 0, 0), (29, .imul, 1, 0, 0, 0), (30, .bipush 7, 2, 0, 0, 0), (32, .invokestatic 90, 3, 1, 0, 172), (35, .aload_n 0, 1, 0, 0, 0),
  (36, .getfield 66, 3, 10, 19, 177), (39, .iload_n 1, 1, 0, 0, 0), (40, .aaload, 1, 0, 0, 0), (41, .aload_n 0, 1, 0, 0, 0), (42, .getfield 63, 3, 10, 18, 176), (45, .iload_n 1, 1, 0, 0, 0), (46, .iaload, 1, 0, 0, 0), (47, .bipush 7, 2, 0, 0, 0),
  (49, .imul, 1, 0, 0, 0), (50, .iconst 0, 1, 0, 0, 0), (51, .iadd, 1, 0, 0, 0), (52, .iload 4, 2, 0, 0, 0), (54, .iastore, 1, 0, 0, 0), (55, .aload_n 0, 1, 0, 0, 0), (56, .getfield 63, 3, 10, 18, 176), (59, .iload_n 1, 1, 0, 0, 0),
  (60, .dup2, 1, 0, 0, 0), (61, .iaload, 1, 0, 0, 0), (62, .iconst 1, 1, 0, 0, 0), (63, .iadd, 1, 0, 0, 0), (64, .iastore, 1, 0, 0, 0), (65, .return_, 1, 0, 0, 0)]
set_option maxRecDepth 100000 in
noncomputable def rw_186 : List PRow := [
  (0, .bipush 7, 2, 0, 0, 0), (2, .newarray .int, 2, 0, 0, 0), (4, .dup, 1, 0, 0, 0), (5, .iconst 0, 1, 0, 0, 0), (6, .iconst 0, 1, 0, 0, 0), (7, .iastore, 1, 0, 0, 0), (8, .dup, 1, 0, 0, 0), (9, .iconst 1, 1, 0, 0, 0),
  (10, .iload_n 2, 1, 0, 0, 0), (11, .iastore, 1, 0, 0, 0), (12, .dup, 1, 0, 0, 0), (13, .iconst 2, 1, 0, 0, 0), (14, .iconst (-1), 1, 0, 0, 0), (15, .iastore, 1, 0, 0, 0), (16, .dup, 1, 0, 0, 0), (17, .iconst 3, 1, 0, 0, 0),
  (18, .iconst 0, 1, 0, 0, 0), (19, .iastore, 1, 0, 0, 0), (20, .dup, 1, 0, 0, 0), (21, .iconst 4, 1, 0, 0, 0), (22, .iconst 0, 1, 0, 0, 0), (23, .iastore, 1, 0, 0, 0), (24, .dup, 1, 0, 0, 0), (25, .iconst 5, 1, 0, 0, 0),
  (26, .iconst 0, 1, 0, 0, 0), (27, .iastore, 1, 0, 0, 0), (28, .dup, 1, 0, 0, 0), (29, .bipush 6, 2, 0, 0, 0), (31, .iload_n 3, 1, 0, 0, 0), (32, .iastore, 1, 0, 0, 0), (33, .astore 4, 2, 0, 0, 0), (35, .aload_n 0, 1, 0, 0, 0),
  (36, .iload_n 1, 1, 0, 0, 0), (37, .aload 4, 2, 0, 0, 0), (39, .iconst 0, 1, 0, 0, 0), (40, .aload_n 0, 1, 0, 0, 0), (41, .getfield 15, 3, 10, 3, 161), (44, .iload_n 1, 1, 0, 0, 0), (45, .iaload, 1, 0, 0, 0), (46, .invokevirtual 118, 3, 195, 0, 176),
  (49, .return_, 1, 0, 0, 0)]
set_option maxRecDepth 100000 in
noncomputable def rw_187 : List PRow := [
  (0, .aload_n 0, 1, 0, 0, 0), (1, .getfield 46, 3, 10, 13, 171), (4, .iload_n 1, 1, 0, 0, 0), (5, .iaload, 1, 0, 0, 0), (6, .aload_n 0, 1, 0, 0, 0), (7, .getfield 63, 3, 10, 18, 176), (10, .iload_n 1, 1, 0, 0, 0), (11, .iaload, 1, 0, 0, 0),
  (12, .iadd, 1, 0, 0, 0), (13, .ireturn, 1, 0, 0, 0)]
set_option maxRecDepth 100000 in
noncomputable def rw_188 : List PRow := [
  (0, .iload_n 2, 1, 0, 0, 0), (1, .aload_n 0, 1, 0, 0, 0), (2, .getfield 46, 3, 10, 13, 171), (5, .iload_n 1, 1, 0, 0, 0), (6, .iaload, 1, 0, 0, 0), (7, .if_icmp .le 16, 3, 13, 0, 0), (10, .iload_n 2, 1, 0, 0, 0), (11, .aload_n 0, 1, 0, 0, 0),
  (12, .iload_n 1, 1, 0, 0, 0), (13, .invokevirtual 122, 3, 197, 0, 177), (16, .if_icmp .gt 7, 3, 13, 0, 0), (19, .iconst 1, 1, 0, 0, 0), (20, .goto 4, 3, 14, 0, 0), (23, .iconst 0, 1, 0, 0, 0), (24, .ireturn, 1, 0, 0, 0)]
set_option maxRecDepth 100000 in
noncomputable def rw_189 : List PRow := [
  (0, .iload_n 2, 1, 0, 0, 0), (1, .aload_n 0, 1, 0, 0, 0), (2, .getfield 46, 3, 10, 13, 171), (5, .iload_n 1, 1, 0, 0, 0), (6, .iaload, 1, 0, 0, 0), (7, .isub, 1, 0, 0, 0), (8, .iconst 1, 1, 0, 0, 0), (9, .isub, 1, 0, 0, 0),
  (10, .bipush 7, 2, 0, 0, 0), (12, .imul, 1, 0, 0, 0), (13, .ireturn, 1, 0, 0, 0)]
set_option maxRecDepth 100000 in
noncomputable def rw_190 : List PRow := [
  (0, .aload_n 0, 1, 0, 0, 0), (1, .getfield 66, 3, 10, 19, 177), (4, .iload_n 1, 1, 0, 0, 0), (5, .aaload, 1, 0, 0, 0), (6, .aload_n 0, 1, 0, 0, 0), (7, .iload_n 1, 1, 0, 0, 0), (8, .iload_n 2, 1, 0, 0, 0), (9, .invokevirtual 126, 3, 199, 0, 178),
  (12, .iload_n 3, 1, 0, 0, 0), (13, .iadd, 1, 0, 0, 0), (14, .iaload, 1, 0, 0, 0), (15, .ireturn, 1, 0, 0, 0)]
set_option maxRecDepth 100000 in
noncomputable def rw_191 : List PRow := [
  (0, .iload_n 2, 1, 0, 0, 0), (1, .aload_n 0, 1, 0, 0, 0), (2, .getfield 46, 3, 10, 13, 171), (5, .iload_n 1, 1, 0, 0, 0), (6, .iaload, 1, 0, 0, 0), (7, .if_icmp .ne 12, 3, 11, 0, 0), (10, .aload_n 0, 1, 0, 0, 0), (11, .getfield 49, 3, 10, 14, 172),
  (14, .iload_n 1, 1, 0, 0, 0), (15, .iaload, 1, 0, 0, 0), (16, .goto 10, 3, 16, 0, 0), (19, .aload_n 0, 1, 0, 0, 0), (20, .iload_n 1, 1, 0, 0, 0), (21, .iload_n 2, 1, 0, 0, 0), (22, .iconst 0, 1, 0, 0, 0), (23, .invokevirtual 130, 3, 200, 0, 179),
  (26, .ireturn, 1, 0, 0, 0)]
set_option maxRecDepth 100000 in
noncomputable def rw_192 : List PRow := [
  (0, .aload_n 0, 1, 0, 0, 0), (1, .iload_n 1, 1, 0, 0, 0), (2, .aload_n 0, 1, 0, 0, 0), (3, .iload_n 1, 1, 0, 0, 0), (4, .invokevirtual 122, 3, 197, 0, 177), (7, .invokevirtual 134, 3, 201, 0, 180), (10, .ireturn, 1, 0, 0, 0)]
set_option maxRecDepth 100000 in
noncomputable def rw_193 : List PRow := [
  (0, .iload_n 2, 1, 0, 0, 0), (1, .istore_n 3, 1, 0, 0, 0), (2, .iload_n 3, 1, 0, 0, 0), (3, .aload_n 0, 1, 0, 0, 0), (4, .getfield 46, 3, 10, 13, 171), (7, .iload_n 1, 1, 0, 0, 0), (8, .iaload, 1, 0, 0, 0), (9, .if_icmp .le 20, 3, 17, 0, 0),
  (12, .aload_n 0, 1, 0, 0, 0), (13, .iload_n 1, 1, 0, 0, 0), (14, .iload_n 3, 1, 0, 0, 0), (15, .iconst 1, 1, 0, 0, 0), (16, .invokevirtual 130, 3, 200, 0, 179), (19, .iconst 4, 1, 0, 0, 0), (20, .if_icmp .eq 9, 3, 17, 0, 0), (23, .iinc 3 (-1), 3, 0, 0, 0),
  (26, .goto (-24), 3, 2, 0, 0), (29, .iload_n 3, 1, 0, 0, 0), (30, .aload_n 0, 1, 0, 0, 0), (31, .getfield 46, 3, 10, 13, 171), (34, .iload_n 1, 1, 0, 0, 0), (35, .iaload, 1, 0, 0, 0), (36, .if_icmp .le 7, 3, 25, 0, 0), (39, .iload_n 3, 1, 0, 0, 0),
  (40, .goto 4, 3, 26, 0, 0), (43, .iconst (-1), 1, 0, 0, 0), (44, .ireturn, 1, 0, 0, 0)]
set_option maxRecDepth 100000 in
noncomputable def rw_194 : List PRow := [
  (0, .aload_n 0, 1, 0, 0, 0), (1, .iload_n 1, 1, 0, 0, 0), (2, .iload_n 2, 1, 0, 0, 0), (3, .invokevirtual 137, 3, 203, 0, 181), (6, .istore_n 3, 1, 0, 0, 0), (7, .iload_n 3, 1, 0, 0, 0), (8, .iconst (-1), 1, 0, 0, 0), (9, .if_icmp .ne 12, 3, 13, 0, 0),
  (12, .aload_n 0, 1, 0, 0, 0), (13, .getfield 52, 3, 10, 15, 173), (16, .iload_n 1, 1, 0, 0, 0), (17, .iaload, 1, 0, 0, 0), (18, .goto 11, 3, 18, 0, 0), (21, .aload_n 0, 1, 0, 0, 0), (22, .iload_n 1, 1, 0, 0, 0), (23, .iload_n 3, 1, 0, 0, 0),
  (24, .bipush 6, 2, 0, 0, 0), (26, .invokevirtual 130, 3, 200, 0, 179), (29, .ireturn, 1, 0, 0, 0)]
set_option maxRecDepth 100000 in
noncomputable def rw_195 : List PRow := [
  (0, .aload_n 0, 1, 0, 0, 0), (1, .iload_n 1, 1, 0, 0, 0), (2, .aload_n 0, 1, 0, 0, 0), (3, .iload_n 1, 1, 0, 0, 0), (4, .invokevirtual 122, 3, 197, 0, 177), (7, .invokevirtual 140, 3, 204, 0, 182), (10, .ireturn, 1, 0, 0, 0)]
set_option maxRecDepth 100000 in
noncomputable def rw_196 : List PRow := [
  (0, .aload_n 0, 1, 0, 0, 0), (1, .iload_n 1, 1, 0, 0, 0), (2, .invokevirtual 143, 3, 205, 0, 183), (5, .iload_n 2, 1, 0, 0, 0), (6, .ishr, 1, 0, 0, 0), (7, .iconst 1, 1, 0, 0, 0), (8, .iand, 1, 0, 0, 0), (9, .ifCond .eq 7, 3, 10, 0, 0),
  (12, .iconst 1, 1, 0, 0, 0), (13, .goto 4, 3, 11, 0, 0), (16, .iconst 0, 1, 0, 0, 0), (17, .ireturn, 1, 0, 0, 0)]
set_option maxRecDepth 100000 in
noncomputable def rw_197 : List PRow := [
  (0, .iconst 0, 1, 0, 0, 0), (1, .istore_n 1, 1, 0, 0, 0), (2, .iload_n 0, 1, 0, 0, 0), (3, .istore_n 2, 1, 0, 0, 0), (4, .iload_n 2, 1, 0, 0, 0), (5, .ifCond .eq 16, 3, 17, 0, 0), (8, .iload_n 1, 1, 0, 0, 0), (9, .iload_n 2, 1, 0, 0, 0),
  (10, .iconst 1, 1, 0, 0, 0), (11, .iand, 1, 0, 0, 0), (12, .iadd, 1, 0, 0, 0), (13, .istore_n 1, 1, 0, 0, 0), (14, .iload_n 2, 1, 0, 0, 0), (15, .iconst 1, 1, 0, 0, 0), (16, .ishr, 1, 0, 0, 0), (17, .istore_n 2, 1, 0, 0, 0),
  (18, .goto (-14), 3, 4, 0, 0), (21, .iload_n 1, 1, 0, 0, 0), (22, .ireturn, 1, 0, 0, 0)]
set_option maxRecDepth 100000 in
noncomputable def rw_198 : List PRow := [
  (0, .aload_n 0, 1, 0, 0, 0), (1, .iload_n 1, 1, 0, 0, 0), (2, .invokevirtual 143, 3, 205, 0, 183), (5, .istore_n 3, 1, 0, 0, 0), (6, .iconst 2, 1, 0, 0, 0), (7, .iload_n 2, 1, 0, 0, 0), (8, .iload_n 3, 1, 0, 0, 0), (9, .iand, 1, 0, 0, 0),
  (10, .invokestatic 146, 3, 207, 0, 184), (13, .imul, 1, 0, 0, 0), (14, .iload_n 3, 1, 0, 0, 0), (15, .invokestatic 146, 3, 207, 0, 184), (18, .if_icmp .le 7, 3, 15, 0, 0), (21, .iconst 1, 1, 0, 0, 0), (22, .goto 4, 3, 16, 0, 0), (25, .iconst 0, 1, 0, 0, 0),
  (26, .ireturn, 1, 0, 0, 0)]
set_option maxRecDepth 100000 in
noncomputable def rw_199 : List PRow := [
  (0, .iload_n 1, 1, 0, 0, 0), (1, .aload_n 0, 1, 0, 0, 0), (2, .iload_n 3, 1, 0, 0, 0), (3, .invokevirtual 149, 3, 202, 0, 185), (6, .if_icmp .gt 21, 3, 15, 0, 0), (9, .iload_n 1, 1, 0, 0, 0), (10, .aload_n 0, 1, 0, 0, 0), (11, .iload_n 3, 1, 0, 0, 0),
  (12, .invokevirtual 149, 3, 202, 0, 185), (15, .if_icmp .ne 16, 3, 17, 0, 0), (18, .iload_n 2, 1, 0, 0, 0), (19, .aload_n 0, 1, 0, 0, 0), (20, .iload_n 3, 1, 0, 0, 0), (21, .invokevirtual 122, 3, 197, 0, 177), (24, .if_icmp .lt 7, 3, 17, 0, 0), (27, .iconst 1, 1, 0, 0, 0),
  (28, .goto 4, 3, 18, 0, 0), (31, .iconst 0, 1, 0, 0, 0), (32, .ireturn, 1, 0, 0, 0)]
set_option maxRecDepth 100000 in
noncomputable def rw_200 : List PRow := [
  (0, .aload_n 0, 1, 0, 0, 0), (1, .getfield 111, 3, 10, 22, 187), (4, .bipush 60, 2, 0, 0, 0), (6, .if_icmp .ne 15, 3, 12, 0, 0), (9, .aload_n 0, 1, 0, 0, 0), (10, .dup, 1, 0, 0, 0), (11, .getfield 100, 3, 10, 1, 186), (14, .iconst 1, 1, 0, 0, 0),
  (15, .iadd, 1, 0, 0, 0), (16, .putfield 100, 3, 10, 1, 186), (19, .iconst (-1), 1, 0, 0, 0), (20, .ireturn, 1, 0, 0, 0), (21, .aload_n 0, 1, 0, 0, 0), (22, .getfield 111, 3, 10, 22, 187), (25, .bipush 36, 2, 0, 0, 0), (27, .imul, 1, 0, 0, 0),
  (28, .istore 7, 2, 0, 0, 0), (30, .iconst 0, 1, 0, 0, 0), (31, .istore 8, 2, 0, 0, 0), (33, .iload 8, 2, 0, 0, 0), (35, .bipush 36, 2, 0, 0, 0), (37, .if_icmp .ge 20, 3, 31, 0, 0), (40, .aload_n 0, 1, 0, 0, 0), (41, .getfield 75, 3, 10, 23, 180),
  (44, .iload 7, 2, 0, 0, 0), (46, .iload 8, 2, 0, 0, 0), (48, .iadd, 1, 0, 0, 0), (49, .iconst 0, 1, 0, 0, 0), (50, .iastore, 1, 0, 0, 0), (51, .iinc 8 1, 3, 0, 0, 0), (54, .goto (-21), 3, 19, 0, 0), (57, .aload_n 0, 1, 0, 0, 0),
  (58, .getfield 75, 3, 10, 23, 180), (61, .iload 7, 2, 0, 0, 0), (63, .iload_n 1, 1, 0, 0, 0), (64, .iastore, 1, 0, 0, 0), (65, .aload_n 0, 1, 0, 0, 0), (66, .getfield 75, 3, 10, 23, 180), (69, .iload 7, 2, 0, 0, 0), (71, .iconst 1, 1, 0, 0, 0),
  (72, .iadd, 1, 0, 0, 0), (73, .iload_n 2, 1, 0, 0, 0), (74, .iastore, 1, 0, 0, 0), (75, .aload_n 0, 1, 0, 0, 0), (76, .getfield 75, 3, 10, 23, 180), (79, .iload 7, 2, 0, 0, 0), (81, .iconst 2, 1, 0, 0, 0), (82, .iadd, 1, 0, 0, 0),
  (83, .iload_n 3, 1, 0, 0, 0), (84, .iastore, 1, 0, 0, 0), (85, .aload_n 0, 1, 0, 0, 0), (86, .getfield 75, 3, 10, 23, 180), (89, .iload 7, 2, 0, 0, 0), (91, .iconst 3, 1, 0, 0, 0), (92, .iadd, 1, 0, 0, 0), (93, .iload 4, 2, 0, 0, 0),
  (95, .iastore, 1, 0, 0, 0), (96, .aload_n 0, 1, 0, 0, 0), (97, .getfield 75, 3, 10, 23, 180), (100, .iload 7, 2, 0, 0, 0), (102, .iconst 4, 1, 0, 0, 0), (103, .iadd, 1, 0, 0, 0), (104, .iload 5, 2, 0, 0, 0), (106, .iastore, 1, 0, 0, 0),
  (107, .aload_n 0, 1, 0, 0, 0), (108, .getfield 75, 3, 10, 23, 180), (111, .iload 7, 2, 0, 0, 0), (113, .iconst 5, 1, 0, 0, 0), (114, .iadd, 1, 0, 0, 0), (115, .iload 6, 2, 0, 0, 0), (117, .iastore, 1, 0, 0, 0), (118, .aload_n 0, 1, 0, 0, 0),
  (119, .dup, 1, 0, 0, 0), (120, .getfield 111, 3, 10, 22, 187), (123, .iconst 1, 1, 0, 0, 0), (124, .iadd, 1, 0, 0, 0), (125, .putfield 111, 3, 10, 22, 187), (128, .iload 7, 2, 0, 0, 0), (130, .ireturn, 1, 0, 0, 0)]
set_option maxRecDepth 100000 in
noncomputable def rw_201 : List PRow := [
  (0, .aload_n 0, 1, 0, 0, 0), (1, .getfield 69, 3, 10, 20, 178), (4, .iload_n 1, 1, 0, 0, 0), (5, .aaload, 1, 0, 0, 0), (6, .iload_n 2, 1, 0, 0, 0), (7, .iaload, 1, 0, 0, 0), (8, .aload_n 0, 1, 0, 0, 0), (9, .getfield 46, 3, 10, 13, 171),
  (12, .iload_n 1, 1, 0, 0, 0), (13, .iaload, 1, 0, 0, 0), (14, .if_icmp .gt 72, 3, 56, 0, 0), (17, .aload_n 0, 1, 0, 0, 0), (18, .bipush 7, 2, 0, 0, 0), (20, .iload_n 1, 1, 0, 0, 0), (21, .iload_n 2, 1, 0, 0, 0), (22, .aload_n 0, 1, 0, 0, 0),
  (23, .getfield 15, 3, 10, 3, 161), (26, .iload_n 1, 1, 0, 0, 0), (27, .iaload, 1, 0, 0, 0), (28, .aload_n 0, 1, 0, 0, 0), (29, .getfield 46, 3, 10, 13, 171), (32, .iload_n 1, 1, 0, 0, 0), (33, .iaload, 1, 0, 0, 0), (34, .aload_n 0, 1, 0, 0, 0),
  (35, .getfield 49, 3, 10, 14, 172), (38, .iload_n 1, 1, 0, 0, 0), (39, .iaload, 1, 0, 0, 0), (40, .invokevirtual 152, 3, 210, 0, 186), (43, .istore_n 3, 1, 0, 0, 0), (44, .iload_n 3, 1, 0, 0, 0), (45, .iconst (-1), 1, 0, 0, 0), (46, .if_icmp .ne 4, 3, 33, 0, 0),
  (49, .return_, 1, 0, 0, 0), (50, .aload_n 0, 1, 0, 0, 0), (51, .getfield 75, 3, 10, 23, 180), (54, .iload_n 3, 1, 0, 0, 0), (55, .bipush 6, 2, 0, 0, 0), (57, .iadd, 1, 0, 0, 0), (58, .aload_n 0, 1, 0, 0, 0), (59, .getfield 52, 3, 10, 15, 173),
  (62, .iload_n 1, 1, 0, 0, 0), (63, .iaload, 1, 0, 0, 0), (64, .iastore, 1, 0, 0, 0), (65, .aload_n 0, 1, 0, 0, 0), (66, .getfield 57, 3, 10, 16, 174), (69, .iload_n 1, 1, 0, 0, 0), (70, .aaload, 1, 0, 0, 0), (71, .iconst 0, 1, 0, 0, 0),
  (72, .aload_n 0, 1, 0, 0, 0), (73, .getfield 75, 3, 10, 23, 180), (76, .iload_n 3, 1, 0, 0, 0), (77, .bipush 8, 2, 0, 0, 0), (79, .iadd, 1, 0, 0, 0), (80, .bipush 16, 2, 0, 0, 0), (82, .invokestatic 90, 3, 1, 0, 172), (85, .return_, 1, 0, 0, 0),
  (86, .aload_n 0, 1, 0, 0, 0), (87, .getfield 69, 3, 10, 20, 178), (90, .iload_n 1, 1, 0, 0, 0), (91, .aaload, 1, 0, 0, 0), (92, .iload_n 2, 1, 0, 0, 0), (93, .iaload, 1, 0, 0, 0), (94, .iconst 1, 1, 0, 0, 0), (95, .isub, 1, 0, 0, 0),
  (96, .istore_n 3, 1, 0, 0, 0), (97, .aload_n 0, 1, 0, 0, 0), (98, .iconst 5, 1, 0, 0, 0), (99, .iload_n 1, 1, 0, 0, 0), (100, .iload_n 2, 1, 0, 0, 0), (101, .aload_n 0, 1, 0, 0, 0), (102, .getfield 15, 3, 10, 3, 161), (105, .iload_n 1, 1, 0, 0, 0),
  (106, .iaload, 1, 0, 0, 0), (107, .iload_n 3, 1, 0, 0, 0), (108, .aload_n 0, 1, 0, 0, 0), (109, .iload_n 1, 1, 0, 0, 0), (110, .iload_n 3, 1, 0, 0, 0), (111, .invokevirtual 134, 3, 201, 0, 180), (114, .invokevirtual 152, 3, 210, 0, 186), (117, .istore 4, 2, 0, 0, 0),
  (119, .iload 4, 2, 0, 0, 0), (121, .iconst (-1), 1, 0, 0, 0), (122, .if_icmp .ne 4, 3, 84, 0, 0), (125, .return_, 1, 0, 0, 0), (126, .iconst 4, 1, 0, 0, 0), (127, .aload_n 0, 1, 0, 0, 0), (128, .iload_n 1, 1, 0, 0, 0), (129, .invokevirtual 122, 3, 197, 0, 177),
  (132, .iload_n 3, 1, 0, 0, 0), (133, .isub, 1, 0, 0, 0), (134, .invokestatic 156, 3, 3, 0, 187), (137, .istore 5, 2, 0, 0, 0), (139, .aload_n 0, 1, 0, 0, 0), (140, .getfield 75, 3, 10, 23, 180), (143, .iload 4, 2, 0, 0, 0), (145, .bipush 6, 2, 0, 0, 0),
  (147, .iadd, 1, 0, 0, 0), (148, .aload_n 0, 1, 0, 0, 0), (149, .getfield 31, 3, 10, 8, 166), (152, .iload_n 1, 1, 0, 0, 0), (153, .iaload, 1, 0, 0, 0), (154, .iastore, 1, 0, 0, 0), (155, .aload_n 0, 1, 0, 0, 0), (156, .getfield 75, 3, 10, 23, 180),
  (159, .iload 4, 2, 0, 0, 0), (161, .bipush 7, 2, 0, 0, 0), (163, .iadd, 1, 0, 0, 0), (164, .iload 5, 2, 0, 0, 0), (166, .iastore, 1, 0, 0, 0), (167, .aload_n 0, 1, 0, 0, 0), (168, .getfield 66, 3, 10, 19, 177), (171, .iload_n 1, 1, 0, 0, 0),
  (172, .aaload, 1, 0, 0, 0), (173, .aload_n 0, 1, 0, 0, 0), (174, .iload_n 1, 1, 0, 0, 0), (175, .iload_n 3, 1, 0, 0, 0), (176, .iconst 1, 1, 0, 0, 0), (177, .iadd, 1, 0, 0, 0), (178, .invokevirtual 126, 3, 199, 0, 178), (181, .aload_n 0, 1, 0, 0, 0),
  (182, .getfield 75, 3, 10, 23, 180), (185, .iload 4, 2, 0, 0, 0), (187, .bipush 8, 2, 0, 0, 0), (189, .iadd, 1, 0, 0, 0), (190, .iload 5, 2, 0, 0, 0), (192, .bipush 7, 2, 0, 0, 0), (194, .imul, 1, 0, 0, 0), (195, .invokestatic 90, 3, 1, 0, 172),
  (198, .return_, 1, 0, 0, 0)]
set_option maxRecDepth 100000 in
noncomputable def rw_202 : List PRow := [
  (0, .aload_n 0, 1, 0, 0, 0), (1, .iload_n 1, 1, 0, 0, 0), (2, .invokevirtual 143, 3, 205, 0, 183), (5, .istore_n 2, 1, 0, 0, 0), (6, .iconst 0, 1, 0, 0, 0), (7, .istore_n 3, 1, 0, 0, 0), (8, .iconst 0, 1, 0, 0, 0), (9, .istore 4, 2, 0, 0, 0),
  (11, .iload 4, 2, 0, 0, 0), (13, .bipush 7, 2, 0, 0, 0), (15, .if_icmp .ge 37, 3, 28, 0, 0), (18, .iload 4, 2, 0, 0, 0), (20, .iload_n 1, 1, 0, 0, 0), (21, .if_icmp .eq 25, 3, 26, 0, 0), (24, .iload_n 2, 1, 0, 0, 0), (25, .iload 4, 2, 0, 0, 0),
  (27, .ishr, 1, 0, 0, 0), (28, .iconst 1, 1, 0, 0, 0), (29, .iand, 1, 0, 0, 0), (30, .ifCond .ne 6, 3, 21, 0, 0), (33, .goto 13, 3, 26, 0, 0), (36, .aload_n 0, 1, 0, 0, 0), (37, .iload_n 1, 1, 0, 0, 0), (38, .iload 4, 2, 0, 0, 0),
  (40, .invokevirtual 161, 3, 211, 0, 188), (43, .iinc 3 1, 3, 0, 0, 0), (46, .iinc 4 1, 3, 0, 0, 0), (49, .goto (-38), 3, 8, 0, 0), (52, .iload_n 3, 1, 0, 0, 0), (53, .ireturn, 1, 0, 0, 0)]
set_option maxRecDepth 100000 in
noncomputable def rw_203 : List PRow := [
  (0, .aload_n 0, 1, 0, 0, 0), (1, .iload_n 1, 1, 0, 0, 0), (2, .invokevirtual 143, 3, 205, 0, 183), (5, .istore 4, 2, 0, 0, 0), (7, .iconst 0, 1, 0, 0, 0), (8, .istore 5, 2, 0, 0, 0), (10, .iload 5, 2, 0, 0, 0), (12, .bipush 7, 2, 0, 0, 0),
  (14, .if_icmp .ge 45, 3, 33, 0, 0), (17, .iload 5, 2, 0, 0, 0), (19, .iload_n 1, 1, 0, 0, 0), (20, .if_icmp .eq 33, 3, 31, 0, 0), (23, .iload 4, 2, 0, 0, 0), (25, .iload 5, 2, 0, 0, 0), (27, .ishr, 1, 0, 0, 0), (28, .iconst 1, 1, 0, 0, 0),
  (29, .iand, 1, 0, 0, 0), (30, .ifCond .eq 23, 3, 31, 0, 0), (33, .aload_n 0, 1, 0, 0, 0), (34, .iload_n 2, 1, 0, 0, 0), (35, .iload_n 1, 1, 0, 0, 0), (36, .iload 5, 2, 0, 0, 0), (38, .iload_n 3, 1, 0, 0, 0), (39, .aload_n 0, 1, 0, 0, 0),
  (40, .iload_n 1, 1, 0, 0, 0), (41, .invokevirtual 122, 3, 197, 0, 177), (44, .aload_n 0, 1, 0, 0, 0), (45, .iload_n 1, 1, 0, 0, 0), (46, .invokevirtual 149, 3, 202, 0, 185), (49, .invokevirtual 152, 3, 210, 0, 186), (52, .pop, 1, 0, 0, 0), (53, .iinc 5 1, 3, 0, 0, 0),
  (56, .goto (-46), 3, 6, 0, 0), (59, .return_, 1, 0, 0, 0)]
set_option maxRecDepth 100000 in
noncomputable def rw_204 : List PRow := [
  (0, .aload_n 0, 1, 0, 0, 0), (1, .getfield 28, 3, 10, 7, 165), (4, .iload_n 1, 1, 0, 0, 0), (5, .iconst 0, 1, 0, 0, 0), (6, .iastore, 1, 0, 0, 0), (7, .aload_n 0, 1, 0, 0, 0), (8, .getfield 63, 3, 10, 18, 176), (11, .iload_n 1, 1, 0, 0, 0),
  (12, .iaload, 1, 0, 0, 0), (13, .bipush 48, 2, 0, 0, 0), (15, .if_icmp .lt 4, 3, 12, 0, 0), (18, .return_, 1, 0, 0, 0), (19, .aload_n 0, 1, 0, 0, 0), (20, .getfield 22, 3, 10, 5, 163), (23, .iload_n 1, 1, 0, 0, 0), (24, .iconst 1, 1, 0, 0, 0),
  (25, .iastore, 1, 0, 0, 0), (26, .aload_n 0, 1, 0, 0, 0), (27, .getfield 25, 3, 10, 6, 164), (30, .iload_n 1, 1, 0, 0, 0), (31, .iconst (-1), 1, 0, 0, 0), (32, .iastore, 1, 0, 0, 0), (33, .aload_n 0, 1, 0, 0, 0), (34, .getfield 40, 3, 10, 11, 169),
  (37, .iload_n 1, 1, 0, 0, 0), (38, .iconst 1, 1, 0, 0, 0), (39, .iload_n 1, 1, 0, 0, 0), (40, .ishl, 1, 0, 0, 0), (41, .iastore, 1, 0, 0, 0), (42, .aload_n 0, 1, 0, 0, 0), (43, .iload_n 1, 1, 0, 0, 0), (44, .aload_n 0, 1, 0, 0, 0),
  (45, .getfield 40, 3, 10, 11, 169), (48, .iload_n 1, 1, 0, 0, 0), (49, .iaload, 1, 0, 0, 0), (50, .invokevirtual 164, 3, 208, 0, 189), (53, .ifCond .eq 11, 3, 41, 0, 0), (56, .aload_n 0, 1, 0, 0, 0), (57, .iload_n 1, 1, 0, 0, 0), (58, .invokevirtual 168, 3, 215, 0, 190),
  (61, .goto 17, 3, 51, 0, 0), (64, .aload_n 0, 1, 0, 0, 0), (65, .iload_n 1, 1, 0, 0, 0), (66, .iconst 1, 1, 0, 0, 0), (67, .aload_n 0, 1, 0, 0, 0), (68, .getfield 15, 3, 10, 3, 161), (71, .iload_n 1, 1, 0, 0, 0), (72, .iaload, 1, 0, 0, 0),
  (73, .iconst 1, 1, 0, 0, 0), (74, .iadd, 1, 0, 0, 0), (75, .invokevirtual 171, 3, 213, 0, 191), (78, .return_, 1, 0, 0, 0)]
set_option maxRecDepth 100000 in
noncomputable def rw_205 : List PRow := [
  (0, .aload_n 0, 1, 0, 0, 0), (1, .getfield 15, 3, 10, 3, 161), (4, .iload_n 1, 1, 0, 0, 0), (5, .dup2, 1, 0, 0, 0), (6, .iaload, 1, 0, 0, 0), (7, .iconst 1, 1, 0, 0, 0), (8, .iadd, 1, 0, 0, 0), (9, .iastore, 1, 0, 0, 0),
  (10, .aload_n 0, 1, 0, 0, 0), (11, .getfield 22, 3, 10, 5, 163), (14, .iload_n 1, 1, 0, 0, 0), (15, .iconst 2, 1, 0, 0, 0), (16, .iastore, 1, 0, 0, 0), (17, .aload_n 0, 1, 0, 0, 0), (18, .getfield 25, 3, 10, 6, 164), (21, .iload_n 1, 1, 0, 0, 0),
  (22, .iconst (-1), 1, 0, 0, 0), (23, .iastore, 1, 0, 0, 0), (24, .aload_n 0, 1, 0, 0, 0), (25, .getfield 28, 3, 10, 7, 165), (28, .iload_n 1, 1, 0, 0, 0), (29, .iconst 0, 1, 0, 0, 0), (30, .iastore, 1, 0, 0, 0), (31, .aload_n 0, 1, 0, 0, 0),
  (32, .getfield 19, 3, 10, 4, 162), (35, .iload_n 1, 1, 0, 0, 0), (36, .iload_n 1, 1, 0, 0, 0), (37, .iastore, 1, 0, 0, 0), (38, .aload_n 0, 1, 0, 0, 0), (39, .getfield 40, 3, 10, 11, 169), (42, .iload_n 1, 1, 0, 0, 0), (43, .iconst 1, 1, 0, 0, 0),
  (44, .iload_n 1, 1, 0, 0, 0), (45, .ishl, 1, 0, 0, 0), (46, .iastore, 1, 0, 0, 0), (47, .aload_n 0, 1, 0, 0, 0), (48, .iload_n 1, 1, 0, 0, 0), (49, .aload_n 0, 1, 0, 0, 0), (50, .getfield 40, 3, 10, 11, 169), (53, .iload_n 1, 1, 0, 0, 0),
  (54, .iaload, 1, 0, 0, 0), (55, .invokevirtual 164, 3, 208, 0, 189), (58, .ifCond .eq 11, 3, 47, 0, 0), (61, .aload_n 0, 1, 0, 0, 0), (62, .iload_n 1, 1, 0, 0, 0), (63, .invokevirtual 175, 3, 216, 0, 192), (66, .goto 15, 3, 55, 0, 0), (69, .aload_n 0, 1, 0, 0, 0),
  (70, .iload_n 1, 1, 0, 0, 0), (71, .iconst 3, 1, 0, 0, 0), (72, .aload_n 0, 1, 0, 0, 0), (73, .getfield 15, 3, 10, 3, 161), (76, .iload_n 1, 1, 0, 0, 0), (77, .iaload, 1, 0, 0, 0), (78, .invokevirtual 171, 3, 213, 0, 191), (81, .return_, 1, 0, 0, 0)]
set_option maxRecDepth 100000 in
noncomputable def rw_206 : List PRow := [
  (0, .aload_n 0, 1, 0, 0, 0), (1, .getfield 22, 3, 10, 5, 163), (4, .iload_n 1, 1, 0, 0, 0), (5, .iconst 3, 1, 0, 0, 0), (6, .iastore, 1, 0, 0, 0), (7, .aload_n 0, 1, 0, 0, 0), (8, .getfield 25, 3, 10, 6, 164), (11, .iload_n 1, 1, 0, 0, 0),
  (12, .iconst (-1), 1, 0, 0, 0), (13, .iastore, 1, 0, 0, 0), (14, .aload_n 0, 1, 0, 0, 0), (15, .getfield 37, 3, 10, 10, 168), (18, .iload_n 1, 1, 0, 0, 0), (19, .iconst 0, 1, 0, 0, 0), (20, .iastore, 1, 0, 0, 0), (21, .iconst 0, 1, 0, 0, 0),
  (22, .istore_n 2, 1, 0, 0, 0), (23, .iload_n 2, 1, 0, 0, 0), (24, .bipush 7, 2, 0, 0, 0), (26, .if_icmp .ge 33, 3, 40, 0, 0), (29, .aload_n 0, 1, 0, 0, 0), (30, .getfield 69, 3, 10, 20, 178), (33, .iload_n 1, 1, 0, 0, 0), (34, .aaload, 1, 0, 0, 0),
  (35, .iload_n 2, 1, 0, 0, 0), (36, .aload_n 0, 1, 0, 0, 0), (37, .iload_n 1, 1, 0, 0, 0), (38, .invokevirtual 122, 3, 197, 0, 177), (41, .iconst 1, 1, 0, 0, 0), (42, .iadd, 1, 0, 0, 0), (43, .iastore, 1, 0, 0, 0), (44, .aload_n 0, 1, 0, 0, 0),
  (45, .getfield 72, 3, 10, 21, 179), (48, .iload_n 1, 1, 0, 0, 0), (49, .aaload, 1, 0, 0, 0), (50, .iload_n 2, 1, 0, 0, 0), (51, .iconst 0, 1, 0, 0, 0), (52, .iastore, 1, 0, 0, 0), (53, .iinc 2 1, 3, 0, 0, 0), (56, .goto (-33), 3, 17, 0, 0),
  (59, .aload_n 0, 1, 0, 0, 0), (60, .iload_n 1, 1, 0, 0, 0), (61, .iconst 0, 1, 0, 0, 0), (62, .iconst 0, 1, 0, 0, 0), (63, .invokevirtual 178, 3, 196, 0, 193), (66, .aload_n 0, 1, 0, 0, 0), (67, .iload_n 1, 1, 0, 0, 0), (68, .invokevirtual 181, 3, 212, 0, 194),
  (71, .pop, 1, 0, 0, 0), (72, .aload_n 0, 1, 0, 0, 0), (73, .iload_n 1, 1, 0, 0, 0), (74, .invokevirtual 184, 3, 217, 0, 195), (77, .return_, 1, 0, 0, 0)]
set_option maxRecDepth 100000 in
noncomputable def rw_207 : List PRow := [
  (0, .aload_n 0, 1, 0, 0, 0), (1, .iload_n 1, 1, 0, 0, 0), (2, .invokevirtual 143, 3, 205, 0, 183), (5, .istore_n 2, 1, 0, 0, 0), (6, .aload_n 0, 1, 0, 0, 0), (7, .iload_n 1, 1, 0, 0, 0), (8, .invokevirtual 122, 3, 197, 0, 177), (11, .istore_n 3, 1, 0, 0, 0),
  (12, .iload_n 3, 1, 0, 0, 0), (13, .aload_n 0, 1, 0, 0, 0), (14, .getfield 46, 3, 10, 13, 171), (17, .iload_n 1, 1, 0, 0, 0), (18, .iaload, 1, 0, 0, 0), (19, .if_icmp .le 118, 3, 79, 0, 0), (22, .iload_n 3, 1, 0, 0, 0), (23, .aload_n 0, 1, 0, 0, 0),
  (24, .getfield 31, 3, 10, 8, 166), (27, .iload_n 1, 1, 0, 0, 0), (28, .iaload, 1, 0, 0, 0), (29, .if_icmp .le 108, 3, 79, 0, 0), (32, .aload_n 0, 1, 0, 0, 0), (33, .iload_n 1, 1, 0, 0, 0), (34, .iload_n 3, 1, 0, 0, 0), (35, .iconst 0, 1, 0, 0, 0),
  (36, .invokevirtual 130, 3, 200, 0, 179), (39, .aload_n 0, 1, 0, 0, 0), (40, .getfield 15, 3, 10, 3, 161), (43, .iload_n 1, 1, 0, 0, 0), (44, .iaload, 1, 0, 0, 0), (45, .if_icmp .eq 6, 3, 31, 0, 0), (48, .goto 83, 3, 77, 0, 0), (51, .iload_n 2, 1, 0, 0, 0),
  (52, .iconst 1, 1, 0, 0, 0), (53, .iload_n 1, 1, 0, 0, 0), (54, .ishl, 1, 0, 0, 0), (55, .iand, 1, 0, 0, 0), (56, .istore 4, 2, 0, 0, 0), (58, .iconst 0, 1, 0, 0, 0), (59, .istore 5, 2, 0, 0, 0), (61, .iload 5, 2, 0, 0, 0),
  (63, .bipush 7, 2, 0, 0, 0), (65, .if_icmp .ge 39, 3, 63, 0, 0), (68, .iload 5, 2, 0, 0, 0), (70, .iload_n 1, 1, 0, 0, 0), (71, .if_icmp .eq 27, 3, 61, 0, 0), (74, .aload_n 0, 1, 0, 0, 0), (75, .getfield 72, 3, 10, 21, 179), (78, .iload_n 1, 1, 0, 0, 0),
  (79, .aaload, 1, 0, 0, 0), (80, .iload 5, 2, 0, 0, 0), (82, .iaload, 1, 0, 0, 0), (83, .iload_n 3, 1, 0, 0, 0), (84, .if_icmp .lt 14, 3, 61, 0, 0), (87, .iload 4, 2, 0, 0, 0), (89, .iload_n 2, 1, 0, 0, 0), (90, .iconst 1, 1, 0, 0, 0),
  (91, .iload 5, 2, 0, 0, 0), (93, .ishl, 1, 0, 0, 0), (94, .iand, 1, 0, 0, 0), (95, .ior, 1, 0, 0, 0), (96, .istore 4, 2, 0, 0, 0), (98, .iinc 5 1, 3, 0, 0, 0), (101, .goto (-40), 3, 39, 0, 0), (104, .iconst 2, 1, 0, 0, 0),
  (105, .iload 4, 2, 0, 0, 0), (107, .invokestatic 146, 3, 207, 0, 184), (110, .imul, 1, 0, 0, 0), (111, .iload_n 2, 1, 0, 0, 0), (112, .invokestatic 146, 3, 207, 0, 184), (115, .if_icmp .gt 6, 3, 71, 0, 0), (118, .goto 13, 3, 77, 0, 0), (121, .aload_n 0, 1, 0, 0, 0),
  (122, .getfield 31, 3, 10, 8, 166), (125, .iload_n 1, 1, 0, 0, 0), (126, .iload_n 3, 1, 0, 0, 0), (127, .iastore, 1, 0, 0, 0), (128, .goto 9, 3, 79, 0, 0), (131, .iinc 3 (-1), 3, 0, 0, 0), (134, .goto (-122), 3, 8, 0, 0), (137, .aload_n 0, 1, 0, 0, 0),
  (138, .iload_n 1, 1, 0, 0, 0), (139, .invokevirtual 187, 3, 218, 0, 196), (142, .aload_n 0, 1, 0, 0, 0), (143, .iload_n 1, 1, 0, 0, 0), (144, .aload_n 0, 1, 0, 0, 0), (145, .iload_n 1, 1, 0, 0, 0), (146, .invokevirtual 122, 3, 197, 0, 177), (149, .invokevirtual 137, 3, 203, 0, 181),
  (152, .istore_n 3, 1, 0, 0, 0), (153, .iload_n 2, 1, 0, 0, 0), (154, .iload_n 1, 1, 0, 0, 0), (155, .ishr, 1, 0, 0, 0), (156, .iconst 1, 1, 0, 0, 0), (157, .iand, 1, 0, 0, 0), (158, .ifCond .ne 18, 3, 104, 0, 0), (161, .iload_n 3, 1, 0, 0, 0),
  (162, .iconst (-1), 1, 0, 0, 0), (163, .if_icmp .eq 13, 3, 104, 0, 0), (166, .iload_n 3, 1, 0, 0, 0), (167, .aload_n 0, 1, 0, 0, 0), (168, .getfield 31, 3, 10, 8, 166), (171, .iload_n 1, 1, 0, 0, 0), (172, .iaload, 1, 0, 0, 0), (173, .if_icmp .le 4, 3, 105, 0, 0),
  (176, .return_, 1, 0, 0, 0), (177, .aload_n 0, 1, 0, 0, 0), (178, .getfield 22, 3, 10, 5, 163), (181, .iload_n 1, 1, 0, 0, 0), (182, .iconst 0, 1, 0, 0, 0), (183, .iastore, 1, 0, 0, 0), (184, .aload_n 0, 1, 0, 0, 0), (185, .getfield 25, 3, 10, 6, 164),
  (188, .iload_n 1, 1, 0, 0, 0), (189, .iconst (-1), 1, 0, 0, 0), (190, .iastore, 1, 0, 0, 0), (191, .return_, 1, 0, 0, 0)]
set_option maxRecDepth 100000 in
noncomputable def rw_208 : List PRow := [
  (0, .aload_n 0, 1, 0, 0, 0), (1, .getfield 34, 3, 10, 9, 167), (4, .iload_n 1, 1, 0, 0, 0), (5, .iaload, 1, 0, 0, 0), (6, .aload_n 0, 1, 0, 0, 0), (7, .getfield 31, 3, 10, 8, 166), (10, .iload_n 1, 1, 0, 0, 0), (11, .iaload, 1, 0, 0, 0),
  (12, .if_icmp .ge 56, 3, 46, 0, 0), (15, .aload_n 0, 1, 0, 0, 0), (16, .getfield 34, 3, 10, 9, 167), (19, .iload_n 1, 1, 0, 0, 0), (20, .dup2, 1, 0, 0, 0), (21, .iaload, 1, 0, 0, 0), (22, .iconst 1, 1, 0, 0, 0), (23, .iadd, 1, 0, 0, 0),
  (24, .iastore, 1, 0, 0, 0), (25, .aload_n 0, 1, 0, 0, 0), (26, .iload_n 1, 1, 0, 0, 0), (27, .aload_n 0, 1, 0, 0, 0), (28, .getfield 34, 3, 10, 9, 167), (31, .iload_n 1, 1, 0, 0, 0), (32, .iaload, 1, 0, 0, 0), (33, .invokevirtual 126, 3, 199, 0, 178),
  (36, .istore_n 2, 1, 0, 0, 0), (37, .aload_n 0, 1, 0, 0, 0), (38, .getfield 66, 3, 10, 19, 177), (41, .iload_n 1, 1, 0, 0, 0), (42, .aaload, 1, 0, 0, 0), (43, .iload_n 2, 1, 0, 0, 0), (44, .iconst 1, 1, 0, 0, 0), (45, .iadd, 1, 0, 0, 0),
  (46, .iaload, 1, 0, 0, 0), (47, .istore_n 3, 1, 0, 0, 0), (48, .iload_n 3, 1, 0, 0, 0), (49, .iconst 1, 1, 0, 0, 0), (50, .if_icmp .lt 15, 3, 45, 0, 0), (53, .iload_n 3, 1, 0, 0, 0), (54, .iconst 3, 1, 0, 0, 0), (55, .if_icmp .gt 10, 3, 45, 0, 0),
  (58, .aload_n 0, 1, 0, 0, 0), (59, .iload_n 1, 1, 0, 0, 0), (60, .iload_n 2, 1, 0, 0, 0), (61, .iload_n 3, 1, 0, 0, 0), (62, .invokevirtual 190, 3, 219, 0, 197), (65, .goto (-65), 3, 0, 0, 0), (68, .return_, 1, 0, 0, 0)]
set_option maxRecDepth 100000 in
noncomputable def rw_209 : List PRow := [
  (0, .aload_n 0, 1, 0, 0, 0), (1, .getfield 66, 3, 10, 19, 177), (4, .iload_n 1, 1, 0, 0, 0), (5, .aaload, 1, 0, 0, 0), (6, .iload_n 2, 1, 0, 0, 0), (7, .iconst 2, 1, 0, 0, 0), (8, .iadd, 1, 0, 0, 0), (9, .iaload, 1, 0, 0, 0),
  (10, .istore 4, 2, 0, 0, 0), (12, .aload_n 0, 1, 0, 0, 0), (13, .getfield 66, 3, 10, 19, 177), (16, .iload_n 1, 1, 0, 0, 0), (17, .aaload, 1, 0, 0, 0), (18, .iload_n 2, 1, 0, 0, 0), (19, .iconst 3, 1, 0, 0, 0), (20, .iadd, 1, 0, 0, 0),
  (21, .iaload, 1, 0, 0, 0), (22, .istore 5, 2, 0, 0, 0), (24, .aload_n 0, 1, 0, 0, 0), (25, .getfield 66, 3, 10, 19, 177), (28, .iload_n 1, 1, 0, 0, 0), (29, .aaload, 1, 0, 0, 0), (30, .iload_n 2, 1, 0, 0, 0), (31, .iconst 4, 1, 0, 0, 0),
  (32, .iadd, 1, 0, 0, 0), (33, .iaload, 1, 0, 0, 0), (34, .istore 6, 2, 0, 0, 0), (36, .aload_n 0, 1, 0, 0, 0), (37, .getfield 66, 3, 10, 19, 177), (40, .iload_n 1, 1, 0, 0, 0), (41, .aaload, 1, 0, 0, 0), (42, .iload_n 2, 1, 0, 0, 0),
  (43, .iconst 5, 1, 0, 0, 0), (44, .iadd, 1, 0, 0, 0), (45, .iaload, 1, 0, 0, 0), (46, .istore 7, 2, 0, 0, 0), (48, .aload_n 0, 1, 0, 0, 0), (49, .getfield 60, 3, 10, 17, 175), (52, .iload_n 1, 1, 0, 0, 0), (53, .aaload, 1, 0, 0, 0),
  (54, .astore 8, 2, 0, 0, 0), (56, .iload 5, 2, 0, 0, 0), (58, .aload 8, 2, 0, 0, 0), (60, .bipush 8, 2, 0, 0, 0), (62, .iload 4, 2, 0, 0, 0), (64, .iadd, 1, 0, 0, 0), (65, .iaload, 1, 0, 0, 0), (66, .if_icmp .le 128, 3, 120, 0, 0),
  (69, .aload 8, 2, 0, 0, 0), (71, .bipush 8, 2, 0, 0, 0), (73, .iload 4, 2, 0, 0, 0), (75, .iadd, 1, 0, 0, 0), (76, .iload 5, 2, 0, 0, 0), (78, .iastore, 1, 0, 0, 0), (79, .aload 8, 2, 0, 0, 0), (81, .iload 6, 2, 0, 0, 0),
  (83, .iaload, 1, 0, 0, 0), (84, .istore 9, 2, 0, 0, 0), (86, .iload_n 3, 1, 0, 0, 0), (87, .iconst 1, 1, 0, 0, 0), (88, .if_icmp .ne 13, 3, 66, 0, 0), (91, .aload 8, 2, 0, 0, 0), (93, .iload 6, 2, 0, 0, 0), (95, .iload 7, 2, 0, 0, 0),
  (97, .iastore, 1, 0, 0, 0), (98, .goto 44, 3, 90, 0, 0), (101, .iload_n 3, 1, 0, 0, 0), (102, .iconst 2, 1, 0, 0, 0), (103, .if_icmp .ne 16, 3, 76, 0, 0), (106, .aload 8, 2, 0, 0, 0), (108, .iload 6, 2, 0, 0, 0), (110, .iload 9, 2, 0, 0, 0),
  (112, .iload 7, 2, 0, 0, 0), (114, .iadd, 1, 0, 0, 0), (115, .iastore, 1, 0, 0, 0), (116, .goto 26, 3, 90, 0, 0), (119, .iload 9, 2, 0, 0, 0), (121, .aload_n 0, 1, 0, 0, 0), (122, .getfield 66, 3, 10, 19, 177), (125, .iload_n 1, 1, 0, 0, 0),
  (126, .aaload, 1, 0, 0, 0), (127, .iload_n 2, 1, 0, 0, 0), (128, .bipush 6, 2, 0, 0, 0), (130, .iadd, 1, 0, 0, 0), (131, .iaload, 1, 0, 0, 0), (132, .if_icmp .ne 10, 3, 90, 0, 0), (135, .aload 8, 2, 0, 0, 0), (137, .iload 6, 2, 0, 0, 0),
  (139, .iload 7, 2, 0, 0, 0), (141, .iastore, 1, 0, 0, 0), (142, .aload 8, 2, 0, 0, 0), (144, .bipush 12, 2, 0, 0, 0), (146, .iload 4, 2, 0, 0, 0), (148, .iadd, 1, 0, 0, 0), (149, .iload_n 3, 1, 0, 0, 0), (150, .iconst 1, 1, 0, 0, 0),
  (151, .if_icmp .ne 8, 3, 99, 0, 0), (154, .iload 9, 2, 0, 0, 0), (156, .goto 37, 3, 119, 0, 0), (159, .iload_n 3, 1, 0, 0, 0), (160, .iconst 2, 1, 0, 0, 0), (161, .if_icmp .ne 11, 3, 106, 0, 0), (164, .aload 8, 2, 0, 0, 0), (166, .iload 6, 2, 0, 0, 0),
  (168, .iaload, 1, 0, 0, 0), (169, .goto 24, 3, 119, 0, 0), (172, .iload 9, 2, 0, 0, 0), (174, .aload_n 0, 1, 0, 0, 0), (175, .getfield 66, 3, 10, 19, 177), (178, .iload_n 1, 1, 0, 0, 0), (179, .aaload, 1, 0, 0, 0), (180, .iload_n 2, 1, 0, 0, 0),
  (181, .bipush 6, 2, 0, 0, 0), (183, .iadd, 1, 0, 0, 0), (184, .iaload, 1, 0, 0, 0), (185, .if_icmp .ne 7, 3, 118, 0, 0), (188, .iconst 1, 1, 0, 0, 0), (189, .goto 4, 3, 119, 0, 0), (192, .iconst 0, 1, 0, 0, 0), (193, .iastore, 1, 0, 0, 0),
  (194, .aload_n 0, 1, 0, 0, 0), (195, .getfield 22, 3, 10, 5, 163), (198, .iload_n 1, 1, 0, 0, 0), (199, .iaload, 1, 0, 0, 0), (200, .iconst 3, 1, 0, 0, 0), (201, .if_icmp .ne 20, 3, 136, 0, 0), (204, .iload 5, 2, 0, 0, 0), (206, .aload_n 0, 1, 0, 0, 0),
  (207, .getfield 81, 3, 10, 25, 182), (210, .iload 4, 2, 0, 0, 0), (212, .bipush 7, 2, 0, 0, 0), (214, .imul, 1, 0, 0, 0), (215, .iconst 3, 1, 0, 0, 0), (216, .iadd, 1, 0, 0, 0), (217, .iaload, 1, 0, 0, 0), (218, .if_icmp .eq 4, 3, 137, 0, 0),
  (221, .return_, 1, 0, 0, 0), (222, .aload_n 0, 1, 0, 0, 0), (223, .getfield 84, 3, 10, 26, 183), (226, .iload 4, 2, 0, 0, 0), (228, .iconst 1, 1, 0, 0, 0), (229, .iastore, 1, 0, 0, 0), (230, .aload_n 0, 1, 0, 0, 0), (231, .getfield 87, 3, 10, 27, 184),
  (234, .iload 4, 2, 0, 0, 0), (236, .aload 8, 2, 0, 0, 0), (238, .bipush 12, 2, 0, 0, 0), (240, .iload 4, 2, 0, 0, 0), (242, .iadd, 1, 0, 0, 0), (243, .iaload, 1, 0, 0, 0), (244, .iastore, 1, 0, 0, 0), (245, .return_, 1, 0, 0, 0)]
set_option maxRecDepth 100000 in
noncomputable def rw_210 : List PRow := [
  (0, .aload_n 0, 1, 0, 0, 0), (1, .getfield 75, 3, 10, 23, 180), (4, .iload_n 1, 1, 0, 0, 0), (5, .bipush 36, 2, 0, 0, 0), (7, .imul, 1, 0, 0, 0), (8, .aload_n 0, 1, 0, 0, 0), (9, .getfield 78, 3, 10, 24, 181), (12, .iconst 0, 1, 0, 0, 0),
  (13, .bipush 36, 2, 0, 0, 0), (15, .invokestatic 90, 3, 1, 0, 172), (18, .aload_n 0, 1, 0, 0, 0), (19, .iload_n 1, 1, 0, 0, 0), (20, .invokevirtual 193, 3, 221, 0, 198), (23, .aload_n 0, 1, 0, 0, 0), (24, .getfield 78, 3, 10, 24, 181), (27, .iconst 2, 1, 0, 0, 0),
  (28, .iaload, 1, 0, 0, 0), (29, .istore_n 2, 1, 0, 0, 0), (30, .aload_n 0, 1, 0, 0, 0), (31, .getfield 9, 3, 10, 2, 160), (34, .iload_n 2, 1, 0, 0, 0), (35, .baload, 1, 0, 0, 0), (36, .ifCond .eq 21, 3, 35, 0, 0), (39, .aload_n 0, 1, 0, 0, 0),
  (40, .getfield 43, 3, 10, 12, 170), (43, .iload_n 2, 1, 0, 0, 0), (44, .iaload, 1, 0, 0, 0), (45, .aload_n 0, 1, 0, 0, 0), (46, .getfield 78, 3, 10, 24, 181), (49, .iconst 1, 1, 0, 0, 0), (50, .iaload, 1, 0, 0, 0), (51, .ishr, 1, 0, 0, 0),
  (52, .iconst 1, 1, 0, 0, 0), (53, .iand, 1, 0, 0, 0), (54, .ifCond .eq 15, 3, 43, 0, 0), (57, .aload_n 0, 1, 0, 0, 0), (58, .dup, 1, 0, 0, 0), (59, .getfield 100, 3, 10, 1, 186), (62, .iconst 1, 1, 0, 0, 0), (63, .iadd, 1, 0, 0, 0),
  (64, .putfield 100, 3, 10, 1, 186), (67, .iconst 0, 1, 0, 0, 0), (68, .ireturn, 1, 0, 0, 0), (69, .aload_n 0, 1, 0, 0, 0), (70, .iload_n 2, 1, 0, 0, 0), (71, .aload_n 0, 1, 0, 0, 0), (72, .getfield 78, 3, 10, 24, 181), (75, .iconst 1, 1, 0, 0, 0),
  (76, .iaload, 1, 0, 0, 0), (77, .aload_n 0, 1, 0, 0, 0), (78, .getfield 78, 3, 10, 24, 181), (81, .iconst 3, 1, 0, 0, 0), (82, .iaload, 1, 0, 0, 0), (83, .aload_n 0, 1, 0, 0, 0), (84, .getfield 78, 3, 10, 24, 181), (87, .iconst 4, 1, 0, 0, 0),
  (88, .iaload, 1, 0, 0, 0), (89, .aload_n 0, 1, 0, 0, 0), (90, .getfield 78, 3, 10, 24, 181), (93, .iconst 5, 1, 0, 0, 0), (94, .iaload, 1, 0, 0, 0), (95, .invokevirtual 196, 3, 222, 0, 199), (98, .iconst 1, 1, 0, 0, 0), (99, .ireturn, 1, 0, 0, 0)]
set_option maxRecDepth 100000 in
noncomputable def rw_211 : List PRow := [
  (0, .aload_n 0, 1, 0, 0, 0), (1, .getfield 75, 3, 10, 23, 180), (4, .iload_n 1, 1, 0, 0, 0), (5, .iconst 1, 1, 0, 0, 0), (6, .iadd, 1, 0, 0, 0), (7, .bipush 36, 2, 0, 0, 0), (9, .imul, 1, 0, 0, 0), (10, .aload_n 0, 1, 0, 0, 0),
  (11, .getfield 75, 3, 10, 23, 180), (14, .iload_n 1, 1, 0, 0, 0), (15, .bipush 36, 2, 0, 0, 0), (17, .imul, 1, 0, 0, 0), (18, .aload_n 0, 1, 0, 0, 0), (19, .getfield 111, 3, 10, 22, 187), (22, .iload_n 1, 1, 0, 0, 0), (23, .isub, 1, 0, 0, 0),
  (24, .iconst 1, 1, 0, 0, 0), (25, .isub, 1, 0, 0, 0), (26, .bipush 36, 2, 0, 0, 0), (28, .imul, 1, 0, 0, 0), (29, .invokestatic 90, 3, 1, 0, 172), (32, .aload_n 0, 1, 0, 0, 0), (33, .dup, 1, 0, 0, 0), (34, .getfield 111, 3, 10, 22, 187),
  (37, .iconst 1, 1, 0, 0, 0), (38, .isub, 1, 0, 0, 0), (39, .putfield 111, 3, 10, 22, 187), (42, .return_, 1, 0, 0, 0)]
set_option maxRecDepth 100000 in
noncomputable def rw_212 : List PRow := [
  (0, .aload_n 0, 1, 0, 0, 0), (1, .getfield 78, 3, 10, 24, 181), (4, .iconst 0, 1, 0, 0, 0), (5, .iaload, 1, 0, 0, 0), (6, .istore 6, 2, 0, 0, 0), (8, .iload 6, 2, 0, 0, 0), (10, .iconst 1, 1, 0, 0, 0), (11, .if_icmp .eq 15, 3, 14, 0, 0),
  (14, .iload 6, 2, 0, 0, 0), (16, .iconst 2, 1, 0, 0, 0), (17, .if_icmp .ne 13, 3, 16, 0, 0), (20, .iload 4, 2, 0, 0, 0), (22, .iconst 1, 1, 0, 0, 0), (23, .if_icmp .ne 7, 3, 16, 0, 0), (26, .iconst 1, 1, 0, 0, 0), (27, .goto 4, 3, 17, 0, 0),
  (30, .iconst 0, 1, 0, 0, 0), (31, .istore 7, 2, 0, 0, 0), (33, .iload 7, 2, 0, 0, 0), (35, .ifCond .ne 41, 3, 46, 0, 0), (38, .iload_n 3, 1, 0, 0, 0), (39, .aload_n 0, 1, 0, 0, 0), (40, .getfield 15, 3, 10, 3, 161), (43, .iload_n 1, 1, 0, 0, 0),
  (44, .iaload, 1, 0, 0, 0), (45, .if_icmp .le 31, 3, 46, 0, 0), (48, .aload_n 0, 1, 0, 0, 0), (49, .getfield 15, 3, 10, 3, 161), (52, .iload_n 1, 1, 0, 0, 0), (53, .iload_n 3, 1, 0, 0, 0), (54, .iastore, 1, 0, 0, 0), (55, .aload_n 0, 1, 0, 0, 0),
  (56, .getfield 19, 3, 10, 4, 162), (59, .iload_n 1, 1, 0, 0, 0), (60, .iconst (-1), 1, 0, 0, 0), (61, .iastore, 1, 0, 0, 0), (62, .aload_n 0, 1, 0, 0, 0), (63, .getfield 22, 3, 10, 5, 163), (66, .iload_n 1, 1, 0, 0, 0), (67, .iconst 0, 1, 0, 0, 0),
  (68, .iastore, 1, 0, 0, 0), (69, .aload_n 0, 1, 0, 0, 0), (70, .getfield 25, 3, 10, 6, 164), (73, .iload_n 1, 1, 0, 0, 0), (74, .iconst (-1), 1, 0, 0, 0), (75, .iastore, 1, 0, 0, 0), (76, .iload 6, 2, 0, 0, 0), (78, .tableswitch 402 1 7 #[42, 138, 202, 298, 360, 374, 388], 42, 0, 0, 0),
  (120, .iload_n 3, 1, 0, 0, 0), (121, .aload_n 0, 1, 0, 0, 0), (122, .getfield 15, 3, 10, 3, 161), (125, .iload_n 1, 1, 0, 0, 0), (126, .iaload, 1, 0, 0, 0), (127, .if_icmp .le 49, 3, 80, 0, 0), (130, .aload_n 0, 1, 0, 0, 0), (131, .iload 5, 2, 0, 0, 0),
  (133, .iload 4, 2, 0, 0, 0), (135, .iload_n 1, 1, 0, 0, 0), (136, .invokevirtual 200, 3, 209, 0, 200), (139, .ifCond .eq 37, 3, 80, 0, 0), (142, .aload_n 0, 1, 0, 0, 0), (143, .getfield 22, 3, 10, 5, 163), (146, .iload_n 1, 1, 0, 0, 0), (147, .iaload, 1, 0, 0, 0),
  (148, .iconst 3, 1, 0, 0, 0), (149, .if_icmp .eq 27, 3, 80, 0, 0), (152, .aload_n 0, 1, 0, 0, 0), (153, .getfield 25, 3, 10, 6, 164), (156, .iload_n 1, 1, 0, 0, 0), (157, .iaload, 1, 0, 0, 0), (158, .iconst (-1), 1, 0, 0, 0), (159, .if_icmp .eq 13, 3, 78, 0, 0),
  (162, .aload_n 0, 1, 0, 0, 0), (163, .getfield 28, 3, 10, 7, 165), (166, .iload_n 1, 1, 0, 0, 0), (167, .iaload, 1, 0, 0, 0), (168, .iconst 4, 1, 0, 0, 0), (169, .if_icmp .lt 7, 3, 80, 0, 0), (172, .iconst 1, 1, 0, 0, 0), (173, .goto 4, 3, 81, 0, 0),
  (176, .iconst 0, 1, 0, 0, 0), (177, .istore 8, 2, 0, 0, 0), (179, .aload_n 0, 1, 0, 0, 0), (180, .iconst 2, 1, 0, 0, 0), (181, .iload_n 1, 1, 0, 0, 0), (182, .iload_n 2, 1, 0, 0, 0), (183, .iload 8, 2, 0, 0, 0), (185, .ifCond .eq 7, 3, 90, 0, 0),
  (188, .iload_n 3, 1, 0, 0, 0), (189, .goto 9, 3, 94, 0, 0), (192, .aload_n 0, 1, 0, 0, 0), (193, .getfield 15, 3, 10, 3, 161), (196, .iload_n 1, 1, 0, 0, 0), (197, .iaload, 1, 0, 0, 0), (198, .iload 8, 2, 0, 0, 0), (200, .ifCond .eq 7, 3, 98, 0, 0),
  (203, .iconst 1, 1, 0, 0, 0), (204, .goto 4, 3, 99, 0, 0), (207, .iconst 0, 1, 0, 0, 0), (208, .iconst 0, 1, 0, 0, 0), (209, .invokevirtual 152, 3, 210, 0, 186), (212, .pop, 1, 0, 0, 0), (213, .goto 312, 3, 286, 0, 0), (216, .iload 4, 2, 0, 0, 0),
  (218, .ifCond .eq 307, 3, 286, 0, 0), (221, .aload_n 0, 1, 0, 0, 0), (222, .getfield 22, 3, 10, 5, 163), (225, .iload_n 1, 1, 0, 0, 0), (226, .iaload, 1, 0, 0, 0), (227, .iconst 1, 1, 0, 0, 0), (228, .if_icmp .ne 297, 3, 286, 0, 0), (231, .iload_n 3, 1, 0, 0, 0),
  (232, .aload_n 0, 1, 0, 0, 0), (233, .getfield 15, 3, 10, 3, 161), (236, .iload_n 1, 1, 0, 0, 0), (237, .iaload, 1, 0, 0, 0), (238, .iconst 1, 1, 0, 0, 0), (239, .iadd, 1, 0, 0, 0), (240, .if_icmp .eq 6, 3, 120, 0, 0), (243, .goto 282, 3, 286, 0, 0),
  (246, .aload_n 0, 1, 0, 0, 0), (247, .getfield 40, 3, 10, 11, 169), (250, .iload_n 1, 1, 0, 0, 0), (251, .dup2, 1, 0, 0, 0), (252, .iaload, 1, 0, 0, 0), (253, .iconst 1, 1, 0, 0, 0), (254, .iload_n 2, 1, 0, 0, 0), (255, .ishl, 1, 0, 0, 0),
  (256, .ior, 1, 0, 0, 0), (257, .iastore, 1, 0, 0, 0), (258, .aload_n 0, 1, 0, 0, 0), (259, .iload_n 1, 1, 0, 0, 0), (260, .aload_n 0, 1, 0, 0, 0), (261, .getfield 40, 3, 10, 11, 169), (264, .iload_n 1, 1, 0, 0, 0), (265, .iaload, 1, 0, 0, 0),
  (266, .invokevirtual 164, 3, 208, 0, 189), (269, .ifCond .eq 256, 3, 286, 0, 0), (272, .aload_n 0, 1, 0, 0, 0), (273, .iload_n 1, 1, 0, 0, 0), (274, .invokevirtual 168, 3, 215, 0, 190), (277, .goto 248, 3, 286, 0, 0), (280, .iload_n 3, 1, 0, 0, 0), (281, .aload_n 0, 1, 0, 0, 0),
  (282, .getfield 15, 3, 10, 3, 161), (285, .iload_n 1, 1, 0, 0, 0), (286, .iaload, 1, 0, 0, 0), (287, .if_icmp .ne 39, 3, 168, 0, 0), (290, .aload_n 0, 1, 0, 0, 0), (291, .getfield 19, 3, 10, 4, 162), (294, .iload_n 1, 1, 0, 0, 0), (295, .iaload, 1, 0, 0, 0),
  (296, .iconst (-1), 1, 0, 0, 0), (297, .if_icmp .eq 13, 3, 160, 0, 0), (300, .aload_n 0, 1, 0, 0, 0), (301, .getfield 19, 3, 10, 4, 162), (304, .iload_n 1, 1, 0, 0, 0), (305, .iaload, 1, 0, 0, 0), (306, .iload_n 2, 1, 0, 0, 0), (307, .if_icmp .ne 19, 3, 168, 0, 0),
  (310, .aload_n 0, 1, 0, 0, 0), (311, .iload 5, 2, 0, 0, 0), (313, .iload 4, 2, 0, 0, 0), (315, .iload_n 1, 1, 0, 0, 0), (316, .invokevirtual 200, 3, 209, 0, 200), (319, .ifCond .eq 7, 3, 168, 0, 0), (322, .iconst 1, 1, 0, 0, 0), (323, .goto 4, 3, 169, 0, 0),
  (326, .iconst 0, 1, 0, 0, 0), (327, .istore 9, 2, 0, 0, 0), (329, .iload 9, 2, 0, 0, 0), (331, .ifCond .eq 17, 3, 182, 0, 0), (334, .aload_n 0, 1, 0, 0, 0), (335, .getfield 19, 3, 10, 4, 162), (338, .iload_n 1, 1, 0, 0, 0), (339, .iload_n 2, 1, 0, 0, 0),
  (340, .iastore, 1, 0, 0, 0), (341, .aload_n 0, 1, 0, 0, 0), (342, .getfield 28, 3, 10, 7, 165), (345, .iload_n 1, 1, 0, 0, 0), (346, .iconst 0, 1, 0, 0, 0), (347, .iastore, 1, 0, 0, 0), (348, .aload_n 0, 1, 0, 0, 0), (349, .iconst 4, 1, 0, 0, 0),
  (350, .iload_n 1, 1, 0, 0, 0), (351, .iload_n 2, 1, 0, 0, 0), (352, .aload_n 0, 1, 0, 0, 0), (353, .getfield 15, 3, 10, 3, 161), (356, .iload_n 1, 1, 0, 0, 0), (357, .iaload, 1, 0, 0, 0), (358, .iload 9, 2, 0, 0, 0), (360, .ifCond .eq 7, 3, 194, 0, 0),
  (363, .iconst 1, 1, 0, 0, 0), (364, .goto 4, 3, 195, 0, 0), (367, .iconst 0, 1, 0, 0, 0), (368, .iconst 0, 1, 0, 0, 0), (369, .invokevirtual 152, 3, 210, 0, 186), (372, .pop, 1, 0, 0, 0), (373, .goto 152, 3, 286, 0, 0), (376, .iload 4, 2, 0, 0, 0),
  (378, .ifCond .eq 147, 3, 286, 0, 0), (381, .aload_n 0, 1, 0, 0, 0), (382, .getfield 22, 3, 10, 5, 163), (385, .iload_n 1, 1, 0, 0, 0), (386, .iaload, 1, 0, 0, 0), (387, .iconst 2, 1, 0, 0, 0), (388, .if_icmp .ne 137, 3, 286, 0, 0), (391, .iload_n 3, 1, 0, 0, 0),
  (392, .aload_n 0, 1, 0, 0, 0), (393, .getfield 15, 3, 10, 3, 161), (396, .iload_n 1, 1, 0, 0, 0), (397, .iaload, 1, 0, 0, 0), (398, .if_icmp .eq 6, 3, 214, 0, 0), (401, .goto 124, 3, 286, 0, 0), (404, .aload_n 0, 1, 0, 0, 0), (405, .getfield 40, 3, 10, 11, 169),
  (408, .iload_n 1, 1, 0, 0, 0), (409, .dup2, 1, 0, 0, 0), (410, .iaload, 1, 0, 0, 0), (411, .iconst 1, 1, 0, 0, 0), (412, .iload_n 2, 1, 0, 0, 0), (413, .ishl, 1, 0, 0, 0), (414, .ior, 1, 0, 0, 0), (415, .iastore, 1, 0, 0, 0),
  (416, .aload_n 0, 1, 0, 0, 0), (417, .iload_n 1, 1, 0, 0, 0), (418, .aload_n 0, 1, 0, 0, 0), (419, .getfield 40, 3, 10, 11, 169), (422, .iload_n 1, 1, 0, 0, 0), (423, .iaload, 1, 0, 0, 0), (424, .invokevirtual 164, 3, 208, 0, 189), (427, .ifCond .eq 98, 3, 286, 0, 0),
  (430, .aload_n 0, 1, 0, 0, 0), (431, .iload_n 1, 1, 0, 0, 0), (432, .invokevirtual 175, 3, 216, 0, 192), (435, .goto 90, 3, 286, 0, 0), (438, .aload_n 0, 1, 0, 0, 0), (439, .iload_n 1, 1, 0, 0, 0), (440, .iload_n 2, 1, 0, 0, 0), (441, .iload_n 3, 1, 0, 0, 0),
  (442, .iload 4, 2, 0, 0, 0), (444, .iload 5, 2, 0, 0, 0), (446, .invokevirtual 204, 3, 224, 0, 201), (449, .goto 76, 3, 286, 0, 0), (452, .aload_n 0, 1, 0, 0, 0), (453, .iload_n 1, 1, 0, 0, 0), (454, .iload_n 2, 1, 0, 0, 0), (455, .iload_n 3, 1, 0, 0, 0),
  (456, .iload 4, 2, 0, 0, 0), (458, .iload 5, 2, 0, 0, 0), (460, .invokevirtual 207, 3, 226, 0, 202), (463, .goto 62, 3, 286, 0, 0), (466, .aload_n 0, 1, 0, 0, 0), (467, .iload_n 1, 1, 0, 0, 0), (468, .iload_n 2, 1, 0, 0, 0), (469, .iload_n 3, 1, 0, 0, 0),
  (470, .iload 4, 2, 0, 0, 0), (472, .iload 5, 2, 0, 0, 0), (474, .invokevirtual 210, 3, 227, 0, 203), (477, .goto 48, 3, 286, 0, 0), (480, .iload_n 3, 1, 0, 0, 0), (481, .aload_n 0, 1, 0, 0, 0), (482, .getfield 15, 3, 10, 3, 161), (485, .iload_n 1, 1, 0, 0, 0),
  (486, .iaload, 1, 0, 0, 0), (487, .if_icmp .ne 38, 3, 286, 0, 0), (490, .aload_n 0, 1, 0, 0, 0), (491, .getfield 22, 3, 10, 5, 163), (494, .iload_n 1, 1, 0, 0, 0), (495, .iaload, 1, 0, 0, 0), (496, .iconst 3, 1, 0, 0, 0), (497, .if_icmp .eq 28, 3, 286, 0, 0),
  (500, .aload_n 0, 1, 0, 0, 0), (501, .iload_n 1, 1, 0, 0, 0), (502, .iload_n 1, 1, 0, 0, 0), (503, .invokevirtual 213, 3, 206, 0, 204), (506, .ifCond .eq 19, 3, 286, 0, 0), (509, .aload_n 0, 1, 0, 0, 0), (510, .getfield 63, 3, 10, 18, 176), (513, .iload_n 1, 1, 0, 0, 0),
  (514, .iaload, 1, 0, 0, 0), (515, .bipush 48, 2, 0, 0, 0), (517, .if_icmp .ge 8, 3, 286, 0, 0), (520, .aload_n 0, 1, 0, 0, 0), (521, .iload_n 1, 1, 0, 0, 0), (522, .invokevirtual 168, 3, 215, 0, 190), (525, .return_, 1, 0, 0, 0)]
set_option maxRecDepth 100000 in
noncomputable def rw_213 : List PRow := [
  (0, .iload_n 3, 1, 0, 0, 0), (1, .aload_n 0, 1, 0, 0, 0), (2, .getfield 15, 3, 10, 3, 161), (5, .iload_n 1, 1, 0, 0, 0), (6, .iaload, 1, 0, 0, 0), (7, .if_icmp .ge 22, 3, 20, 0, 0), (10, .aload_n 0, 1, 0, 0, 0), (11, .bipush 6, 2, 0, 0, 0),
  (13, .iload_n 1, 1, 0, 0, 0), (14, .iload_n 2, 1, 0, 0, 0), (15, .aload_n 0, 1, 0, 0, 0), (16, .getfield 15, 3, 10, 3, 161), (19, .iload_n 1, 1, 0, 0, 0), (20, .iaload, 1, 0, 0, 0), (21, .iconst 0, 1, 0, 0, 0), (22, .iconst 0, 1, 0, 0, 0),
  (23, .invokevirtual 152, 3, 210, 0, 186), (26, .pop, 1, 0, 0, 0), (27, .iconst 1, 1, 0, 0, 0), (28, .ireturn, 1, 0, 0, 0), (29, .aload_n 0, 1, 0, 0, 0), (30, .getfield 22, 3, 10, 5, 163), (33, .iload_n 1, 1, 0, 0, 0), (34, .iconst 0, 1, 0, 0, 0),
  (35, .iastore, 1, 0, 0, 0), (36, .aload_n 0, 1, 0, 0, 0), (37, .getfield 25, 3, 10, 6, 164), (40, .iload_n 1, 1, 0, 0, 0), (41, .iload_n 2, 1, 0, 0, 0), (42, .iastore, 1, 0, 0, 0), (43, .aload_n 0, 1, 0, 0, 0), (44, .getfield 28, 3, 10, 7, 165),
  (47, .iload_n 1, 1, 0, 0, 0), (48, .iconst 0, 1, 0, 0, 0), (49, .iastore, 1, 0, 0, 0), (50, .iconst 0, 1, 0, 0, 0), (51, .ireturn, 1, 0, 0, 0)]
set_option maxRecDepth 100000 in
noncomputable def rw_214 : List PRow := [
  (0, .aload_n 0, 1, 0, 0, 0), (1, .iload_n 1, 1, 0, 0, 0), (2, .iload_n 2, 1, 0, 0, 0), (3, .iload_n 3, 1, 0, 0, 0), (4, .invokevirtual 216, 3, 223, 0, 205), (7, .ifCond .eq 4, 3, 7, 0, 0), (10, .return_, 1, 0, 0, 0), (11, .iload 4, 2, 0, 0, 0),
  (13, .aload_n 0, 1, 0, 0, 0), (14, .getfield 46, 3, 10, 13, 171), (17, .iload_n 1, 1, 0, 0, 0), (18, .iaload, 1, 0, 0, 0), (19, .if_icmp .le 26, 3, 25, 0, 0), (22, .aload_n 0, 1, 0, 0, 0), (23, .iload_n 1, 1, 0, 0, 0), (24, .iload 4, 2, 0, 0, 0),
  (26, .invokevirtual 219, 3, 198, 0, 206), (29, .ifCond .eq 20, 3, 27, 0, 0), (32, .aload_n 0, 1, 0, 0, 0), (33, .iload_n 1, 1, 0, 0, 0), (34, .iload 4, 2, 0, 0, 0), (36, .iconst 0, 1, 0, 0, 0), (37, .invokevirtual 130, 3, 200, 0, 179), (40, .iload 5, 2, 0, 0, 0),
  (42, .if_icmp .ne 7, 3, 27, 0, 0), (45, .iconst 1, 1, 0, 0, 0), (46, .goto 4, 3, 28, 0, 0), (49, .iconst 0, 1, 0, 0, 0), (50, .istore 6, 2, 0, 0, 0), (52, .iload 6, 2, 0, 0, 0), (54, .ifCond .ne 54, 3, 61, 0, 0), (57, .aload_n 0, 1, 0, 0, 0),
  (58, .bipush 6, 2, 0, 0, 0), (60, .iload_n 1, 1, 0, 0, 0), (61, .iload_n 2, 1, 0, 0, 0), (62, .aload_n 0, 1, 0, 0, 0), (63, .getfield 15, 3, 10, 3, 161), (66, .iload_n 1, 1, 0, 0, 0), (67, .iaload, 1, 0, 0, 0), (68, .aload_n 0, 1, 0, 0, 0),
  (69, .iload_n 1, 1, 0, 0, 0), (70, .invokevirtual 122, 3, 197, 0, 177), (73, .iload 4, 2, 0, 0, 0), (75, .if_icmp .ge 11, 3, 48, 0, 0), (78, .aload_n 0, 1, 0, 0, 0), (79, .iload_n 1, 1, 0, 0, 0), (80, .invokevirtual 122, 3, 197, 0, 177), (83, .goto 19, 3, 57, 0, 0),
  (86, .aload_n 0, 1, 0, 0, 0), (87, .getfield 31, 3, 10, 8, 166), (90, .iload_n 1, 1, 0, 0, 0), (91, .iaload, 1, 0, 0, 0), (92, .aload_n 0, 1, 0, 0, 0), (93, .iload_n 1, 1, 0, 0, 0), (94, .iload 4, 2, 0, 0, 0), (96, .invokevirtual 222, 3, 225, 0, 207),
  (99, .invokestatic 225, 3, 2, 0, 208), (102, .iconst 0, 1, 0, 0, 0), (103, .invokevirtual 152, 3, 210, 0, 186), (106, .pop, 1, 0, 0, 0), (107, .return_, 1, 0, 0, 0), (108, .iconst 0, 1, 0, 0, 0), (109, .istore 7, 2, 0, 0, 0), (111, .iload 7, 2, 0, 0, 0),
  (113, .aload_n 0, 1, 0, 0, 0), (114, .getfield 78, 3, 10, 24, 181), (117, .bipush 7, 2, 0, 0, 0), (119, .iaload, 1, 0, 0, 0), (120, .if_icmp .ge 108, 3, 130, 0, 0), (123, .iload 4, 2, 0, 0, 0), (125, .iconst 1, 1, 0, 0, 0), (126, .iadd, 1, 0, 0, 0),
  (127, .iload 7, 2, 0, 0, 0), (129, .iadd, 1, 0, 0, 0), (130, .istore 8, 2, 0, 0, 0), (132, .aload_n 0, 1, 0, 0, 0), (133, .getfield 78, 3, 10, 24, 181), (136, .bipush 8, 2, 0, 0, 0), (138, .iload 7, 2, 0, 0, 0), (140, .bipush 7, 2, 0, 0, 0),
  (142, .imul, 1, 0, 0, 0), (143, .iadd, 1, 0, 0, 0), (144, .iconst 0, 1, 0, 0, 0), (145, .iadd, 1, 0, 0, 0), (146, .iaload, 1, 0, 0, 0), (147, .istore 9, 2, 0, 0, 0), (149, .iload 8, 2, 0, 0, 0), (151, .aload_n 0, 1, 0, 0, 0),
  (152, .getfield 46, 3, 10, 13, 171), (155, .iload_n 1, 1, 0, 0, 0), (156, .iaload, 1, 0, 0, 0), (157, .if_icmp .le 65, 3, 128, 0, 0), (160, .aload_n 0, 1, 0, 0, 0), (161, .iload_n 1, 1, 0, 0, 0), (162, .iload 8, 2, 0, 0, 0), (164, .invokevirtual 219, 3, 198, 0, 206),
  (167, .ifCond .eq 19, 3, 105, 0, 0), (170, .aload_n 0, 1, 0, 0, 0), (171, .iload_n 1, 1, 0, 0, 0), (172, .iload 8, 2, 0, 0, 0), (174, .iconst 0, 1, 0, 0, 0), (175, .invokevirtual 130, 3, 200, 0, 179), (178, .iload 9, 2, 0, 0, 0), (180, .if_icmp .ne 6, 3, 105, 0, 0),
  (183, .goto 39, 3, 128, 0, 0), (186, .aload_n 0, 1, 0, 0, 0), (187, .getfield 63, 3, 10, 18, 176), (190, .iload_n 1, 1, 0, 0, 0), (191, .iload 8, 2, 0, 0, 0), (193, .aload_n 0, 1, 0, 0, 0), (194, .getfield 46, 3, 10, 13, 171), (197, .iload_n 1, 1, 0, 0, 0),
  (198, .iaload, 1, 0, 0, 0), (199, .isub, 1, 0, 0, 0), (200, .iconst 1, 1, 0, 0, 0), (201, .isub, 1, 0, 0, 0), (202, .iastore, 1, 0, 0, 0), (203, .aload_n 0, 1, 0, 0, 0), (204, .iload_n 1, 1, 0, 0, 0), (205, .aload_n 0, 1, 0, 0, 0),
  (206, .getfield 78, 3, 10, 24, 181), (209, .bipush 8, 2, 0, 0, 0), (211, .iload 7, 2, 0, 0, 0), (213, .bipush 7, 2, 0, 0, 0), (215, .imul, 1, 0, 0, 0), (216, .iadd, 1, 0, 0, 0), (217, .iload 9, 2, 0, 0, 0), (219, .invokevirtual 118, 3, 195, 0, 176),
  (222, .iinc 7 1, 3, 0, 0, 0), (225, .goto (-114), 3, 63, 0, 0), (228, .iload 4, 2, 0, 0, 0), (230, .aload_n 0, 1, 0, 0, 0), (231, .getfield 78, 3, 10, 24, 181), (234, .bipush 7, 2, 0, 0, 0), (236, .iaload, 1, 0, 0, 0), (237, .iadd, 1, 0, 0, 0),
  (238, .istore 7, 2, 0, 0, 0), (240, .aload_n 0, 1, 0, 0, 0), (241, .getfield 31, 3, 10, 8, 166), (244, .iload_n 1, 1, 0, 0, 0), (245, .aload_n 0, 1, 0, 0, 0), (246, .getfield 31, 3, 10, 8, 166), (249, .iload_n 1, 1, 0, 0, 0), (250, .iaload, 1, 0, 0, 0),
  (251, .aload_n 0, 1, 0, 0, 0), (252, .getfield 78, 3, 10, 24, 181), (255, .bipush 6, 2, 0, 0, 0), (257, .iaload, 1, 0, 0, 0), (258, .iload 7, 2, 0, 0, 0), (260, .invokestatic 156, 3, 3, 0, 187), (263, .invokestatic 225, 3, 2, 0, 208), (266, .iastore, 1, 0, 0, 0),
  (267, .aload_n 0, 1, 0, 0, 0), (268, .iload_n 1, 1, 0, 0, 0), (269, .invokevirtual 187, 3, 218, 0, 196), (272, .aload_n 0, 1, 0, 0, 0), (273, .bipush 6, 2, 0, 0, 0), (275, .iload_n 1, 1, 0, 0, 0), (276, .iload_n 2, 1, 0, 0, 0), (277, .aload_n 0, 1, 0, 0, 0),
  (278, .getfield 15, 3, 10, 3, 161), (281, .iload_n 1, 1, 0, 0, 0), (282, .iaload, 1, 0, 0, 0), (283, .iload 7, 2, 0, 0, 0), (285, .iconst 1, 1, 0, 0, 0), (286, .invokevirtual 152, 3, 210, 0, 186), (289, .pop, 1, 0, 0, 0), (290, .return_, 1, 0, 0, 0)]
set_option maxRecDepth 100000 in
noncomputable def rw_215 : List PRow := [
  (0, .iload_n 2, 1, 0, 0, 0), (1, .istore_n 3, 1, 0, 0, 0), (2, .aload_n 0, 1, 0, 0, 0), (3, .iload_n 1, 1, 0, 0, 0), (4, .iload_n 3, 1, 0, 0, 0), (5, .iconst 1, 1, 0, 0, 0), (6, .isub, 1, 0, 0, 0), (7, .invokevirtual 219, 3, 198, 0, 206),
  (10, .ifCond .eq 28, 3, 24, 0, 0), (13, .aload_n 0, 1, 0, 0, 0), (14, .iload_n 1, 1, 0, 0, 0), (15, .iload_n 3, 1, 0, 0, 0), (16, .iconst 1, 1, 0, 0, 0), (17, .isub, 1, 0, 0, 0), (18, .iconst 0, 1, 0, 0, 0), (19, .invokevirtual 130, 3, 200, 0, 179),
  (22, .aload_n 0, 1, 0, 0, 0), (23, .iload_n 1, 1, 0, 0, 0), (24, .iload_n 2, 1, 0, 0, 0), (25, .iconst 0, 1, 0, 0, 0), (26, .invokevirtual 130, 3, 200, 0, 179), (29, .if_icmp .ne 9, 3, 24, 0, 0), (32, .iinc 3 (-1), 3, 0, 0, 0), (35, .goto (-33), 3, 2, 0, 0),
  (38, .iload_n 3, 1, 0, 0, 0), (39, .iconst 1, 1, 0, 0, 0), (40, .isub, 1, 0, 0, 0), (41, .ireturn, 1, 0, 0, 0)]
set_option maxRecDepth 100000 in
noncomputable def rw_216 : List PRow := [
  (0, .aload_n 0, 1, 0, 0, 0), (1, .getfield 22, 3, 10, 5, 163), (4, .iload_n 1, 1, 0, 0, 0), (5, .iaload, 1, 0, 0, 0), (6, .iconst 3, 1, 0, 0, 0), (7, .if_icmp .ne 13, 3, 12, 0, 0), (10, .iload_n 3, 1, 0, 0, 0), (11, .aload_n 0, 1, 0, 0, 0),
  (12, .getfield 15, 3, 10, 3, 161), (15, .iload_n 1, 1, 0, 0, 0), (16, .iaload, 1, 0, 0, 0), (17, .if_icmp .eq 4, 3, 13, 0, 0), (20, .return_, 1, 0, 0, 0), (21, .iload 5, 2, 0, 0, 0), (23, .ifCond .ne 33, 3, 36, 0, 0), (26, .aload_n 0, 1, 0, 0, 0),
  (27, .getfield 69, 3, 10, 20, 178), (30, .iload_n 1, 1, 0, 0, 0), (31, .aaload, 1, 0, 0, 0), (32, .iload_n 2, 1, 0, 0, 0), (33, .iload 4, 2, 0, 0, 0), (35, .aload_n 0, 1, 0, 0, 0), (36, .getfield 72, 3, 10, 21, 179), (39, .iload_n 1, 1, 0, 0, 0),
  (40, .aaload, 1, 0, 0, 0), (41, .iload_n 2, 1, 0, 0, 0), (42, .iaload, 1, 0, 0, 0), (43, .invokestatic 225, 3, 2, 0, 208), (46, .iconst 1, 1, 0, 0, 0), (47, .iadd, 1, 0, 0, 0), (48, .iastore, 1, 0, 0, 0), (49, .aload_n 0, 1, 0, 0, 0),
  (50, .iload_n 1, 1, 0, 0, 0), (51, .iload_n 2, 1, 0, 0, 0), (52, .invokevirtual 161, 3, 211, 0, 188), (55, .return_, 1, 0, 0, 0), (56, .iload 4, 2, 0, 0, 0), (58, .aload_n 0, 1, 0, 0, 0), (59, .getfield 72, 3, 10, 21, 179), (62, .iload_n 1, 1, 0, 0, 0),
  (63, .aaload, 1, 0, 0, 0), (64, .iload_n 2, 1, 0, 0, 0), (65, .iaload, 1, 0, 0, 0), (66, .if_icmp .le 25, 3, 60, 0, 0), (69, .aload_n 0, 1, 0, 0, 0), (70, .getfield 72, 3, 10, 21, 179), (73, .iload_n 1, 1, 0, 0, 0), (74, .aaload, 1, 0, 0, 0),
  (75, .iload_n 2, 1, 0, 0, 0), (76, .iload 4, 2, 0, 0, 0), (78, .iastore, 1, 0, 0, 0), (79, .aload_n 0, 1, 0, 0, 0), (80, .getfield 69, 3, 10, 20, 178), (83, .iload_n 1, 1, 0, 0, 0), (84, .aaload, 1, 0, 0, 0), (85, .iload_n 2, 1, 0, 0, 0),
  (86, .iload 4, 2, 0, 0, 0), (88, .iconst 1, 1, 0, 0, 0), (89, .iadd, 1, 0, 0, 0), (90, .iastore, 1, 0, 0, 0), (91, .aload_n 0, 1, 0, 0, 0), (92, .iload_n 1, 1, 0, 0, 0), (93, .invokevirtual 184, 3, 217, 0, 195), (96, .aload_n 0, 1, 0, 0, 0),
  (97, .getfield 22, 3, 10, 5, 163), (100, .iload_n 1, 1, 0, 0, 0), (101, .iaload, 1, 0, 0, 0), (102, .iconst 3, 1, 0, 0, 0), (103, .if_icmp .ne 25, 3, 83, 0, 0), (106, .aload_n 0, 1, 0, 0, 0), (107, .getfield 69, 3, 10, 20, 178), (110, .iload_n 1, 1, 0, 0, 0),
  (111, .aaload, 1, 0, 0, 0), (112, .iload_n 2, 1, 0, 0, 0), (113, .iaload, 1, 0, 0, 0), (114, .aload_n 0, 1, 0, 0, 0), (115, .iload_n 1, 1, 0, 0, 0), (116, .invokevirtual 122, 3, 197, 0, 177), (119, .if_icmp .gt 9, 3, 83, 0, 0), (122, .aload_n 0, 1, 0, 0, 0),
  (123, .iload_n 1, 1, 0, 0, 0), (124, .iload_n 2, 1, 0, 0, 0), (125, .invokevirtual 161, 3, 211, 0, 188), (128, .return_, 1, 0, 0, 0)]
set_option maxRecDepth 100000 in
noncomputable def rw_217 : List PRow := [
  (0, .aload_n 0, 1, 0, 0, 0), (1, .iload_n 1, 1, 0, 0, 0), (2, .iload_n 2, 1, 0, 0, 0), (3, .iload_n 3, 1, 0, 0, 0), (4, .invokevirtual 216, 3, 223, 0, 205), (7, .ifCond .eq 4, 3, 7, 0, 0), (10, .return_, 1, 0, 0, 0), (11, .iload 4, 2, 0, 0, 0),
  (13, .aload_n 0, 1, 0, 0, 0), (14, .getfield 31, 3, 10, 8, 166), (17, .iload_n 1, 1, 0, 0, 0), (18, .iaload, 1, 0, 0, 0), (19, .if_icmp .le 125, 3, 84, 0, 0), (22, .aload_n 0, 1, 0, 0, 0), (23, .iload_n 1, 1, 0, 0, 0), (24, .iload 4, 2, 0, 0, 0),
  (26, .invokevirtual 219, 3, 198, 0, 206), (29, .ifCond .eq 27, 3, 31, 0, 0), (32, .aload_n 0, 1, 0, 0, 0), (33, .iload_n 1, 1, 0, 0, 0), (34, .iload 4, 2, 0, 0, 0), (36, .iconst 0, 1, 0, 0, 0), (37, .invokevirtual 130, 3, 200, 0, 179), (40, .iload 5, 2, 0, 0, 0),
  (42, .if_icmp .ne 14, 3, 31, 0, 0), (45, .aload_n 0, 1, 0, 0, 0), (46, .iload_n 1, 1, 0, 0, 0), (47, .invokevirtual 122, 3, 197, 0, 177), (50, .iload 4, 2, 0, 0, 0), (52, .isub, 1, 0, 0, 0), (53, .goto 4, 3, 32, 0, 0), (56, .iconst 0, 1, 0, 0, 0),
  (57, .istore 6, 2, 0, 0, 0), (59, .aload_n 0, 1, 0, 0, 0), (60, .iload_n 1, 1, 0, 0, 0), (61, .iload 6, 2, 0, 0, 0), (63, .invokevirtual 228, 3, 228, 0, 209), (66, .aload_n 0, 1, 0, 0, 0), (67, .getfield 46, 3, 10, 13, 171), (70, .iload_n 1, 1, 0, 0, 0),
  (71, .iload 4, 2, 0, 0, 0), (73, .iastore, 1, 0, 0, 0), (74, .aload_n 0, 1, 0, 0, 0), (75, .getfield 49, 3, 10, 14, 172), (78, .iload_n 1, 1, 0, 0, 0), (79, .iload 5, 2, 0, 0, 0), (81, .iastore, 1, 0, 0, 0), (82, .aload_n 0, 1, 0, 0, 0),
  (83, .getfield 52, 3, 10, 15, 173), (86, .iload_n 1, 1, 0, 0, 0), (87, .aload_n 0, 1, 0, 0, 0), (88, .getfield 78, 3, 10, 24, 181), (91, .bipush 6, 2, 0, 0, 0), (93, .iaload, 1, 0, 0, 0), (94, .iastore, 1, 0, 0, 0), (95, .aload_n 0, 1, 0, 0, 0),
  (96, .getfield 78, 3, 10, 24, 181), (99, .bipush 8, 2, 0, 0, 0), (101, .aload_n 0, 1, 0, 0, 0), (102, .getfield 57, 3, 10, 16, 174), (105, .iload_n 1, 1, 0, 0, 0), (106, .aaload, 1, 0, 0, 0), (107, .iconst 0, 1, 0, 0, 0), (108, .bipush 16, 2, 0, 0, 0),
  (110, .invokestatic 90, 3, 1, 0, 172), (113, .aload_n 0, 1, 0, 0, 0), (114, .getfield 31, 3, 10, 8, 166), (117, .iload_n 1, 1, 0, 0, 0), (118, .iload 4, 2, 0, 0, 0), (120, .iastore, 1, 0, 0, 0), (121, .aload_n 0, 1, 0, 0, 0), (122, .getfield 34, 3, 10, 9, 167),
  (125, .iload_n 1, 1, 0, 0, 0), (126, .iload 4, 2, 0, 0, 0), (128, .iastore, 1, 0, 0, 0), (129, .aload_n 0, 1, 0, 0, 0), (130, .getfield 57, 3, 10, 16, 174), (133, .iload_n 1, 1, 0, 0, 0), (134, .aaload, 1, 0, 0, 0), (135, .aload_n 0, 1, 0, 0, 0),
  (136, .getfield 60, 3, 10, 17, 175), (139, .iload_n 1, 1, 0, 0, 0), (140, .aaload, 1, 0, 0, 0), (141, .invokestatic 103, 3, 190, 0, 173), (144, .aload_n 0, 1, 0, 0, 0), (145, .bipush 6, 2, 0, 0, 0), (147, .iload_n 1, 1, 0, 0, 0), (148, .iload_n 2, 1, 0, 0, 0),
  (149, .aload_n 0, 1, 0, 0, 0), (150, .getfield 15, 3, 10, 3, 161), (153, .iload_n 1, 1, 0, 0, 0), (154, .iaload, 1, 0, 0, 0), (155, .iload 4, 2, 0, 0, 0), (157, .iconst 1, 1, 0, 0, 0), (158, .invokevirtual 152, 3, 210, 0, 186), (161, .pop, 1, 0, 0, 0),
  (162, .return_, 1, 0, 0, 0)]
set_option maxRecDepth 100000 in
noncomputable def rw_218 : List PRow := [
  (0, .aload_n 0, 1, 0, 0, 0), (1, .getfield 66, 3, 10, 19, 177), (4, .iload_n 1, 1, 0, 0, 0), (5, .aaload, 1, 0, 0, 0), (6, .aload_n 0, 1, 0, 0, 0), (7, .getfield 63, 3, 10, 18, 176), (10, .iload_n 1, 1, 0, 0, 0), (11, .iaload, 1, 0, 0, 0),
  (12, .iload_n 2, 1, 0, 0, 0), (13, .isub, 1, 0, 0, 0), (14, .bipush 7, 2, 0, 0, 0), (16, .imul, 1, 0, 0, 0), (17, .aload_n 0, 1, 0, 0, 0), (18, .getfield 66, 3, 10, 19, 177), (21, .iload_n 1, 1, 0, 0, 0), (22, .aaload, 1, 0, 0, 0),
  (23, .iconst 0, 1, 0, 0, 0), (24, .iload_n 2, 1, 0, 0, 0), (25, .bipush 7, 2, 0, 0, 0), (27, .imul, 1, 0, 0, 0), (28, .invokestatic 90, 3, 1, 0, 172), (31, .aload_n 0, 1, 0, 0, 0), (32, .getfield 63, 3, 10, 18, 176), (35, .iload_n 1, 1, 0, 0, 0),
  (36, .iload_n 2, 1, 0, 0, 0), (37, .iastore, 1, 0, 0, 0), (38, .return_, 1, 0, 0, 0)]
set_option maxRecDepth 100000 in
noncomputable def rw_219 : List PRow := [
  (0, .bipush 6, 2, 0, 0, 0), (2, .iconst 3, 1, 0, 0, 0), (3, .iload_n 0, 1, 0, 0, 0), (4, .imul, 1, 0, 0, 0), (5, .iconst 5, 1, 0, 0, 0), (6, .iload_n 1, 1, 0, 0, 0), (7, .imul, 1, 0, 0, 0), (8, .iadd, 1, 0, 0, 0),
  (9, .bipush 7, 2, 0, 0, 0), (11, .irem, 1, 0, 0, 0), (12, .iadd, 1, 0, 0, 0), (13, .ireturn, 1, 0, 0, 0)]
set_option maxRecDepth 100000 in
noncomputable def rw_220 : List PRow := [
  (0, .iconst 0, 1, 0, 0, 0), (1, .istore_n 1, 1, 0, 0, 0), (2, .iload_n 1, 1, 0, 0, 0), (3, .bipush 7, 2, 0, 0, 0), (5, .if_icmp .ge 23, 3, 15, 0, 0), (8, .aload_n 0, 1, 0, 0, 0), (9, .getfield 9, 3, 10, 2, 160), (12, .iload_n 1, 1, 0, 0, 0),
  (13, .baload, 1, 0, 0, 0), (14, .ifCond .eq 8, 3, 13, 0, 0), (17, .aload_n 0, 1, 0, 0, 0), (18, .iload_n 1, 1, 0, 0, 0), (19, .invokevirtual 231, 3, 231, 0, 210), (22, .iinc 1 1, 3, 0, 0, 0), (25, .goto (-23), 3, 2, 0, 0), (28, .aload_n 0, 1, 0, 0, 0),
  (29, .getfield 111, 3, 10, 22, 187), (32, .istore_n 1, 1, 0, 0, 0), (33, .iload_n 1, 1, 0, 0, 0), (34, .ifCond .le 15, 3, 26, 0, 0), (37, .aload_n 0, 1, 0, 0, 0), (38, .iconst 0, 1, 0, 0, 0), (39, .invokevirtual 234, 3, 220, 0, 211), (42, .pop, 1, 0, 0, 0),
  (43, .iinc 1 (-1), 3, 0, 0, 0), (46, .goto (-13), 3, 18, 0, 0), (49, .aload_n 0, 1, 0, 0, 0), (50, .dup, 1, 0, 0, 0), (51, .getfield 96, 3, 10, 0, 185), (54, .iconst 1, 1, 0, 0, 0), (55, .iadd, 1, 0, 0, 0), (56, .putfield 96, 3, 10, 0, 185),
  (59, .return_, 1, 0, 0, 0)]
set_option maxRecDepth 100000 in
noncomputable def rw_221 : List PRow := [
  (0, .aload_n 0, 1, 0, 0, 0), (1, .getfield 22, 3, 10, 5, 163), (4, .iload_n 1, 1, 0, 0, 0), (5, .iaload, 1, 0, 0, 0), (6, .iconst 3, 1, 0, 0, 0), (7, .if_icmp .ne 33, 3, 26, 0, 0), (10, .aload_n 0, 1, 0, 0, 0), (11, .getfield 37, 3, 10, 10, 168),
  (14, .iload_n 1, 1, 0, 0, 0), (15, .dup2, 1, 0, 0, 0), (16, .iaload, 1, 0, 0, 0), (17, .iconst 1, 1, 0, 0, 0), (18, .iadd, 1, 0, 0, 0), (19, .iastore, 1, 0, 0, 0), (20, .aload_n 0, 1, 0, 0, 0), (21, .getfield 37, 3, 10, 10, 168),
  (24, .iload_n 1, 1, 0, 0, 0), (25, .iaload, 1, 0, 0, 0), (26, .iconst 2, 1, 0, 0, 0), (27, .irem, 1, 0, 0, 0), (28, .ifCond .ne 55, 3, 53, 0, 0), (31, .aload_n 0, 1, 0, 0, 0), (32, .iload_n 1, 1, 0, 0, 0), (33, .invokevirtual 181, 3, 212, 0, 194),
  (36, .pop, 1, 0, 0, 0), (37, .goto 46, 3, 53, 0, 0), (40, .aload_n 0, 1, 0, 0, 0), (41, .iload_n 1, 1, 0, 0, 0), (42, .iload_n 1, 1, 0, 0, 0), (43, .invokevirtual 213, 3, 206, 0, 204), (46, .ifCond .eq 37, 3, 53, 0, 0), (49, .aload_n 0, 1, 0, 0, 0),
  (50, .getfield 28, 3, 10, 7, 165), (53, .iload_n 1, 1, 0, 0, 0), (54, .dup2, 1, 0, 0, 0), (55, .iaload, 1, 0, 0, 0), (56, .iconst 1, 1, 0, 0, 0), (57, .iadd, 1, 0, 0, 0), (58, .iastore, 1, 0, 0, 0), (59, .aload_n 0, 1, 0, 0, 0),
  (60, .getfield 28, 3, 10, 7, 165), (63, .iload_n 1, 1, 0, 0, 0), (64, .iaload, 1, 0, 0, 0), (65, .iload_n 1, 1, 0, 0, 0), (66, .aload_n 0, 1, 0, 0, 0), (67, .getfield 15, 3, 10, 3, 161), (70, .iload_n 1, 1, 0, 0, 0), (71, .iaload, 1, 0, 0, 0),
  (72, .invokestatic 238, 3, 229, 0, 212), (75, .if_icmp .lt 8, 3, 53, 0, 0), (78, .aload_n 0, 1, 0, 0, 0), (79, .iload_n 1, 1, 0, 0, 0), (80, .invokevirtual 241, 3, 214, 0, 213), (83, .return_, 1, 0, 0, 0)]
set_option maxRecDepth 100000 in
noncomputable def rw_222 : List PRow := [
  (0, .iconst (-1), 1, 0, 0, 0), (1, .istore_n 1, 1, 0, 0, 0), (2, .iconst 0, 1, 0, 0, 0), (3, .istore_n 2, 1, 0, 0, 0), (4, .iload_n 2, 1, 0, 0, 0), (5, .bipush 7, 2, 0, 0, 0), (7, .if_icmp .ge 41, 3, 29, 0, 0), (10, .aload_n 0, 1, 0, 0, 0),
  (11, .getfield 22, 3, 10, 5, 163), (14, .iload_n 2, 1, 0, 0, 0), (15, .iaload, 1, 0, 0, 0), (16, .iconst 3, 1, 0, 0, 0), (17, .if_icmp .ne 25, 3, 27, 0, 0), (20, .iload_n 1, 1, 0, 0, 0), (21, .iconst (-1), 1, 0, 0, 0), (22, .if_icmp .eq 18, 3, 25, 0, 0),
  (25, .aload_n 0, 1, 0, 0, 0), (26, .getfield 15, 3, 10, 3, 161), (29, .iload_n 2, 1, 0, 0, 0), (30, .iaload, 1, 0, 0, 0), (31, .aload_n 0, 1, 0, 0, 0), (32, .getfield 15, 3, 10, 3, 161), (35, .iload_n 1, 1, 0, 0, 0), (36, .iaload, 1, 0, 0, 0),
  (37, .if_icmp .le 5, 3, 27, 0, 0), (40, .iload_n 2, 1, 0, 0, 0), (41, .istore_n 1, 1, 0, 0, 0), (42, .iinc 2 1, 3, 0, 0, 0), (45, .goto (-41), 3, 4, 0, 0), (48, .iload_n 1, 1, 0, 0, 0), (49, .ireturn, 1, 0, 0, 0)]
set_option maxRecDepth 100000 in
noncomputable def rw_223 : List PRow := [
  (0, .iconst 0, 1, 0, 0, 0), (1, .istore_n 2, 1, 0, 0, 0), (2, .iload_n 2, 1, 0, 0, 0), (3, .bipush 7, 2, 0, 0, 0), (5, .if_icmp .ge 44, 3, 28, 0, 0), (8, .iload_n 2, 1, 0, 0, 0), (9, .iload_n 1, 1, 0, 0, 0), (10, .if_icmp .eq 33, 3, 26, 0, 0),
  (13, .aload_n 0, 1, 0, 0, 0), (14, .getfield 9, 3, 10, 2, 160), (17, .iload_n 2, 1, 0, 0, 0), (18, .baload, 1, 0, 0, 0), (19, .ifCond .eq 24, 3, 26, 0, 0), (22, .aload_n 0, 1, 0, 0, 0), (23, .iload_n 1, 1, 0, 0, 0), (24, .iload_n 2, 1, 0, 0, 0),
  (25, .invokevirtual 213, 3, 206, 0, 204), (28, .ifCond .eq 15, 3, 26, 0, 0), (31, .aload_n 0, 1, 0, 0, 0), (32, .getfield 25, 3, 10, 6, 164), (35, .iload_n 2, 1, 0, 0, 0), (36, .iaload, 1, 0, 0, 0), (37, .iload_n 1, 1, 0, 0, 0), (38, .if_icmp .eq 5, 3, 26, 0, 0),
  (41, .iconst 0, 1, 0, 0, 0), (42, .ireturn, 1, 0, 0, 0), (43, .iinc 2 1, 3, 0, 0, 0), (46, .goto (-44), 3, 2, 0, 0), (49, .aload_n 0, 1, 0, 0, 0), (50, .getfield 22, 3, 10, 5, 163), (53, .iload_n 1, 1, 0, 0, 0), (54, .iaload, 1, 0, 0, 0),
  (55, .iconst 3, 1, 0, 0, 0), (56, .if_icmp .ne 7, 3, 36, 0, 0), (59, .iconst 1, 1, 0, 0, 0), (60, .goto 4, 3, 37, 0, 0), (63, .iconst 0, 1, 0, 0, 0), (64, .ireturn, 1, 0, 0, 0)]
set_option maxRecDepth 100000 in
noncomputable def rw_224 : List PRow := [
  (0, .iconst 0, 1, 0, 0, 0), (1, .istore_n 1, 1, 0, 0, 0), (2, .iconst 0, 1, 0, 0, 0), (3, .istore_n 2, 1, 0, 0, 0), (4, .iload_n 2, 1, 0, 0, 0), (5, .bipush 7, 2, 0, 0, 0), (7, .if_icmp .ge 17, 3, 15, 0, 0), (10, .iload_n 1, 1, 0, 0, 0),
  (11, .aload_n 0, 1, 0, 0, 0), (12, .iload_n 2, 1, 0, 0, 0), (13, .invokevirtual 244, 3, 233, 0, 214), (16, .ior, 1, 0, 0, 0), (17, .istore_n 1, 1, 0, 0, 0), (18, .iinc 2 1, 3, 0, 0, 0), (21, .goto (-17), 3, 4, 0, 0), (24, .iload_n 1, 1, 0, 0, 0),
  (25, .ireturn, 1, 0, 0, 0)]
set_option maxRecDepth 100000 in
noncomputable def rw_225 : List PRow := [
  (0, .aload_n 0, 1, 0, 0, 0), (1, .invokevirtual 247, 3, 232, 0, 215), (4, .istore_n 1, 1, 0, 0, 0), (5, .iload_n 1, 1, 0, 0, 0), (6, .iconst (-1), 1, 0, 0, 0), (7, .if_icmp .eq 17, 3, 14, 0, 0), (10, .aload_n 0, 1, 0, 0, 0), (11, .getfield 31, 3, 10, 8, 166),
  (14, .iload_n 1, 1, 0, 0, 0), (15, .iaload, 1, 0, 0, 0), (16, .aload_n 0, 1, 0, 0, 0), (17, .iload_n 1, 1, 0, 0, 0), (18, .invokevirtual 122, 3, 197, 0, 177), (21, .if_icmp .ge 5, 3, 16, 0, 0), (24, .iconst 0, 1, 0, 0, 0), (25, .ireturn, 1, 0, 0, 0),
  (26, .iconst 0, 1, 0, 0, 0), (27, .istore_n 2, 1, 0, 0, 0), (28, .iload_n 2, 1, 0, 0, 0), (29, .bipush 7, 2, 0, 0, 0), (31, .if_icmp .ge 43, 3, 43, 0, 0), (34, .aload_n 0, 1, 0, 0, 0), (35, .getfield 9, 3, 10, 2, 160), (38, .iload_n 2, 1, 0, 0, 0),
  (39, .baload, 1, 0, 0, 0), (40, .ifCond .eq 28, 3, 41, 0, 0), (43, .aload_n 0, 1, 0, 0, 0), (44, .iload_n 1, 1, 0, 0, 0), (45, .iload_n 2, 1, 0, 0, 0), (46, .invokevirtual 213, 3, 206, 0, 204), (49, .ifCond .eq 19, 3, 41, 0, 0), (52, .aload_n 0, 1, 0, 0, 0),
  (53, .getfield 31, 3, 10, 8, 166), (56, .iload_n 2, 1, 0, 0, 0), (57, .iaload, 1, 0, 0, 0), (58, .aload_n 0, 1, 0, 0, 0), (59, .iload_n 1, 1, 0, 0, 0), (60, .invokevirtual 122, 3, 197, 0, 177), (63, .if_icmp .ge 5, 3, 41, 0, 0), (66, .iconst 0, 1, 0, 0, 0),
  (67, .ireturn, 1, 0, 0, 0), (68, .iinc 2 1, 3, 0, 0, 0), (71, .goto (-43), 3, 18, 0, 0), (74, .iconst 1, 1, 0, 0, 0), (75, .ireturn, 1, 0, 0, 0)]
set_option maxRecDepth 100000 in
noncomputable def rw_226 : List PRow := [
  (0, .aload_n 0, 1, 0, 0, 0), (1, .getfield 9, 3, 10, 2, 160), (4, .iload_n 1, 1, 0, 0, 0), (5, .baload, 1, 0, 0, 0), (6, .ifCond .eq 26, 3, 18, 0, 0), (9, .aload_n 0, 1, 0, 0, 0), (10, .getfield 22, 3, 10, 5, 163), (13, .iload_n 1, 1, 0, 0, 0),
  (14, .iaload, 1, 0, 0, 0), (15, .iconst 3, 1, 0, 0, 0), (16, .if_icmp .eq 16, 3, 18, 0, 0), (19, .aload_n 0, 1, 0, 0, 0), (20, .iload_n 1, 1, 0, 0, 0), (21, .iload_n 1, 1, 0, 0, 0), (22, .invokevirtual 213, 3, 206, 0, 204), (25, .ifCond .eq 7, 3, 18, 0, 0),
  (28, .iconst 1, 1, 0, 0, 0), (29, .goto 4, 3, 19, 0, 0), (32, .iconst 0, 1, 0, 0, 0), (33, .ireturn, 1, 0, 0, 0)]
set_option maxRecDepth 100000 in
noncomputable def rw_227 : List PRow := [
  (0, .aload_n 0, 1, 0, 0, 0), (1, .iload_n 1, 1, 0, 0, 0), (2, .invokevirtual 122, 3, 197, 0, 177), (5, .aload_n 0, 1, 0, 0, 0), (6, .iload_n 2, 1, 0, 0, 0), (7, .invokevirtual 122, 3, 197, 0, 177), (10, .invokestatic 156, 3, 3, 0, 187), (13, .istore_n 3, 1, 0, 0, 0),
  (14, .iload_n 3, 1, 0, 0, 0), (15, .aload_n 0, 1, 0, 0, 0), (16, .getfield 46, 3, 10, 13, 171), (19, .iload_n 1, 1, 0, 0, 0), (20, .iaload, 1, 0, 0, 0), (21, .aload_n 0, 1, 0, 0, 0), (22, .getfield 46, 3, 10, 13, 171), (25, .iload_n 2, 1, 0, 0, 0),
  (26, .iaload, 1, 0, 0, 0), (27, .invokestatic 225, 3, 2, 0, 208), (30, .invokestatic 156, 3, 3, 0, 187), (33, .istore 4, 2, 0, 0, 0), (35, .iload 4, 2, 0, 0, 0), (37, .iload_n 3, 1, 0, 0, 0), (38, .if_icmp .ge 32, 3, 40, 0, 0), (41, .aload_n 0, 1, 0, 0, 0),
  (42, .iload_n 1, 1, 0, 0, 0), (43, .iload 4, 2, 0, 0, 0), (45, .iconst 1, 1, 0, 0, 0), (46, .iadd, 1, 0, 0, 0), (47, .iconst 0, 1, 0, 0, 0), (48, .invokevirtual 130, 3, 200, 0, 179), (51, .aload_n 0, 1, 0, 0, 0), (52, .iload_n 2, 1, 0, 0, 0),
  (53, .iload 4, 2, 0, 0, 0), (55, .iconst 1, 1, 0, 0, 0), (56, .iadd, 1, 0, 0, 0), (57, .iconst 0, 1, 0, 0, 0), (58, .invokevirtual 130, 3, 200, 0, 179), (61, .if_icmp .ne 9, 3, 40, 0, 0), (64, .iinc 4 1, 3, 0, 0, 0), (67, .goto (-32), 3, 20, 0, 0),
  (70, .iload 4, 2, 0, 0, 0), (72, .ireturn, 1, 0, 0, 0)]
set_option maxRecDepth 100000 in
noncomputable def rw_228 : List PRow := [
  (0, .aload_n 0, 1, 0, 0, 0), (1, .iload_n 1, 1, 0, 0, 0), (2, .invokevirtual 143, 3, 205, 0, 183), (5, .istore_n 3, 1, 0, 0, 0), (6, .iconst 0, 1, 0, 0, 0), (7, .istore 4, 2, 0, 0, 0), (9, .iconst 0, 1, 0, 0, 0), (10, .istore 5, 2, 0, 0, 0),
  (12, .iload 5, 2, 0, 0, 0), (14, .bipush 7, 2, 0, 0, 0), (16, .if_icmp .ge 70, 3, 48, 0, 0), (19, .iload_n 3, 1, 0, 0, 0), (20, .iload 5, 2, 0, 0, 0), (22, .ishr, 1, 0, 0, 0), (23, .iconst 1, 1, 0, 0, 0), (24, .iand, 1, 0, 0, 0),
  (25, .ifCond .ne 6, 3, 18, 0, 0), (28, .goto 52, 3, 46, 0, 0), (31, .iload 4, 2, 0, 0, 0), (33, .aload_n 0, 1, 0, 0, 0), (34, .getfield 46, 3, 10, 13, 171), (37, .iload 5, 2, 0, 0, 0), (39, .iaload, 1, 0, 0, 0), (40, .iload_n 2, 1, 0, 0, 0),
  (41, .if_icmp .ge 31, 3, 41, 0, 0), (44, .aload_n 0, 1, 0, 0, 0), (45, .iload 5, 2, 0, 0, 0), (47, .iload_n 2, 1, 0, 0, 0), (48, .invokevirtual 219, 3, 198, 0, 206), (51, .ifCond .eq 25, 3, 43, 0, 0), (54, .aload_n 0, 1, 0, 0, 0), (55, .iload 5, 2, 0, 0, 0),
  (57, .iload_n 2, 1, 0, 0, 0), (58, .iconst 0, 1, 0, 0, 0), (59, .invokevirtual 130, 3, 200, 0, 179), (62, .aload_n 0, 1, 0, 0, 0), (63, .iload_n 1, 1, 0, 0, 0), (64, .iload_n 2, 1, 0, 0, 0), (65, .iconst 0, 1, 0, 0, 0), (66, .invokevirtual 130, 3, 200, 0, 179),
  (69, .if_icmp .ne 7, 3, 43, 0, 0), (72, .iconst 1, 1, 0, 0, 0), (73, .goto 4, 3, 44, 0, 0), (76, .iconst 0, 1, 0, 0, 0), (77, .iadd, 1, 0, 0, 0), (78, .istore 4, 2, 0, 0, 0), (80, .iinc 5 1, 3, 0, 0, 0), (83, .goto (-71), 3, 8, 0, 0),
  (86, .iload 4, 2, 0, 0, 0), (88, .ireturn, 1, 0, 0, 0)]
set_option maxRecDepth 100000 in
noncomputable def rw_229 : List PRow := [
  (0, .iconst 0, 1, 0, 0, 0), (1, .istore_n 2, 1, 0, 0, 0), (2, .iconst 0, 1, 0, 0, 0), (3, .istore_n 3, 1, 0, 0, 0), (4, .iload_n 3, 1, 0, 0, 0), (5, .bipush 7, 2, 0, 0, 0), (7, .if_icmp .ge 33, 3, 25, 0, 0), (10, .aload_n 0, 1, 0, 0, 0),
  (11, .aload_n 0, 1, 0, 0, 0), (12, .iload_n 1, 1, 0, 0, 0), (13, .invokevirtual 149, 3, 202, 0, 185), (16, .aload_n 0, 1, 0, 0, 0), (17, .iload_n 1, 1, 0, 0, 0), (18, .invokevirtual 122, 3, 197, 0, 177), (21, .iload_n 3, 1, 0, 0, 0), (22, .invokevirtual 200, 3, 209, 0, 200),
  (25, .ifCond .eq 9, 3, 23, 0, 0), (28, .iload_n 2, 1, 0, 0, 0), (29, .iconst 1, 1, 0, 0, 0), (30, .iload_n 3, 1, 0, 0, 0), (31, .ishl, 1, 0, 0, 0), (32, .ior, 1, 0, 0, 0), (33, .istore_n 2, 1, 0, 0, 0), (34, .iinc 3 1, 3, 0, 0, 0),
  (37, .goto (-33), 3, 4, 0, 0), (40, .aload_n 0, 1, 0, 0, 0), (41, .iload_n 1, 1, 0, 0, 0), (42, .iload_n 2, 1, 0, 0, 0), (43, .invokevirtual 164, 3, 208, 0, 189), (46, .ireturn, 1, 0, 0, 0)]
set_option maxRecDepth 100000 in
noncomputable def rw_230 : List PRow := [
  (0, .iconst 0, 1, 0, 0, 0), (1, .istore_n 1, 1, 0, 0, 0), (2, .iconst 0, 1, 0, 0, 0), (3, .istore_n 2, 1, 0, 0, 0), (4, .iload_n 2, 1, 0, 0, 0), (5, .bipush 7, 2, 0, 0, 0), (7, .if_icmp .ge 20, 3, 16, 0, 0), (10, .iload_n 1, 1, 0, 0, 0),
  (11, .aload_n 0, 1, 0, 0, 0), (12, .getfield 31, 3, 10, 8, 166), (15, .iload_n 2, 1, 0, 0, 0), (16, .iaload, 1, 0, 0, 0), (17, .invokestatic 225, 3, 2, 0, 208), (20, .istore_n 1, 1, 0, 0, 0), (21, .iinc 2 1, 3, 0, 0, 0), (24, .goto (-20), 3, 4, 0, 0),
  (27, .iload_n 1, 1, 0, 0, 0), (28, .ireturn, 1, 0, 0, 0)]
set_option maxRecDepth 100000 in
noncomputable def rw_231 : List PRow := [
  (0, .aload_n 0, 1, 0, 0, 0), (1, .invokespecial 3, 3, 0, 1, 216), (4, .aload_n 0, 1, 0, 0, 0), (5, .new 9, 3, 10, 0, 18), (8, .dup, 1, 0, 0, 0), (9, .invokespecial 11, 3, 189, 1, 217), (12, .putfield 12, 3, 11, 0, 188), (15, .aload_n 0, 1, 0, 0, 0),
  (16, .new 9, 3, 10, 0, 18), (19, .dup, 1, 0, 0, 0), (20, .invokespecial 11, 3, 189, 1, 217), (23, .putfield 16, 3, 11, 1, 189), (26, .aload_n 0, 1, 0, 0, 0), (27, .getfield 12, 3, 11, 0, 188), (30, .iconst 3, 1, 0, 0, 0), (31, .invokevirtual 19, 3, 192, 0, 218),
  (34, .return_, 1, 0, 0, 0)]
set_option maxRecDepth 100000 in
noncomputable def rw_232 : List PRow := [
  (0, .aload_n 0, 1, 0, 0, 0), (1, .getfield 23, 3, 11, 2, 190), (4, .ireturn, 1, 0, 0, 0)]
set_option maxRecDepth 100000 in
noncomputable def rw_233 : List PRow := [
  (0, .aload_n 0, 1, 0, 0, 0), (1, .iload_n 1, 1, 0, 0, 0), (2, .putfield 23, 3, 11, 2, 190), (5, .iconst 0, 1, 0, 0, 0), (6, .ireturn, 1, 0, 0, 0)]
set_option maxRecDepth 100000 in
noncomputable def rw_234 : List PRow := [
  (0, .iload_n 0, 1, 0, 0, 0), (1, .ifCond .lt 13, 3, 7, 0, 0), (4, .iload_n 0, 1, 0, 0, 0), (5, .bipush 7, 2, 0, 0, 0), (7, .if_icmp .ge 7, 3, 7, 0, 0), (10, .iconst 1, 1, 0, 0, 0), (11, .goto 4, 3, 8, 0, 0), (14, .iconst 0, 1, 0, 0, 0),
  (15, .ireturn, 1, 0, 0, 0)]
set_option maxRecDepth 100000 in
noncomputable def rw_235 : List PRow := [
  (0, .iload_n 0, 1, 0, 0, 0), (1, .ifCond .lt 12, 3, 7, 0, 0), (4, .iload_n 0, 1, 0, 0, 0), (5, .iconst 4, 1, 0, 0, 0), (6, .if_icmp .ge 7, 3, 7, 0, 0), (9, .iconst 1, 1, 0, 0, 0), (10, .goto 4, 3, 8, 0, 0), (13, .iconst 0, 1, 0, 0, 0),
  (14, .ireturn, 1, 0, 0, 0)]
set_option maxRecDepth 100000 in
noncomputable def rw_236 : List PRow := [
  (0, .iload_n 0, 1, 0, 0, 0), (1, .ifCond .lt 13, 3, 7, 0, 0), (4, .iload_n 0, 1, 0, 0, 0), (5, .bipush 8, 2, 0, 0, 0), (7, .if_icmp .ge 7, 3, 7, 0, 0), (10, .iconst 1, 1, 0, 0, 0), (11, .goto 4, 3, 8, 0, 0), (14, .iconst 0, 1, 0, 0, 0),
  (15, .ireturn, 1, 0, 0, 0)]
set_option maxRecDepth 100000 in
noncomputable def rw_237 : List PRow := [
  (0, .iload_n 0, 1, 0, 0, 0), (1, .sipush (-9999), 3, 0, 0, 0), (4, .if_icmp .lt 14, 3, 8, 0, 0), (7, .iload_n 0, 1, 0, 0, 0), (8, .sipush 9999, 3, 0, 0, 0), (11, .if_icmp .gt 7, 3, 8, 0, 0), (14, .iconst 1, 1, 0, 0, 0), (15, .goto 4, 3, 9, 0, 0),
  (18, .iconst 0, 1, 0, 0, 0), (19, .ireturn, 1, 0, 0, 0)]
set_option maxRecDepth 100000 in
noncomputable def rw_238 : List PRow := [
  (0, .iload_n 1, 1, 0, 0, 0), (1, .ifCond .lt 18, 3, 9, 0, 0), (4, .iload_n 1, 1, 0, 0, 0), (5, .aload_n 0, 1, 0, 0, 0), (6, .getfield 12, 3, 11, 0, 188), (9, .getfield 27, 3, 10, 22, 191), (12, .if_icmp .ge 7, 3, 9, 0, 0), (15, .iconst 1, 1, 0, 0, 0),
  (16, .goto 4, 3, 10, 0, 0), (19, .iconst 0, 1, 0, 0, 0), (20, .ireturn, 1, 0, 0, 0)]
set_option maxRecDepth 100000 in
noncomputable def rw_239 : List PRow := [
  (0, .iconst 0, 1, 0, 0, 0), (1, .istore_n 1, 1, 0, 0, 0), (2, .aload_n 0, 1, 0, 0, 0), (3, .getfield 12, 3, 11, 0, 188), (6, .getfield 30, 3, 10, 2, 192), (9, .astore_n 2, 1, 0, 0, 0), (10, .aload_n 2, 1, 0, 0, 0), (11, .arraylength, 1, 0, 0, 0),
  (12, .istore_n 3, 1, 0, 0, 0), (13, .iconst 0, 1, 0, 0, 0), (14, .istore 4, 2, 0, 0, 0), (16, .iload 4, 2, 0, 0, 0), (18, .iload_n 3, 1, 0, 0, 0), (19, .if_icmp .ge 28, 3, 28, 0, 0), (22, .aload_n 2, 1, 0, 0, 0), (23, .iload 4, 2, 0, 0, 0),
  (25, .baload, 1, 0, 0, 0), (26, .istore 5, 2, 0, 0, 0), (28, .iload_n 1, 1, 0, 0, 0), (29, .iload 5, 2, 0, 0, 0), (31, .ifCond .eq 7, 3, 23, 0, 0), (34, .iconst 1, 1, 0, 0, 0), (35, .goto 4, 3, 24, 0, 0), (38, .iconst 0, 1, 0, 0, 0),
  (39, .iadd, 1, 0, 0, 0), (40, .istore_n 1, 1, 0, 0, 0), (41, .iinc 4 1, 3, 0, 0, 0), (44, .goto (-28), 3, 11, 0, 0), (47, .iload_n 1, 1, 0, 0, 0), (48, .ireturn, 1, 0, 0, 0)]
set_option maxRecDepth 100000 in
noncomputable def rw_240 : List PRow := [
  (0, .iconst 0, 1, 0, 0, 0), (1, .istore_n 1, 1, 0, 0, 0), (2, .aload_n 0, 1, 0, 0, 0), (3, .getfield 12, 3, 11, 0, 188), (6, .getfield 34, 3, 10, 12, 193), (9, .astore_n 2, 1, 0, 0, 0), (10, .aload_n 2, 1, 0, 0, 0), (11, .arraylength, 1, 0, 0, 0),
  (12, .istore_n 3, 1, 0, 0, 0), (13, .iconst 0, 1, 0, 0, 0), (14, .istore 4, 2, 0, 0, 0), (16, .iload 4, 2, 0, 0, 0), (18, .iload_n 3, 1, 0, 0, 0), (19, .if_icmp .ge 23, 3, 25, 0, 0), (22, .aload_n 2, 1, 0, 0, 0), (23, .iload 4, 2, 0, 0, 0),
  (25, .iaload, 1, 0, 0, 0), (26, .istore 5, 2, 0, 0, 0), (28, .iload_n 1, 1, 0, 0, 0), (29, .iload 5, 2, 0, 0, 0), (31, .invokestatic 38, 3, 207, 0, 219), (34, .iadd, 1, 0, 0, 0), (35, .istore_n 1, 1, 0, 0, 0), (36, .iinc 4 1, 3, 0, 0, 0),
  (39, .goto (-23), 3, 11, 0, 0), (42, .iload_n 1, 1, 0, 0, 0), (43, .iconst 2, 1, 0, 0, 0), (44, .idiv, 1, 0, 0, 0), (45, .ireturn, 1, 0, 0, 0)]
set_option maxRecDepth 100000 in
noncomputable def rw_241 : List PRow := [
  (0, .aload_n 0, 1, 0, 0, 0), (1, .getfield 12, 3, 11, 0, 188), (4, .getfield 42, 3, 10, 5, 194), (7, .iload_n 1, 1, 0, 0, 0), (8, .iaload, 1, 0, 0, 0), (9, .iconst 3, 1, 0, 0, 0), (10, .if_icmp .ne 7, 3, 9, 0, 0), (13, .iconst 1, 1, 0, 0, 0),
  (14, .goto 4, 3, 10, 0, 0), (17, .iconst 0, 1, 0, 0, 0), (18, .ireturn, 1, 0, 0, 0)]
set_option maxRecDepth 100000 in
noncomputable def rw_242 : List PRow := [
  (0, .aload_n 0, 1, 0, 0, 0), (1, .iconst 0, 1, 0, 0, 0), (2, .putfield 23, 3, 11, 2, 190), (5, .iload_n 1, 1, 0, 0, 0), (6, .iconst 1, 1, 0, 0, 0), (7, .if_icmp .lt 9, 3, 9, 0, 0), (10, .iload_n 1, 1, 0, 0, 0), (11, .bipush 7, 2, 0, 0, 0),
  (13, .if_icmp .le 9, 3, 13, 0, 0), (16, .aload_n 0, 1, 0, 0, 0), (17, .iconst 1, 1, 0, 0, 0), (18, .invokevirtual 45, 3, 243, 0, 220), (21, .ireturn, 1, 0, 0, 0), (22, .aload_n 0, 1, 0, 0, 0), (23, .getfield 12, 3, 11, 0, 188), (26, .iload_n 1, 1, 0, 0, 0),
  (27, .invokevirtual 19, 3, 192, 0, 218), (30, .iload_n 1, 1, 0, 0, 0), (31, .iconst 2, 1, 0, 0, 0), (32, .idiv, 1, 0, 0, 0), (33, .iconst 1, 1, 0, 0, 0), (34, .iadd, 1, 0, 0, 0), (35, .ireturn, 1, 0, 0, 0)]
set_option maxRecDepth 100000 in
noncomputable def rw_243 : List PRow := [
  (0, .aload_n 0, 1, 0, 0, 0), (1, .iconst 0, 1, 0, 0, 0), (2, .putfield 23, 3, 11, 2, 190), (5, .iload_n 1, 1, 0, 0, 0), (6, .invokestatic 48, 3, 244, 0, 221), (9, .ifCond .ne 9, 3, 10, 0, 0), (12, .aload_n 0, 1, 0, 0, 0), (13, .iconst 1, 1, 0, 0, 0),
  (14, .invokevirtual 45, 3, 243, 0, 220), (17, .ireturn, 1, 0, 0, 0), (18, .aload_n 0, 1, 0, 0, 0), (19, .getfield 12, 3, 11, 0, 188), (22, .getfield 30, 3, 10, 2, 192), (25, .iload_n 1, 1, 0, 0, 0), (26, .baload, 1, 0, 0, 0), (27, .ifCond .ne 9, 3, 20, 0, 0),
  (30, .aload_n 0, 1, 0, 0, 0), (31, .iconst 2, 1, 0, 0, 0), (32, .invokevirtual 45, 3, 243, 0, 220), (35, .ireturn, 1, 0, 0, 0), (36, .aload_n 0, 1, 0, 0, 0), (37, .getfield 12, 3, 11, 0, 188), (40, .getfield 30, 3, 10, 2, 192), (43, .iload_n 1, 1, 0, 0, 0),
  (44, .iconst 0, 1, 0, 0, 0), (45, .bastore, 1, 0, 0, 0), (46, .aload_n 0, 1, 0, 0, 0), (47, .getfield 12, 3, 11, 0, 188), (50, .iload_n 1, 1, 0, 0, 0), (51, .invokevirtual 52, 3, 193, 0, 222), (54, .aload_n 0, 1, 0, 0, 0), (55, .invokevirtual 55, 3, 249, 0, 223),
  (58, .ireturn, 1, 0, 0, 0)]
set_option maxRecDepth 100000 in
noncomputable def rw_244 : List PRow := [
  (0, .aload_n 0, 1, 0, 0, 0), (1, .iconst 0, 1, 0, 0, 0), (2, .putfield 23, 3, 11, 2, 190), (5, .iload_n 1, 1, 0, 0, 0), (6, .invokestatic 48, 3, 244, 0, 221), (9, .ifCond .ne 9, 3, 10, 0, 0), (12, .aload_n 0, 1, 0, 0, 0), (13, .iconst 1, 1, 0, 0, 0),
  (14, .invokevirtual 45, 3, 243, 0, 220), (17, .ireturn, 1, 0, 0, 0), (18, .aload_n 0, 1, 0, 0, 0), (19, .getfield 12, 3, 11, 0, 188), (22, .getfield 30, 3, 10, 2, 192), (25, .iload_n 1, 1, 0, 0, 0), (26, .baload, 1, 0, 0, 0), (27, .ifCond .eq 9, 3, 20, 0, 0),
  (30, .aload_n 0, 1, 0, 0, 0), (31, .iconst 2, 1, 0, 0, 0), (32, .invokevirtual 45, 3, 243, 0, 220), (35, .ireturn, 1, 0, 0, 0), (36, .aload_n 0, 1, 0, 0, 0), (37, .getfield 12, 3, 11, 0, 188), (40, .getfield 30, 3, 10, 2, 192), (43, .iload_n 1, 1, 0, 0, 0),
  (44, .iconst 1, 1, 0, 0, 0), (45, .bastore, 1, 0, 0, 0), (46, .aload_n 0, 1, 0, 0, 0), (47, .invokevirtual 55, 3, 249, 0, 223), (50, .ireturn, 1, 0, 0, 0)]
set_option maxRecDepth 100000 in
noncomputable def rw_245 : List PRow := [
  (0, .aload_n 0, 1, 0, 0, 0), (1, .iconst 0, 1, 0, 0, 0), (2, .putfield 23, 3, 11, 2, 190), (5, .iload_n 1, 1, 0, 0, 0), (6, .invokestatic 48, 3, 244, 0, 221), (9, .ifCond .eq 10, 3, 9, 0, 0), (12, .iload_n 2, 1, 0, 0, 0), (13, .invokestatic 48, 3, 244, 0, 221),
  (16, .ifCond .ne 9, 3, 13, 0, 0), (19, .aload_n 0, 1, 0, 0, 0), (20, .iconst 1, 1, 0, 0, 0), (21, .invokevirtual 45, 3, 243, 0, 220), (24, .ireturn, 1, 0, 0, 0), (25, .iload_n 1, 1, 0, 0, 0), (26, .iload_n 2, 1, 0, 0, 0), (27, .if_icmp .ne 9, 3, 20, 0, 0),
  (30, .aload_n 0, 1, 0, 0, 0), (31, .iconst 2, 1, 0, 0, 0), (32, .invokevirtual 45, 3, 243, 0, 220), (35, .ireturn, 1, 0, 0, 0), (36, .aload_n 0, 1, 0, 0, 0), (37, .getfield 12, 3, 11, 0, 188), (40, .getfield 34, 3, 10, 12, 193), (43, .iload_n 1, 1, 0, 0, 0),
  (44, .iaload, 1, 0, 0, 0), (45, .iload_n 2, 1, 0, 0, 0), (46, .ishr, 1, 0, 0, 0), (47, .iconst 1, 1, 0, 0, 0), (48, .iand, 1, 0, 0, 0), (49, .iload_n 3, 1, 0, 0, 0), (50, .if_icmp .ne 9, 3, 35, 0, 0), (53, .aload_n 0, 1, 0, 0, 0),
  (54, .iconst 3, 1, 0, 0, 0), (55, .invokevirtual 45, 3, 243, 0, 220), (58, .ireturn, 1, 0, 0, 0), (59, .aload_n 0, 1, 0, 0, 0), (60, .getfield 12, 3, 11, 0, 188), (63, .getfield 34, 3, 10, 12, 193), (66, .iload_n 1, 1, 0, 0, 0), (67, .dup2, 1, 0, 0, 0),
  (68, .iaload, 1, 0, 0, 0), (69, .iconst 1, 1, 0, 0, 0), (70, .iload_n 2, 1, 0, 0, 0), (71, .ishl, 1, 0, 0, 0), (72, .ixor, 1, 0, 0, 0), (73, .iastore, 1, 0, 0, 0), (74, .aload_n 0, 1, 0, 0, 0), (75, .getfield 12, 3, 11, 0, 188),
  (78, .getfield 34, 3, 10, 12, 193), (81, .iload_n 2, 1, 0, 0, 0), (82, .dup2, 1, 0, 0, 0), (83, .iaload, 1, 0, 0, 0), (84, .iconst 1, 1, 0, 0, 0), (85, .iload_n 1, 1, 0, 0, 0), (86, .ishl, 1, 0, 0, 0), (87, .ixor, 1, 0, 0, 0),
  (88, .iastore, 1, 0, 0, 0), (89, .aload_n 0, 1, 0, 0, 0), (90, .invokevirtual 59, 3, 250, 0, 224), (93, .ireturn, 1, 0, 0, 0)]
set_option maxRecDepth 100000 in
noncomputable def rw_246 : List PRow := [
  (0, .aload_n 0, 1, 0, 0, 0), (1, .iload_n 1, 1, 0, 0, 0), (2, .iload_n 2, 1, 0, 0, 0), (3, .iconst 1, 1, 0, 0, 0), (4, .invokevirtual 62, 3, 255, 0, 225), (7, .ireturn, 1, 0, 0, 0)]
set_option maxRecDepth 100000 in
noncomputable def rw_247 : List PRow := [
  (0, .aload_n 0, 1, 0, 0, 0), (1, .iload_n 1, 1, 0, 0, 0), (2, .iload_n 2, 1, 0, 0, 0), (3, .iconst 0, 1, 0, 0, 0), (4, .invokevirtual 62, 3, 255, 0, 225), (7, .ireturn, 1, 0, 0, 0)]
set_option maxRecDepth 100000 in
noncomputable def rw_248 : List PRow := [
  (0, .aload_n 0, 1, 0, 0, 0), (1, .iconst 0, 1, 0, 0, 0), (2, .putfield 23, 3, 11, 2, 190), (5, .iload_n 1, 1, 0, 0, 0), (6, .iconst 1, 1, 0, 0, 0), (7, .if_icmp .lt 9, 3, 9, 0, 0), (10, .iload_n 1, 1, 0, 0, 0), (11, .bipush 30, 2, 0, 0, 0),
  (13, .if_icmp .le 9, 3, 13, 0, 0), (16, .aload_n 0, 1, 0, 0, 0), (17, .iconst 1, 1, 0, 0, 0), (18, .invokevirtual 45, 3, 243, 0, 220), (21, .ireturn, 1, 0, 0, 0), (22, .aload_n 0, 1, 0, 0, 0), (23, .getfield 12, 3, 11, 0, 188), (26, .getfield 66, 3, 10, 1, 195),
  (29, .istore_n 2, 1, 0, 0, 0), (30, .iconst 0, 1, 0, 0, 0), (31, .istore_n 3, 1, 0, 0, 0), (32, .iload_n 3, 1, 0, 0, 0), (33, .iload_n 1, 1, 0, 0, 0), (34, .if_icmp .ge 16, 3, 27, 0, 0), (37, .aload_n 0, 1, 0, 0, 0), (38, .getfield 12, 3, 11, 0, 188),
  (41, .invokevirtual 69, 3, 230, 0, 226), (44, .iinc 3 1, 3, 0, 0, 0), (47, .goto (-15), 3, 19, 0, 0), (50, .aload_n 0, 1, 0, 0, 0), (51, .getfield 12, 3, 11, 0, 188), (54, .getfield 66, 3, 10, 1, 195), (57, .iload_n 2, 1, 0, 0, 0), (58, .isub, 1, 0, 0, 0),
  (59, .ireturn, 1, 0, 0, 0)]
set_option maxRecDepth 100000 in
noncomputable def rw_249 : List PRow := [
  (0, .aload_n 0, 1, 0, 0, 0), (1, .iconst 0, 1, 0, 0, 0), (2, .putfield 23, 3, 11, 2, 190), (5, .iload_n 1, 1, 0, 0, 0), (6, .invokestatic 48, 3, 244, 0, 221), (9, .ifCond .ne 9, 3, 10, 0, 0), (12, .aload_n 0, 1, 0, 0, 0), (13, .iconst 1, 1, 0, 0, 0),
  (14, .invokevirtual 45, 3, 243, 0, 220), (17, .ireturn, 1, 0, 0, 0), (18, .aload_n 0, 1, 0, 0, 0), (19, .getfield 12, 3, 11, 0, 188), (22, .iload_n 1, 1, 0, 0, 0), (23, .invokevirtual 72, 3, 236, 0, 227), (26, .ifCond .ne 9, 3, 19, 0, 0), (29, .aload_n 0, 1, 0, 0, 0),
  (30, .iconst 2, 1, 0, 0, 0), (31, .invokevirtual 45, 3, 243, 0, 220), (34, .ireturn, 1, 0, 0, 0), (35, .aload_n 0, 1, 0, 0, 0), (36, .getfield 12, 3, 11, 0, 188), (39, .iload_n 1, 1, 0, 0, 0), (40, .invokevirtual 75, 3, 214, 0, 228), (43, .aload_n 0, 1, 0, 0, 0),
  (44, .getfield 12, 3, 11, 0, 188), (47, .getfield 42, 3, 10, 5, 194), (50, .iload_n 1, 1, 0, 0, 0), (51, .iaload, 1, 0, 0, 0), (52, .ireturn, 1, 0, 0, 0)]
set_option maxRecDepth 100000 in
noncomputable def rw_250 : List PRow := [
  (0, .aload_n 0, 1, 0, 0, 0), (1, .iconst 0, 1, 0, 0, 0), (2, .putfield 23, 3, 11, 2, 190), (5, .iload_n 1, 1, 0, 0, 0), (6, .invokestatic 48, 3, 244, 0, 221), (9, .ifCond .ne 9, 3, 10, 0, 0), (12, .aload_n 0, 1, 0, 0, 0), (13, .iconst 1, 1, 0, 0, 0),
  (14, .invokevirtual 45, 3, 243, 0, 220), (17, .ireturn, 1, 0, 0, 0), (18, .aload_n 0, 1, 0, 0, 0), (19, .iload_n 1, 1, 0, 0, 0), (20, .invokevirtual 78, 3, 251, 0, 229), (23, .ifCond .eq 14, 3, 19, 0, 0), (26, .aload_n 0, 1, 0, 0, 0), (27, .getfield 12, 3, 11, 0, 188),
  (30, .iload_n 1, 1, 0, 0, 0), (31, .invokevirtual 81, 3, 212, 0, 230), (34, .goto 8, 3, 22, 0, 0), (37, .aload_n 0, 1, 0, 0, 0), (38, .iconst 2, 1, 0, 0, 0), (39, .invokevirtual 45, 3, 243, 0, 220), (42, .ireturn, 1, 0, 0, 0)]
set_option maxRecDepth 100000 in
noncomputable def rw_251 : List PRow := [
  (0, .aload_n 0, 1, 0, 0, 0), (1, .iconst 0, 1, 0, 0, 0), (2, .putfield 23, 3, 11, 2, 190), (5, .iload_n 1, 1, 0, 0, 0), (6, .invokestatic 48, 3, 244, 0, 221), (9, .ifCond .ne 9, 3, 10, 0, 0), (12, .aload_n 0, 1, 0, 0, 0), (13, .iconst 1, 1, 0, 0, 0),
  (14, .invokevirtual 45, 3, 243, 0, 220), (17, .ireturn, 1, 0, 0, 0), (18, .aload_n 0, 1, 0, 0, 0), (19, .getfield 12, 3, 11, 0, 188), (22, .getfield 84, 3, 10, 9, 196), (25, .iload_n 1, 1, 0, 0, 0), (26, .iaload, 1, 0, 0, 0), (27, .istore_n 2, 1, 0, 0, 0),
  (28, .aload_n 0, 1, 0, 0, 0), (29, .getfield 12, 3, 11, 0, 188), (32, .getfield 30, 3, 10, 2, 192), (35, .iload_n 1, 1, 0, 0, 0), (36, .baload, 1, 0, 0, 0), (37, .ifCond .eq 16, 3, 29, 0, 0), (40, .iload_n 2, 1, 0, 0, 0), (41, .aload_n 0, 1, 0, 0, 0),
  (42, .getfield 12, 3, 11, 0, 188), (45, .getfield 87, 3, 10, 13, 197), (48, .iload_n 1, 1, 0, 0, 0), (49, .iaload, 1, 0, 0, 0), (50, .if_icmp .gt 9, 3, 33, 0, 0), (53, .aload_n 0, 1, 0, 0, 0), (54, .iconst 2, 1, 0, 0, 0), (55, .invokevirtual 45, 3, 243, 0, 220),
  (58, .ireturn, 1, 0, 0, 0), (59, .iload_n 2, 1, 0, 0, 0), (60, .aload_n 0, 1, 0, 0, 0), (61, .getfield 12, 3, 11, 0, 188), (64, .getfield 87, 3, 10, 13, 197), (67, .iload_n 1, 1, 0, 0, 0), (68, .iaload, 1, 0, 0, 0), (69, .isub, 1, 0, 0, 0),
  (70, .istore_n 3, 1, 0, 0, 0), (71, .aload_n 0, 1, 0, 0, 0), (72, .getfield 12, 3, 11, 0, 188), (75, .iload_n 1, 1, 0, 0, 0), (76, .iload_n 2, 1, 0, 0, 0), (77, .invokevirtual 90, 3, 201, 0, 231), (80, .istore 4, 2, 0, 0, 0), (82, .aload_n 0, 1, 0, 0, 0),
  (83, .getfield 12, 3, 11, 0, 188), (86, .iload_n 1, 1, 0, 0, 0), (87, .iload_n 2, 1, 0, 0, 0), (88, .invokevirtual 94, 3, 204, 0, 232), (91, .istore 5, 2, 0, 0, 0), (93, .aload_n 0, 1, 0, 0, 0), (94, .getfield 12, 3, 11, 0, 188), (97, .iload_n 1, 1, 0, 0, 0),
  (98, .aload_n 0, 1, 0, 0, 0), (99, .getfield 12, 3, 11, 0, 188), (102, .getfield 97, 3, 10, 18, 198), (105, .iload_n 1, 1, 0, 0, 0), (106, .iaload, 1, 0, 0, 0), (107, .iload_n 3, 1, 0, 0, 0), (108, .isub, 1, 0, 0, 0), (109, .invokevirtual 100, 3, 228, 0, 233),
  (112, .aload_n 0, 1, 0, 0, 0), (113, .getfield 12, 3, 11, 0, 188), (116, .getfield 87, 3, 10, 13, 197), (119, .iload_n 1, 1, 0, 0, 0), (120, .iload_n 2, 1, 0, 0, 0), (121, .iastore, 1, 0, 0, 0), (122, .aload_n 0, 1, 0, 0, 0), (123, .getfield 12, 3, 11, 0, 188),
  (126, .getfield 104, 3, 10, 14, 199), (129, .iload_n 1, 1, 0, 0, 0), (130, .iload 4, 2, 0, 0, 0), (132, .iastore, 1, 0, 0, 0), (133, .aload_n 0, 1, 0, 0, 0), (134, .getfield 12, 3, 11, 0, 188), (137, .getfield 107, 3, 10, 15, 200), (140, .iload_n 1, 1, 0, 0, 0),
  (141, .iload 5, 2, 0, 0, 0), (143, .iastore, 1, 0, 0, 0), (144, .aload_n 0, 1, 0, 0, 0), (145, .getfield 12, 3, 11, 0, 188), (148, .getfield 110, 3, 10, 17, 201), (151, .iload_n 1, 1, 0, 0, 0), (152, .aaload, 1, 0, 0, 0), (153, .aload_n 0, 1, 0, 0, 0),
  (154, .getfield 12, 3, 11, 0, 188), (157, .getfield 114, 3, 10, 16, 202), (160, .iload_n 1, 1, 0, 0, 0), (161, .aaload, 1, 0, 0, 0), (162, .invokestatic 117, 3, 190, 1, 234), (165, .iload_n 3, 1, 0, 0, 0), (166, .ireturn, 1, 0, 0, 0)]
set_option maxRecDepth 100000 in
noncomputable def rw_252 : List PRow := [
  (0, .aload_n 0, 1, 0, 0, 0), (1, .iconst 0, 1, 0, 0, 0), (2, .putfield 23, 3, 11, 2, 190), (5, .iload_n 1, 1, 0, 0, 0), (6, .invokestatic 48, 3, 244, 0, 221), (9, .ifCond .eq 10, 3, 9, 0, 0), (12, .iload_n 2, 1, 0, 0, 0), (13, .invokestatic 48, 3, 244, 0, 221),
  (16, .ifCond .ne 9, 3, 13, 0, 0), (19, .aload_n 0, 1, 0, 0, 0), (20, .iconst 1, 1, 0, 0, 0), (21, .invokevirtual 45, 3, 243, 0, 220), (24, .ireturn, 1, 0, 0, 0), (25, .iload_n 1, 1, 0, 0, 0), (26, .iload_n 2, 1, 0, 0, 0), (27, .if_icmp .ne 9, 3, 20, 0, 0),
  (30, .aload_n 0, 1, 0, 0, 0), (31, .iconst 2, 1, 0, 0, 0), (32, .invokevirtual 45, 3, 243, 0, 220), (35, .ireturn, 1, 0, 0, 0), (36, .aload_n 0, 1, 0, 0, 0), (37, .iload_n 1, 1, 0, 0, 0), (38, .invokevirtual 78, 3, 251, 0, 229), (41, .ifCond .eq 37, 3, 42, 0, 0),
  (44, .aload_n 0, 1, 0, 0, 0), (45, .getfield 12, 3, 11, 0, 188), (48, .iload_n 1, 1, 0, 0, 0), (49, .iload_n 2, 1, 0, 0, 0), (50, .invokevirtual 121, 3, 206, 0, 235), (53, .ifCond .eq 25, 3, 42, 0, 0), (56, .aload_n 0, 1, 0, 0, 0), (57, .getfield 12, 3, 11, 0, 188),
  (60, .getfield 125, 3, 10, 21, 203), (63, .iload_n 1, 1, 0, 0, 0), (64, .aaload, 1, 0, 0, 0), (65, .iload_n 2, 1, 0, 0, 0), (66, .iaload, 1, 0, 0, 0), (67, .aload_n 0, 1, 0, 0, 0), (68, .getfield 12, 3, 11, 0, 188), (71, .iload_n 1, 1, 0, 0, 0),
  (72, .invokevirtual 128, 3, 197, 0, 236), (75, .if_icmp .ge 9, 3, 46, 0, 0), (78, .aload_n 0, 1, 0, 0, 0), (79, .iconst 3, 1, 0, 0, 0), (80, .invokevirtual 45, 3, 243, 0, 220), (83, .ireturn, 1, 0, 0, 0), (84, .aload_n 0, 1, 0, 0, 0), (85, .getfield 12, 3, 11, 0, 188),
  (88, .bipush 8, 2, 0, 0, 0), (90, .iload_n 1, 1, 0, 0, 0), (91, .iload_n 2, 1, 0, 0, 0), (92, .aload_n 0, 1, 0, 0, 0), (93, .getfield 12, 3, 11, 0, 188), (96, .getfield 131, 3, 10, 3, 204), (99, .iload_n 1, 1, 0, 0, 0), (100, .iaload, 1, 0, 0, 0),
  (101, .iconst 0, 1, 0, 0, 0), (102, .iconst 0, 1, 0, 0, 0), (103, .invokevirtual 134, 3, 210, 1, 237), (106, .pop, 1, 0, 0, 0), (107, .aload_n 0, 1, 0, 0, 0), (108, .getfield 12, 3, 11, 0, 188), (111, .getfield 27, 3, 10, 22, 191), (114, .ireturn, 1, 0, 0, 0)]
set_option maxRecDepth 100000 in
noncomputable def rw_253 : List PRow := [
  (0, .aload_n 0, 1, 0, 0, 0), (1, .iload_n 1, 1, 0, 0, 0), (2, .invokevirtual 78, 3, 251, 0, 229), (5, .ifCond .eq 32, 3, 19, 0, 0), (8, .aload_n 0, 1, 0, 0, 0), (9, .getfield 12, 3, 11, 0, 188), (12, .iload_n 1, 1, 0, 0, 0), (13, .aload_n 0, 1, 0, 0, 0),
  (14, .getfield 12, 3, 11, 0, 188), (17, .getfield 138, 3, 10, 8, 205), (20, .iload_n 1, 1, 0, 0, 0), (21, .iaload, 1, 0, 0, 0), (22, .invokevirtual 90, 3, 201, 0, 231), (25, .aload_n 0, 1, 0, 0, 0), (26, .getfield 12, 3, 11, 0, 188), (29, .getfield 131, 3, 10, 3, 204),
  (32, .iload_n 1, 1, 0, 0, 0), (33, .iaload, 1, 0, 0, 0), (34, .if_icmp .eq 5, 3, 21, 0, 0), (37, .iconst 0, 1, 0, 0, 0), (38, .ireturn, 1, 0, 0, 0), (39, .aload_n 0, 1, 0, 0, 0), (40, .getfield 12, 3, 11, 0, 188), (43, .iload_n 1, 1, 0, 0, 0),
  (44, .aload_n 0, 1, 0, 0, 0), (45, .getfield 12, 3, 11, 0, 188), (48, .iload_n 1, 1, 0, 0, 0), (49, .invokevirtual 128, 3, 197, 0, 236), (52, .invokevirtual 141, 3, 203, 0, 238), (55, .aload_n 0, 1, 0, 0, 0), (56, .getfield 12, 3, 11, 0, 188), (59, .getfield 138, 3, 10, 8, 205),
  (62, .iload_n 1, 1, 0, 0, 0), (63, .iaload, 1, 0, 0, 0), (64, .if_icmp .gt 21, 3, 44, 0, 0), (67, .aload_n 0, 1, 0, 0, 0), (68, .getfield 12, 3, 11, 0, 188), (71, .getfield 97, 3, 10, 18, 198), (74, .iload_n 1, 1, 0, 0, 0), (75, .iaload, 1, 0, 0, 0),
  (76, .bipush 40, 2, 0, 0, 0), (78, .if_icmp .ge 7, 3, 44, 0, 0), (81, .iconst 1, 1, 0, 0, 0), (82, .goto 4, 3, 45, 0, 0), (85, .iconst 0, 1, 0, 0, 0), (86, .ireturn, 1, 0, 0, 0)]
set_option maxRecDepth 100000 in
noncomputable def rw_254 : List PRow := [
  (0, .aload_n 0, 1, 0, 0, 0), (1, .getfield 12, 3, 11, 0, 188), (4, .iload_n 1, 1, 0, 0, 0), (5, .iconst 4, 1, 0, 0, 0), (6, .aload_n 0, 1, 0, 0, 0), (7, .getfield 12, 3, 11, 0, 188), (10, .iload_n 1, 1, 0, 0, 0), (11, .invokevirtual 144, 3, 205, 0, 239),
  (14, .iconst 1, 1, 0, 0, 0), (15, .iload_n 2, 1, 0, 0, 0), (16, .ishl, 1, 0, 0, 0), (17, .ixor, 1, 0, 0, 0), (18, .invokevirtual 147, 3, 196, 0, 240), (21, .aload_n 0, 1, 0, 0, 0), (22, .getfield 12, 3, 11, 0, 188), (25, .iload_n 1, 1, 0, 0, 0),
  (26, .invokevirtual 128, 3, 197, 0, 236), (29, .istore_n 3, 1, 0, 0, 0), (30, .aload_n 0, 1, 0, 0, 0), (31, .getfield 12, 3, 11, 0, 188), (34, .iload_n 1, 1, 0, 0, 0), (35, .iload_n 2, 1, 0, 0, 0), (36, .invokevirtual 121, 3, 206, 0, 235), (39, .ifCond .eq 27, 3, 40, 0, 0),
  (42, .aload_n 0, 1, 0, 0, 0), (43, .getfield 12, 3, 11, 0, 188), (46, .getfield 151, 3, 10, 20, 206), (49, .iload_n 1, 1, 0, 0, 0), (50, .aaload, 1, 0, 0, 0), (51, .iload_n 2, 1, 0, 0, 0), (52, .iload_n 3, 1, 0, 0, 0), (53, .iastore, 1, 0, 0, 0),
  (54, .aload_n 0, 1, 0, 0, 0), (55, .getfield 12, 3, 11, 0, 188), (58, .getfield 125, 3, 10, 21, 203), (61, .iload_n 1, 1, 0, 0, 0), (62, .aaload, 1, 0, 0, 0), (63, .iload_n 2, 1, 0, 0, 0), (64, .iconst 0, 1, 0, 0, 0), (65, .iastore, 1, 0, 0, 0),
  (66, .aload_n 0, 1, 0, 0, 0), (67, .getfield 12, 3, 11, 0, 188), (70, .iload_n 1, 1, 0, 0, 0), (71, .invokevirtual 154, 3, 217, 0, 241), (74, .iload_n 3, 1, 0, 0, 0), (75, .ireturn, 1, 0, 0, 0)]
set_option maxRecDepth 100000 in
noncomputable def rw_255 : List PRow := [
  (0, .aload_n 0, 1, 0, 0, 0), (1, .iconst 0, 1, 0, 0, 0), (2, .putfield 23, 3, 11, 2, 190), (5, .iload_n 1, 1, 0, 0, 0), (6, .invokestatic 48, 3, 244, 0, 221), (9, .ifCond .eq 10, 3, 9, 0, 0), (12, .iload_n 2, 1, 0, 0, 0), (13, .invokestatic 48, 3, 244, 0, 221),
  (16, .ifCond .ne 9, 3, 13, 0, 0), (19, .aload_n 0, 1, 0, 0, 0), (20, .iconst 1, 1, 0, 0, 0), (21, .invokevirtual 45, 3, 243, 0, 220), (24, .ireturn, 1, 0, 0, 0), (25, .aload_n 0, 1, 0, 0, 0), (26, .iload_n 1, 1, 0, 0, 0), (27, .invokevirtual 157, 3, 263, 0, 242),
  (30, .ifCond .eq 24, 3, 28, 0, 0), (33, .aload_n 0, 1, 0, 0, 0), (34, .getfield 12, 3, 11, 0, 188), (37, .iload_n 1, 1, 0, 0, 0), (38, .iload_n 2, 1, 0, 0, 0), (39, .invokevirtual 121, 3, 206, 0, 235), (42, .ifCond .ne 12, 3, 28, 0, 0), (45, .aload_n 0, 1, 0, 0, 0),
  (46, .iload_n 1, 1, 0, 0, 0), (47, .iload_n 2, 1, 0, 0, 0), (48, .invokevirtual 160, 3, 264, 0, 243), (51, .goto 8, 3, 31, 0, 0), (54, .aload_n 0, 1, 0, 0, 0), (55, .iconst 2, 1, 0, 0, 0), (56, .invokevirtual 45, 3, 243, 0, 220), (59, .ireturn, 1, 0, 0, 0)]
set_option maxRecDepth 100000 in
noncomputable def rw_256 : List PRow := [
  (0, .aload_n 0, 1, 0, 0, 0), (1, .iconst 0, 1, 0, 0, 0), (2, .putfield 23, 3, 11, 2, 190), (5, .iload_n 1, 1, 0, 0, 0), (6, .invokestatic 48, 3, 244, 0, 221), (9, .ifCond .eq 10, 3, 9, 0, 0), (12, .iload_n 2, 1, 0, 0, 0), (13, .invokestatic 48, 3, 244, 0, 221),
  (16, .ifCond .ne 9, 3, 13, 0, 0), (19, .aload_n 0, 1, 0, 0, 0), (20, .iconst 1, 1, 0, 0, 0), (21, .invokevirtual 45, 3, 243, 0, 220), (24, .ireturn, 1, 0, 0, 0), (25, .aload_n 0, 1, 0, 0, 0), (26, .iload_n 1, 1, 0, 0, 0), (27, .invokevirtual 157, 3, 263, 0, 242),
  (30, .ifCond .eq 39, 3, 35, 0, 0), (33, .aload_n 0, 1, 0, 0, 0), (34, .getfield 12, 3, 11, 0, 188), (37, .iload_n 1, 1, 0, 0, 0), (38, .iload_n 2, 1, 0, 0, 0), (39, .invokevirtual 121, 3, 206, 0, 235), (42, .ifCond .eq 27, 3, 35, 0, 0), (45, .aload_n 0, 1, 0, 0, 0),
  (46, .getfield 12, 3, 11, 0, 188), (49, .iload_n 1, 1, 0, 0, 0), (50, .invokevirtual 144, 3, 205, 0, 239), (53, .invokestatic 38, 3, 207, 0, 219), (56, .iconst 1, 1, 0, 0, 0), (57, .if_icmp .le 12, 3, 35, 0, 0), (60, .aload_n 0, 1, 0, 0, 0), (61, .iload_n 1, 1, 0, 0, 0),
  (62, .iload_n 2, 1, 0, 0, 0), (63, .invokevirtual 160, 3, 264, 0, 243), (66, .goto 8, 3, 38, 0, 0), (69, .aload_n 0, 1, 0, 0, 0), (70, .iconst 2, 1, 0, 0, 0), (71, .invokevirtual 45, 3, 243, 0, 220), (74, .ireturn, 1, 0, 0, 0)]
set_option maxRecDepth 100000 in
noncomputable def rw_257 : List PRow := [
  (0, .aload_n 0, 1, 0, 0, 0), (1, .iconst 0, 1, 0, 0, 0), (2, .putfield 23, 3, 11, 2, 190), (5, .aload_n 0, 1, 0, 0, 0), (6, .getfield 12, 3, 11, 0, 188), (9, .getfield 27, 3, 10, 22, 191), (12, .ireturn, 1, 0, 0, 0)]
set_option maxRecDepth 100000 in
noncomputable def rw_258 : List PRow := [
  (0, .aload_n 0, 1, 0, 0, 0), (1, .iconst 0, 1, 0, 0, 0), (2, .putfield 23, 3, 11, 2, 190), (5, .aload_n 0, 1, 0, 0, 0), (6, .iload_n 1, 1, 0, 0, 0), (7, .invokevirtual 163, 3, 248, 0, 244), (10, .ifCond .eq 12, 3, 12, 0, 0), (13, .aload_n 0, 1, 0, 0, 0),
  (14, .getfield 12, 3, 11, 0, 188), (17, .iload_n 1, 1, 0, 0, 0), (18, .invokevirtual 166, 3, 220, 0, 245), (21, .ireturn, 1, 0, 0, 0), (22, .aload_n 0, 1, 0, 0, 0), (23, .iconst 1, 1, 0, 0, 0), (24, .putfield 23, 3, 11, 2, 190), (27, .iconst 0, 1, 0, 0, 0),
  (28, .ireturn, 1, 0, 0, 0)]
set_option maxRecDepth 100000 in
noncomputable def rw_259 : List PRow := [
  (0, .aload_n 0, 1, 0, 0, 0), (1, .iconst 0, 1, 0, 0, 0), (2, .putfield 23, 3, 11, 2, 190), (5, .aload_n 0, 1, 0, 0, 0), (6, .iload_n 1, 1, 0, 0, 0), (7, .invokevirtual 163, 3, 248, 0, 244), (10, .ifCond .ne 9, 3, 11, 0, 0), (13, .aload_n 0, 1, 0, 0, 0),
  (14, .iconst 1, 1, 0, 0, 0), (15, .invokevirtual 45, 3, 243, 0, 220), (18, .ireturn, 1, 0, 0, 0), (19, .aload_n 0, 1, 0, 0, 0), (20, .getfield 12, 3, 11, 0, 188), (23, .iload_n 1, 1, 0, 0, 0), (24, .invokevirtual 169, 3, 221, 0, 246), (27, .aload_n 0, 1, 0, 0, 0),
  (28, .getfield 12, 3, 11, 0, 188), (31, .dup, 1, 0, 0, 0), (32, .getfield 66, 3, 10, 1, 195), (35, .iconst 1, 1, 0, 0, 0), (36, .iadd, 1, 0, 0, 0), (37, .putfield 66, 3, 10, 1, 195), (40, .aload_n 0, 1, 0, 0, 0), (41, .getfield 12, 3, 11, 0, 188),
  (44, .getfield 27, 3, 10, 22, 191), (47, .ireturn, 1, 0, 0, 0)]
set_option maxRecDepth 100000 in
noncomputable def rw_260 : List PRow := [
  (0, .aload_n 0, 1, 0, 0, 0), (1, .iconst 0, 1, 0, 0, 0), (2, .putfield 23, 3, 11, 2, 190), (5, .aload_n 0, 1, 0, 0, 0), (6, .iload_n 1, 1, 0, 0, 0), (7, .invokevirtual 163, 3, 248, 0, 244), (10, .ifCond .ne 9, 3, 11, 0, 0), (13, .aload_n 0, 1, 0, 0, 0),
  (14, .iconst 1, 1, 0, 0, 0), (15, .invokevirtual 45, 3, 243, 0, 220), (18, .ireturn, 1, 0, 0, 0), (19, .aload_n 0, 1, 0, 0, 0), (20, .getfield 12, 3, 11, 0, 188), (23, .getfield 27, 3, 10, 22, 191), (26, .bipush 60, 2, 0, 0, 0), (28, .if_icmp .ne 9, 3, 20, 0, 0),
  (31, .aload_n 0, 1, 0, 0, 0), (32, .iconst 2, 1, 0, 0, 0), (33, .invokevirtual 45, 3, 243, 0, 220), (36, .ireturn, 1, 0, 0, 0), (37, .aload_n 0, 1, 0, 0, 0), (38, .getfield 12, 3, 11, 0, 188), (41, .getfield 172, 3, 10, 23, 207), (44, .iload_n 1, 1, 0, 0, 0),
  (45, .bipush 36, 2, 0, 0, 0), (47, .imul, 1, 0, 0, 0), (48, .aload_n 0, 1, 0, 0, 0), (49, .getfield 12, 3, 11, 0, 188), (52, .getfield 172, 3, 10, 23, 207), (55, .aload_n 0, 1, 0, 0, 0), (56, .getfield 12, 3, 11, 0, 188), (59, .getfield 27, 3, 10, 22, 191),
  (62, .bipush 36, 2, 0, 0, 0), (64, .imul, 1, 0, 0, 0), (65, .bipush 36, 2, 0, 0, 0), (67, .invokestatic 175, 3, 1, 0, 247), (70, .aload_n 0, 1, 0, 0, 0), (71, .getfield 12, 3, 11, 0, 188), (74, .dup, 1, 0, 0, 0), (75, .getfield 27, 3, 10, 22, 191),
  (78, .iconst 1, 1, 0, 0, 0), (79, .iadd, 1, 0, 0, 0), (80, .putfield 27, 3, 10, 22, 191), (83, .aload_n 0, 1, 0, 0, 0), (84, .getfield 12, 3, 11, 0, 188), (87, .getfield 27, 3, 10, 22, 191), (90, .ireturn, 1, 0, 0, 0)]
set_option maxRecDepth 100000 in
noncomputable def rw_261 : List PRow := [
  (0, .aload_n 0, 1, 0, 0, 0), (1, .iconst 0, 1, 0, 0, 0), (2, .putfield 23, 3, 11, 2, 190), (5, .aload_n 0, 1, 0, 0, 0), (6, .iload_n 1, 1, 0, 0, 0), (7, .invokevirtual 163, 3, 248, 0, 244), (10, .ifCond .eq 20, 3, 17, 0, 0), (13, .aload_n 0, 1, 0, 0, 0),
  (14, .getfield 12, 3, 11, 0, 188), (17, .getfield 172, 3, 10, 23, 207), (20, .iload_n 1, 1, 0, 0, 0), (21, .bipush 36, 2, 0, 0, 0), (23, .imul, 1, 0, 0, 0), (24, .iload_n 2, 1, 0, 0, 0), (25, .iadd, 1, 0, 0, 0), (26, .iaload, 1, 0, 0, 0),
  (27, .goto 8, 3, 20, 0, 0), (30, .aload_n 0, 1, 0, 0, 0), (31, .iconst 1, 1, 0, 0, 0), (32, .invokevirtual 45, 3, 243, 0, 220), (35, .ireturn, 1, 0, 0, 0)]
set_option maxRecDepth 100000 in
noncomputable def rw_262 : List PRow := [
  (0, .aload_n 0, 1, 0, 0, 0), (1, .iload_n 1, 1, 0, 0, 0), (2, .iconst 0, 1, 0, 0, 0), (3, .invokevirtual 181, 3, 271, 0, 248), (6, .ireturn, 1, 0, 0, 0)]
set_option maxRecDepth 100000 in
noncomputable def rw_263 : List PRow := [
  (0, .aload_n 0, 1, 0, 0, 0), (1, .iload_n 1, 1, 0, 0, 0), (2, .iconst 1, 1, 0, 0, 0), (3, .invokevirtual 181, 3, 271, 0, 248), (6, .ireturn, 1, 0, 0, 0)]
set_option maxRecDepth 100000 in
noncomputable def rw_264 : List PRow := [
  (0, .aload_n 0, 1, 0, 0, 0), (1, .iload_n 1, 1, 0, 0, 0), (2, .iconst 2, 1, 0, 0, 0), (3, .invokevirtual 181, 3, 271, 0, 248), (6, .ireturn, 1, 0, 0, 0)]
set_option maxRecDepth 100000 in
noncomputable def rw_265 : List PRow := [
  (0, .aload_n 0, 1, 0, 0, 0), (1, .iload_n 1, 1, 0, 0, 0), (2, .iconst 3, 1, 0, 0, 0), (3, .invokevirtual 181, 3, 271, 0, 248), (6, .ireturn, 1, 0, 0, 0)]
set_option maxRecDepth 100000 in
noncomputable def rw_266 : List PRow := [
  (0, .aload_n 0, 1, 0, 0, 0), (1, .iload_n 1, 1, 0, 0, 0), (2, .iconst 4, 1, 0, 0, 0), (3, .invokevirtual 181, 3, 271, 0, 248), (6, .aload_n 0, 1, 0, 0, 0), (7, .iload_n 1, 1, 0, 0, 0), (8, .invokevirtual 163, 3, 248, 0, 244), (11, .ifCond .eq 21, 3, 18, 0, 0),
  (14, .aload_n 0, 1, 0, 0, 0), (15, .getfield 12, 3, 11, 0, 188), (18, .getfield 172, 3, 10, 23, 207), (21, .iload_n 1, 1, 0, 0, 0), (22, .bipush 36, 2, 0, 0, 0), (24, .imul, 1, 0, 0, 0), (25, .bipush 7, 2, 0, 0, 0), (27, .iadd, 1, 0, 0, 0),
  (28, .iaload, 1, 0, 0, 0), (29, .goto 4, 3, 19, 0, 0), (32, .iconst 0, 1, 0, 0, 0), (33, .iadd, 1, 0, 0, 0), (34, .ireturn, 1, 0, 0, 0)]
set_option maxRecDepth 100000 in
noncomputable def rw_267 : List PRow := [
  (0, .aload_n 0, 1, 0, 0, 0), (1, .iconst 0, 1, 0, 0, 0), (2, .putfield 23, 3, 11, 2, 190), (5, .iload_n 1, 1, 0, 0, 0), (6, .invokestatic 184, 3, 245, 0, 249), (9, .ifCond .eq 10, 3, 9, 0, 0), (12, .iload_n 3, 1, 0, 0, 0), (13, .invokestatic 187, 3, 246, 0, 250),
  (16, .ifCond .ne 9, 3, 13, 0, 0), (19, .aload_n 0, 1, 0, 0, 0), (20, .iconst 1, 1, 0, 0, 0), (21, .invokevirtual 45, 3, 243, 0, 220), (24, .ireturn, 1, 0, 0, 0), (25, .iload 5, 2, 0, 0, 0), (27, .invokestatic 190, 3, 247, 0, 251), (30, .ifCond .eq 11, 3, 19, 0, 0),
  (33, .iload 4, 2, 0, 0, 0), (35, .invokestatic 190, 3, 247, 0, 251), (38, .ifCond .ne 9, 3, 23, 0, 0), (41, .aload_n 0, 1, 0, 0, 0), (42, .iconst 2, 1, 0, 0, 0), (43, .invokevirtual 45, 3, 243, 0, 220), (46, .ireturn, 1, 0, 0, 0), (47, .iload_n 1, 1, 0, 0, 0),
  (48, .bipush 7, 2, 0, 0, 0), (50, .imul, 1, 0, 0, 0), (51, .istore 6, 2, 0, 0, 0), (53, .aload_n 0, 1, 0, 0, 0), (54, .getfield 12, 3, 11, 0, 188), (57, .getfield 193, 3, 10, 25, 208), (60, .iload 6, 2, 0, 0, 0), (62, .iconst 3, 1, 0, 0, 0),
  (63, .iadd, 1, 0, 0, 0), (64, .iaload, 1, 0, 0, 0), (65, .ifCond .le 21, 3, 45, 0, 0), (68, .aload_n 0, 1, 0, 0, 0), (69, .getfield 12, 3, 11, 0, 188), (72, .getfield 196, 3, 10, 26, 209), (75, .iload_n 1, 1, 0, 0, 0), (76, .iaload, 1, 0, 0, 0),
  (77, .ifCond .ne 9, 3, 45, 0, 0), (80, .aload_n 0, 1, 0, 0, 0), (81, .iconst 3, 1, 0, 0, 0), (82, .invokevirtual 45, 3, 243, 0, 220), (85, .ireturn, 1, 0, 0, 0), (86, .bipush 7, 2, 0, 0, 0), (88, .newarray .int, 2, 0, 0, 0), (90, .dup, 1, 0, 0, 0),
  (91, .iconst 0, 1, 0, 0, 0), (92, .iconst 0, 1, 0, 0, 0), (93, .iastore, 1, 0, 0, 0), (94, .dup, 1, 0, 0, 0), (95, .iconst 1, 1, 0, 0, 0), (96, .iload_n 2, 1, 0, 0, 0), (97, .iastore, 1, 0, 0, 0), (98, .dup, 1, 0, 0, 0),
  (99, .iconst 2, 1, 0, 0, 0), (100, .iload_n 1, 1, 0, 0, 0), (101, .iastore, 1, 0, 0, 0), (102, .dup, 1, 0, 0, 0), (103, .iconst 3, 1, 0, 0, 0), (104, .aload_n 0, 1, 0, 0, 0), (105, .getfield 12, 3, 11, 0, 188), (108, .getfield 193, 3, 10, 25, 208),
  (111, .iload 6, 2, 0, 0, 0), (113, .iconst 3, 1, 0, 0, 0), (114, .iadd, 1, 0, 0, 0), (115, .iaload, 1, 0, 0, 0), (116, .iconst 1, 1, 0, 0, 0), (117, .iadd, 1, 0, 0, 0), (118, .iastore, 1, 0, 0, 0), (119, .dup, 1, 0, 0, 0),
  (120, .iconst 4, 1, 0, 0, 0), (121, .iload_n 3, 1, 0, 0, 0), (122, .iastore, 1, 0, 0, 0), (123, .dup, 1, 0, 0, 0), (124, .iconst 5, 1, 0, 0, 0), (125, .iload 5, 2, 0, 0, 0), (127, .iastore, 1, 0, 0, 0), (128, .dup, 1, 0, 0, 0),
  (129, .bipush 6, 2, 0, 0, 0), (131, .iload 4, 2, 0, 0, 0), (133, .iastore, 1, 0, 0, 0), (134, .astore 7, 2, 0, 0, 0), (136, .aload 7, 2, 0, 0, 0), (138, .iconst 0, 1, 0, 0, 0), (139, .aload_n 0, 1, 0, 0, 0), (140, .getfield 12, 3, 11, 0, 188),
  (143, .getfield 193, 3, 10, 25, 208), (146, .iload 6, 2, 0, 0, 0), (148, .bipush 7, 2, 0, 0, 0), (150, .invokestatic 175, 3, 1, 0, 247), (153, .aload_n 0, 1, 0, 0, 0), (154, .getfield 12, 3, 11, 0, 188), (157, .getfield 196, 3, 10, 26, 209), (160, .iload_n 1, 1, 0, 0, 0),
  (161, .iconst 0, 1, 0, 0, 0), (162, .iastore, 1, 0, 0, 0), (163, .aload 7, 2, 0, 0, 0), (165, .iconst 3, 1, 0, 0, 0), (166, .iaload, 1, 0, 0, 0), (167, .ireturn, 1, 0, 0, 0)]
set_option maxRecDepth 100000 in
noncomputable def rw_268 : List PRow := [
  (0, .aload_n 0, 1, 0, 0, 0), (1, .iload_n 1, 1, 0, 0, 0), (2, .iconst 1, 1, 0, 0, 0), (3, .iload_n 2, 1, 0, 0, 0), (4, .iconst 0, 1, 0, 0, 0), (5, .iload_n 3, 1, 0, 0, 0), (6, .invokevirtual 199, 3, 277, 0, 252), (9, .ireturn, 1, 0, 0, 0)]
set_option maxRecDepth 100000 in
noncomputable def rw_269 : List PRow := [
  (0, .aload_n 0, 1, 0, 0, 0), (1, .iload_n 1, 1, 0, 0, 0), (2, .iconst 2, 1, 0, 0, 0), (3, .iload_n 2, 1, 0, 0, 0), (4, .iconst 0, 1, 0, 0, 0), (5, .iload_n 3, 1, 0, 0, 0), (6, .invokevirtual 199, 3, 277, 0, 252), (9, .ireturn, 1, 0, 0, 0)]
set_option maxRecDepth 100000 in
noncomputable def rw_270 : List PRow := [
  (0, .aload_n 0, 1, 0, 0, 0), (1, .iload_n 1, 1, 0, 0, 0), (2, .iconst 3, 1, 0, 0, 0), (3, .iload_n 2, 1, 0, 0, 0), (4, .iload_n 3, 1, 0, 0, 0), (5, .iload 4, 2, 0, 0, 0), (7, .invokevirtual 199, 3, 277, 0, 252), (10, .ireturn, 1, 0, 0, 0)]
set_option maxRecDepth 100000 in
noncomputable def rw_271 : List PRow := [
  (0, .aload_n 0, 1, 0, 0, 0), (1, .getfield 12, 3, 11, 0, 188), (4, .getfield 193, 3, 10, 25, 208), (7, .iload_n 1, 1, 0, 0, 0), (8, .bipush 7, 2, 0, 0, 0), (10, .imul, 1, 0, 0, 0), (11, .iconst 3, 1, 0, 0, 0), (12, .iadd, 1, 0, 0, 0),
  (13, .iaload, 1, 0, 0, 0), (14, .ifCond .le 19, 3, 18, 0, 0), (17, .aload_n 0, 1, 0, 0, 0), (18, .getfield 12, 3, 11, 0, 188), (21, .getfield 196, 3, 10, 26, 209), (24, .iload_n 1, 1, 0, 0, 0), (25, .iaload, 1, 0, 0, 0), (26, .ifCond .ne 7, 3, 18, 0, 0),
  (29, .iconst 1, 1, 0, 0, 0), (30, .goto 4, 3, 19, 0, 0), (33, .iconst 0, 1, 0, 0, 0), (34, .ireturn, 1, 0, 0, 0)]
set_option maxRecDepth 100000 in
noncomputable def rw_272 : List PRow := [
  (0, .aload_n 0, 1, 0, 0, 0), (1, .iconst 0, 1, 0, 0, 0), (2, .putfield 23, 3, 11, 2, 190), (5, .iload_n 1, 1, 0, 0, 0), (6, .invokestatic 184, 3, 245, 0, 249), (9, .ifCond .eq 10, 3, 9, 0, 0), (12, .iload_n 2, 1, 0, 0, 0), (13, .invokestatic 48, 3, 244, 0, 221),
  (16, .ifCond .ne 9, 3, 13, 0, 0), (19, .aload_n 0, 1, 0, 0, 0), (20, .iconst 1, 1, 0, 0, 0), (21, .invokevirtual 45, 3, 243, 0, 220), (24, .ireturn, 1, 0, 0, 0), (25, .aload_n 0, 1, 0, 0, 0), (26, .iload_n 1, 1, 0, 0, 0), (27, .invokevirtual 203, 3, 281, 0, 253),
  (30, .ifCond .eq 25, 3, 28, 0, 0), (33, .aload_n 0, 1, 0, 0, 0), (34, .iload_n 2, 1, 0, 0, 0), (35, .invokevirtual 78, 3, 251, 0, 229), (38, .ifCond .eq 17, 3, 28, 0, 0), (41, .aload_n 0, 1, 0, 0, 0), (42, .getfield 12, 3, 11, 0, 188), (45, .getfield 97, 3, 10, 18, 198),
  (48, .iload_n 2, 1, 0, 0, 0), (49, .iaload, 1, 0, 0, 0), (50, .bipush 40, 2, 0, 0, 0), (52, .if_icmp .lt 9, 3, 32, 0, 0), (55, .aload_n 0, 1, 0, 0, 0), (56, .iconst 2, 1, 0, 0, 0), (57, .invokevirtual 45, 3, 243, 0, 220), (60, .ireturn, 1, 0, 0, 0),
  (61, .aload_n 0, 1, 0, 0, 0), (62, .getfield 12, 3, 11, 0, 188), (65, .iload_n 2, 1, 0, 0, 0), (66, .aload_n 0, 1, 0, 0, 0), (67, .getfield 12, 3, 11, 0, 188), (70, .getfield 193, 3, 10, 25, 208), (73, .iload_n 1, 1, 0, 0, 0), (74, .bipush 7, 2, 0, 0, 0),
  (76, .imul, 1, 0, 0, 0), (77, .aload_n 0, 1, 0, 0, 0), (78, .getfield 12, 3, 11, 0, 188), (81, .getfield 131, 3, 10, 3, 204), (84, .iload_n 2, 1, 0, 0, 0), (85, .iaload, 1, 0, 0, 0), (86, .invokevirtual 206, 3, 195, 0, 254), (89, .aload_n 0, 1, 0, 0, 0),
  (90, .getfield 12, 3, 11, 0, 188), (93, .iload_n 2, 1, 0, 0, 0), (94, .invokevirtual 128, 3, 197, 0, 236), (97, .istore_n 3, 1, 0, 0, 0), (98, .aload_n 0, 1, 0, 0, 0), (99, .getfield 12, 3, 11, 0, 188), (102, .iload_n 2, 1, 0, 0, 0), (103, .invokevirtual 154, 3, 217, 0, 241),
  (106, .iload_n 3, 1, 0, 0, 0), (107, .ireturn, 1, 0, 0, 0)]
set_option maxRecDepth 100000 in
noncomputable def rw_273 : List PRow := [
  (0, .aload_n 0, 1, 0, 0, 0), (1, .iconst 0, 1, 0, 0, 0), (2, .putfield 23, 3, 11, 2, 190), (5, .iload_n 1, 1, 0, 0, 0), (6, .invokestatic 184, 3, 245, 0, 249), (9, .ifCond .eq 20, 3, 16, 0, 0), (12, .aload_n 0, 1, 0, 0, 0), (13, .getfield 12, 3, 11, 0, 188),
  (16, .getfield 193, 3, 10, 25, 208), (19, .iload_n 1, 1, 0, 0, 0), (20, .bipush 7, 2, 0, 0, 0), (22, .imul, 1, 0, 0, 0), (23, .iconst 3, 1, 0, 0, 0), (24, .iadd, 1, 0, 0, 0), (25, .iaload, 1, 0, 0, 0), (26, .goto 8, 3, 19, 0, 0),
  (29, .aload_n 0, 1, 0, 0, 0), (30, .iconst 1, 1, 0, 0, 0), (31, .invokevirtual 45, 3, 243, 0, 220), (34, .ireturn, 1, 0, 0, 0)]
set_option maxRecDepth 100000 in
noncomputable def rw_274 : List PRow := [
  (0, .aload_n 0, 1, 0, 0, 0), (1, .iconst 0, 1, 0, 0, 0), (2, .putfield 23, 3, 11, 2, 190), (5, .iload_n 1, 1, 0, 0, 0), (6, .invokestatic 184, 3, 245, 0, 249), (9, .ifCond .eq 22, 3, 17, 0, 0), (12, .aload_n 0, 1, 0, 0, 0), (13, .getfield 12, 3, 11, 0, 188),
  (16, .getfield 196, 3, 10, 26, 209), (19, .iload_n 1, 1, 0, 0, 0), (20, .iaload, 1, 0, 0, 0), (21, .iconst 1, 1, 0, 0, 0), (22, .if_icmp .ne 7, 3, 15, 0, 0), (25, .iconst 1, 1, 0, 0, 0), (26, .goto 4, 3, 16, 0, 0), (29, .iconst 0, 1, 0, 0, 0),
  (30, .ireturn, 1, 0, 0, 0), (31, .aload_n 0, 1, 0, 0, 0), (32, .iconst 1, 1, 0, 0, 0), (33, .putfield 23, 3, 11, 2, 190), (36, .iconst 0, 1, 0, 0, 0), (37, .ireturn, 1, 0, 0, 0)]
set_option maxRecDepth 100000 in
noncomputable def rw_275 : List PRow := [
  (0, .aload_n 0, 1, 0, 0, 0), (1, .iconst 0, 1, 0, 0, 0), (2, .putfield 23, 3, 11, 2, 190), (5, .iload_n 1, 1, 0, 0, 0), (6, .invokestatic 184, 3, 245, 0, 249), (9, .ifCond .ne 9, 3, 10, 0, 0), (12, .aload_n 0, 1, 0, 0, 0), (13, .iconst 1, 1, 0, 0, 0),
  (14, .invokevirtual 45, 3, 243, 0, 220), (17, .ireturn, 1, 0, 0, 0), (18, .aload_n 0, 1, 0, 0, 0), (19, .getfield 12, 3, 11, 0, 188), (22, .getfield 196, 3, 10, 26, 209), (25, .iload_n 1, 1, 0, 0, 0), (26, .iaload, 1, 0, 0, 0), (27, .iconst 1, 1, 0, 0, 0),
  (28, .if_icmp .ne 15, 3, 23, 0, 0), (31, .aload_n 0, 1, 0, 0, 0), (32, .getfield 12, 3, 11, 0, 188), (35, .getfield 210, 3, 10, 27, 210), (38, .iload_n 1, 1, 0, 0, 0), (39, .iaload, 1, 0, 0, 0), (40, .goto 8, 3, 26, 0, 0), (43, .aload_n 0, 1, 0, 0, 0),
  (44, .iconst 2, 1, 0, 0, 0), (45, .invokevirtual 45, 3, 243, 0, 220), (48, .ireturn, 1, 0, 0, 0)]
set_option maxRecDepth 100000 in
noncomputable def rw_276 : List PRow := [
  (0, .aload_n 0, 1, 0, 0, 0), (1, .iconst 0, 1, 0, 0, 0), (2, .putfield 23, 3, 11, 2, 190), (5, .aload_n 0, 1, 0, 0, 0), (6, .getfield 12, 3, 11, 0, 188), (9, .getfield 213, 3, 10, 0, 211), (12, .ireturn, 1, 0, 0, 0)]
set_option maxRecDepth 100000 in
noncomputable def rw_277 : List PRow := [
  (0, .aload_n 0, 1, 0, 0, 0), (1, .iconst 0, 1, 0, 0, 0), (2, .putfield 23, 3, 11, 2, 190), (5, .aload_n 0, 1, 0, 0, 0), (6, .getfield 12, 3, 11, 0, 188), (9, .getfield 66, 3, 10, 1, 195), (12, .ireturn, 1, 0, 0, 0)]
set_option maxRecDepth 100000 in
noncomputable def rw_278 : List PRow := [
  (0, .aload_n 0, 1, 0, 0, 0), (1, .iconst 0, 1, 0, 0, 0), (2, .putfield 23, 3, 11, 2, 190), (5, .iload_n 1, 1, 0, 0, 0), (6, .invokestatic 48, 3, 244, 0, 221), (9, .ifCond .eq 9, 3, 10, 0, 0), (12, .aload_n 2, 1, 0, 0, 0), (13, .iload_n 1, 1, 0, 0, 0),
  (14, .iaload, 1, 0, 0, 0), (15, .goto 8, 3, 13, 0, 0), (18, .aload_n 0, 1, 0, 0, 0), (19, .iconst 1, 1, 0, 0, 0), (20, .invokevirtual 45, 3, 243, 0, 220), (23, .ireturn, 1, 0, 0, 0)]
set_option maxRecDepth 100000 in
noncomputable def rw_279 : List PRow := [
  (0, .aload_n 0, 1, 0, 0, 0), (1, .iconst 0, 1, 0, 0, 0), (2, .putfield 23, 3, 11, 2, 190), (5, .iload_n 1, 1, 0, 0, 0), (6, .invokestatic 48, 3, 244, 0, 221), (9, .ifCond .eq 13, 3, 12, 0, 0), (12, .aload_n 0, 1, 0, 0, 0), (13, .getfield 12, 3, 11, 0, 188),
  (16, .getfield 30, 3, 10, 2, 192), (19, .iload_n 1, 1, 0, 0, 0), (20, .baload, 1, 0, 0, 0), (21, .ireturn, 1, 0, 0, 0), (22, .aload_n 0, 1, 0, 0, 0), (23, .iconst 1, 1, 0, 0, 0), (24, .putfield 23, 3, 11, 2, 190), (27, .iconst 0, 1, 0, 0, 0),
  (28, .ireturn, 1, 0, 0, 0)]
set_option maxRecDepth 100000 in
noncomputable def rw_280 : List PRow := [
  (0, .aload_n 0, 1, 0, 0, 0), (1, .iload_n 1, 1, 0, 0, 0), (2, .aload_n 0, 1, 0, 0, 0), (3, .getfield 12, 3, 11, 0, 188), (6, .getfield 42, 3, 10, 5, 194), (9, .invokevirtual 216, 3, 288, 0, 255), (12, .ireturn, 1, 0, 0, 0)]
set_option maxRecDepth 100000 in
noncomputable def rw_281 : List PRow := [
  (0, .aload_n 0, 1, 0, 0, 0), (1, .iload_n 1, 1, 0, 0, 0), (2, .aload_n 0, 1, 0, 0, 0), (3, .getfield 12, 3, 11, 0, 188), (6, .getfield 131, 3, 10, 3, 204), (9, .invokevirtual 216, 3, 288, 0, 255), (12, .ireturn, 1, 0, 0, 0)]
set_option maxRecDepth 100000 in
noncomputable def rw_282 : List PRow := [
  (0, .aload_n 0, 1, 0, 0, 0), (1, .iload_n 1, 1, 0, 0, 0), (2, .aload_n 0, 1, 0, 0, 0), (3, .getfield 12, 3, 11, 0, 188), (6, .getfield 220, 3, 10, 4, 212), (9, .invokevirtual 216, 3, 288, 0, 255), (12, .ireturn, 1, 0, 0, 0)]
set_option maxRecDepth 100000 in
noncomputable def rw_283 : List PRow := [
  (0, .aload_n 0, 1, 0, 0, 0), (1, .iload_n 1, 1, 0, 0, 0), (2, .aload_n 0, 1, 0, 0, 0), (3, .getfield 12, 3, 11, 0, 188), (6, .getfield 223, 3, 10, 6, 213), (9, .invokevirtual 216, 3, 288, 0, 255), (12, .ireturn, 1, 0, 0, 0)]
set_option maxRecDepth 100000 in
noncomputable def rw_284 : List PRow := [
  (0, .aload_n 0, 1, 0, 0, 0), (1, .iload_n 1, 1, 0, 0, 0), (2, .aload_n 0, 1, 0, 0, 0), (3, .getfield 12, 3, 11, 0, 188), (6, .getfield 226, 3, 10, 7, 214), (9, .invokevirtual 216, 3, 288, 0, 255), (12, .ireturn, 1, 0, 0, 0)]
set_option maxRecDepth 100000 in
noncomputable def rw_285 : List PRow := [
  (0, .aload_n 0, 1, 0, 0, 0), (1, .iconst 0, 1, 0, 0, 0), (2, .putfield 23, 3, 11, 2, 190), (5, .iload_n 1, 1, 0, 0, 0), (6, .invokestatic 48, 3, 244, 0, 221), (9, .ifCond .eq 19, 3, 14, 0, 0), (12, .iload_n 1, 1, 0, 0, 0), (13, .aload_n 0, 1, 0, 0, 0),
  (14, .getfield 12, 3, 11, 0, 188), (17, .getfield 131, 3, 10, 3, 204), (20, .iload_n 1, 1, 0, 0, 0), (21, .iaload, 1, 0, 0, 0), (22, .invokestatic 229, 3, 229, 0, 256), (25, .goto 8, 3, 17, 0, 0), (28, .aload_n 0, 1, 0, 0, 0), (29, .iconst 1, 1, 0, 0, 0),
  (30, .invokevirtual 45, 3, 243, 0, 220), (33, .ireturn, 1, 0, 0, 0)]
set_option maxRecDepth 100000 in
noncomputable def rw_286 : List PRow := [
  (0, .aload_n 0, 1, 0, 0, 0), (1, .iload_n 1, 1, 0, 0, 0), (2, .aload_n 0, 1, 0, 0, 0), (3, .getfield 12, 3, 11, 0, 188), (6, .getfield 87, 3, 10, 13, 197), (9, .invokevirtual 216, 3, 288, 0, 255), (12, .ireturn, 1, 0, 0, 0)]
set_option maxRecDepth 100000 in
noncomputable def rw_287 : List PRow := [
  (0, .aload_n 0, 1, 0, 0, 0), (1, .iconst 0, 1, 0, 0, 0), (2, .putfield 23, 3, 11, 2, 190), (5, .iload_n 1, 1, 0, 0, 0), (6, .invokestatic 48, 3, 244, 0, 221), (9, .ifCond .eq 14, 3, 11, 0, 0), (12, .aload_n 0, 1, 0, 0, 0), (13, .getfield 12, 3, 11, 0, 188),
  (16, .iload_n 1, 1, 0, 0, 0), (17, .invokevirtual 128, 3, 197, 0, 236), (20, .goto 8, 3, 14, 0, 0), (23, .aload_n 0, 1, 0, 0, 0), (24, .iconst 1, 1, 0, 0, 0), (25, .invokevirtual 45, 3, 243, 0, 220), (28, .ireturn, 1, 0, 0, 0)]
set_option maxRecDepth 100000 in
noncomputable def rw_288 : List PRow := [
  (0, .aload_n 0, 1, 0, 0, 0), (1, .iconst 0, 1, 0, 0, 0), (2, .putfield 23, 3, 11, 2, 190), (5, .iload_n 1, 1, 0, 0, 0), (6, .invokestatic 48, 3, 244, 0, 221), (9, .ifCond .eq 14, 3, 11, 0, 0), (12, .aload_n 0, 1, 0, 0, 0), (13, .getfield 12, 3, 11, 0, 188),
  (16, .iload_n 1, 1, 0, 0, 0), (17, .invokevirtual 232, 3, 202, 0, 257), (20, .goto 8, 3, 14, 0, 0), (23, .aload_n 0, 1, 0, 0, 0), (24, .iconst 1, 1, 0, 0, 0), (25, .invokevirtual 45, 3, 243, 0, 220), (28, .ireturn, 1, 0, 0, 0)]
set_option maxRecDepth 100000 in
noncomputable def rw_289 : List PRow := [
  (0, .aload_n 0, 1, 0, 0, 0), (1, .iload_n 1, 1, 0, 0, 0), (2, .aload_n 0, 1, 0, 0, 0), (3, .getfield 12, 3, 11, 0, 188), (6, .getfield 138, 3, 10, 8, 205), (9, .invokevirtual 216, 3, 288, 0, 255), (12, .ireturn, 1, 0, 0, 0)]
set_option maxRecDepth 100000 in
noncomputable def rw_290 : List PRow := [
  (0, .aload_n 0, 1, 0, 0, 0), (1, .iconst 0, 1, 0, 0, 0), (2, .putfield 23, 3, 11, 2, 190), (5, .iload_n 1, 1, 0, 0, 0), (6, .invokestatic 48, 3, 244, 0, 221), (9, .ifCond .eq 17, 3, 12, 0, 0), (12, .aload_n 0, 1, 0, 0, 0), (13, .getfield 12, 3, 11, 0, 188),
  (16, .iload_n 1, 1, 0, 0, 0), (17, .invokevirtual 144, 3, 205, 0, 239), (20, .invokestatic 38, 3, 207, 0, 219), (23, .goto 8, 3, 15, 0, 0), (26, .aload_n 0, 1, 0, 0, 0), (27, .iconst 1, 1, 0, 0, 0), (28, .invokevirtual 45, 3, 243, 0, 220), (31, .ireturn, 1, 0, 0, 0)]
set_option maxRecDepth 100000 in
noncomputable def rw_291 : List PRow := [
  (0, .aload_n 0, 1, 0, 0, 0), (1, .iconst 0, 1, 0, 0, 0), (2, .putfield 23, 3, 11, 2, 190), (5, .iload_n 1, 1, 0, 0, 0), (6, .invokestatic 48, 3, 244, 0, 221), (9, .ifCond .eq 20, 3, 15, 0, 0), (12, .iload_n 2, 1, 0, 0, 0), (13, .invokestatic 48, 3, 244, 0, 221),
  (16, .ifCond .eq 13, 3, 15, 0, 0), (19, .aload_n 0, 1, 0, 0, 0), (20, .getfield 12, 3, 11, 0, 188), (23, .iload_n 1, 1, 0, 0, 0), (24, .iload_n 2, 1, 0, 0, 0), (25, .invokevirtual 121, 3, 206, 0, 235), (28, .ireturn, 1, 0, 0, 0), (29, .aload_n 0, 1, 0, 0, 0),
  (30, .iconst 1, 1, 0, 0, 0), (31, .putfield 23, 3, 11, 2, 190), (34, .iconst 0, 1, 0, 0, 0), (35, .ireturn, 1, 0, 0, 0)]
set_option maxRecDepth 100000 in
noncomputable def rw_292 : List PRow := [
  (0, .aload_n 0, 1, 0, 0, 0), (1, .iconst 0, 1, 0, 0, 0), (2, .putfield 23, 3, 11, 2, 190), (5, .iload_n 1, 1, 0, 0, 0), (6, .invokestatic 48, 3, 244, 0, 221), (9, .ifCond .eq 40, 3, 25, 0, 0), (12, .iload_n 2, 1, 0, 0, 0), (13, .aload_n 0, 1, 0, 0, 0),
  (14, .getfield 12, 3, 11, 0, 188), (17, .getfield 87, 3, 10, 13, 197), (20, .iload_n 1, 1, 0, 0, 0), (21, .iaload, 1, 0, 0, 0), (22, .if_icmp .eq 15, 3, 19, 0, 0), (25, .aload_n 0, 1, 0, 0, 0), (26, .getfield 12, 3, 11, 0, 188), (29, .iload_n 1, 1, 0, 0, 0),
  (30, .iload_n 2, 1, 0, 0, 0), (31, .invokevirtual 235, 3, 198, 0, 258), (34, .ifCond .eq 15, 3, 25, 0, 0), (37, .aload_n 0, 1, 0, 0, 0), (38, .getfield 12, 3, 11, 0, 188), (41, .iload_n 1, 1, 0, 0, 0), (42, .iload_n 2, 1, 0, 0, 0), (43, .invokevirtual 90, 3, 201, 0, 231),
  (46, .goto 8, 3, 28, 0, 0), (49, .aload_n 0, 1, 0, 0, 0), (50, .iconst 1, 1, 0, 0, 0), (51, .invokevirtual 45, 3, 243, 0, 220), (54, .ireturn, 1, 0, 0, 0)]
set_option maxRecDepth 100000 in
noncomputable def rw_293 : List PRow := [
  (0, .aload_n 0, 1, 0, 0, 0), (1, .iconst 0, 1, 0, 0, 0), (2, .putfield 23, 3, 11, 2, 190), (5, .iload_n 1, 1, 0, 0, 0), (6, .invokestatic 48, 3, 244, 0, 221), (9, .ifCond .eq 28, 3, 19, 0, 0), (12, .aload_n 0, 1, 0, 0, 0), (13, .getfield 12, 3, 11, 0, 188),
  (16, .iload_n 1, 1, 0, 0, 0), (17, .iload_n 2, 1, 0, 0, 0), (18, .invokevirtual 235, 3, 198, 0, 258), (21, .ifCond .eq 16, 3, 19, 0, 0), (24, .aload_n 0, 1, 0, 0, 0), (25, .getfield 12, 3, 11, 0, 188), (28, .iload_n 1, 1, 0, 0, 0), (29, .iload_n 2, 1, 0, 0, 0),
  (30, .iload_n 3, 1, 0, 0, 0), (31, .invokevirtual 238, 3, 200, 0, 259), (34, .goto 8, 3, 22, 0, 0), (37, .aload_n 0, 1, 0, 0, 0), (38, .iconst 1, 1, 0, 0, 0), (39, .invokevirtual 45, 3, 243, 0, 220), (42, .ireturn, 1, 0, 0, 0)]
set_option maxRecDepth 100000 in
noncomputable def rw_294 : List PRow := [
  (0, .aload_n 0, 1, 0, 0, 0), (1, .iload_n 1, 1, 0, 0, 0), (2, .iload_n 2, 1, 0, 0, 0), (3, .iconst 1, 1, 0, 0, 0), (4, .invokevirtual 241, 3, 303, 0, 260), (7, .ireturn, 1, 0, 0, 0)]
set_option maxRecDepth 100000 in
noncomputable def rw_295 : List PRow := [
  (0, .aload_n 0, 1, 0, 0, 0), (1, .iload_n 1, 1, 0, 0, 0), (2, .iload_n 2, 1, 0, 0, 0), (3, .iconst 1, 1, 0, 0, 0), (4, .invokevirtual 241, 3, 303, 0, 260), (7, .iconst 4, 1, 0, 0, 0), (8, .if_icmp .ne 20, 3, 15, 0, 0), (11, .aload_n 0, 1, 0, 0, 0),
  (12, .getfield 12, 3, 11, 0, 188), (15, .iload_n 1, 1, 0, 0, 0), (16, .iload_n 2, 1, 0, 0, 0), (17, .bipush 6, 2, 0, 0, 0), (19, .invokevirtual 238, 3, 200, 0, 259), (22, .invokestatic 38, 3, 207, 0, 219), (25, .goto 10, 3, 20, 0, 0), (28, .aload_n 0, 1, 0, 0, 0),
  (29, .iload_n 1, 1, 0, 0, 0), (30, .iload_n 2, 1, 0, 0, 0), (31, .iconst 5, 1, 0, 0, 0), (32, .invokevirtual 241, 3, 303, 0, 260), (35, .ireturn, 1, 0, 0, 0)]
set_option maxRecDepth 100000 in
noncomputable def rw_296 : List PRow := [
  (0, .aload_n 0, 1, 0, 0, 0), (1, .iload_n 1, 1, 0, 0, 0), (2, .iload_n 2, 1, 0, 0, 0), (3, .iconst 2, 1, 0, 0, 0), (4, .invokevirtual 241, 3, 303, 0, 260), (7, .ireturn, 1, 0, 0, 0)]
set_option maxRecDepth 100000 in
noncomputable def rw_297 : List PRow := [
  (0, .aload_n 0, 1, 0, 0, 0), (1, .iload_n 1, 1, 0, 0, 0), (2, .iload_n 2, 1, 0, 0, 0), (3, .iconst 3, 1, 0, 0, 0), (4, .invokevirtual 241, 3, 303, 0, 260), (7, .ireturn, 1, 0, 0, 0)]
set_option maxRecDepth 100000 in
noncomputable def rw_298 : List PRow := [
  (0, .aload_n 0, 1, 0, 0, 0), (1, .iconst 0, 1, 0, 0, 0), (2, .putfield 23, 3, 11, 2, 190), (5, .iload_n 1, 1, 0, 0, 0), (6, .invokestatic 48, 3, 244, 0, 221), (9, .ifCond .eq 24, 3, 17, 0, 0), (12, .iload_n 2, 1, 0, 0, 0), (13, .invokestatic 187, 3, 246, 0, 250),
  (16, .ifCond .eq 17, 3, 17, 0, 0), (19, .aload_n 0, 1, 0, 0, 0), (20, .getfield 12, 3, 11, 0, 188), (23, .getfield 110, 3, 10, 17, 201), (26, .iload_n 1, 1, 0, 0, 0), (27, .aaload, 1, 0, 0, 0), (28, .iload_n 2, 1, 0, 0, 0), (29, .iaload, 1, 0, 0, 0),
  (30, .goto 8, 3, 20, 0, 0), (33, .aload_n 0, 1, 0, 0, 0), (34, .iconst 1, 1, 0, 0, 0), (35, .invokevirtual 45, 3, 243, 0, 220), (38, .ireturn, 1, 0, 0, 0)]
set_option maxRecDepth 100000 in
noncomputable def rw_299 : List PRow := [
  (0, .aload_n 0, 1, 0, 0, 0), (1, .iconst 0, 1, 0, 0, 0), (2, .putfield 23, 3, 11, 2, 190), (5, .iload_n 1, 1, 0, 0, 0), (6, .invokestatic 48, 3, 244, 0, 221), (9, .ifCond .eq 27, 3, 19, 0, 0), (12, .iload_n 2, 1, 0, 0, 0), (13, .invokestatic 184, 3, 245, 0, 249),
  (16, .ifCond .eq 20, 3, 19, 0, 0), (19, .aload_n 0, 1, 0, 0, 0), (20, .getfield 12, 3, 11, 0, 188), (23, .getfield 110, 3, 10, 17, 201), (26, .iload_n 1, 1, 0, 0, 0), (27, .aaload, 1, 0, 0, 0), (28, .bipush 8, 2, 0, 0, 0), (30, .iload_n 2, 1, 0, 0, 0),
  (31, .iadd, 1, 0, 0, 0), (32, .iaload, 1, 0, 0, 0), (33, .goto 8, 3, 22, 0, 0), (36, .aload_n 0, 1, 0, 0, 0), (37, .iconst 1, 1, 0, 0, 0), (38, .invokevirtual 45, 3, 243, 0, 220), (41, .ireturn, 1, 0, 0, 0)]
set_option maxRecDepth 100000 in
noncomputable def rw_300 : List PRow := [
  (0, .aload_n 0, 1, 0, 0, 0), (1, .iconst 0, 1, 0, 0, 0), (2, .putfield 23, 3, 11, 2, 190), (5, .iload_n 1, 1, 0, 0, 0), (6, .invokestatic 48, 3, 244, 0, 221), (9, .ifCond .eq 10, 3, 9, 0, 0), (12, .iload_n 2, 1, 0, 0, 0), (13, .invokestatic 48, 3, 244, 0, 221),
  (16, .ifCond .ne 9, 3, 13, 0, 0), (19, .aload_n 0, 1, 0, 0, 0), (20, .iconst 1, 1, 0, 0, 0), (21, .invokevirtual 45, 3, 243, 0, 220), (24, .ireturn, 1, 0, 0, 0), (25, .iload_n 1, 1, 0, 0, 0), (26, .iload_n 2, 1, 0, 0, 0), (27, .if_icmp .ne 9, 3, 20, 0, 0),
  (30, .aload_n 0, 1, 0, 0, 0), (31, .iconst 2, 1, 0, 0, 0), (32, .invokevirtual 45, 3, 243, 0, 220), (35, .ireturn, 1, 0, 0, 0), (36, .aload_n 0, 1, 0, 0, 0), (37, .iload_n 1, 1, 0, 0, 0), (38, .invokevirtual 78, 3, 251, 0, 229), (41, .ifCond .eq 11, 3, 30, 0, 0),
  (44, .aload_n 3, 1, 0, 0, 0), (45, .iload_n 1, 1, 0, 0, 0), (46, .aaload, 1, 0, 0, 0), (47, .iload_n 2, 1, 0, 0, 0), (48, .iaload, 1, 0, 0, 0), (49, .goto 8, 3, 33, 0, 0), (52, .aload_n 0, 1, 0, 0, 0), (53, .iconst 3, 1, 0, 0, 0),
  (54, .invokevirtual 45, 3, 243, 0, 220), (57, .ireturn, 1, 0, 0, 0)]
set_option maxRecDepth 100000 in
noncomputable def rw_301 : List PRow := [
  (0, .aload_n 0, 1, 0, 0, 0), (1, .iload_n 1, 1, 0, 0, 0), (2, .iload_n 2, 1, 0, 0, 0), (3, .aload_n 0, 1, 0, 0, 0), (4, .getfield 12, 3, 11, 0, 188), (7, .getfield 151, 3, 10, 20, 206), (10, .invokevirtual 244, 3, 310, 0, 261), (13, .ireturn, 1, 0, 0, 0)]
set_option maxRecDepth 100000 in
noncomputable def rw_302 : List PRow := [
  (0, .aload_n 0, 1, 0, 0, 0), (1, .iload_n 1, 1, 0, 0, 0), (2, .iload_n 2, 1, 0, 0, 0), (3, .aload_n 0, 1, 0, 0, 0), (4, .getfield 12, 3, 11, 0, 188), (7, .getfield 125, 3, 10, 21, 203), (10, .invokevirtual 244, 3, 310, 0, 261), (13, .ireturn, 1, 0, 0, 0)]
set_option maxRecDepth 100000 in
noncomputable def rw_303 : List PRow := [
  (0, .aload_n 0, 1, 0, 0, 0), (1, .iconst 0, 1, 0, 0, 0), (2, .putfield 23, 3, 11, 2, 190), (5, .aload_n 0, 1, 0, 0, 0), (6, .getfield 12, 3, 11, 0, 188), (9, .invokevirtual 248, 3, 232, 0, 262), (12, .ireturn, 1, 0, 0, 0)]
set_option maxRecDepth 100000 in
noncomputable def rw_304 : List PRow := [
  (0, .iconst 0, 1, 0, 0, 0), (1, .istore_n 1, 1, 0, 0, 0), (2, .aload_n 0, 1, 0, 0, 0), (3, .getfield 12, 3, 11, 0, 188), (6, .getfield 42, 3, 10, 5, 194), (9, .astore_n 2, 1, 0, 0, 0), (10, .aload_n 2, 1, 0, 0, 0), (11, .arraylength, 1, 0, 0, 0),
  (12, .istore_n 3, 1, 0, 0, 0), (13, .iconst 0, 1, 0, 0, 0), (14, .istore 4, 2, 0, 0, 0), (16, .iload 4, 2, 0, 0, 0), (18, .iload_n 3, 1, 0, 0, 0), (19, .if_icmp .ge 29, 3, 29, 0, 0), (22, .aload_n 2, 1, 0, 0, 0), (23, .iload 4, 2, 0, 0, 0),
  (25, .iaload, 1, 0, 0, 0), (26, .istore 5, 2, 0, 0, 0), (28, .iload_n 1, 1, 0, 0, 0), (29, .iload 5, 2, 0, 0, 0), (31, .iconst 3, 1, 0, 0, 0), (32, .if_icmp .ne 7, 3, 24, 0, 0), (35, .iconst 1, 1, 0, 0, 0), (36, .goto 4, 3, 25, 0, 0),
  (39, .iconst 0, 1, 0, 0, 0), (40, .iadd, 1, 0, 0, 0), (41, .istore_n 1, 1, 0, 0, 0), (42, .iinc 4 1, 3, 0, 0, 0), (45, .goto (-29), 3, 11, 0, 0), (48, .iload_n 1, 1, 0, 0, 0), (49, .ireturn, 1, 0, 0, 0)]
set_option maxRecDepth 100000 in
noncomputable def rw_305 : List PRow := [
  (0, .aload_n 0, 1, 0, 0, 0), (1, .iconst 0, 1, 0, 0, 0), (2, .putfield 23, 3, 11, 2, 190), (5, .aload_n 0, 1, 0, 0, 0), (6, .invokevirtual 251, 3, 314, 0, 263), (9, .ireturn, 1, 0, 0, 0)]
set_option maxRecDepth 100000 in
noncomputable def rw_306 : List PRow := [
  (0, .aload_n 0, 1, 0, 0, 0), (1, .iconst 0, 1, 0, 0, 0), (2, .putfield 23, 3, 11, 2, 190), (5, .aload_n 0, 1, 0, 0, 0), (6, .getfield 12, 3, 11, 0, 188), (9, .invokevirtual 254, 3, 240, 0, 264), (12, .ireturn, 1, 0, 0, 0)]
set_option maxRecDepth 100000 in
noncomputable def rw_307 : List PRow := [
  (0, .aload_n 0, 1, 0, 0, 0), (1, .iconst 0, 1, 0, 0, 0), (2, .putfield 23, 3, 11, 2, 190), (5, .iload_n 1, 1, 0, 0, 0), (6, .invokestatic 48, 3, 244, 0, 221), (9, .ifCond .eq 22, 3, 15, 0, 0), (12, .iload_n 2, 1, 0, 0, 0), (13, .invokestatic 48, 3, 244, 0, 221),
  (16, .ifCond .eq 15, 3, 15, 0, 0), (19, .aload_n 0, 1, 0, 0, 0), (20, .getfield 12, 3, 11, 0, 188), (23, .iload_n 1, 1, 0, 0, 0), (24, .iload_n 2, 1, 0, 0, 0), (25, .invokevirtual 257, 3, 237, 0, 265), (28, .goto 8, 3, 18, 0, 0), (31, .aload_n 0, 1, 0, 0, 0),
  (32, .iconst 1, 1, 0, 0, 0), (33, .invokevirtual 45, 3, 243, 0, 220), (36, .ireturn, 1, 0, 0, 0)]
set_option maxRecDepth 100000 in
noncomputable def rw_308 : List PRow := [
  (0, .aload_n 0, 1, 0, 0, 0), (1, .iconst 0, 1, 0, 0, 0), (2, .putfield 23, 3, 11, 2, 190), (5, .iload_n 1, 1, 0, 0, 0), (6, .invokestatic 48, 3, 244, 0, 221), (9, .ifCond .eq 27, 3, 18, 0, 0), (12, .aload_n 0, 1, 0, 0, 0), (13, .getfield 12, 3, 11, 0, 188),
  (16, .iload_n 1, 1, 0, 0, 0), (17, .iload_n 2, 1, 0, 0, 0), (18, .invokevirtual 235, 3, 198, 0, 258), (21, .ifCond .eq 15, 3, 18, 0, 0), (24, .aload_n 0, 1, 0, 0, 0), (25, .getfield 12, 3, 11, 0, 188), (28, .iload_n 1, 1, 0, 0, 0), (29, .iload_n 2, 1, 0, 0, 0),
  (30, .invokevirtual 260, 3, 238, 0, 266), (33, .goto 8, 3, 21, 0, 0), (36, .aload_n 0, 1, 0, 0, 0), (37, .iconst 1, 1, 0, 0, 0), (38, .invokevirtual 45, 3, 243, 0, 220), (41, .ireturn, 1, 0, 0, 0)]
set_option maxRecDepth 100000 in
noncomputable def rw_309 : List PRow := [
  (0, .aload_n 0, 1, 0, 0, 0), (1, .iconst 0, 1, 0, 0, 0), (2, .putfield 23, 3, 11, 2, 190), (5, .iload_n 1, 1, 0, 0, 0), (6, .invokestatic 48, 3, 244, 0, 221), (9, .ifCond .eq 12, 3, 11, 0, 0), (12, .aload_n 0, 1, 0, 0, 0), (13, .getfield 12, 3, 11, 0, 188),
  (16, .iload_n 1, 1, 0, 0, 0), (17, .invokevirtual 263, 3, 239, 0, 267), (20, .ireturn, 1, 0, 0, 0), (21, .aload_n 0, 1, 0, 0, 0), (22, .iconst 1, 1, 0, 0, 0), (23, .putfield 23, 3, 11, 2, 190), (26, .iconst 0, 1, 0, 0, 0), (27, .ireturn, 1, 0, 0, 0)]
set_option maxRecDepth 100000 in
noncomputable def rw_310 : List PRow := [
  (0, .aload_n 0, 1, 0, 0, 0), (1, .iconst 0, 1, 0, 0, 0), (2, .putfield 23, 3, 11, 2, 190), (5, .iload_n 1, 1, 0, 0, 0), (6, .invokestatic 187, 3, 246, 0, 250), (9, .ifCond .ne 9, 3, 10, 0, 0), (12, .aload_n 0, 1, 0, 0, 0), (13, .iconst 1, 1, 0, 0, 0),
  (14, .invokevirtual 45, 3, 243, 0, 220), (17, .ireturn, 1, 0, 0, 0), (18, .iconst 0, 1, 0, 0, 0), (19, .istore_n 2, 1, 0, 0, 0), (20, .iconst 0, 1, 0, 0, 0), (21, .istore_n 3, 1, 0, 0, 0), (22, .iload_n 3, 1, 0, 0, 0), (23, .bipush 7, 2, 0, 0, 0),
  (25, .if_icmp .ge 90, 3, 63, 0, 0), (28, .aload_n 0, 1, 0, 0, 0), (29, .getfield 12, 3, 11, 0, 188), (32, .getfield 30, 3, 10, 2, 192), (35, .iload_n 3, 1, 0, 0, 0), (36, .baload, 1, 0, 0, 0), (37, .istore 4, 2, 0, 0, 0), (39, .iconst 0, 1, 0, 0, 0),
  (40, .istore 5, 2, 0, 0, 0), (42, .iload 5, 2, 0, 0, 0), (44, .iload_n 3, 1, 0, 0, 0), (45, .if_icmp .ge 51, 3, 53, 0, 0), (48, .aload_n 0, 1, 0, 0, 0), (49, .getfield 12, 3, 11, 0, 188), (52, .getfield 30, 3, 10, 2, 192), (55, .iload 5, 2, 0, 0, 0),
  (57, .baload, 1, 0, 0, 0), (58, .ifCond .eq 32, 3, 51, 0, 0), (61, .aload_n 0, 1, 0, 0, 0), (62, .getfield 12, 3, 11, 0, 188), (65, .getfield 110, 3, 10, 17, 201), (68, .iload 5, 2, 0, 0, 0), (70, .aaload, 1, 0, 0, 0), (71, .iload_n 1, 1, 0, 0, 0),
  (72, .iaload, 1, 0, 0, 0), (73, .aload_n 0, 1, 0, 0, 0), (74, .getfield 12, 3, 11, 0, 188), (77, .getfield 110, 3, 10, 17, 201), (80, .iload_n 3, 1, 0, 0, 0), (81, .aaload, 1, 0, 0, 0), (82, .iload_n 1, 1, 0, 0, 0), (83, .iaload, 1, 0, 0, 0),
  (84, .if_icmp .ne 6, 3, 51, 0, 0), (87, .iconst 0, 1, 0, 0, 0), (88, .istore 4, 2, 0, 0, 0), (90, .iinc 5 1, 3, 0, 0, 0), (93, .goto (-51), 3, 25, 0, 0), (96, .iload_n 2, 1, 0, 0, 0), (97, .iload 4, 2, 0, 0, 0), (99, .ifCond .eq 7, 3, 58, 0, 0),
  (102, .iconst 1, 1, 0, 0, 0), (103, .goto 4, 3, 59, 0, 0), (106, .iconst 0, 1, 0, 0, 0), (107, .iadd, 1, 0, 0, 0), (108, .istore_n 2, 1, 0, 0, 0), (109, .iinc 3 1, 3, 0, 0, 0), (112, .goto (-90), 3, 14, 0, 0), (115, .iload_n 2, 1, 0, 0, 0),
  (116, .ireturn, 1, 0, 0, 0)]
set_option maxRecDepth 100000 in
noncomputable def rw_311 : List PRow := [
  (0, .iload_n 1, 1, 0, 0, 0), (1, .ifCond .ne 11, 3, 6, 0, 0), (4, .aload_n 0, 1, 0, 0, 0), (5, .getfield 16, 3, 11, 1, 189), (8, .invokevirtual 266, 3, 234, 0, 268), (11, .ireturn, 1, 0, 0, 0), (12, .iload_n 1, 1, 0, 0, 0), (13, .iconst 1, 1, 0, 0, 0),
  (14, .if_icmp .ne 22, 3, 20, 0, 0), (17, .aload_n 0, 1, 0, 0, 0), (18, .getfield 16, 3, 11, 1, 189), (21, .getfield 196, 3, 10, 26, 209), (24, .iload_n 2, 1, 0, 0, 0), (25, .iaload, 1, 0, 0, 0), (26, .iconst 1, 1, 0, 0, 0), (27, .if_icmp .ne 7, 3, 18, 0, 0),
  (30, .iconst 1, 1, 0, 0, 0), (31, .goto 4, 3, 19, 0, 0), (34, .iconst 0, 1, 0, 0, 0), (35, .ireturn, 1, 0, 0, 0), (36, .iload_n 1, 1, 0, 0, 0), (37, .iconst 2, 1, 0, 0, 0), (38, .if_icmp .ne 13, 3, 27, 0, 0), (41, .aload_n 0, 1, 0, 0, 0),
  (42, .getfield 16, 3, 11, 1, 189), (45, .invokevirtual 270, 3, 235, 0, 269), (48, .goto 19, 3, 35, 0, 0), (51, .aload_n 0, 1, 0, 0, 0), (52, .getfield 16, 3, 11, 1, 189), (55, .invokevirtual 248, 3, 232, 0, 262), (58, .iconst (-1), 1, 0, 0, 0), (59, .if_icmp .eq 7, 3, 34, 0, 0),
  (62, .iconst 1, 1, 0, 0, 0), (63, .goto 4, 3, 35, 0, 0), (66, .iconst 0, 1, 0, 0, 0), (67, .ireturn, 1, 0, 0, 0)]
set_option maxRecDepth 100000 in
noncomputable def rw_312 : List PRow := [
  (0, .iconst 0, 1, 0, 0, 0), (1, .istore_n 3, 1, 0, 0, 0), (2, .aload_n 0, 1, 0, 0, 0), (3, .iload_n 1, 1, 0, 0, 0), (4, .iload_n 2, 1, 0, 0, 0), (5, .invokevirtual 273, 3, 321, 0, 270), (8, .ifCond .ne 24, 3, 17, 0, 0), (11, .iload_n 3, 1, 0, 0, 0),
  (12, .bipush 30, 2, 0, 0, 0), (14, .if_icmp .ne 5, 3, 12, 0, 0), (17, .iconst (-1), 1, 0, 0, 0), (18, .ireturn, 1, 0, 0, 0), (19, .aload_n 0, 1, 0, 0, 0), (20, .getfield 16, 3, 11, 1, 189), (23, .invokevirtual 69, 3, 230, 0, 226), (26, .iinc 3 1, 3, 0, 0, 0),
  (29, .goto (-27), 3, 2, 0, 0), (32, .iload_n 3, 1, 0, 0, 0), (33, .ireturn, 1, 0, 0, 0)]
set_option maxRecDepth 100000 in
noncomputable def rw_313 : List PRow := [
  (0, .aload_n 0, 1, 0, 0, 0), (1, .iconst 0, 1, 0, 0, 0), (2, .putfield 23, 3, 11, 2, 190), (5, .aload_n 0, 1, 0, 0, 0), (6, .getfield 16, 3, 11, 1, 189), (9, .aload_n 0, 1, 0, 0, 0), (10, .getfield 12, 3, 11, 0, 188), (13, .invokevirtual 276, 3, 191, 0, 271),
  (16, .aload_n 0, 1, 0, 0, 0), (17, .iconst 0, 1, 0, 0, 0), (18, .iconst 0, 1, 0, 0, 0), (19, .invokevirtual 280, 3, 322, 0, 272), (22, .ireturn, 1, 0, 0, 0)]
set_option maxRecDepth 100000 in
noncomputable def rw_314 : List PRow := [
  (0, .aload_n 0, 1, 0, 0, 0), (1, .iconst 0, 1, 0, 0, 0), (2, .putfield 23, 3, 11, 2, 190), (5, .iload_n 1, 1, 0, 0, 0), (6, .invokestatic 184, 3, 245, 0, 249), (9, .ifCond .ne 9, 3, 10, 0, 0), (12, .aload_n 0, 1, 0, 0, 0), (13, .iconst 1, 1, 0, 0, 0),
  (14, .invokevirtual 45, 3, 243, 0, 220), (17, .ireturn, 1, 0, 0, 0), (18, .aload_n 0, 1, 0, 0, 0), (19, .iload_n 1, 1, 0, 0, 0), (20, .invokevirtual 203, 3, 281, 0, 253), (23, .ifCond .ne 5, 3, 16, 0, 0), (26, .iconst 0, 1, 0, 0, 0), (27, .ireturn, 1, 0, 0, 0),
  (28, .aload_n 0, 1, 0, 0, 0), (29, .getfield 16, 3, 11, 1, 189), (32, .aload_n 0, 1, 0, 0, 0), (33, .getfield 12, 3, 11, 0, 188), (36, .invokevirtual 276, 3, 191, 0, 271), (39, .aload_n 0, 1, 0, 0, 0), (40, .iconst 1, 1, 0, 0, 0), (41, .iload_n 1, 1, 0, 0, 0),
  (42, .invokevirtual 280, 3, 322, 0, 272), (45, .ireturn, 1, 0, 0, 0)]
set_option maxRecDepth 100000 in
noncomputable def rw_315 : List PRow := [
  (0, .aload_n 0, 1, 0, 0, 0), (1, .iconst 0, 1, 0, 0, 0), (2, .putfield 23, 3, 11, 2, 190), (5, .aload_n 0, 1, 0, 0, 0), (6, .getfield 16, 3, 11, 1, 189), (9, .aload_n 0, 1, 0, 0, 0), (10, .getfield 12, 3, 11, 0, 188), (13, .invokevirtual 276, 3, 191, 0, 271),
  (16, .aload_n 0, 1, 0, 0, 0), (17, .iconst 2, 1, 0, 0, 0), (18, .iconst 0, 1, 0, 0, 0), (19, .invokevirtual 280, 3, 322, 0, 272), (22, .ireturn, 1, 0, 0, 0)]
set_option maxRecDepth 100000 in
noncomputable def rw_316 : List PRow := [
  (0, .aload_n 0, 1, 0, 0, 0), (1, .iconst 0, 1, 0, 0, 0), (2, .putfield 23, 3, 11, 2, 190), (5, .iload_n 1, 1, 0, 0, 0), (6, .invokestatic 48, 3, 244, 0, 221), (9, .ifCond .ne 9, 3, 10, 0, 0), (12, .aload_n 0, 1, 0, 0, 0), (13, .iconst 1, 1, 0, 0, 0),
  (14, .invokevirtual 45, 3, 243, 0, 220), (17, .ireturn, 1, 0, 0, 0), (18, .aload_n 0, 1, 0, 0, 0), (19, .getfield 12, 3, 11, 0, 188), (22, .iload_n 1, 1, 0, 0, 0), (23, .invokevirtual 72, 3, 236, 0, 227), (26, .ifCond .ne 5, 3, 17, 0, 0), (29, .iconst (-1), 1, 0, 0, 0),
  (30, .ireturn, 1, 0, 0, 0), (31, .aload_n 0, 1, 0, 0, 0), (32, .getfield 16, 3, 11, 1, 189), (35, .aload_n 0, 1, 0, 0, 0), (36, .getfield 12, 3, 11, 0, 188), (39, .invokevirtual 276, 3, 191, 0, 271), (42, .aload_n 0, 1, 0, 0, 0), (43, .getfield 16, 3, 11, 1, 189),
  (46, .iload_n 1, 1, 0, 0, 0), (47, .invokevirtual 75, 3, 214, 0, 228), (50, .iconst 0, 1, 0, 0, 0), (51, .istore_n 2, 1, 0, 0, 0), (52, .iload_n 2, 1, 0, 0, 0), (53, .iconst 3, 1, 0, 0, 0), (54, .if_icmp .ge 16, 3, 36, 0, 0), (57, .aload_n 0, 1, 0, 0, 0),
  (58, .getfield 16, 3, 11, 1, 189), (61, .invokevirtual 69, 3, 230, 0, 226), (64, .iinc 2 1, 3, 0, 0, 0), (67, .goto (-15), 3, 28, 0, 0), (70, .aload_n 0, 1, 0, 0, 0), (71, .getfield 16, 3, 11, 1, 189), (74, .getfield 42, 3, 10, 5, 194), (77, .iload_n 1, 1, 0, 0, 0),
  (78, .iaload, 1, 0, 0, 0), (79, .ireturn, 1, 0, 0, 0)]
set_option maxRecDepth 100000 in
noncomputable def rw_317 : List PRow := [
  (0, .aload_n 0, 1, 0, 0, 0), (1, .iconst 0, 1, 0, 0, 0), (2, .putfield 23, 3, 11, 2, 190), (5, .iload_n 1, 1, 0, 0, 0), (6, .invokestatic 48, 3, 244, 0, 221), (9, .ifCond .ne 9, 3, 10, 0, 0), (12, .aload_n 0, 1, 0, 0, 0), (13, .iconst 1, 1, 0, 0, 0),
  (14, .invokevirtual 45, 3, 243, 0, 220), (17, .ireturn, 1, 0, 0, 0), (18, .aload_n 0, 1, 0, 0, 0), (19, .getfield 12, 3, 11, 0, 188), (22, .getfield 30, 3, 10, 2, 192), (25, .iload_n 1, 1, 0, 0, 0), (26, .baload, 1, 0, 0, 0), (27, .ifCond .ne 9, 3, 20, 0, 0),
  (30, .aload_n 0, 1, 0, 0, 0), (31, .iconst 2, 1, 0, 0, 0), (32, .invokevirtual 45, 3, 243, 0, 220), (35, .ireturn, 1, 0, 0, 0), (36, .aload_n 0, 1, 0, 0, 0), (37, .getfield 16, 3, 11, 1, 189), (40, .aload_n 0, 1, 0, 0, 0), (41, .getfield 12, 3, 11, 0, 188),
  (44, .invokevirtual 276, 3, 191, 0, 271), (47, .aload_n 0, 1, 0, 0, 0), (48, .getfield 16, 3, 11, 1, 189), (51, .getfield 30, 3, 10, 2, 192), (54, .iload_n 1, 1, 0, 0, 0), (55, .iconst 0, 1, 0, 0, 0), (56, .bastore, 1, 0, 0, 0), (57, .aload_n 0, 1, 0, 0, 0),
  (58, .getfield 16, 3, 11, 1, 189), (61, .iload_n 1, 1, 0, 0, 0), (62, .invokevirtual 52, 3, 193, 0, 222), (65, .aload_n 0, 1, 0, 0, 0), (66, .iconst 3, 1, 0, 0, 0), (67, .iconst 0, 1, 0, 0, 0), (68, .invokevirtual 280, 3, 322, 0, 272), (71, .ireturn, 1, 0, 0, 0)]
set_option maxRecDepth 100000 in
noncomputable def rw_318 : List PRow := [
  (0, .aload_n 0, 1, 0, 0, 0), (1, .iconst 0, 1, 0, 0, 0), (2, .putfield 23, 3, 11, 2, 190), (5, .iconst 0, 1, 0, 0, 0), (6, .istore_n 1, 1, 0, 0, 0), (7, .iconst 0, 1, 0, 0, 0), (8, .istore_n 2, 1, 0, 0, 0), (9, .iload_n 2, 1, 0, 0, 0),
  (10, .bipush 7, 2, 0, 0, 0), (12, .if_icmp .ge 37, 3, 28, 0, 0), (15, .iload_n 1, 1, 0, 0, 0), (16, .aload_n 0, 1, 0, 0, 0), (17, .getfield 12, 3, 11, 0, 188), (20, .getfield 30, 3, 10, 2, 192), (23, .iload_n 2, 1, 0, 0, 0), (24, .baload, 1, 0, 0, 0),
  (25, .ifCond .eq 15, 3, 23, 0, 0), (28, .aload_n 0, 1, 0, 0, 0), (29, .getfield 12, 3, 11, 0, 188), (32, .getfield 138, 3, 10, 8, 205), (35, .iload_n 2, 1, 0, 0, 0), (36, .iaload, 1, 0, 0, 0), (37, .goto 4, 3, 24, 0, 0), (40, .iconst 0, 1, 0, 0, 0),
  (41, .iadd, 1, 0, 0, 0), (42, .istore_n 1, 1, 0, 0, 0), (43, .iinc 2 1, 3, 0, 0, 0), (46, .goto (-37), 3, 7, 0, 0), (49, .aload_n 0, 1, 0, 0, 0), (50, .invokevirtual 55, 3, 249, 0, 223), (53, .ifCond .ne 7, 3, 33, 0, 0), (56, .dconst 0, 1, 0, 0, 0),
  (57, .goto 11, 3, 39, 0, 0), (60, .iload_n 1, 1, 0, 0, 0), (61, .i2d, 1, 0, 0, 0), (62, .aload_n 0, 1, 0, 0, 0), (63, .invokevirtual 55, 3, 249, 0, 223), (66, .i2d, 1, 0, 0, 0), (67, .ddiv, 1, 0, 0, 0), (68, .dreturn, 1, 0, 0, 0)]
set_option maxRecDepth 100000 in
noncomputable def rw_319 : List PRow := [
  (0, .aload_n 0, 1, 0, 0, 0), (1, .aload_n 0, 1, 0, 0, 0), (2, .getfield 283, 3, 11, 3, 215), (5, .ldc2_w 287, 3, 31, 0, 3), (8, .lmul, 1, 0, 0, 0), (9, .iload_n 1, 1, 0, 0, 0), (10, .i2l, 1, 0, 0, 0), (11, .ladd, 1, 0, 0, 0),
  (12, .putfield 283, 3, 11, 3, 215), (15, .return_, 1, 0, 0, 0)]
set_option maxRecDepth 100000 in
noncomputable def rw_320 : List PRow := [
  (0, .aload_n 0, 1, 0, 0, 0), (1, .aload_n 0, 1, 0, 0, 0), (2, .getfield 12, 3, 11, 0, 188), (5, .getfield 30, 3, 10, 2, 192), (8, .iload_n 1, 1, 0, 0, 0), (9, .baload, 1, 0, 0, 0), (10, .ifCond .eq 7, 3, 9, 0, 0), (13, .iconst 1, 1, 0, 0, 0),
  (14, .goto 4, 3, 10, 0, 0), (17, .iconst 0, 1, 0, 0, 0), (18, .invokevirtual 289, 3, 329, 0, 273), (21, .aload_n 0, 1, 0, 0, 0), (22, .aload_n 0, 1, 0, 0, 0), (23, .getfield 12, 3, 11, 0, 188), (26, .getfield 42, 3, 10, 5, 194), (29, .iload_n 1, 1, 0, 0, 0),
  (30, .iaload, 1, 0, 0, 0), (31, .invokevirtual 289, 3, 329, 0, 273), (34, .aload_n 0, 1, 0, 0, 0), (35, .aload_n 0, 1, 0, 0, 0), (36, .getfield 12, 3, 11, 0, 188), (39, .getfield 131, 3, 10, 3, 204), (42, .iload_n 1, 1, 0, 0, 0), (43, .iaload, 1, 0, 0, 0),
  (44, .invokevirtual 289, 3, 329, 0, 273), (47, .aload_n 0, 1, 0, 0, 0), (48, .aload_n 0, 1, 0, 0, 0), (49, .getfield 12, 3, 11, 0, 188), (52, .getfield 220, 3, 10, 4, 212), (55, .iload_n 1, 1, 0, 0, 0), (56, .iaload, 1, 0, 0, 0), (57, .invokevirtual 289, 3, 329, 0, 273),
  (60, .aload_n 0, 1, 0, 0, 0), (61, .aload_n 0, 1, 0, 0, 0), (62, .getfield 12, 3, 11, 0, 188), (65, .getfield 223, 3, 10, 6, 213), (68, .iload_n 1, 1, 0, 0, 0), (69, .iaload, 1, 0, 0, 0), (70, .invokevirtual 289, 3, 329, 0, 273), (73, .aload_n 0, 1, 0, 0, 0),
  (74, .aload_n 0, 1, 0, 0, 0), (75, .getfield 12, 3, 11, 0, 188), (78, .getfield 226, 3, 10, 7, 214), (81, .iload_n 1, 1, 0, 0, 0), (82, .iaload, 1, 0, 0, 0), (83, .invokevirtual 289, 3, 329, 0, 273), (86, .aload_n 0, 1, 0, 0, 0), (87, .aload_n 0, 1, 0, 0, 0),
  (88, .getfield 12, 3, 11, 0, 188), (91, .getfield 87, 3, 10, 13, 197), (94, .iload_n 1, 1, 0, 0, 0), (95, .iaload, 1, 0, 0, 0), (96, .invokevirtual 289, 3, 329, 0, 273), (99, .aload_n 0, 1, 0, 0, 0), (100, .aload_n 0, 1, 0, 0, 0), (101, .getfield 12, 3, 11, 0, 188),
  (104, .iload_n 1, 1, 0, 0, 0), (105, .invokevirtual 128, 3, 197, 0, 236), (108, .invokevirtual 289, 3, 329, 0, 273), (111, .aload_n 0, 1, 0, 0, 0), (112, .aload_n 0, 1, 0, 0, 0), (113, .getfield 12, 3, 11, 0, 188), (116, .iload_n 1, 1, 0, 0, 0), (117, .invokevirtual 232, 3, 202, 0, 257),
  (120, .invokevirtual 289, 3, 329, 0, 273), (123, .aload_n 0, 1, 0, 0, 0), (124, .aload_n 0, 1, 0, 0, 0), (125, .getfield 12, 3, 11, 0, 188), (128, .getfield 138, 3, 10, 8, 205), (131, .iload_n 1, 1, 0, 0, 0), (132, .iaload, 1, 0, 0, 0), (133, .invokevirtual 289, 3, 329, 0, 273),
  (136, .aload_n 0, 1, 0, 0, 0), (137, .aload_n 0, 1, 0, 0, 0), (138, .getfield 12, 3, 11, 0, 188), (141, .iload_n 1, 1, 0, 0, 0), (142, .invokevirtual 144, 3, 205, 0, 239), (145, .invokestatic 38, 3, 207, 0, 219), (148, .invokevirtual 289, 3, 329, 0, 273), (151, .aload_n 0, 1, 0, 0, 0),
  (152, .aload_n 0, 1, 0, 0, 0), (153, .getfield 12, 3, 11, 0, 188), (156, .iload_n 1, 1, 0, 0, 0), (157, .invokevirtual 263, 3, 239, 0, 267), (160, .ifCond .eq 7, 3, 87, 0, 0), (163, .iconst 1, 1, 0, 0, 0), (164, .goto 4, 3, 88, 0, 0), (167, .iconst 0, 1, 0, 0, 0),
  (168, .invokevirtual 289, 3, 329, 0, 273), (171, .aload_n 0, 1, 0, 0, 0), (172, .getfield 12, 3, 11, 0, 188), (175, .getfield 87, 3, 10, 13, 197), (178, .iload_n 1, 1, 0, 0, 0), (179, .iaload, 1, 0, 0, 0), (180, .iconst 1, 1, 0, 0, 0), (181, .iadd, 1, 0, 0, 0),
  (182, .istore_n 2, 1, 0, 0, 0), (183, .iload_n 2, 1, 0, 0, 0), (184, .aload_n 0, 1, 0, 0, 0), (185, .getfield 12, 3, 11, 0, 188), (188, .iload_n 1, 1, 0, 0, 0), (189, .invokevirtual 128, 3, 197, 0, 236), (192, .if_icmp .gt 88, 3, 150, 0, 0), (195, .aload_n 0, 1, 0, 0, 0),
  (196, .aload_n 0, 1, 0, 0, 0), (197, .getfield 12, 3, 11, 0, 188), (200, .iload_n 1, 1, 0, 0, 0), (201, .iload_n 2, 1, 0, 0, 0), (202, .iconst 0, 1, 0, 0, 0), (203, .invokevirtual 238, 3, 200, 0, 259), (206, .invokevirtual 289, 3, 329, 0, 273), (209, .aload_n 0, 1, 0, 0, 0),
  (210, .aload_n 0, 1, 0, 0, 0), (211, .getfield 12, 3, 11, 0, 188), (214, .iload_n 1, 1, 0, 0, 0), (215, .iload_n 2, 1, 0, 0, 0), (216, .iconst 1, 1, 0, 0, 0), (217, .invokevirtual 238, 3, 200, 0, 259), (220, .invokevirtual 289, 3, 329, 0, 273), (223, .aload_n 0, 1, 0, 0, 0),
  (224, .aload_n 0, 1, 0, 0, 0), (225, .iload_n 1, 1, 0, 0, 0), (226, .iload_n 2, 1, 0, 0, 0), (227, .invokevirtual 292, 3, 305, 0, 274), (230, .invokevirtual 289, 3, 329, 0, 273), (233, .aload_n 0, 1, 0, 0, 0), (234, .aload_n 0, 1, 0, 0, 0), (235, .getfield 12, 3, 11, 0, 188),
  (238, .iload_n 1, 1, 0, 0, 0), (239, .iload_n 2, 1, 0, 0, 0), (240, .iconst 2, 1, 0, 0, 0), (241, .invokevirtual 238, 3, 200, 0, 259), (244, .invokevirtual 289, 3, 329, 0, 273), (247, .aload_n 0, 1, 0, 0, 0), (248, .aload_n 0, 1, 0, 0, 0), (249, .getfield 12, 3, 11, 0, 188),
  (252, .iload_n 1, 1, 0, 0, 0), (253, .iload_n 2, 1, 0, 0, 0), (254, .iconst 3, 1, 0, 0, 0), (255, .invokevirtual 238, 3, 200, 0, 259), (258, .invokevirtual 289, 3, 329, 0, 273), (261, .aload_n 0, 1, 0, 0, 0), (262, .aload_n 0, 1, 0, 0, 0), (263, .getfield 12, 3, 11, 0, 188),
  (266, .iload_n 1, 1, 0, 0, 0), (267, .iload_n 2, 1, 0, 0, 0), (268, .invokevirtual 260, 3, 238, 0, 266), (271, .invokevirtual 289, 3, 329, 0, 273), (274, .iinc 2 1, 3, 0, 0, 0), (277, .goto (-94), 3, 97, 0, 0), (280, .iconst 0, 1, 0, 0, 0), (281, .istore_n 2, 1, 0, 0, 0),
  (282, .iload_n 2, 1, 0, 0, 0), (283, .bipush 12, 2, 0, 0, 0), (285, .if_icmp .ge 24, 3, 166, 0, 0), (288, .aload_n 0, 1, 0, 0, 0), (289, .aload_n 0, 1, 0, 0, 0), (290, .getfield 12, 3, 11, 0, 188), (293, .getfield 110, 3, 10, 17, 201), (296, .iload_n 1, 1, 0, 0, 0),
  (297, .aaload, 1, 0, 0, 0), (298, .iload_n 2, 1, 0, 0, 0), (299, .iaload, 1, 0, 0, 0), (300, .invokevirtual 289, 3, 329, 0, 273), (303, .iinc 2 1, 3, 0, 0, 0), (306, .goto (-24), 3, 152, 0, 0), (309, .iconst 0, 1, 0, 0, 0), (310, .istore_n 2, 1, 0, 0, 0),
  (311, .iload_n 2, 1, 0, 0, 0), (312, .bipush 7, 2, 0, 0, 0), (314, .if_icmp .ge 55, 3, 199, 0, 0), (317, .aload_n 0, 1, 0, 0, 0), (318, .iload_n 1, 1, 0, 0, 0), (319, .invokevirtual 78, 3, 251, 0, 229), (322, .ifCond .eq 47, 3, 199, 0, 0), (325, .iload_n 2, 1, 0, 0, 0),
  (326, .iload_n 1, 1, 0, 0, 0), (327, .if_icmp .ne 6, 3, 179, 0, 0), (330, .goto 33, 3, 197, 0, 0), (333, .aload_n 0, 1, 0, 0, 0), (334, .aload_n 0, 1, 0, 0, 0), (335, .getfield 12, 3, 11, 0, 188), (338, .getfield 151, 3, 10, 20, 206), (341, .iload_n 1, 1, 0, 0, 0),
  (342, .aaload, 1, 0, 0, 0), (343, .iload_n 2, 1, 0, 0, 0), (344, .iaload, 1, 0, 0, 0), (345, .invokevirtual 289, 3, 329, 0, 273), (348, .aload_n 0, 1, 0, 0, 0), (349, .aload_n 0, 1, 0, 0, 0), (350, .getfield 12, 3, 11, 0, 188), (353, .getfield 125, 3, 10, 21, 203),
  (356, .iload_n 1, 1, 0, 0, 0), (357, .aaload, 1, 0, 0, 0), (358, .iload_n 2, 1, 0, 0, 0), (359, .iaload, 1, 0, 0, 0), (360, .invokevirtual 289, 3, 329, 0, 273), (363, .iinc 2 1, 3, 0, 0, 0), (366, .goto (-55), 3, 168, 0, 0), (369, .iconst 0, 1, 0, 0, 0),
  (370, .istore_n 2, 1, 0, 0, 0), (371, .iload_n 2, 1, 0, 0, 0), (372, .bipush 7, 2, 0, 0, 0), (374, .if_icmp .ge 22, 3, 213, 0, 0), (377, .aload_n 0, 1, 0, 0, 0), (378, .aload_n 0, 1, 0, 0, 0), (379, .getfield 12, 3, 11, 0, 188), (382, .iload_n 1, 1, 0, 0, 0),
  (383, .iload_n 2, 1, 0, 0, 0), (384, .invokevirtual 257, 3, 237, 0, 265), (387, .invokevirtual 289, 3, 329, 0, 273), (390, .iinc 2 1, 3, 0, 0, 0), (393, .goto (-22), 3, 201, 0, 0), (396, .return_, 1, 0, 0, 0)]
set_option maxRecDepth 100000 in
noncomputable def rw_321 : List PRow := [
  (0, .aload_n 0, 1, 0, 0, 0), (1, .ldc2_w 295, 3, 2423, 0, 4), (4, .putfield 283, 3, 11, 3, 215), (7, .aload_n 0, 1, 0, 0, 0), (8, .aload_n 0, 1, 0, 0, 0), (9, .getfield 12, 3, 11, 0, 188), (12, .getfield 213, 3, 10, 0, 211), (15, .invokevirtual 289, 3, 329, 0, 273),
  (18, .aload_n 0, 1, 0, 0, 0), (19, .aload_n 0, 1, 0, 0, 0), (20, .getfield 12, 3, 11, 0, 188), (23, .getfield 66, 3, 10, 1, 195), (26, .invokevirtual 289, 3, 329, 0, 273), (29, .aload_n 0, 1, 0, 0, 0), (30, .aload_n 0, 1, 0, 0, 0), (31, .getfield 12, 3, 11, 0, 188),
  (34, .getfield 27, 3, 10, 22, 191), (37, .invokevirtual 289, 3, 329, 0, 273), (40, .aload_n 0, 1, 0, 0, 0), (41, .aload_n 0, 1, 0, 0, 0), (42, .getfield 12, 3, 11, 0, 188), (45, .invokevirtual 248, 3, 232, 0, 262), (48, .invokevirtual 289, 3, 329, 0, 273), (51, .aload_n 0, 1, 0, 0, 0),
  (52, .aload_n 0, 1, 0, 0, 0), (53, .invokevirtual 251, 3, 314, 0, 263), (56, .invokevirtual 289, 3, 329, 0, 273), (59, .aload_n 0, 1, 0, 0, 0), (60, .aload_n 0, 1, 0, 0, 0), (61, .getfield 12, 3, 11, 0, 188), (64, .invokevirtual 254, 3, 240, 0, 264), (67, .invokevirtual 289, 3, 329, 0, 273),
  (70, .iconst 0, 1, 0, 0, 0), (71, .istore_n 1, 1, 0, 0, 0), (72, .iload_n 1, 1, 0, 0, 0), (73, .aload_n 0, 1, 0, 0, 0), (74, .getfield 12, 3, 11, 0, 188), (77, .getfield 27, 3, 10, 22, 191), (80, .if_icmp .ge 49, 3, 64, 0, 0), (83, .iconst 0, 1, 0, 0, 0),
  (84, .istore_n 2, 1, 0, 0, 0), (85, .iload_n 2, 1, 0, 0, 0), (86, .iconst 4, 1, 0, 0, 0), (87, .if_icmp .ge 27, 3, 57, 0, 0), (90, .aload_n 0, 1, 0, 0, 0), (91, .aload_n 0, 1, 0, 0, 0), (92, .getfield 12, 3, 11, 0, 188), (95, .getfield 172, 3, 10, 23, 207),
  (98, .iload_n 1, 1, 0, 0, 0), (99, .bipush 36, 2, 0, 0, 0), (101, .imul, 1, 0, 0, 0), (102, .iload_n 2, 1, 0, 0, 0), (103, .iadd, 1, 0, 0, 0), (104, .iaload, 1, 0, 0, 0), (105, .invokevirtual 289, 3, 329, 0, 273), (108, .iinc 2 1, 3, 0, 0, 0),
  (111, .goto (-26), 3, 41, 0, 0), (114, .aload_n 0, 1, 0, 0, 0), (115, .aload_n 0, 1, 0, 0, 0), (116, .iload_n 1, 1, 0, 0, 0), (117, .invokevirtual 297, 3, 276, 0, 275), (120, .invokevirtual 289, 3, 329, 0, 273), (123, .iinc 1 1, 3, 0, 0, 0), (126, .goto (-54), 3, 34, 0, 0),
  (129, .iconst 0, 1, 0, 0, 0), (130, .istore_n 1, 1, 0, 0, 0), (131, .iload_n 1, 1, 0, 0, 0), (132, .iconst 4, 1, 0, 0, 0), (133, .if_icmp .ge 66, 3, 103, 0, 0), (136, .aload_n 0, 1, 0, 0, 0), (137, .aload_n 0, 1, 0, 0, 0), (138, .getfield 12, 3, 11, 0, 188),
  (141, .getfield 193, 3, 10, 25, 208), (144, .iload_n 1, 1, 0, 0, 0), (145, .bipush 7, 2, 0, 0, 0), (147, .imul, 1, 0, 0, 0), (148, .iconst 3, 1, 0, 0, 0), (149, .iadd, 1, 0, 0, 0), (150, .iaload, 1, 0, 0, 0), (151, .invokevirtual 289, 3, 329, 0, 273),
  (154, .aload_n 0, 1, 0, 0, 0), (155, .aload_n 0, 1, 0, 0, 0), (156, .getfield 12, 3, 11, 0, 188), (159, .getfield 196, 3, 10, 26, 209), (162, .iload_n 1, 1, 0, 0, 0), (163, .iaload, 1, 0, 0, 0), (164, .invokevirtual 289, 3, 329, 0, 273), (167, .aload_n 0, 1, 0, 0, 0),
  (168, .getfield 12, 3, 11, 0, 188), (171, .getfield 196, 3, 10, 26, 209), (174, .iload_n 1, 1, 0, 0, 0), (175, .iaload, 1, 0, 0, 0), (176, .iconst 1, 1, 0, 0, 0), (177, .if_icmp .ne 16, 3, 101, 0, 0), (180, .aload_n 0, 1, 0, 0, 0), (181, .aload_n 0, 1, 0, 0, 0),
  (182, .getfield 12, 3, 11, 0, 188), (185, .getfield 210, 3, 10, 27, 210), (188, .iload_n 1, 1, 0, 0, 0), (189, .iaload, 1, 0, 0, 0), (190, .invokevirtual 289, 3, 329, 0, 273), (193, .iinc 1 1, 3, 0, 0, 0), (196, .goto (-65), 3, 66, 0, 0), (199, .iconst 0, 1, 0, 0, 0),
  (200, .istore_n 1, 1, 0, 0, 0), (201, .iload_n 1, 1, 0, 0, 0), (202, .bipush 7, 2, 0, 0, 0), (204, .if_icmp .ge 14, 3, 113, 0, 0), (207, .aload_n 0, 1, 0, 0, 0), (208, .iload_n 1, 1, 0, 0, 0), (209, .invokevirtual 300, 3, 330, 0, 276), (212, .iinc 1 1, 3, 0, 0, 0),
  (215, .goto (-14), 3, 105, 0, 0), (218, .aload_n 0, 1, 0, 0, 0), (219, .iconst 0, 1, 0, 0, 0), (220, .putfield 23, 3, 11, 2, 190), (223, .aload_n 0, 1, 0, 0, 0), (224, .getfield 283, 3, 11, 3, 215), (227, .lreturn, 1, 0, 0, 0)]
set_option maxRecDepth 100000 in
noncomputable def rw_322 : List PRow := [
  (0, .aload_n 2, 1, 0, 0, 0), (1, .iconst 0, 1, 0, 0, 0), (2, .aload_n 0, 1, 0, 0, 0), (3, .iload_n 1, 1, 0, 0, 0), (4, .invokevirtual 7, 3, 105, 0, 277), (7, .i2l, 1, 0, 0, 0), (8, .lastore, 1, 0, 0, 0), (9, .goto 6, 3, 11, 0, 0),
  (12, .astore_n 3, 1, 0, 0, 0), (13, .iconst 1, 1, 0, 0, 0), (14, .ireturn, 1, 0, 0, 0), (15, .iconst 0, 1, 0, 0, 0), (16, .ireturn, 1, 0, 0, 0)]
set_option maxRecDepth 100000 in
noncomputable def rw_323 : List PRow := [
  (0, .aload_n 2, 1, 0, 0, 0), (1, .iconst 0, 1, 0, 0, 0), (2, .aload_n 0, 1, 0, 0, 0), (3, .iload_n 1, 1, 0, 0, 0), (4, .invokevirtual 15, 3, 106, 0, 278), (7, .i2l, 1, 0, 0, 0), (8, .lastore, 1, 0, 0, 0), (9, .goto 9, 3, 14, 0, 0),
  (12, .astore_n 3, 1, 0, 0, 0), (13, .iconst 1, 1, 0, 0, 0), (14, .ireturn, 1, 0, 0, 0), (15, .astore_n 3, 1, 0, 0, 0), (16, .iconst 2, 1, 0, 0, 0), (17, .ireturn, 1, 0, 0, 0), (18, .iconst 0, 1, 0, 0, 0), (19, .ireturn, 1, 0, 0, 0)]
set_option maxRecDepth 100000 in
noncomputable def rw_324 : List PRow := [
  (0, .aload_n 2, 1, 0, 0, 0), (1, .iconst 0, 1, 0, 0, 0), (2, .aload_n 0, 1, 0, 0, 0), (3, .iload_n 1, 1, 0, 0, 0), (4, .invokevirtual 22, 3, 107, 0, 279), (7, .i2l, 1, 0, 0, 0), (8, .lastore, 1, 0, 0, 0), (9, .goto 9, 3, 14, 0, 0),
  (12, .astore_n 3, 1, 0, 0, 0), (13, .iconst 1, 1, 0, 0, 0), (14, .ireturn, 1, 0, 0, 0), (15, .astore_n 3, 1, 0, 0, 0), (16, .iconst 2, 1, 0, 0, 0), (17, .ireturn, 1, 0, 0, 0), (18, .iconst 0, 1, 0, 0, 0), (19, .ireturn, 1, 0, 0, 0)]
set_option maxRecDepth 100000 in
noncomputable def rw_325 : List PRow := [
  (0, .aload_n 3, 1, 0, 0, 0), (1, .iconst 0, 1, 0, 0, 0), (2, .aload_n 0, 1, 0, 0, 0), (3, .iload_n 1, 1, 0, 0, 0), (4, .iload_n 2, 1, 0, 0, 0), (5, .invokevirtual 25, 3, 108, 0, 280), (8, .i2l, 1, 0, 0, 0), (9, .lastore, 1, 0, 0, 0),
  (10, .goto 15, 3, 18, 0, 0), (13, .astore 4, 2, 0, 0, 0), (15, .iconst 1, 1, 0, 0, 0), (16, .ireturn, 1, 0, 0, 0), (17, .astore 4, 2, 0, 0, 0), (19, .iconst 2, 1, 0, 0, 0), (20, .ireturn, 1, 0, 0, 0), (21, .astore 4, 2, 0, 0, 0),
  (23, .iconst 3, 1, 0, 0, 0), (24, .ireturn, 1, 0, 0, 0), (25, .iconst 0, 1, 0, 0, 0), (26, .ireturn, 1, 0, 0, 0)]
set_option maxRecDepth 100000 in
noncomputable def rw_326 : List PRow := [
  (0, .aload_n 3, 1, 0, 0, 0), (1, .iconst 0, 1, 0, 0, 0), (2, .aload_n 0, 1, 0, 0, 0), (3, .iload_n 1, 1, 0, 0, 0), (4, .iload_n 2, 1, 0, 0, 0), (5, .invokevirtual 29, 3, 109, 0, 281), (8, .i2l, 1, 0, 0, 0), (9, .lastore, 1, 0, 0, 0),
  (10, .goto 15, 3, 18, 0, 0), (13, .astore 4, 2, 0, 0, 0), (15, .iconst 1, 1, 0, 0, 0), (16, .ireturn, 1, 0, 0, 0), (17, .astore 4, 2, 0, 0, 0), (19, .iconst 2, 1, 0, 0, 0), (20, .ireturn, 1, 0, 0, 0), (21, .astore 4, 2, 0, 0, 0),
  (23, .iconst 3, 1, 0, 0, 0), (24, .ireturn, 1, 0, 0, 0), (25, .iconst 0, 1, 0, 0, 0), (26, .ireturn, 1, 0, 0, 0)]
set_option maxRecDepth 100000 in
noncomputable def rw_327 : List PRow := [
  (0, .aload_n 2, 1, 0, 0, 0), (1, .iconst 0, 1, 0, 0, 0), (2, .aload_n 0, 1, 0, 0, 0), (3, .iload_n 1, 1, 0, 0, 0), (4, .invokevirtual 32, 3, 110, 0, 282), (7, .i2l, 1, 0, 0, 0), (8, .lastore, 1, 0, 0, 0), (9, .goto 6, 3, 11, 0, 0),
  (12, .astore_n 3, 1, 0, 0, 0), (13, .iconst 1, 1, 0, 0, 0), (14, .ireturn, 1, 0, 0, 0), (15, .iconst 0, 1, 0, 0, 0), (16, .ireturn, 1, 0, 0, 0)]
set_option maxRecDepth 100000 in
noncomputable def rw_328 : List PRow := [
  (0, .aload_n 2, 1, 0, 0, 0), (1, .iconst 0, 1, 0, 0, 0), (2, .aload_n 0, 1, 0, 0, 0), (3, .iload_n 1, 1, 0, 0, 0), (4, .invokevirtual 35, 3, 111, 0, 283), (7, .i2l, 1, 0, 0, 0), (8, .lastore, 1, 0, 0, 0), (9, .goto 9, 3, 14, 0, 0),
  (12, .astore_n 3, 1, 0, 0, 0), (13, .iconst 1, 1, 0, 0, 0), (14, .ireturn, 1, 0, 0, 0), (15, .astore_n 3, 1, 0, 0, 0), (16, .iconst 2, 1, 0, 0, 0), (17, .ireturn, 1, 0, 0, 0), (18, .iconst 0, 1, 0, 0, 0), (19, .ireturn, 1, 0, 0, 0)]
set_option maxRecDepth 100000 in
noncomputable def rw_329 : List PRow := [
  (0, .aload_n 2, 1, 0, 0, 0), (1, .iconst 0, 1, 0, 0, 0), (2, .aload_n 0, 1, 0, 0, 0), (3, .iload_n 1, 1, 0, 0, 0), (4, .invokevirtual 38, 3, 112, 0, 284), (7, .i2l, 1, 0, 0, 0), (8, .lastore, 1, 0, 0, 0), (9, .goto 9, 3, 14, 0, 0),
  (12, .astore_n 3, 1, 0, 0, 0), (13, .iconst 1, 1, 0, 0, 0), (14, .ireturn, 1, 0, 0, 0), (15, .astore_n 3, 1, 0, 0, 0), (16, .iconst 2, 1, 0, 0, 0), (17, .ireturn, 1, 0, 0, 0), (18, .iconst 0, 1, 0, 0, 0), (19, .ireturn, 1, 0, 0, 0)]
set_option maxRecDepth 100000 in
noncomputable def rw_330 : List PRow := [
  (0, .aload_n 2, 1, 0, 0, 0), (1, .iconst 0, 1, 0, 0, 0), (2, .aload_n 0, 1, 0, 0, 0), (3, .iload_n 1, 1, 0, 0, 0), (4, .invokevirtual 41, 3, 113, 0, 285), (7, .i2l, 1, 0, 0, 0), (8, .lastore, 1, 0, 0, 0), (9, .goto 9, 3, 14, 0, 0),
  (12, .astore_n 3, 1, 0, 0, 0), (13, .iconst 1, 1, 0, 0, 0), (14, .ireturn, 1, 0, 0, 0), (15, .astore_n 3, 1, 0, 0, 0), (16, .iconst 2, 1, 0, 0, 0), (17, .ireturn, 1, 0, 0, 0), (18, .iconst 0, 1, 0, 0, 0), (19, .ireturn, 1, 0, 0, 0)]
set_option maxRecDepth 100000 in
noncomputable def rw_331 : List PRow := [
  (0, .aload_n 3, 1, 0, 0, 0), (1, .iconst 0, 1, 0, 0, 0), (2, .aload_n 0, 1, 0, 0, 0), (3, .iload_n 1, 1, 0, 0, 0), (4, .iload_n 2, 1, 0, 0, 0), (5, .invokevirtual 44, 3, 114, 0, 286), (8, .i2l, 1, 0, 0, 0), (9, .lastore, 1, 0, 0, 0),
  (10, .goto 15, 3, 18, 0, 0), (13, .astore 4, 2, 0, 0, 0), (15, .iconst 1, 1, 0, 0, 0), (16, .ireturn, 1, 0, 0, 0), (17, .astore 4, 2, 0, 0, 0), (19, .iconst 2, 1, 0, 0, 0), (20, .ireturn, 1, 0, 0, 0), (21, .astore 4, 2, 0, 0, 0),
  (23, .iconst 3, 1, 0, 0, 0), (24, .ireturn, 1, 0, 0, 0), (25, .iconst 0, 1, 0, 0, 0), (26, .ireturn, 1, 0, 0, 0)]
set_option maxRecDepth 100000 in
noncomputable def rw_332 : List PRow := [
  (0, .aload_n 3, 1, 0, 0, 0), (1, .iconst 0, 1, 0, 0, 0), (2, .aload_n 0, 1, 0, 0, 0), (3, .iload_n 1, 1, 0, 0, 0), (4, .iload_n 2, 1, 0, 0, 0), (5, .invokevirtual 47, 3, 115, 0, 287), (8, .i2l, 1, 0, 0, 0), (9, .lastore, 1, 0, 0, 0),
  (10, .goto 11, 3, 15, 0, 0), (13, .astore 4, 2, 0, 0, 0), (15, .iconst 1, 1, 0, 0, 0), (16, .ireturn, 1, 0, 0, 0), (17, .astore 4, 2, 0, 0, 0), (19, .iconst 2, 1, 0, 0, 0), (20, .ireturn, 1, 0, 0, 0), (21, .iconst 0, 1, 0, 0, 0),
  (22, .ireturn, 1, 0, 0, 0)]
set_option maxRecDepth 100000 in
noncomputable def rw_333 : List PRow := [
  (0, .aload_n 3, 1, 0, 0, 0), (1, .iconst 0, 1, 0, 0, 0), (2, .aload_n 0, 1, 0, 0, 0), (3, .iload_n 1, 1, 0, 0, 0), (4, .iload_n 2, 1, 0, 0, 0), (5, .invokevirtual 50, 3, 116, 0, 288), (8, .i2l, 1, 0, 0, 0), (9, .lastore, 1, 0, 0, 0),
  (10, .goto 11, 3, 15, 0, 0), (13, .astore 4, 2, 0, 0, 0), (15, .iconst 1, 1, 0, 0, 0), (16, .ireturn, 1, 0, 0, 0), (17, .astore 4, 2, 0, 0, 0), (19, .iconst 2, 1, 0, 0, 0), (20, .ireturn, 1, 0, 0, 0), (21, .iconst 0, 1, 0, 0, 0),
  (22, .ireturn, 1, 0, 0, 0)]
set_option maxRecDepth 100000 in
noncomputable def rw_334 : List PRow := [
  (0, .aload_n 2, 1, 0, 0, 0), (1, .iconst 0, 1, 0, 0, 0), (2, .aload_n 0, 1, 0, 0, 0), (3, .iload_n 1, 1, 0, 0, 0), (4, .invokevirtual 53, 3, 118, 0, 289), (7, .ifCond .eq 7, 3, 8, 0, 0), (10, .lconst 1, 1, 0, 0, 0), (11, .goto 4, 3, 9, 0, 0),
  (14, .lconst 0, 1, 0, 0, 0), (15, .lastore, 1, 0, 0, 0), (16, .goto 6, 3, 14, 0, 0), (19, .astore_n 3, 1, 0, 0, 0), (20, .iconst 1, 1, 0, 0, 0), (21, .ireturn, 1, 0, 0, 0), (22, .iconst 0, 1, 0, 0, 0), (23, .ireturn, 1, 0, 0, 0)]
set_option maxRecDepth 100000 in
noncomputable def rw_335 : List PRow := [
  (0, .aload_n 2, 1, 0, 0, 0), (1, .iconst 0, 1, 0, 0, 0), (2, .aload_n 0, 1, 0, 0, 0), (3, .iload_n 1, 1, 0, 0, 0), (4, .invokevirtual 57, 3, 119, 0, 290), (7, .i2l, 1, 0, 0, 0), (8, .lastore, 1, 0, 0, 0), (9, .goto 6, 3, 11, 0, 0),
  (12, .astore_n 3, 1, 0, 0, 0), (13, .iconst 1, 1, 0, 0, 0), (14, .ireturn, 1, 0, 0, 0), (15, .iconst 0, 1, 0, 0, 0), (16, .ireturn, 1, 0, 0, 0)]
set_option maxRecDepth 100000 in
noncomputable def rw_336 : List PRow := [
  (0, .aload_n 2, 1, 0, 0, 0), (1, .iconst 0, 1, 0, 0, 0), (2, .aload_n 0, 1, 0, 0, 0), (3, .iload_n 1, 1, 0, 0, 0), (4, .invokevirtual 60, 3, 120, 0, 291), (7, .i2l, 1, 0, 0, 0), (8, .lastore, 1, 0, 0, 0), (9, .goto 9, 3, 14, 0, 0),
  (12, .astore_n 3, 1, 0, 0, 0), (13, .iconst 1, 1, 0, 0, 0), (14, .ireturn, 1, 0, 0, 0), (15, .astore_n 3, 1, 0, 0, 0), (16, .iconst 2, 1, 0, 0, 0), (17, .ireturn, 1, 0, 0, 0), (18, .iconst 0, 1, 0, 0, 0), (19, .ireturn, 1, 0, 0, 0)]
set_option maxRecDepth 100000 in
noncomputable def rw_337 : List PRow := [
  (0, .aload_n 2, 1, 0, 0, 0), (1, .iconst 0, 1, 0, 0, 0), (2, .aload_n 0, 1, 0, 0, 0), (3, .iload_n 1, 1, 0, 0, 0), (4, .invokevirtual 63, 3, 121, 0, 292), (7, .i2l, 1, 0, 0, 0), (8, .lastore, 1, 0, 0, 0), (9, .goto 6, 3, 11, 0, 0),
  (12, .astore_n 3, 1, 0, 0, 0), (13, .iconst 1, 1, 0, 0, 0), (14, .ireturn, 1, 0, 0, 0), (15, .iconst 0, 1, 0, 0, 0), (16, .ireturn, 1, 0, 0, 0)]
set_option maxRecDepth 100000 in
noncomputable def rw_338 : List PRow := [
  (0, .aload_n 2, 1, 0, 0, 0), (1, .iconst 0, 1, 0, 0, 0), (2, .aload_n 0, 1, 0, 0, 0), (3, .iload_n 1, 1, 0, 0, 0), (4, .invokevirtual 66, 3, 122, 0, 293), (7, .i2l, 1, 0, 0, 0), (8, .lastore, 1, 0, 0, 0), (9, .goto 6, 3, 11, 0, 0),
  (12, .astore_n 3, 1, 0, 0, 0), (13, .iconst 1, 1, 0, 0, 0), (14, .ireturn, 1, 0, 0, 0), (15, .iconst 0, 1, 0, 0, 0), (16, .ireturn, 1, 0, 0, 0)]
set_option maxRecDepth 100000 in
noncomputable def rw_339 : List PRow := [
  (0, .aload_n 2, 1, 0, 0, 0), (1, .iconst 0, 1, 0, 0, 0), (2, .aload_n 0, 1, 0, 0, 0), (3, .iload_n 1, 1, 0, 0, 0), (4, .invokevirtual 69, 3, 123, 0, 294), (7, .i2l, 1, 0, 0, 0), (8, .lastore, 1, 0, 0, 0), (9, .goto 6, 3, 11, 0, 0),
  (12, .astore_n 3, 1, 0, 0, 0), (13, .iconst 1, 1, 0, 0, 0), (14, .ireturn, 1, 0, 0, 0), (15, .iconst 0, 1, 0, 0, 0), (16, .ireturn, 1, 0, 0, 0)]
set_option maxRecDepth 100000 in
noncomputable def rw_340 : List PRow := [
  (0, .aload_n 2, 1, 0, 0, 0), (1, .iconst 0, 1, 0, 0, 0), (2, .aload_n 0, 1, 0, 0, 0), (3, .iload_n 1, 1, 0, 0, 0), (4, .invokevirtual 72, 3, 124, 0, 295), (7, .i2l, 1, 0, 0, 0), (8, .lastore, 1, 0, 0, 0), (9, .goto 6, 3, 11, 0, 0),
  (12, .astore_n 3, 1, 0, 0, 0), (13, .iconst 1, 1, 0, 0, 0), (14, .ireturn, 1, 0, 0, 0), (15, .iconst 0, 1, 0, 0, 0), (16, .ireturn, 1, 0, 0, 0)]
set_option maxRecDepth 100000 in
noncomputable def rw_341 : List PRow := [
  (0, .aload_n 2, 1, 0, 0, 0), (1, .iconst 0, 1, 0, 0, 0), (2, .aload_n 0, 1, 0, 0, 0), (3, .iload_n 1, 1, 0, 0, 0), (4, .invokevirtual 75, 3, 125, 0, 296), (7, .i2l, 1, 0, 0, 0), (8, .lastore, 1, 0, 0, 0), (9, .goto 6, 3, 11, 0, 0),
  (12, .astore_n 3, 1, 0, 0, 0), (13, .iconst 1, 1, 0, 0, 0), (14, .ireturn, 1, 0, 0, 0), (15, .iconst 0, 1, 0, 0, 0), (16, .ireturn, 1, 0, 0, 0)]
set_option maxRecDepth 100000 in
noncomputable def rw_342 : List PRow := [
  (0, .aload 4, 2, 0, 0, 0), (2, .iconst 0, 1, 0, 0, 0), (3, .aload_n 0, 1, 0, 0, 0), (4, .iload_n 1, 1, 0, 0, 0), (5, .iload_n 2, 1, 0, 0, 0), (6, .iload_n 3, 1, 0, 0, 0), (7, .invokevirtual 78, 3, 126, 0, 297), (10, .i2l, 1, 0, 0, 0),
  (11, .lastore, 1, 0, 0, 0), (12, .goto 15, 3, 19, 0, 0), (15, .astore 5, 2, 0, 0, 0), (17, .iconst 1, 1, 0, 0, 0), (18, .ireturn, 1, 0, 0, 0), (19, .astore 5, 2, 0, 0, 0), (21, .iconst 2, 1, 0, 0, 0), (22, .ireturn, 1, 0, 0, 0),
  (23, .astore 5, 2, 0, 0, 0), (25, .iconst 3, 1, 0, 0, 0), (26, .ireturn, 1, 0, 0, 0), (27, .iconst 0, 1, 0, 0, 0), (28, .ireturn, 1, 0, 0, 0)]
set_option maxRecDepth 100000 in
noncomputable def rw_343 : List PRow := [
  (0, .aload 4, 2, 0, 0, 0), (2, .iconst 0, 1, 0, 0, 0), (3, .aload_n 0, 1, 0, 0, 0), (4, .iload_n 1, 1, 0, 0, 0), (5, .iload_n 2, 1, 0, 0, 0), (6, .iload_n 3, 1, 0, 0, 0), (7, .invokevirtual 82, 3, 127, 0, 298), (10, .i2l, 1, 0, 0, 0),
  (11, .lastore, 1, 0, 0, 0), (12, .goto 15, 3, 19, 0, 0), (15, .astore 5, 2, 0, 0, 0), (17, .iconst 1, 1, 0, 0, 0), (18, .ireturn, 1, 0, 0, 0), (19, .astore 5, 2, 0, 0, 0), (21, .iconst 2, 1, 0, 0, 0), (22, .ireturn, 1, 0, 0, 0),
  (23, .astore 5, 2, 0, 0, 0), (25, .iconst 3, 1, 0, 0, 0), (26, .ireturn, 1, 0, 0, 0), (27, .iconst 0, 1, 0, 0, 0), (28, .ireturn, 1, 0, 0, 0)]
set_option maxRecDepth 100000 in
noncomputable def rw_344 : List PRow := [
  (0, .aload 5, 2, 0, 0, 0), (2, .iconst 0, 1, 0, 0, 0), (3, .aload_n 0, 1, 0, 0, 0), (4, .iload_n 1, 1, 0, 0, 0), (5, .iload_n 2, 1, 0, 0, 0), (6, .iload_n 3, 1, 0, 0, 0), (7, .iload 4, 2, 0, 0, 0), (9, .invokevirtual 85, 3, 128, 0, 299),
  (12, .i2l, 1, 0, 0, 0), (13, .lastore, 1, 0, 0, 0), (14, .goto 15, 3, 20, 0, 0), (17, .astore 6, 2, 0, 0, 0), (19, .iconst 1, 1, 0, 0, 0), (20, .ireturn, 1, 0, 0, 0), (21, .astore 6, 2, 0, 0, 0), (23, .iconst 2, 1, 0, 0, 0),
  (24, .ireturn, 1, 0, 0, 0), (25, .astore 6, 2, 0, 0, 0), (27, .iconst 3, 1, 0, 0, 0), (28, .ireturn, 1, 0, 0, 0), (29, .iconst 0, 1, 0, 0, 0), (30, .ireturn, 1, 0, 0, 0)]
set_option maxRecDepth 100000 in
noncomputable def rw_345 : List PRow := [
  (0, .aload_n 3, 1, 0, 0, 0), (1, .iconst 0, 1, 0, 0, 0), (2, .aload_n 0, 1, 0, 0, 0), (3, .iload_n 1, 1, 0, 0, 0), (4, .iload_n 2, 1, 0, 0, 0), (5, .invokevirtual 89, 3, 129, 0, 300), (8, .i2l, 1, 0, 0, 0), (9, .lastore, 1, 0, 0, 0),
  (10, .goto 11, 3, 15, 0, 0), (13, .astore 4, 2, 0, 0, 0), (15, .iconst 1, 1, 0, 0, 0), (16, .ireturn, 1, 0, 0, 0), (17, .astore 4, 2, 0, 0, 0), (19, .iconst 2, 1, 0, 0, 0), (20, .ireturn, 1, 0, 0, 0), (21, .iconst 0, 1, 0, 0, 0),
  (22, .ireturn, 1, 0, 0, 0)]
set_option maxRecDepth 100000 in
noncomputable def rw_346 : List PRow := [
  (0, .aload_n 2, 1, 0, 0, 0), (1, .iconst 0, 1, 0, 0, 0), (2, .aload_n 0, 1, 0, 0, 0), (3, .iload_n 1, 1, 0, 0, 0), (4, .invokevirtual 92, 3, 130, 0, 301), (7, .i2l, 1, 0, 0, 0), (8, .lastore, 1, 0, 0, 0), (9, .goto 6, 3, 11, 0, 0),
  (12, .astore_n 3, 1, 0, 0, 0), (13, .iconst 1, 1, 0, 0, 0), (14, .ireturn, 1, 0, 0, 0), (15, .iconst 0, 1, 0, 0, 0), (16, .ireturn, 1, 0, 0, 0)]
set_option maxRecDepth 100000 in
noncomputable def rw_347 : List PRow := [
  (0, .aload_n 2, 1, 0, 0, 0), (1, .iconst 0, 1, 0, 0, 0), (2, .aload_n 0, 1, 0, 0, 0), (3, .iload_n 1, 1, 0, 0, 0), (4, .invokevirtual 95, 3, 131, 0, 302), (7, .ifCond .eq 7, 3, 8, 0, 0), (10, .lconst 1, 1, 0, 0, 0), (11, .goto 4, 3, 9, 0, 0),
  (14, .lconst 0, 1, 0, 0, 0), (15, .lastore, 1, 0, 0, 0), (16, .goto 6, 3, 14, 0, 0), (19, .astore_n 3, 1, 0, 0, 0), (20, .iconst 1, 1, 0, 0, 0), (21, .ireturn, 1, 0, 0, 0), (22, .iconst 0, 1, 0, 0, 0), (23, .ireturn, 1, 0, 0, 0)]
set_option maxRecDepth 100000 in
noncomputable def rw_348 : List PRow := [
  (0, .aload_n 2, 1, 0, 0, 0), (1, .iconst 0, 1, 0, 0, 0), (2, .aload_n 0, 1, 0, 0, 0), (3, .iload_n 1, 1, 0, 0, 0), (4, .invokevirtual 98, 3, 132, 0, 303), (7, .i2l, 1, 0, 0, 0), (8, .lastore, 1, 0, 0, 0), (9, .goto 9, 3, 14, 0, 0),
  (12, .astore_n 3, 1, 0, 0, 0), (13, .iconst 1, 1, 0, 0, 0), (14, .ireturn, 1, 0, 0, 0), (15, .astore_n 3, 1, 0, 0, 0), (16, .iconst 2, 1, 0, 0, 0), (17, .ireturn, 1, 0, 0, 0), (18, .iconst 0, 1, 0, 0, 0), (19, .ireturn, 1, 0, 0, 0)]
set_option maxRecDepth 100000 in
noncomputable def rw_349 : List PRow := [
  (0, .aload_n 2, 1, 0, 0, 0), (1, .iconst 0, 1, 0, 0, 0), (2, .aload_n 0, 1, 0, 0, 0), (3, .iload_n 1, 1, 0, 0, 0), (4, .invokevirtual 101, 3, 135, 0, 304), (7, .ifCond .eq 7, 3, 8, 0, 0), (10, .lconst 1, 1, 0, 0, 0), (11, .goto 4, 3, 9, 0, 0),
  (14, .lconst 0, 1, 0, 0, 0), (15, .lastore, 1, 0, 0, 0), (16, .goto 6, 3, 14, 0, 0), (19, .astore_n 3, 1, 0, 0, 0), (20, .iconst 1, 1, 0, 0, 0), (21, .ireturn, 1, 0, 0, 0), (22, .iconst 0, 1, 0, 0, 0), (23, .ireturn, 1, 0, 0, 0)]
set_option maxRecDepth 100000 in
noncomputable def rw_350 : List PRow := [
  (0, .aload_n 2, 1, 0, 0, 0), (1, .iconst 0, 1, 0, 0, 0), (2, .aload_n 0, 1, 0, 0, 0), (3, .iload_n 1, 1, 0, 0, 0), (4, .invokevirtual 104, 3, 136, 0, 305), (7, .i2l, 1, 0, 0, 0), (8, .lastore, 1, 0, 0, 0), (9, .goto 6, 3, 11, 0, 0),
  (12, .astore_n 3, 1, 0, 0, 0), (13, .iconst 1, 1, 0, 0, 0), (14, .ireturn, 1, 0, 0, 0), (15, .iconst 0, 1, 0, 0, 0), (16, .ireturn, 1, 0, 0, 0)]
set_option maxRecDepth 100000 in
noncomputable def rw_351 : List PRow := [
  (0, .aload_n 2, 1, 0, 0, 0), (1, .iconst 0, 1, 0, 0, 0), (2, .aload_n 0, 1, 0, 0, 0), (3, .iload_n 1, 1, 0, 0, 0), (4, .invokevirtual 107, 3, 137, 0, 306), (7, .i2l, 1, 0, 0, 0), (8, .lastore, 1, 0, 0, 0), (9, .goto 6, 3, 11, 0, 0),
  (12, .astore_n 3, 1, 0, 0, 0), (13, .iconst 1, 1, 0, 0, 0), (14, .ireturn, 1, 0, 0, 0), (15, .iconst 0, 1, 0, 0, 0), (16, .ireturn, 1, 0, 0, 0)]
set_option maxRecDepth 100000 in
noncomputable def rw_352 : List PRow := [
  (0, .aload_n 2, 1, 0, 0, 0), (1, .iconst 0, 1, 0, 0, 0), (2, .aload_n 0, 1, 0, 0, 0), (3, .iload_n 1, 1, 0, 0, 0), (4, .invokevirtual 110, 3, 138, 0, 307), (7, .i2l, 1, 0, 0, 0), (8, .lastore, 1, 0, 0, 0), (9, .goto 6, 3, 11, 0, 0),
  (12, .astore_n 3, 1, 0, 0, 0), (13, .iconst 1, 1, 0, 0, 0), (14, .ireturn, 1, 0, 0, 0), (15, .iconst 0, 1, 0, 0, 0), (16, .ireturn, 1, 0, 0, 0)]
set_option maxRecDepth 100000 in
noncomputable def rw_353 : List PRow := [
  (0, .aload_n 2, 1, 0, 0, 0), (1, .iconst 0, 1, 0, 0, 0), (2, .aload_n 0, 1, 0, 0, 0), (3, .iload_n 1, 1, 0, 0, 0), (4, .invokevirtual 113, 3, 139, 0, 308), (7, .i2l, 1, 0, 0, 0), (8, .lastore, 1, 0, 0, 0), (9, .goto 6, 3, 11, 0, 0),
  (12, .astore_n 3, 1, 0, 0, 0), (13, .iconst 1, 1, 0, 0, 0), (14, .ireturn, 1, 0, 0, 0), (15, .iconst 0, 1, 0, 0, 0), (16, .ireturn, 1, 0, 0, 0)]
set_option maxRecDepth 100000 in
noncomputable def rw_354 : List PRow := [
  (0, .aload_n 2, 1, 0, 0, 0), (1, .iconst 0, 1, 0, 0, 0), (2, .aload_n 0, 1, 0, 0, 0), (3, .iload_n 1, 1, 0, 0, 0), (4, .invokevirtual 116, 3, 140, 0, 309), (7, .i2l, 1, 0, 0, 0), (8, .lastore, 1, 0, 0, 0), (9, .goto 6, 3, 11, 0, 0),
  (12, .astore_n 3, 1, 0, 0, 0), (13, .iconst 1, 1, 0, 0, 0), (14, .ireturn, 1, 0, 0, 0), (15, .iconst 0, 1, 0, 0, 0), (16, .ireturn, 1, 0, 0, 0)]
set_option maxRecDepth 100000 in
noncomputable def rw_355 : List PRow := [
  (0, .aload_n 2, 1, 0, 0, 0), (1, .iconst 0, 1, 0, 0, 0), (2, .aload_n 0, 1, 0, 0, 0), (3, .iload_n 1, 1, 0, 0, 0), (4, .invokevirtual 119, 3, 141, 0, 310), (7, .i2l, 1, 0, 0, 0), (8, .lastore, 1, 0, 0, 0), (9, .goto 6, 3, 11, 0, 0),
  (12, .astore_n 3, 1, 0, 0, 0), (13, .iconst 1, 1, 0, 0, 0), (14, .ireturn, 1, 0, 0, 0), (15, .iconst 0, 1, 0, 0, 0), (16, .ireturn, 1, 0, 0, 0)]
set_option maxRecDepth 100000 in
noncomputable def rw_356 : List PRow := [
  (0, .aload_n 2, 1, 0, 0, 0), (1, .iconst 0, 1, 0, 0, 0), (2, .aload_n 0, 1, 0, 0, 0), (3, .iload_n 1, 1, 0, 0, 0), (4, .invokevirtual 122, 3, 142, 0, 311), (7, .i2l, 1, 0, 0, 0), (8, .lastore, 1, 0, 0, 0), (9, .goto 6, 3, 11, 0, 0),
  (12, .astore_n 3, 1, 0, 0, 0), (13, .iconst 1, 1, 0, 0, 0), (14, .ireturn, 1, 0, 0, 0), (15, .iconst 0, 1, 0, 0, 0), (16, .ireturn, 1, 0, 0, 0)]
set_option maxRecDepth 100000 in
noncomputable def rw_357 : List PRow := [
  (0, .aload_n 2, 1, 0, 0, 0), (1, .iconst 0, 1, 0, 0, 0), (2, .aload_n 0, 1, 0, 0, 0), (3, .iload_n 1, 1, 0, 0, 0), (4, .invokevirtual 125, 3, 143, 0, 312), (7, .i2l, 1, 0, 0, 0), (8, .lastore, 1, 0, 0, 0), (9, .goto 6, 3, 11, 0, 0),
  (12, .astore_n 3, 1, 0, 0, 0), (13, .iconst 1, 1, 0, 0, 0), (14, .ireturn, 1, 0, 0, 0), (15, .iconst 0, 1, 0, 0, 0), (16, .ireturn, 1, 0, 0, 0)]
set_option maxRecDepth 100000 in
noncomputable def rw_358 : List PRow := [
  (0, .aload_n 2, 1, 0, 0, 0), (1, .iconst 0, 1, 0, 0, 0), (2, .aload_n 0, 1, 0, 0, 0), (3, .iload_n 1, 1, 0, 0, 0), (4, .invokevirtual 128, 3, 144, 0, 313), (7, .i2l, 1, 0, 0, 0), (8, .lastore, 1, 0, 0, 0), (9, .goto 6, 3, 11, 0, 0),
  (12, .astore_n 3, 1, 0, 0, 0), (13, .iconst 1, 1, 0, 0, 0), (14, .ireturn, 1, 0, 0, 0), (15, .iconst 0, 1, 0, 0, 0), (16, .ireturn, 1, 0, 0, 0)]
set_option maxRecDepth 100000 in
noncomputable def rw_359 : List PRow := [
  (0, .aload_n 2, 1, 0, 0, 0), (1, .iconst 0, 1, 0, 0, 0), (2, .aload_n 0, 1, 0, 0, 0), (3, .iload_n 1, 1, 0, 0, 0), (4, .invokevirtual 131, 3, 145, 0, 314), (7, .i2l, 1, 0, 0, 0), (8, .lastore, 1, 0, 0, 0), (9, .goto 6, 3, 11, 0, 0),
  (12, .astore_n 3, 1, 0, 0, 0), (13, .iconst 1, 1, 0, 0, 0), (14, .ireturn, 1, 0, 0, 0), (15, .iconst 0, 1, 0, 0, 0), (16, .ireturn, 1, 0, 0, 0)]
set_option maxRecDepth 100000 in
noncomputable def rw_360 : List PRow := [
  (0, .aload_n 2, 1, 0, 0, 0), (1, .iconst 0, 1, 0, 0, 0), (2, .aload_n 0, 1, 0, 0, 0), (3, .iload_n 1, 1, 0, 0, 0), (4, .invokevirtual 134, 3, 146, 0, 315), (7, .i2l, 1, 0, 0, 0), (8, .lastore, 1, 0, 0, 0), (9, .goto 6, 3, 11, 0, 0),
  (12, .astore_n 3, 1, 0, 0, 0), (13, .iconst 1, 1, 0, 0, 0), (14, .ireturn, 1, 0, 0, 0), (15, .iconst 0, 1, 0, 0, 0), (16, .ireturn, 1, 0, 0, 0)]
set_option maxRecDepth 100000 in
noncomputable def rw_361 : List PRow := [
  (0, .aload_n 3, 1, 0, 0, 0), (1, .iconst 0, 1, 0, 0, 0), (2, .aload_n 0, 1, 0, 0, 0), (3, .iload_n 1, 1, 0, 0, 0), (4, .iload_n 2, 1, 0, 0, 0), (5, .invokevirtual 137, 3, 147, 0, 316), (8, .ifCond .eq 7, 3, 9, 0, 0), (11, .lconst 1, 1, 0, 0, 0),
  (12, .goto 4, 3, 10, 0, 0), (15, .lconst 0, 1, 0, 0, 0), (16, .lastore, 1, 0, 0, 0), (17, .goto 7, 3, 15, 0, 0), (20, .astore 4, 2, 0, 0, 0), (22, .iconst 1, 1, 0, 0, 0), (23, .ireturn, 1, 0, 0, 0), (24, .iconst 0, 1, 0, 0, 0),
  (25, .ireturn, 1, 0, 0, 0)]
set_option maxRecDepth 100000 in
noncomputable def rw_362 : List PRow := [
  (0, .aload_n 3, 1, 0, 0, 0), (1, .iconst 0, 1, 0, 0, 0), (2, .aload_n 0, 1, 0, 0, 0), (3, .iload_n 1, 1, 0, 0, 0), (4, .iload_n 2, 1, 0, 0, 0), (5, .invokevirtual 141, 3, 148, 0, 317), (8, .i2l, 1, 0, 0, 0), (9, .lastore, 1, 0, 0, 0),
  (10, .goto 7, 3, 12, 0, 0), (13, .astore 4, 2, 0, 0, 0), (15, .iconst 1, 1, 0, 0, 0), (16, .ireturn, 1, 0, 0, 0), (17, .iconst 0, 1, 0, 0, 0), (18, .ireturn, 1, 0, 0, 0)]
set_option maxRecDepth 100000 in
noncomputable def rw_363 : List PRow := [
  (0, .aload_n 3, 1, 0, 0, 0), (1, .iconst 0, 1, 0, 0, 0), (2, .aload_n 0, 1, 0, 0, 0), (3, .iload_n 1, 1, 0, 0, 0), (4, .iload_n 2, 1, 0, 0, 0), (5, .invokevirtual 144, 3, 149, 0, 318), (8, .i2l, 1, 0, 0, 0), (9, .lastore, 1, 0, 0, 0),
  (10, .goto 7, 3, 12, 0, 0), (13, .astore 4, 2, 0, 0, 0), (15, .iconst 1, 1, 0, 0, 0), (16, .ireturn, 1, 0, 0, 0), (17, .iconst 0, 1, 0, 0, 0), (18, .ireturn, 1, 0, 0, 0)]
set_option maxRecDepth 100000 in
noncomputable def rw_364 : List PRow := [
  (0, .aload_n 3, 1, 0, 0, 0), (1, .iconst 0, 1, 0, 0, 0), (2, .aload_n 0, 1, 0, 0, 0), (3, .iload_n 1, 1, 0, 0, 0), (4, .iload_n 2, 1, 0, 0, 0), (5, .invokevirtual 147, 3, 150, 0, 319), (8, .i2l, 1, 0, 0, 0), (9, .lastore, 1, 0, 0, 0),
  (10, .goto 7, 3, 12, 0, 0), (13, .astore 4, 2, 0, 0, 0), (15, .iconst 1, 1, 0, 0, 0), (16, .ireturn, 1, 0, 0, 0), (17, .iconst 0, 1, 0, 0, 0), (18, .ireturn, 1, 0, 0, 0)]
set_option maxRecDepth 100000 in
noncomputable def rw_365 : List PRow := [
  (0, .aload_n 3, 1, 0, 0, 0), (1, .iconst 0, 1, 0, 0, 0), (2, .aload_n 0, 1, 0, 0, 0), (3, .iload_n 1, 1, 0, 0, 0), (4, .iload_n 2, 1, 0, 0, 0), (5, .invokevirtual 150, 3, 151, 0, 320), (8, .i2l, 1, 0, 0, 0), (9, .lastore, 1, 0, 0, 0),
  (10, .goto 7, 3, 12, 0, 0), (13, .astore 4, 2, 0, 0, 0), (15, .iconst 1, 1, 0, 0, 0), (16, .ireturn, 1, 0, 0, 0), (17, .iconst 0, 1, 0, 0, 0), (18, .ireturn, 1, 0, 0, 0)]
set_option maxRecDepth 100000 in
noncomputable def rw_366 : List PRow := [
  (0, .aload_n 3, 1, 0, 0, 0), (1, .iconst 0, 1, 0, 0, 0), (2, .aload_n 0, 1, 0, 0, 0), (3, .iload_n 1, 1, 0, 0, 0), (4, .iload_n 2, 1, 0, 0, 0), (5, .invokevirtual 153, 3, 152, 0, 321), (8, .i2l, 1, 0, 0, 0), (9, .lastore, 1, 0, 0, 0),
  (10, .goto 7, 3, 12, 0, 0), (13, .astore 4, 2, 0, 0, 0), (15, .iconst 1, 1, 0, 0, 0), (16, .ireturn, 1, 0, 0, 0), (17, .iconst 0, 1, 0, 0, 0), (18, .ireturn, 1, 0, 0, 0)]
set_option maxRecDepth 100000 in
noncomputable def rw_367 : List PRow := [
  (0, .aload_n 3, 1, 0, 0, 0), (1, .iconst 0, 1, 0, 0, 0), (2, .aload_n 0, 1, 0, 0, 0), (3, .iload_n 1, 1, 0, 0, 0), (4, .iload_n 2, 1, 0, 0, 0), (5, .invokevirtual 156, 3, 153, 0, 322), (8, .i2l, 1, 0, 0, 0), (9, .lastore, 1, 0, 0, 0),
  (10, .goto 7, 3, 12, 0, 0), (13, .astore 4, 2, 0, 0, 0), (15, .iconst 1, 1, 0, 0, 0), (16, .ireturn, 1, 0, 0, 0), (17, .iconst 0, 1, 0, 0, 0), (18, .ireturn, 1, 0, 0, 0)]
set_option maxRecDepth 100000 in
noncomputable def rw_368 : List PRow := [
  (0, .aload_n 3, 1, 0, 0, 0), (1, .iconst 0, 1, 0, 0, 0), (2, .aload_n 0, 1, 0, 0, 0), (3, .iload_n 1, 1, 0, 0, 0), (4, .iload_n 2, 1, 0, 0, 0), (5, .invokevirtual 159, 3, 154, 0, 323), (8, .i2l, 1, 0, 0, 0), (9, .lastore, 1, 0, 0, 0),
  (10, .goto 7, 3, 12, 0, 0), (13, .astore 4, 2, 0, 0, 0), (15, .iconst 1, 1, 0, 0, 0), (16, .ireturn, 1, 0, 0, 0), (17, .iconst 0, 1, 0, 0, 0), (18, .ireturn, 1, 0, 0, 0)]
set_option maxRecDepth 100000 in
noncomputable def rw_369 : List PRow := [
  (0, .aload_n 3, 1, 0, 0, 0), (1, .iconst 0, 1, 0, 0, 0), (2, .aload_n 0, 1, 0, 0, 0), (3, .iload_n 1, 1, 0, 0, 0), (4, .iload_n 2, 1, 0, 0, 0), (5, .invokevirtual 162, 3, 155, 0, 324), (8, .i2l, 1, 0, 0, 0), (9, .lastore, 1, 0, 0, 0),
  (10, .goto 15, 3, 18, 0, 0), (13, .astore 4, 2, 0, 0, 0), (15, .iconst 1, 1, 0, 0, 0), (16, .ireturn, 1, 0, 0, 0), (17, .astore 4, 2, 0, 0, 0), (19, .iconst 2, 1, 0, 0, 0), (20, .ireturn, 1, 0, 0, 0), (21, .astore 4, 2, 0, 0, 0),
  (23, .iconst 3, 1, 0, 0, 0), (24, .ireturn, 1, 0, 0, 0), (25, .iconst 0, 1, 0, 0, 0), (26, .ireturn, 1, 0, 0, 0)]
set_option maxRecDepth 100000 in
noncomputable def rw_370 : List PRow := [
  (0, .aload_n 3, 1, 0, 0, 0), (1, .iconst 0, 1, 0, 0, 0), (2, .aload_n 0, 1, 0, 0, 0), (3, .iload_n 1, 1, 0, 0, 0), (4, .iload_n 2, 1, 0, 0, 0), (5, .invokevirtual 165, 3, 156, 0, 325), (8, .i2l, 1, 0, 0, 0), (9, .lastore, 1, 0, 0, 0),
  (10, .goto 15, 3, 18, 0, 0), (13, .astore 4, 2, 0, 0, 0), (15, .iconst 1, 1, 0, 0, 0), (16, .ireturn, 1, 0, 0, 0), (17, .astore 4, 2, 0, 0, 0), (19, .iconst 2, 1, 0, 0, 0), (20, .ireturn, 1, 0, 0, 0), (21, .astore 4, 2, 0, 0, 0),
  (23, .iconst 3, 1, 0, 0, 0), (24, .ireturn, 1, 0, 0, 0), (25, .iconst 0, 1, 0, 0, 0), (26, .ireturn, 1, 0, 0, 0)]
set_option maxRecDepth 100000 in
noncomputable def rw_371 : List PRow := [
  (0, .aload_n 3, 1, 0, 0, 0), (1, .iconst 0, 1, 0, 0, 0), (2, .aload_n 0, 1, 0, 0, 0), (3, .iload_n 1, 1, 0, 0, 0), (4, .iload_n 2, 1, 0, 0, 0), (5, .invokevirtual 168, 3, 160, 0, 326), (8, .i2l, 1, 0, 0, 0), (9, .lastore, 1, 0, 0, 0),
  (10, .goto 7, 3, 12, 0, 0), (13, .astore 4, 2, 0, 0, 0), (15, .iconst 1, 1, 0, 0, 0), (16, .ireturn, 1, 0, 0, 0), (17, .iconst 0, 1, 0, 0, 0), (18, .ireturn, 1, 0, 0, 0)]
set_option maxRecDepth 100000 in
noncomputable def rw_372 : List PRow := [
  (0, .aload_n 3, 1, 0, 0, 0), (1, .iconst 0, 1, 0, 0, 0), (2, .aload_n 0, 1, 0, 0, 0), (3, .iload_n 1, 1, 0, 0, 0), (4, .iload_n 2, 1, 0, 0, 0), (5, .invokevirtual 171, 3, 161, 0, 327), (8, .i2l, 1, 0, 0, 0), (9, .lastore, 1, 0, 0, 0),
  (10, .goto 7, 3, 12, 0, 0), (13, .astore 4, 2, 0, 0, 0), (15, .iconst 1, 1, 0, 0, 0), (16, .ireturn, 1, 0, 0, 0), (17, .iconst 0, 1, 0, 0, 0), (18, .ireturn, 1, 0, 0, 0)]
set_option maxRecDepth 100000 in
noncomputable def rw_373 : List PRow := [
  (0, .aload_n 2, 1, 0, 0, 0), (1, .iconst 0, 1, 0, 0, 0), (2, .aload_n 0, 1, 0, 0, 0), (3, .iload_n 1, 1, 0, 0, 0), (4, .invokevirtual 174, 3, 162, 0, 328), (7, .ifCond .eq 7, 3, 8, 0, 0), (10, .lconst 1, 1, 0, 0, 0), (11, .goto 4, 3, 9, 0, 0),
  (14, .lconst 0, 1, 0, 0, 0), (15, .lastore, 1, 0, 0, 0), (16, .goto 6, 3, 14, 0, 0), (19, .astore_n 3, 1, 0, 0, 0), (20, .iconst 1, 1, 0, 0, 0), (21, .ireturn, 1, 0, 0, 0), (22, .iconst 0, 1, 0, 0, 0), (23, .ireturn, 1, 0, 0, 0)]
set_option maxRecDepth 100000 in
noncomputable def rw_374 : List PRow := [
  (0, .aload_n 2, 1, 0, 0, 0), (1, .iconst 0, 1, 0, 0, 0), (2, .aload_n 0, 1, 0, 0, 0), (3, .iload_n 1, 1, 0, 0, 0), (4, .invokevirtual 177, 3, 163, 0, 329), (7, .i2l, 1, 0, 0, 0), (8, .lastore, 1, 0, 0, 0), (9, .goto 6, 3, 11, 0, 0),
  (12, .astore_n 3, 1, 0, 0, 0), (13, .iconst 1, 1, 0, 0, 0), (14, .ireturn, 1, 0, 0, 0), (15, .iconst 0, 1, 0, 0, 0), (16, .ireturn, 1, 0, 0, 0)]
set_option maxRecDepth 100000 in
noncomputable def rw_375 : List PRow := [
  (0, .aload_n 2, 1, 0, 0, 0), (1, .iconst 0, 1, 0, 0, 0), (2, .aload_n 0, 1, 0, 0, 0), (3, .iload_n 1, 1, 0, 0, 0), (4, .invokevirtual 180, 3, 165, 0, 330), (7, .i2l, 1, 0, 0, 0), (8, .lastore, 1, 0, 0, 0), (9, .goto 6, 3, 11, 0, 0),
  (12, .astore_n 3, 1, 0, 0, 0), (13, .iconst 1, 1, 0, 0, 0), (14, .ireturn, 1, 0, 0, 0), (15, .iconst 0, 1, 0, 0, 0), (16, .ireturn, 1, 0, 0, 0)]
set_option maxRecDepth 100000 in
noncomputable def rw_376 : List PRow := [
  (0, .aload_n 2, 1, 0, 0, 0), (1, .iconst 0, 1, 0, 0, 0), (2, .aload_n 0, 1, 0, 0, 0), (3, .iload_n 1, 1, 0, 0, 0), (4, .invokevirtual 183, 3, 167, 0, 331), (7, .i2l, 1, 0, 0, 0), (8, .lastore, 1, 0, 0, 0), (9, .goto 6, 3, 11, 0, 0),
  (12, .astore_n 3, 1, 0, 0, 0), (13, .iconst 1, 1, 0, 0, 0), (14, .ireturn, 1, 0, 0, 0), (15, .iconst 0, 1, 0, 0, 0), (16, .ireturn, 1, 0, 0, 0)]
set_option maxRecDepth 100000 in
noncomputable def rw_377 : List PRow := [
  (0, .aload_n 2, 1, 0, 0, 0), (1, .iconst 0, 1, 0, 0, 0), (2, .aload_n 0, 1, 0, 0, 0), (3, .iload_n 1, 1, 0, 0, 0), (4, .invokevirtual 186, 3, 168, 0, 332), (7, .i2l, 1, 0, 0, 0), (8, .lastore, 1, 0, 0, 0), (9, .goto 9, 3, 14, 0, 0),
  (12, .astore_n 3, 1, 0, 0, 0), (13, .iconst 1, 1, 0, 0, 0), (14, .ireturn, 1, 0, 0, 0), (15, .astore_n 3, 1, 0, 0, 0), (16, .iconst 2, 1, 0, 0, 0), (17, .ireturn, 1, 0, 0, 0), (18, .iconst 0, 1, 0, 0, 0), (19, .ireturn, 1, 0, 0, 0)]
set_option maxRecDepth 100000 in
noncomputable def rw_378 : List PRow := [
  (0, .new 8, 3, 9, 0, 19), (3, .dup, 1, 0, 0, 0), (4, .invokespecial 189, 3, 104, 1, 333), (7, .astore_n 1, 1, 0, 0, 0), (8, .new 190, 3, 11, 0, 20), (11, .dup, 1, 0, 0, 0), (12, .invokespecial 192, 3, 241, 1, 334), (15, .astore_n 2, 1, 0, 0, 0),
  (16, .iconst 1, 1, 0, 0, 0), (17, .newarray .long, 2, 0, 0, 0), (19, .astore_n 3, 1, 0, 0, 0), (20, .iconst 0, 1, 0, 0, 0), (21, .istore 4, 2, 0, 0, 0), (23, .iload 4, 2, 0, 0, 0), (25, .aload_n 0, 1, 0, 0, 0), (26, .arraylength, 1, 0, 0, 0),
  (27, .iconst 5, 1, 0, 0, 0), (28, .isub, 1, 0, 0, 0), (29, .if_icmp .gt 3923, 3, 2337, 0, 0), (32, .aload_n 0, 1, 0, 0, 0), (33, .iload 4, 2, 0, 0, 0), (35, .iaload, 1, 0, 0, 0), (36, .bipush 127, 2, 0, 0, 0), (38, .iand, 1, 0, 0, 0),
  (39, .tableswitch 3907 0 65 #[277, 333, 389, 445, 513, 581, 637, 693, 749, 805, 873, 941, 1009, 1022, 1085, 1141, 1197, 1253, 1309, 1365, 1421, 1477, 1557, 1637, 1729, 1797, 1853, 1916, 1972, 1985, 1998, 2061, 2117, 2173, 2229, 2285, 2341, 2397, 2453, 2509, 2565, 2621, 2677, 2752, 2820, 2888, 2956, 3024, 3092, 3160, 3228, 3296, 3364, 3377, 3390, 3403, 3471, 3539, 3602, 3658, 3671, 3727, 3740, 3796, 3852, 3893], 277, 0, 0, 0), (316, .aload_n 1, 1, 0, 0, 0), (317, .aload_n 0, 1, 0, 0, 0), (318, .iload 4, 2, 0, 0, 0), (320, .iconst 1, 1, 0, 0, 0), (321, .iadd, 1, 0, 0, 0), (322, .iaload, 1, 0, 0, 0), (323, .aload_n 3, 1, 0, 0, 0),
  (324, .invokestatic 193, 3, 332, 0, 335), (327, .istore 5, 2, 0, 0, 0), (329, .aload_n 2, 1, 0, 0, 0), (330, .aload_n 0, 1, 0, 0, 0), (331, .iload 4, 2, 0, 0, 0), (333, .iconst 1, 1, 0, 0, 0), (334, .iadd, 1, 0, 0, 0), (335, .iaload, 1, 0, 0, 0),
  (336, .invokevirtual 198, 3, 252, 0, 336), (339, .istore 6, 2, 0, 0, 0), (341, .aload_n 2, 1, 0, 0, 0), (342, .invokevirtual 199, 3, 242, 0, 337), (345, .iload 5, 2, 0, 0, 0), (347, .if_icmp .eq 5, 3, 48, 0, 0), (350, .iconst 0, 1, 0, 0, 0), (351, .ireturn, 1, 0, 0, 0),
  (352, .iload 5, 2, 0, 0, 0), (354, .ifCond .ne 15, 3, 59, 0, 0), (357, .aload_n 3, 1, 0, 0, 0), (358, .iconst 0, 1, 0, 0, 0), (359, .laload, 1, 0, 0, 0), (360, .iload 6, 2, 0, 0, 0), (362, .i2l, 1, 0, 0, 0), (363, .lcmp, 1, 0, 0, 0),
  (364, .ifCond .eq 5, 3, 59, 0, 0), (367, .iconst 0, 1, 0, 0, 0), (368, .ireturn, 1, 0, 0, 0), (369, .goto 3577, 3, 2335, 0, 0), (372, .aload_n 1, 1, 0, 0, 0), (373, .aload_n 0, 1, 0, 0, 0), (374, .iload 4, 2, 0, 0, 0), (376, .iconst 1, 1, 0, 0, 0),
  (377, .iadd, 1, 0, 0, 0), (378, .iaload, 1, 0, 0, 0), (379, .aload_n 3, 1, 0, 0, 0), (380, .invokestatic 203, 3, 333, 0, 338), (383, .istore 5, 2, 0, 0, 0), (385, .aload_n 2, 1, 0, 0, 0), (386, .aload_n 0, 1, 0, 0, 0), (387, .iload 4, 2, 0, 0, 0),
  (389, .iconst 1, 1, 0, 0, 0), (390, .iadd, 1, 0, 0, 0), (391, .iaload, 1, 0, 0, 0), (392, .invokevirtual 205, 3, 253, 0, 339), (395, .istore 6, 2, 0, 0, 0), (397, .aload_n 2, 1, 0, 0, 0), (398, .invokevirtual 199, 3, 242, 0, 337), (401, .iload 5, 2, 0, 0, 0),
  (403, .if_icmp .eq 5, 3, 83, 0, 0), (406, .iconst 0, 1, 0, 0, 0), (407, .ireturn, 1, 0, 0, 0), (408, .iload 5, 2, 0, 0, 0), (410, .ifCond .ne 15, 3, 94, 0, 0), (413, .aload_n 3, 1, 0, 0, 0), (414, .iconst 0, 1, 0, 0, 0), (415, .laload, 1, 0, 0, 0),
  (416, .iload 6, 2, 0, 0, 0), (418, .i2l, 1, 0, 0, 0), (419, .lcmp, 1, 0, 0, 0), (420, .ifCond .eq 5, 3, 94, 0, 0), (423, .iconst 0, 1, 0, 0, 0), (424, .ireturn, 1, 0, 0, 0), (425, .goto 3521, 3, 2335, 0, 0), (428, .aload_n 1, 1, 0, 0, 0),
  (429, .aload_n 0, 1, 0, 0, 0), (430, .iload 4, 2, 0, 0, 0), (432, .iconst 1, 1, 0, 0, 0), (433, .iadd, 1, 0, 0, 0), (434, .iaload, 1, 0, 0, 0), (435, .aload_n 3, 1, 0, 0, 0), (436, .invokestatic 206, 3, 334, 0, 340), (439, .istore 5, 2, 0, 0, 0),
  (441, .aload_n 2, 1, 0, 0, 0), (442, .aload_n 0, 1, 0, 0, 0), (443, .iload 4, 2, 0, 0, 0), (445, .iconst 1, 1, 0, 0, 0), (446, .iadd, 1, 0, 0, 0), (447, .iaload, 1, 0, 0, 0), (448, .invokevirtual 208, 3, 254, 0, 341), (451, .istore 6, 2, 0, 0, 0),
  (453, .aload_n 2, 1, 0, 0, 0), (454, .invokevirtual 199, 3, 242, 0, 337), (457, .iload 5, 2, 0, 0, 0), (459, .if_icmp .eq 5, 3, 118, 0, 0), (462, .iconst 0, 1, 0, 0, 0), (463, .ireturn, 1, 0, 0, 0), (464, .iload 5, 2, 0, 0, 0), (466, .ifCond .ne 15, 3, 129, 0, 0),
  (469, .aload_n 3, 1, 0, 0, 0), (470, .iconst 0, 1, 0, 0, 0), (471, .laload, 1, 0, 0, 0), (472, .iload 6, 2, 0, 0, 0), (474, .i2l, 1, 0, 0, 0), (475, .lcmp, 1, 0, 0, 0), (476, .ifCond .eq 5, 3, 129, 0, 0), (479, .iconst 0, 1, 0, 0, 0),
  (480, .ireturn, 1, 0, 0, 0), (481, .goto 3465, 3, 2335, 0, 0), (484, .aload_n 1, 1, 0, 0, 0), (485, .aload_n 0, 1, 0, 0, 0), (486, .iload 4, 2, 0, 0, 0), (488, .iconst 1, 1, 0, 0, 0), (489, .iadd, 1, 0, 0, 0), (490, .iaload, 1, 0, 0, 0),
  (491, .aload_n 0, 1, 0, 0, 0), (492, .iload 4, 2, 0, 0, 0), (494, .iconst 2, 1, 0, 0, 0), (495, .iadd, 1, 0, 0, 0), (496, .iaload, 1, 0, 0, 0), (497, .aload_n 3, 1, 0, 0, 0), (498, .invokestatic 209, 3, 335, 0, 342), (501, .istore 5, 2, 0, 0, 0),
  (503, .aload_n 2, 1, 0, 0, 0), (504, .aload_n 0, 1, 0, 0, 0), (505, .iload 4, 2, 0, 0, 0), (507, .iconst 1, 1, 0, 0, 0), (508, .iadd, 1, 0, 0, 0), (509, .iaload, 1, 0, 0, 0), (510, .aload_n 0, 1, 0, 0, 0), (511, .iload 4, 2, 0, 0, 0),
  (513, .iconst 2, 1, 0, 0, 0), (514, .iadd, 1, 0, 0, 0), (515, .iaload, 1, 0, 0, 0), (516, .invokevirtual 212, 3, 256, 0, 343), (519, .istore 6, 2, 0, 0, 0), (521, .aload_n 2, 1, 0, 0, 0), (522, .invokevirtual 199, 3, 242, 0, 337), (525, .iload 5, 2, 0, 0, 0),
  (527, .if_icmp .eq 5, 3, 163, 0, 0), (530, .iconst 0, 1, 0, 0, 0), (531, .ireturn, 1, 0, 0, 0), (532, .iload 5, 2, 0, 0, 0), (534, .ifCond .ne 15, 3, 174, 0, 0), (537, .aload_n 3, 1, 0, 0, 0), (538, .iconst 0, 1, 0, 0, 0), (539, .laload, 1, 0, 0, 0),
  (540, .iload 6, 2, 0, 0, 0), (542, .i2l, 1, 0, 0, 0), (543, .lcmp, 1, 0, 0, 0), (544, .ifCond .eq 5, 3, 174, 0, 0), (547, .iconst 0, 1, 0, 0, 0), (548, .ireturn, 1, 0, 0, 0), (549, .goto 3397, 3, 2335, 0, 0), (552, .aload_n 1, 1, 0, 0, 0),
  (553, .aload_n 0, 1, 0, 0, 0), (554, .iload 4, 2, 0, 0, 0), (556, .iconst 1, 1, 0, 0, 0), (557, .iadd, 1, 0, 0, 0), (558, .iaload, 1, 0, 0, 0), (559, .aload_n 0, 1, 0, 0, 0), (560, .iload 4, 2, 0, 0, 0), (562, .iconst 2, 1, 0, 0, 0),
  (563, .iadd, 1, 0, 0, 0), (564, .iaload, 1, 0, 0, 0), (565, .aload_n 3, 1, 0, 0, 0), (566, .invokestatic 213, 3, 336, 0, 344), (569, .istore 5, 2, 0, 0, 0), (571, .aload_n 2, 1, 0, 0, 0), (572, .aload_n 0, 1, 0, 0, 0), (573, .iload 4, 2, 0, 0, 0),
  (575, .iconst 1, 1, 0, 0, 0), (576, .iadd, 1, 0, 0, 0), (577, .iaload, 1, 0, 0, 0), (578, .aload_n 0, 1, 0, 0, 0), (579, .iload 4, 2, 0, 0, 0), (581, .iconst 2, 1, 0, 0, 0), (582, .iadd, 1, 0, 0, 0), (583, .iaload, 1, 0, 0, 0),
  (584, .invokevirtual 215, 3, 257, 0, 345), (587, .istore 6, 2, 0, 0, 0), (589, .aload_n 2, 1, 0, 0, 0), (590, .invokevirtual 199, 3, 242, 0, 337), (593, .iload 5, 2, 0, 0, 0), (595, .if_icmp .eq 5, 3, 208, 0, 0), (598, .iconst 0, 1, 0, 0, 0), (599, .ireturn, 1, 0, 0, 0),
  (600, .iload 5, 2, 0, 0, 0), (602, .ifCond .ne 15, 3, 219, 0, 0), (605, .aload_n 3, 1, 0, 0, 0), (606, .iconst 0, 1, 0, 0, 0), (607, .laload, 1, 0, 0, 0), (608, .iload 6, 2, 0, 0, 0), (610, .i2l, 1, 0, 0, 0), (611, .lcmp, 1, 0, 0, 0),
  (612, .ifCond .eq 5, 3, 219, 0, 0), (615, .iconst 0, 1, 0, 0, 0), (616, .ireturn, 1, 0, 0, 0), (617, .goto 3329, 3, 2335, 0, 0), (620, .aload_n 1, 1, 0, 0, 0), (621, .aload_n 0, 1, 0, 0, 0), (622, .iload 4, 2, 0, 0, 0), (624, .iconst 1, 1, 0, 0, 0),
  (625, .iadd, 1, 0, 0, 0), (626, .iaload, 1, 0, 0, 0), (627, .aload_n 3, 1, 0, 0, 0), (628, .invokestatic 216, 3, 337, 0, 346), (631, .istore 5, 2, 0, 0, 0), (633, .aload_n 2, 1, 0, 0, 0), (634, .aload_n 0, 1, 0, 0, 0), (635, .iload 4, 2, 0, 0, 0),
  (637, .iconst 1, 1, 0, 0, 0), (638, .iadd, 1, 0, 0, 0), (639, .iaload, 1, 0, 0, 0), (640, .invokevirtual 218, 3, 258, 0, 347), (643, .istore 6, 2, 0, 0, 0), (645, .aload_n 2, 1, 0, 0, 0), (646, .invokevirtual 199, 3, 242, 0, 337), (649, .iload 5, 2, 0, 0, 0),
  (651, .if_icmp .eq 5, 3, 243, 0, 0), (654, .iconst 0, 1, 0, 0, 0), (655, .ireturn, 1, 0, 0, 0), (656, .iload 5, 2, 0, 0, 0), (658, .ifCond .ne 15, 3, 254, 0, 0), (661, .aload_n 3, 1, 0, 0, 0), (662, .iconst 0, 1, 0, 0, 0), (663, .laload, 1, 0, 0, 0),
  (664, .iload 6, 2, 0, 0, 0), (666, .i2l, 1, 0, 0, 0), (667, .lcmp, 1, 0, 0, 0), (668, .ifCond .eq 5, 3, 254, 0, 0), (671, .iconst 0, 1, 0, 0, 0), (672, .ireturn, 1, 0, 0, 0), (673, .goto 3273, 3, 2335, 0, 0), (676, .aload_n 1, 1, 0, 0, 0),
  (677, .aload_n 0, 1, 0, 0, 0), (678, .iload 4, 2, 0, 0, 0), (680, .iconst 1, 1, 0, 0, 0), (681, .iadd, 1, 0, 0, 0), (682, .iaload, 1, 0, 0, 0), (683, .aload_n 3, 1, 0, 0, 0), (684, .invokestatic 219, 3, 338, 0, 348), (687, .istore 5, 2, 0, 0, 0),
  (689, .aload_n 2, 1, 0, 0, 0), (690, .aload_n 0, 1, 0, 0, 0), (691, .iload 4, 2, 0, 0, 0), (693, .iconst 1, 1, 0, 0, 0), (694, .iadd, 1, 0, 0, 0), (695, .iaload, 1, 0, 0, 0), (696, .invokevirtual 221, 3, 259, 0, 349), (699, .istore 6, 2, 0, 0, 0),
  (701, .aload_n 2, 1, 0, 0, 0), (702, .invokevirtual 199, 3, 242, 0, 337), (705, .iload 5, 2, 0, 0, 0), (707, .if_icmp .eq 5, 3, 278, 0, 0), (710, .iconst 0, 1, 0, 0, 0), (711, .ireturn, 1, 0, 0, 0), (712, .iload 5, 2, 0, 0, 0), (714, .ifCond .ne 15, 3, 289, 0, 0),
  (717, .aload_n 3, 1, 0, 0, 0), (718, .iconst 0, 1, 0, 0, 0), (719, .laload, 1, 0, 0, 0), (720, .iload 6, 2, 0, 0, 0), (722, .i2l, 1, 0, 0, 0), (723, .lcmp, 1, 0, 0, 0), (724, .ifCond .eq 5, 3, 289, 0, 0), (727, .iconst 0, 1, 0, 0, 0),
  (728, .ireturn, 1, 0, 0, 0), (729, .goto 3217, 3, 2335, 0, 0), (732, .aload_n 1, 1, 0, 0, 0), (733, .aload_n 0, 1, 0, 0, 0), (734, .iload 4, 2, 0, 0, 0), (736, .iconst 1, 1, 0, 0, 0), (737, .iadd, 1, 0, 0, 0), (738, .iaload, 1, 0, 0, 0),
  (739, .aload_n 3, 1, 0, 0, 0), (740, .invokestatic 222, 3, 339, 0, 350), (743, .istore 5, 2, 0, 0, 0), (745, .aload_n 2, 1, 0, 0, 0), (746, .aload_n 0, 1, 0, 0, 0), (747, .iload 4, 2, 0, 0, 0), (749, .iconst 1, 1, 0, 0, 0), (750, .iadd, 1, 0, 0, 0),
  (751, .iaload, 1, 0, 0, 0), (752, .invokevirtual 224, 3, 260, 0, 351), (755, .istore 6, 2, 0, 0, 0), (757, .aload_n 2, 1, 0, 0, 0), (758, .invokevirtual 199, 3, 242, 0, 337), (761, .iload 5, 2, 0, 0, 0), (763, .if_icmp .eq 5, 3, 313, 0, 0), (766, .iconst 0, 1, 0, 0, 0),
  (767, .ireturn, 1, 0, 0, 0), (768, .iload 5, 2, 0, 0, 0), (770, .ifCond .ne 15, 3, 324, 0, 0), (773, .aload_n 3, 1, 0, 0, 0), (774, .iconst 0, 1, 0, 0, 0), (775, .laload, 1, 0, 0, 0), (776, .iload 6, 2, 0, 0, 0), (778, .i2l, 1, 0, 0, 0),
  (779, .lcmp, 1, 0, 0, 0), (780, .ifCond .eq 5, 3, 324, 0, 0), (783, .iconst 0, 1, 0, 0, 0), (784, .ireturn, 1, 0, 0, 0), (785, .goto 3161, 3, 2335, 0, 0), (788, .aload_n 1, 1, 0, 0, 0), (789, .aload_n 0, 1, 0, 0, 0), (790, .iload 4, 2, 0, 0, 0),
  (792, .iconst 1, 1, 0, 0, 0), (793, .iadd, 1, 0, 0, 0), (794, .iaload, 1, 0, 0, 0), (795, .aload_n 3, 1, 0, 0, 0), (796, .invokestatic 225, 3, 340, 0, 352), (799, .istore 5, 2, 0, 0, 0), (801, .aload_n 2, 1, 0, 0, 0), (802, .aload_n 0, 1, 0, 0, 0),
  (803, .iload 4, 2, 0, 0, 0), (805, .iconst 1, 1, 0, 0, 0), (806, .iadd, 1, 0, 0, 0), (807, .iaload, 1, 0, 0, 0), (808, .invokevirtual 227, 3, 261, 0, 353), (811, .istore 6, 2, 0, 0, 0), (813, .aload_n 2, 1, 0, 0, 0), (814, .invokevirtual 199, 3, 242, 0, 337),
  (817, .iload 5, 2, 0, 0, 0), (819, .if_icmp .eq 5, 3, 348, 0, 0), (822, .iconst 0, 1, 0, 0, 0), (823, .ireturn, 1, 0, 0, 0), (824, .iload 5, 2, 0, 0, 0), (826, .ifCond .ne 15, 3, 359, 0, 0), (829, .aload_n 3, 1, 0, 0, 0), (830, .iconst 0, 1, 0, 0, 0),
  (831, .laload, 1, 0, 0, 0), (832, .iload 6, 2, 0, 0, 0), (834, .i2l, 1, 0, 0, 0), (835, .lcmp, 1, 0, 0, 0), (836, .ifCond .eq 5, 3, 359, 0, 0), (839, .iconst 0, 1, 0, 0, 0), (840, .ireturn, 1, 0, 0, 0), (841, .goto 3105, 3, 2335, 0, 0),
  (844, .aload_n 1, 1, 0, 0, 0), (845, .aload_n 0, 1, 0, 0, 0), (846, .iload 4, 2, 0, 0, 0), (848, .iconst 1, 1, 0, 0, 0), (849, .iadd, 1, 0, 0, 0), (850, .iaload, 1, 0, 0, 0), (851, .aload_n 0, 1, 0, 0, 0), (852, .iload 4, 2, 0, 0, 0),
  (854, .iconst 2, 1, 0, 0, 0), (855, .iadd, 1, 0, 0, 0), (856, .iaload, 1, 0, 0, 0), (857, .aload_n 3, 1, 0, 0, 0), (858, .invokestatic 228, 3, 341, 0, 354), (861, .istore 5, 2, 0, 0, 0), (863, .aload_n 2, 1, 0, 0, 0), (864, .aload_n 0, 1, 0, 0, 0),
  (865, .iload 4, 2, 0, 0, 0), (867, .iconst 1, 1, 0, 0, 0), (868, .iadd, 1, 0, 0, 0), (869, .iaload, 1, 0, 0, 0), (870, .aload_n 0, 1, 0, 0, 0), (871, .iload 4, 2, 0, 0, 0), (873, .iconst 2, 1, 0, 0, 0), (874, .iadd, 1, 0, 0, 0),
  (875, .iaload, 1, 0, 0, 0), (876, .invokevirtual 230, 3, 262, 0, 355), (879, .istore 6, 2, 0, 0, 0), (881, .aload_n 2, 1, 0, 0, 0), (882, .invokevirtual 199, 3, 242, 0, 337), (885, .iload 5, 2, 0, 0, 0), (887, .if_icmp .eq 5, 3, 393, 0, 0), (890, .iconst 0, 1, 0, 0, 0),
  (891, .ireturn, 1, 0, 0, 0), (892, .iload 5, 2, 0, 0, 0), (894, .ifCond .ne 15, 3, 404, 0, 0), (897, .aload_n 3, 1, 0, 0, 0), (898, .iconst 0, 1, 0, 0, 0), (899, .laload, 1, 0, 0, 0), (900, .iload 6, 2, 0, 0, 0), (902, .i2l, 1, 0, 0, 0),
  (903, .lcmp, 1, 0, 0, 0), (904, .ifCond .eq 5, 3, 404, 0, 0), (907, .iconst 0, 1, 0, 0, 0), (908, .ireturn, 1, 0, 0, 0), (909, .goto 3037, 3, 2335, 0, 0), (912, .aload_n 1, 1, 0, 0, 0), (913, .aload_n 0, 1, 0, 0, 0), (914, .iload 4, 2, 0, 0, 0),
  (916, .iconst 1, 1, 0, 0, 0), (917, .iadd, 1, 0, 0, 0), (918, .iaload, 1, 0, 0, 0), (919, .aload_n 0, 1, 0, 0, 0), (920, .iload 4, 2, 0, 0, 0), (922, .iconst 2, 1, 0, 0, 0), (923, .iadd, 1, 0, 0, 0), (924, .iaload, 1, 0, 0, 0),
  (925, .aload_n 3, 1, 0, 0, 0), (926, .invokestatic 231, 3, 342, 0, 356), (929, .istore 5, 2, 0, 0, 0), (931, .aload_n 2, 1, 0, 0, 0), (932, .aload_n 0, 1, 0, 0, 0), (933, .iload 4, 2, 0, 0, 0), (935, .iconst 1, 1, 0, 0, 0), (936, .iadd, 1, 0, 0, 0),
  (937, .iaload, 1, 0, 0, 0), (938, .aload_n 0, 1, 0, 0, 0), (939, .iload 4, 2, 0, 0, 0), (941, .iconst 2, 1, 0, 0, 0), (942, .iadd, 1, 0, 0, 0), (943, .iaload, 1, 0, 0, 0), (944, .invokevirtual 233, 3, 265, 0, 357), (947, .istore 6, 2, 0, 0, 0),
  (949, .aload_n 2, 1, 0, 0, 0), (950, .invokevirtual 199, 3, 242, 0, 337), (953, .iload 5, 2, 0, 0, 0), (955, .if_icmp .eq 5, 3, 438, 0, 0), (958, .iconst 0, 1, 0, 0, 0), (959, .ireturn, 1, 0, 0, 0), (960, .iload 5, 2, 0, 0, 0), (962, .ifCond .ne 15, 3, 449, 0, 0),
  (965, .aload_n 3, 1, 0, 0, 0), (966, .iconst 0, 1, 0, 0, 0), (967, .laload, 1, 0, 0, 0), (968, .iload 6, 2, 0, 0, 0), (970, .i2l, 1, 0, 0, 0), (971, .lcmp, 1, 0, 0, 0), (972, .ifCond .eq 5, 3, 449, 0, 0), (975, .iconst 0, 1, 0, 0, 0),
  (976, .ireturn, 1, 0, 0, 0), (977, .goto 2969, 3, 2335, 0, 0), (980, .aload_n 1, 1, 0, 0, 0), (981, .aload_n 0, 1, 0, 0, 0), (982, .iload 4, 2, 0, 0, 0), (984, .iconst 1, 1, 0, 0, 0), (985, .iadd, 1, 0, 0, 0), (986, .iaload, 1, 0, 0, 0),
  (987, .aload_n 0, 1, 0, 0, 0), (988, .iload 4, 2, 0, 0, 0), (990, .iconst 2, 1, 0, 0, 0), (991, .iadd, 1, 0, 0, 0), (992, .iaload, 1, 0, 0, 0), (993, .aload_n 3, 1, 0, 0, 0), (994, .invokestatic 234, 3, 343, 0, 358), (997, .istore 5, 2, 0, 0, 0),
  (999, .aload_n 2, 1, 0, 0, 0), (1000, .aload_n 0, 1, 0, 0, 0), (1001, .iload 4, 2, 0, 0, 0), (1003, .iconst 1, 1, 0, 0, 0), (1004, .iadd, 1, 0, 0, 0), (1005, .iaload, 1, 0, 0, 0), (1006, .aload_n 0, 1, 0, 0, 0), (1007, .iload 4, 2, 0, 0, 0),
  (1009, .iconst 2, 1, 0, 0, 0), (1010, .iadd, 1, 0, 0, 0), (1011, .iaload, 1, 0, 0, 0), (1012, .invokevirtual 236, 3, 266, 0, 359), (1015, .istore 6, 2, 0, 0, 0), (1017, .aload_n 2, 1, 0, 0, 0), (1018, .invokevirtual 199, 3, 242, 0, 337), (1021, .iload 5, 2, 0, 0, 0),
  (1023, .if_icmp .eq 5, 3, 483, 0, 0), (1026, .iconst 0, 1, 0, 0, 0), (1027, .ireturn, 1, 0, 0, 0), (1028, .iload 5, 2, 0, 0, 0), (1030, .ifCond .ne 15, 3, 494, 0, 0), (1033, .aload_n 3, 1, 0, 0, 0), (1034, .iconst 0, 1, 0, 0, 0), (1035, .laload, 1, 0, 0, 0),
  (1036, .iload 6, 2, 0, 0, 0), (1038, .i2l, 1, 0, 0, 0), (1039, .lcmp, 1, 0, 0, 0), (1040, .ifCond .eq 5, 3, 494, 0, 0), (1043, .iconst 0, 1, 0, 0, 0), (1044, .ireturn, 1, 0, 0, 0), (1045, .goto 2901, 3, 2335, 0, 0), (1048, .aload_n 1, 1, 0, 0, 0),
  (1049, .invokevirtual 237, 3, 117, 0, 360), (1052, .aload_n 2, 1, 0, 0, 0), (1053, .invokevirtual 240, 3, 267, 0, 361), (1056, .if_icmp .eq 2890, 3, 2335, 0, 0), (1059, .iconst 0, 1, 0, 0, 0), (1060, .ireturn, 1, 0, 0, 0), (1061, .aload_n 1, 1, 0, 0, 0), (1062, .aload_n 0, 1, 0, 0, 0),
  (1063, .iload 4, 2, 0, 0, 0), (1065, .iconst 1, 1, 0, 0, 0), (1066, .iadd, 1, 0, 0, 0), (1067, .iaload, 1, 0, 0, 0), (1068, .aload_n 3, 1, 0, 0, 0), (1069, .invokestatic 241, 3, 344, 0, 362), (1072, .istore 5, 2, 0, 0, 0), (1074, .aload_n 2, 1, 0, 0, 0),
  (1075, .aload_n 0, 1, 0, 0, 0), (1076, .iload 4, 2, 0, 0, 0), (1078, .iconst 1, 1, 0, 0, 0), (1079, .iadd, 1, 0, 0, 0), (1080, .iaload, 1, 0, 0, 0), (1081, .invokevirtual 243, 3, 268, 0, 363), (1084, .istore 6, 2, 0, 0, 0), (1086, .aload_n 2, 1, 0, 0, 0),
  (1087, .invokevirtual 199, 3, 242, 0, 337), (1090, .iload 5, 2, 0, 0, 0), (1092, .if_icmp .eq 5, 3, 525, 0, 0), (1095, .iconst 0, 1, 0, 0, 0), (1096, .ireturn, 1, 0, 0, 0), (1097, .iload 5, 2, 0, 0, 0), (1099, .ifCond .ne 22, 3, 539, 0, 0), (1102, .aload_n 3, 1, 0, 0, 0),
  (1103, .iconst 0, 1, 0, 0, 0), (1104, .laload, 1, 0, 0, 0), (1105, .iload 6, 2, 0, 0, 0), (1107, .ifCond .eq 7, 3, 534, 0, 0), (1110, .lconst 1, 1, 0, 0, 0), (1111, .goto 4, 3, 535, 0, 0), (1114, .lconst 0, 1, 0, 0, 0), (1115, .lcmp, 1, 0, 0, 0),
  (1116, .ifCond .eq 5, 3, 539, 0, 0), (1119, .iconst 0, 1, 0, 0, 0), (1120, .ireturn, 1, 0, 0, 0), (1121, .goto 2825, 3, 2335, 0, 0), (1124, .aload_n 1, 1, 0, 0, 0), (1125, .aload_n 0, 1, 0, 0, 0), (1126, .iload 4, 2, 0, 0, 0), (1128, .iconst 1, 1, 0, 0, 0),
  (1129, .iadd, 1, 0, 0, 0), (1130, .iaload, 1, 0, 0, 0), (1131, .aload_n 3, 1, 0, 0, 0), (1132, .invokestatic 244, 3, 345, 0, 364), (1135, .istore 5, 2, 0, 0, 0), (1137, .aload_n 2, 1, 0, 0, 0), (1138, .aload_n 0, 1, 0, 0, 0), (1139, .iload 4, 2, 0, 0, 0),
  (1141, .iconst 1, 1, 0, 0, 0), (1142, .iadd, 1, 0, 0, 0), (1143, .iaload, 1, 0, 0, 0), (1144, .invokevirtual 246, 3, 269, 0, 365), (1147, .istore 6, 2, 0, 0, 0), (1149, .aload_n 2, 1, 0, 0, 0), (1150, .invokevirtual 199, 3, 242, 0, 337), (1153, .iload 5, 2, 0, 0, 0),
  (1155, .if_icmp .eq 5, 3, 563, 0, 0), (1158, .iconst 0, 1, 0, 0, 0), (1159, .ireturn, 1, 0, 0, 0), (1160, .iload 5, 2, 0, 0, 0), (1162, .ifCond .ne 15, 3, 574, 0, 0), (1165, .aload_n 3, 1, 0, 0, 0), (1166, .iconst 0, 1, 0, 0, 0), (1167, .laload, 1, 0, 0, 0),
  (1168, .iload 6, 2, 0, 0, 0), (1170, .i2l, 1, 0, 0, 0), (1171, .lcmp, 1, 0, 0, 0), (1172, .ifCond .eq 5, 3, 574, 0, 0), (1175, .iconst 0, 1, 0, 0, 0), (1176, .ireturn, 1, 0, 0, 0), (1177, .goto 2769, 3, 2335, 0, 0), (1180, .aload_n 1, 1, 0, 0, 0),
  (1181, .aload_n 0, 1, 0, 0, 0), (1182, .iload 4, 2, 0, 0, 0), (1184, .iconst 1, 1, 0, 0, 0), (1185, .iadd, 1, 0, 0, 0), (1186, .iaload, 1, 0, 0, 0), (1187, .aload_n 3, 1, 0, 0, 0), (1188, .invokestatic 247, 3, 346, 0, 366), (1191, .istore 5, 2, 0, 0, 0),
  (1193, .aload_n 2, 1, 0, 0, 0), (1194, .aload_n 0, 1, 0, 0, 0), (1195, .iload 4, 2, 0, 0, 0), (1197, .iconst 1, 1, 0, 0, 0), (1198, .iadd, 1, 0, 0, 0), (1199, .iaload, 1, 0, 0, 0), (1200, .invokevirtual 249, 3, 270, 0, 367), (1203, .istore 6, 2, 0, 0, 0),
  (1205, .aload_n 2, 1, 0, 0, 0), (1206, .invokevirtual 199, 3, 242, 0, 337), (1209, .iload 5, 2, 0, 0, 0), (1211, .if_icmp .eq 5, 3, 598, 0, 0), (1214, .iconst 0, 1, 0, 0, 0), (1215, .ireturn, 1, 0, 0, 0), (1216, .iload 5, 2, 0, 0, 0), (1218, .ifCond .ne 15, 3, 609, 0, 0),
  (1221, .aload_n 3, 1, 0, 0, 0), (1222, .iconst 0, 1, 0, 0, 0), (1223, .laload, 1, 0, 0, 0), (1224, .iload 6, 2, 0, 0, 0), (1226, .i2l, 1, 0, 0, 0), (1227, .lcmp, 1, 0, 0, 0), (1228, .ifCond .eq 5, 3, 609, 0, 0), (1231, .iconst 0, 1, 0, 0, 0),
  (1232, .ireturn, 1, 0, 0, 0), (1233, .goto 2713, 3, 2335, 0, 0), (1236, .aload_n 1, 1, 0, 0, 0), (1237, .aload_n 0, 1, 0, 0, 0), (1238, .iload 4, 2, 0, 0, 0), (1240, .iconst 1, 1, 0, 0, 0), (1241, .iadd, 1, 0, 0, 0), (1242, .iaload, 1, 0, 0, 0),
  (1243, .aload_n 3, 1, 0, 0, 0), (1244, .invokestatic 250, 3, 347, 0, 368), (1247, .istore 5, 2, 0, 0, 0), (1249, .aload_n 2, 1, 0, 0, 0), (1250, .aload_n 0, 1, 0, 0, 0), (1251, .iload 4, 2, 0, 0, 0), (1253, .iconst 1, 1, 0, 0, 0), (1254, .iadd, 1, 0, 0, 0),
  (1255, .iaload, 1, 0, 0, 0), (1256, .invokevirtual 252, 3, 272, 0, 369), (1259, .istore 6, 2, 0, 0, 0), (1261, .aload_n 2, 1, 0, 0, 0), (1262, .invokevirtual 199, 3, 242, 0, 337), (1265, .iload 5, 2, 0, 0, 0), (1267, .if_icmp .eq 5, 3, 633, 0, 0), (1270, .iconst 0, 1, 0, 0, 0),
  (1271, .ireturn, 1, 0, 0, 0), (1272, .iload 5, 2, 0, 0, 0), (1274, .ifCond .ne 15, 3, 644, 0, 0), (1277, .aload_n 3, 1, 0, 0, 0), (1278, .iconst 0, 1, 0, 0, 0), (1279, .laload, 1, 0, 0, 0), (1280, .iload 6, 2, 0, 0, 0), (1282, .i2l, 1, 0, 0, 0),
  (1283, .lcmp, 1, 0, 0, 0), (1284, .ifCond .eq 5, 3, 644, 0, 0), (1287, .iconst 0, 1, 0, 0, 0), (1288, .ireturn, 1, 0, 0, 0), (1289, .goto 2657, 3, 2335, 0, 0), (1292, .aload_n 1, 1, 0, 0, 0), (1293, .aload_n 0, 1, 0, 0, 0), (1294, .iload 4, 2, 0, 0, 0),
  (1296, .iconst 1, 1, 0, 0, 0), (1297, .iadd, 1, 0, 0, 0), (1298, .iaload, 1, 0, 0, 0), (1299, .aload_n 3, 1, 0, 0, 0), (1300, .invokestatic 253, 3, 348, 0, 370), (1303, .istore 5, 2, 0, 0, 0), (1305, .aload_n 2, 1, 0, 0, 0), (1306, .aload_n 0, 1, 0, 0, 0),
  (1307, .iload 4, 2, 0, 0, 0), (1309, .iconst 1, 1, 0, 0, 0), (1310, .iadd, 1, 0, 0, 0), (1311, .iaload, 1, 0, 0, 0), (1312, .invokevirtual 255, 3, 273, 0, 371), (1315, .istore 6, 2, 0, 0, 0), (1317, .aload_n 2, 1, 0, 0, 0), (1318, .invokevirtual 199, 3, 242, 0, 337),
  (1321, .iload 5, 2, 0, 0, 0), (1323, .if_icmp .eq 5, 3, 668, 0, 0), (1326, .iconst 0, 1, 0, 0, 0), (1327, .ireturn, 1, 0, 0, 0), (1328, .iload 5, 2, 0, 0, 0), (1330, .ifCond .ne 15, 3, 679, 0, 0), (1333, .aload_n 3, 1, 0, 0, 0), (1334, .iconst 0, 1, 0, 0, 0),
  (1335, .laload, 1, 0, 0, 0), (1336, .iload 6, 2, 0, 0, 0), (1338, .i2l, 1, 0, 0, 0), (1339, .lcmp, 1, 0, 0, 0), (1340, .ifCond .eq 5, 3, 679, 0, 0), (1343, .iconst 0, 1, 0, 0, 0), (1344, .ireturn, 1, 0, 0, 0), (1345, .goto 2601, 3, 2335, 0, 0),
  (1348, .aload_n 1, 1, 0, 0, 0), (1349, .aload_n 0, 1, 0, 0, 0), (1350, .iload 4, 2, 0, 0, 0), (1352, .iconst 1, 1, 0, 0, 0), (1353, .iadd, 1, 0, 0, 0), (1354, .iaload, 1, 0, 0, 0), (1355, .aload_n 3, 1, 0, 0, 0), (1356, .invokestatic 256, 3, 349, 0, 372),
  (1359, .istore 5, 2, 0, 0, 0), (1361, .aload_n 2, 1, 0, 0, 0), (1362, .aload_n 0, 1, 0, 0, 0), (1363, .iload 4, 2, 0, 0, 0), (1365, .iconst 1, 1, 0, 0, 0), (1366, .iadd, 1, 0, 0, 0), (1367, .iaload, 1, 0, 0, 0), (1368, .invokevirtual 258, 3, 274, 0, 373),
  (1371, .istore 6, 2, 0, 0, 0), (1373, .aload_n 2, 1, 0, 0, 0), (1374, .invokevirtual 199, 3, 242, 0, 337), (1377, .iload 5, 2, 0, 0, 0), (1379, .if_icmp .eq 5, 3, 703, 0, 0), (1382, .iconst 0, 1, 0, 0, 0), (1383, .ireturn, 1, 0, 0, 0), (1384, .iload 5, 2, 0, 0, 0),
  (1386, .ifCond .ne 15, 3, 714, 0, 0), (1389, .aload_n 3, 1, 0, 0, 0), (1390, .iconst 0, 1, 0, 0, 0), (1391, .laload, 1, 0, 0, 0), (1392, .iload 6, 2, 0, 0, 0), (1394, .i2l, 1, 0, 0, 0), (1395, .lcmp, 1, 0, 0, 0), (1396, .ifCond .eq 5, 3, 714, 0, 0),
  (1399, .iconst 0, 1, 0, 0, 0), (1400, .ireturn, 1, 0, 0, 0), (1401, .goto 2545, 3, 2335, 0, 0), (1404, .aload_n 1, 1, 0, 0, 0), (1405, .aload_n 0, 1, 0, 0, 0), (1406, .iload 4, 2, 0, 0, 0), (1408, .iconst 1, 1, 0, 0, 0), (1409, .iadd, 1, 0, 0, 0),
  (1410, .iaload, 1, 0, 0, 0), (1411, .aload_n 3, 1, 0, 0, 0), (1412, .invokestatic 259, 3, 350, 0, 374), (1415, .istore 5, 2, 0, 0, 0), (1417, .aload_n 2, 1, 0, 0, 0), (1418, .aload_n 0, 1, 0, 0, 0), (1419, .iload 4, 2, 0, 0, 0), (1421, .iconst 1, 1, 0, 0, 0),
  (1422, .iadd, 1, 0, 0, 0), (1423, .iaload, 1, 0, 0, 0), (1424, .invokevirtual 261, 3, 275, 0, 375), (1427, .istore 6, 2, 0, 0, 0), (1429, .aload_n 2, 1, 0, 0, 0), (1430, .invokevirtual 199, 3, 242, 0, 337), (1433, .iload 5, 2, 0, 0, 0), (1435, .if_icmp .eq 5, 3, 738, 0, 0),
  (1438, .iconst 0, 1, 0, 0, 0), (1439, .ireturn, 1, 0, 0, 0), (1440, .iload 5, 2, 0, 0, 0), (1442, .ifCond .ne 15, 3, 749, 0, 0), (1445, .aload_n 3, 1, 0, 0, 0), (1446, .iconst 0, 1, 0, 0, 0), (1447, .laload, 1, 0, 0, 0), (1448, .iload 6, 2, 0, 0, 0),
  (1450, .i2l, 1, 0, 0, 0), (1451, .lcmp, 1, 0, 0, 0), (1452, .ifCond .eq 5, 3, 749, 0, 0), (1455, .iconst 0, 1, 0, 0, 0), (1456, .ireturn, 1, 0, 0, 0), (1457, .goto 2489, 3, 2335, 0, 0), (1460, .aload_n 1, 1, 0, 0, 0), (1461, .aload_n 0, 1, 0, 0, 0),
  (1462, .iload 4, 2, 0, 0, 0), (1464, .iconst 1, 1, 0, 0, 0), (1465, .iadd, 1, 0, 0, 0), (1466, .iaload, 1, 0, 0, 0), (1467, .aload_n 3, 1, 0, 0, 0), (1468, .invokestatic 262, 3, 351, 0, 376), (1471, .istore 5, 2, 0, 0, 0), (1473, .aload_n 2, 1, 0, 0, 0),
  (1474, .aload_n 0, 1, 0, 0, 0), (1475, .iload 4, 2, 0, 0, 0), (1477, .iconst 1, 1, 0, 0, 0), (1478, .iadd, 1, 0, 0, 0), (1479, .iaload, 1, 0, 0, 0), (1480, .invokevirtual 264, 3, 276, 0, 377), (1483, .istore 6, 2, 0, 0, 0), (1485, .aload_n 2, 1, 0, 0, 0),
  (1486, .invokevirtual 199, 3, 242, 0, 337), (1489, .iload 5, 2, 0, 0, 0), (1491, .if_icmp .eq 5, 3, 773, 0, 0), (1494, .iconst 0, 1, 0, 0, 0), (1495, .ireturn, 1, 0, 0, 0), (1496, .iload 5, 2, 0, 0, 0), (1498, .ifCond .ne 15, 3, 784, 0, 0), (1501, .aload_n 3, 1, 0, 0, 0),
  (1502, .iconst 0, 1, 0, 0, 0), (1503, .laload, 1, 0, 0, 0), (1504, .iload 6, 2, 0, 0, 0), (1506, .i2l, 1, 0, 0, 0), (1507, .lcmp, 1, 0, 0, 0), (1508, .ifCond .eq 5, 3, 784, 0, 0), (1511, .iconst 0, 1, 0, 0, 0), (1512, .ireturn, 1, 0, 0, 0),
  (1513, .goto 2433, 3, 2335, 0, 0), (1516, .aload_n 1, 1, 0, 0, 0), (1517, .aload_n 0, 1, 0, 0, 0), (1518, .iload 4, 2, 0, 0, 0), (1520, .iconst 1, 1, 0, 0, 0), (1521, .iadd, 1, 0, 0, 0), (1522, .iaload, 1, 0, 0, 0), (1523, .aload_n 0, 1, 0, 0, 0),
  (1524, .iload 4, 2, 0, 0, 0), (1526, .iconst 2, 1, 0, 0, 0), (1527, .iadd, 1, 0, 0, 0), (1528, .iaload, 1, 0, 0, 0), (1529, .aload_n 0, 1, 0, 0, 0), (1530, .iload 4, 2, 0, 0, 0), (1532, .iconst 3, 1, 0, 0, 0), (1533, .iadd, 1, 0, 0, 0),
  (1534, .iaload, 1, 0, 0, 0), (1535, .aload_n 3, 1, 0, 0, 0), (1536, .invokestatic 265, 3, 352, 0, 378), (1539, .istore 5, 2, 0, 0, 0), (1541, .aload_n 2, 1, 0, 0, 0), (1542, .aload_n 0, 1, 0, 0, 0), (1543, .iload 4, 2, 0, 0, 0), (1545, .iconst 1, 1, 0, 0, 0),
  (1546, .iadd, 1, 0, 0, 0), (1547, .iaload, 1, 0, 0, 0), (1548, .aload_n 0, 1, 0, 0, 0), (1549, .iload 4, 2, 0, 0, 0), (1551, .iconst 2, 1, 0, 0, 0), (1552, .iadd, 1, 0, 0, 0), (1553, .iaload, 1, 0, 0, 0), (1554, .aload_n 0, 1, 0, 0, 0),
  (1555, .iload 4, 2, 0, 0, 0), (1557, .iconst 3, 1, 0, 0, 0), (1558, .iadd, 1, 0, 0, 0), (1559, .iaload, 1, 0, 0, 0), (1560, .invokevirtual 268, 3, 278, 0, 379), (1563, .istore 6, 2, 0, 0, 0), (1565, .aload_n 2, 1, 0, 0, 0), (1566, .invokevirtual 199, 3, 242, 0, 337),
  (1569, .iload 5, 2, 0, 0, 0), (1571, .if_icmp .eq 5, 3, 828, 0, 0), (1574, .iconst 0, 1, 0, 0, 0), (1575, .ireturn, 1, 0, 0, 0), (1576, .iload 5, 2, 0, 0, 0), (1578, .ifCond .ne 15, 3, 839, 0, 0), (1581, .aload_n 3, 1, 0, 0, 0), (1582, .iconst 0, 1, 0, 0, 0),
  (1583, .laload, 1, 0, 0, 0), (1584, .iload 6, 2, 0, 0, 0), (1586, .i2l, 1, 0, 0, 0), (1587, .lcmp, 1, 0, 0, 0), (1588, .ifCond .eq 5, 3, 839, 0, 0), (1591, .iconst 0, 1, 0, 0, 0), (1592, .ireturn, 1, 0, 0, 0), (1593, .goto 2353, 3, 2335, 0, 0),
  (1596, .aload_n 1, 1, 0, 0, 0), (1597, .aload_n 0, 1, 0, 0, 0), (1598, .iload 4, 2, 0, 0, 0), (1600, .iconst 1, 1, 0, 0, 0), (1601, .iadd, 1, 0, 0, 0), (1602, .iaload, 1, 0, 0, 0), (1603, .aload_n 0, 1, 0, 0, 0), (1604, .iload 4, 2, 0, 0, 0),
  (1606, .iconst 2, 1, 0, 0, 0), (1607, .iadd, 1, 0, 0, 0), (1608, .iaload, 1, 0, 0, 0), (1609, .aload_n 0, 1, 0, 0, 0), (1610, .iload 4, 2, 0, 0, 0), (1612, .iconst 3, 1, 0, 0, 0), (1613, .iadd, 1, 0, 0, 0), (1614, .iaload, 1, 0, 0, 0),
  (1615, .aload_n 3, 1, 0, 0, 0), (1616, .invokestatic 269, 3, 353, 0, 380), (1619, .istore 5, 2, 0, 0, 0), (1621, .aload_n 2, 1, 0, 0, 0), (1622, .aload_n 0, 1, 0, 0, 0), (1623, .iload 4, 2, 0, 0, 0), (1625, .iconst 1, 1, 0, 0, 0), (1626, .iadd, 1, 0, 0, 0),
  (1627, .iaload, 1, 0, 0, 0), (1628, .aload_n 0, 1, 0, 0, 0), (1629, .iload 4, 2, 0, 0, 0), (1631, .iconst 2, 1, 0, 0, 0), (1632, .iadd, 1, 0, 0, 0), (1633, .iaload, 1, 0, 0, 0), (1634, .aload_n 0, 1, 0, 0, 0), (1635, .iload 4, 2, 0, 0, 0),
  (1637, .iconst 3, 1, 0, 0, 0), (1638, .iadd, 1, 0, 0, 0), (1639, .iaload, 1, 0, 0, 0), (1640, .invokevirtual 271, 3, 279, 0, 381), (1643, .istore 6, 2, 0, 0, 0), (1645, .aload_n 2, 1, 0, 0, 0), (1646, .invokevirtual 199, 3, 242, 0, 337), (1649, .iload 5, 2, 0, 0, 0),
  (1651, .if_icmp .eq 5, 3, 883, 0, 0), (1654, .iconst 0, 1, 0, 0, 0), (1655, .ireturn, 1, 0, 0, 0), (1656, .iload 5, 2, 0, 0, 0), (1658, .ifCond .ne 15, 3, 894, 0, 0), (1661, .aload_n 3, 1, 0, 0, 0), (1662, .iconst 0, 1, 0, 0, 0), (1663, .laload, 1, 0, 0, 0),
  (1664, .iload 6, 2, 0, 0, 0), (1666, .i2l, 1, 0, 0, 0), (1667, .lcmp, 1, 0, 0, 0), (1668, .ifCond .eq 5, 3, 894, 0, 0), (1671, .iconst 0, 1, 0, 0, 0), (1672, .ireturn, 1, 0, 0, 0), (1673, .goto 2273, 3, 2335, 0, 0), (1676, .aload_n 1, 1, 0, 0, 0),
  (1677, .aload_n 0, 1, 0, 0, 0), (1678, .iload 4, 2, 0, 0, 0), (1680, .iconst 1, 1, 0, 0, 0), (1681, .iadd, 1, 0, 0, 0), (1682, .iaload, 1, 0, 0, 0), (1683, .aload_n 0, 1, 0, 0, 0), (1684, .iload 4, 2, 0, 0, 0), (1686, .iconst 2, 1, 0, 0, 0),
  (1687, .iadd, 1, 0, 0, 0), (1688, .iaload, 1, 0, 0, 0), (1689, .aload_n 0, 1, 0, 0, 0), (1690, .iload 4, 2, 0, 0, 0), (1692, .iconst 3, 1, 0, 0, 0), (1693, .iadd, 1, 0, 0, 0), (1694, .iaload, 1, 0, 0, 0), (1695, .aload_n 0, 1, 0, 0, 0),
  (1696, .iload 4, 2, 0, 0, 0), (1698, .iconst 4, 1, 0, 0, 0), (1699, .iadd, 1, 0, 0, 0), (1700, .iaload, 1, 0, 0, 0), (1701, .aload_n 3, 1, 0, 0, 0), (1702, .invokestatic 272, 3, 354, 0, 382), (1705, .istore 5, 2, 0, 0, 0), (1707, .aload_n 2, 1, 0, 0, 0),
  (1708, .aload_n 0, 1, 0, 0, 0), (1709, .iload 4, 2, 0, 0, 0), (1711, .iconst 1, 1, 0, 0, 0), (1712, .iadd, 1, 0, 0, 0), (1713, .iaload, 1, 0, 0, 0), (1714, .aload_n 0, 1, 0, 0, 0), (1715, .iload 4, 2, 0, 0, 0), (1717, .iconst 2, 1, 0, 0, 0),
  (1718, .iadd, 1, 0, 0, 0), (1719, .iaload, 1, 0, 0, 0), (1720, .aload_n 0, 1, 0, 0, 0), (1721, .iload 4, 2, 0, 0, 0), (1723, .iconst 3, 1, 0, 0, 0), (1724, .iadd, 1, 0, 0, 0), (1725, .iaload, 1, 0, 0, 0), (1726, .aload_n 0, 1, 0, 0, 0),
  (1727, .iload 4, 2, 0, 0, 0), (1729, .iconst 4, 1, 0, 0, 0), (1730, .iadd, 1, 0, 0, 0), (1731, .iaload, 1, 0, 0, 0), (1732, .invokevirtual 275, 3, 280, 0, 383), (1735, .istore 6, 2, 0, 0, 0), (1737, .aload_n 2, 1, 0, 0, 0), (1738, .invokevirtual 199, 3, 242, 0, 337),
  (1741, .iload 5, 2, 0, 0, 0), (1743, .if_icmp .eq 5, 3, 948, 0, 0), (1746, .iconst 0, 1, 0, 0, 0), (1747, .ireturn, 1, 0, 0, 0), (1748, .iload 5, 2, 0, 0, 0), (1750, .ifCond .ne 15, 3, 959, 0, 0), (1753, .aload_n 3, 1, 0, 0, 0), (1754, .iconst 0, 1, 0, 0, 0),
  (1755, .laload, 1, 0, 0, 0), (1756, .iload 6, 2, 0, 0, 0), (1758, .i2l, 1, 0, 0, 0), (1759, .lcmp, 1, 0, 0, 0), (1760, .ifCond .eq 5, 3, 959, 0, 0), (1763, .iconst 0, 1, 0, 0, 0), (1764, .ireturn, 1, 0, 0, 0), (1765, .goto 2181, 3, 2335, 0, 0),
  (1768, .aload_n 1, 1, 0, 0, 0), (1769, .aload_n 0, 1, 0, 0, 0), (1770, .iload 4, 2, 0, 0, 0), (1772, .iconst 1, 1, 0, 0, 0), (1773, .iadd, 1, 0, 0, 0), (1774, .iaload, 1, 0, 0, 0), (1775, .aload_n 0, 1, 0, 0, 0), (1776, .iload 4, 2, 0, 0, 0),
  (1778, .iconst 2, 1, 0, 0, 0), (1779, .iadd, 1, 0, 0, 0), (1780, .iaload, 1, 0, 0, 0), (1781, .aload_n 3, 1, 0, 0, 0), (1782, .invokestatic 276, 3, 355, 0, 384), (1785, .istore 5, 2, 0, 0, 0), (1787, .aload_n 2, 1, 0, 0, 0), (1788, .aload_n 0, 1, 0, 0, 0),
  (1789, .iload 4, 2, 0, 0, 0), (1791, .iconst 1, 1, 0, 0, 0), (1792, .iadd, 1, 0, 0, 0), (1793, .iaload, 1, 0, 0, 0), (1794, .aload_n 0, 1, 0, 0, 0), (1795, .iload 4, 2, 0, 0, 0), (1797, .iconst 2, 1, 0, 0, 0), (1798, .iadd, 1, 0, 0, 0),
  (1799, .iaload, 1, 0, 0, 0), (1800, .invokevirtual 278, 3, 282, 0, 385), (1803, .istore 6, 2, 0, 0, 0), (1805, .aload_n 2, 1, 0, 0, 0), (1806, .invokevirtual 199, 3, 242, 0, 337), (1809, .iload 5, 2, 0, 0, 0), (1811, .if_icmp .eq 5, 3, 993, 0, 0), (1814, .iconst 0, 1, 0, 0, 0),
  (1815, .ireturn, 1, 0, 0, 0), (1816, .iload 5, 2, 0, 0, 0), (1818, .ifCond .ne 15, 3, 1004, 0, 0), (1821, .aload_n 3, 1, 0, 0, 0), (1822, .iconst 0, 1, 0, 0, 0), (1823, .laload, 1, 0, 0, 0), (1824, .iload 6, 2, 0, 0, 0), (1826, .i2l, 1, 0, 0, 0),
  (1827, .lcmp, 1, 0, 0, 0), (1828, .ifCond .eq 5, 3, 1004, 0, 0), (1831, .iconst 0, 1, 0, 0, 0), (1832, .ireturn, 1, 0, 0, 0), (1833, .goto 2113, 3, 2335, 0, 0), (1836, .aload_n 1, 1, 0, 0, 0), (1837, .aload_n 0, 1, 0, 0, 0), (1838, .iload 4, 2, 0, 0, 0),
  (1840, .iconst 1, 1, 0, 0, 0), (1841, .iadd, 1, 0, 0, 0), (1842, .iaload, 1, 0, 0, 0), (1843, .aload_n 3, 1, 0, 0, 0), (1844, .invokestatic 279, 3, 356, 0, 386), (1847, .istore 5, 2, 0, 0, 0), (1849, .aload_n 2, 1, 0, 0, 0), (1850, .aload_n 0, 1, 0, 0, 0),
  (1851, .iload 4, 2, 0, 0, 0), (1853, .iconst 1, 1, 0, 0, 0), (1854, .iadd, 1, 0, 0, 0), (1855, .iaload, 1, 0, 0, 0), (1856, .invokevirtual 281, 3, 283, 0, 387), (1859, .istore 6, 2, 0, 0, 0), (1861, .aload_n 2, 1, 0, 0, 0), (1862, .invokevirtual 199, 3, 242, 0, 337),
  (1865, .iload 5, 2, 0, 0, 0), (1867, .if_icmp .eq 5, 3, 1028, 0, 0), (1870, .iconst 0, 1, 0, 0, 0), (1871, .ireturn, 1, 0, 0, 0), (1872, .iload 5, 2, 0, 0, 0), (1874, .ifCond .ne 15, 3, 1039, 0, 0), (1877, .aload_n 3, 1, 0, 0, 0), (1878, .iconst 0, 1, 0, 0, 0),
  (1879, .laload, 1, 0, 0, 0), (1880, .iload 6, 2, 0, 0, 0), (1882, .i2l, 1, 0, 0, 0), (1883, .lcmp, 1, 0, 0, 0), (1884, .ifCond .eq 5, 3, 1039, 0, 0), (1887, .iconst 0, 1, 0, 0, 0), (1888, .ireturn, 1, 0, 0, 0), (1889, .goto 2057, 3, 2335, 0, 0),
  (1892, .aload_n 1, 1, 0, 0, 0), (1893, .aload_n 0, 1, 0, 0, 0), (1894, .iload 4, 2, 0, 0, 0), (1896, .iconst 1, 1, 0, 0, 0), (1897, .iadd, 1, 0, 0, 0), (1898, .iaload, 1, 0, 0, 0), (1899, .aload_n 3, 1, 0, 0, 0), (1900, .invokestatic 282, 3, 357, 0, 388),
  (1903, .istore 5, 2, 0, 0, 0), (1905, .aload_n 2, 1, 0, 0, 0), (1906, .aload_n 0, 1, 0, 0, 0), (1907, .iload 4, 2, 0, 0, 0), (1909, .iconst 1, 1, 0, 0, 0), (1910, .iadd, 1, 0, 0, 0), (1911, .iaload, 1, 0, 0, 0), (1912, .invokevirtual 284, 3, 284, 0, 389),
  (1915, .istore 6, 2, 0, 0, 0), (1917, .aload_n 2, 1, 0, 0, 0), (1918, .invokevirtual 199, 3, 242, 0, 337), (1921, .iload 5, 2, 0, 0, 0), (1923, .if_icmp .eq 5, 3, 1063, 0, 0), (1926, .iconst 0, 1, 0, 0, 0), (1927, .ireturn, 1, 0, 0, 0), (1928, .iload 5, 2, 0, 0, 0),
  (1930, .ifCond .ne 22, 3, 1077, 0, 0), (1933, .aload_n 3, 1, 0, 0, 0), (1934, .iconst 0, 1, 0, 0, 0), (1935, .laload, 1, 0, 0, 0), (1936, .iload 6, 2, 0, 0, 0), (1938, .ifCond .eq 7, 3, 1072, 0, 0), (1941, .lconst 1, 1, 0, 0, 0), (1942, .goto 4, 3, 1073, 0, 0),
  (1945, .lconst 0, 1, 0, 0, 0), (1946, .lcmp, 1, 0, 0, 0), (1947, .ifCond .eq 5, 3, 1077, 0, 0), (1950, .iconst 0, 1, 0, 0, 0), (1951, .ireturn, 1, 0, 0, 0), (1952, .goto 1994, 3, 2335, 0, 0), (1955, .aload_n 1, 1, 0, 0, 0), (1956, .aload_n 0, 1, 0, 0, 0),
  (1957, .iload 4, 2, 0, 0, 0), (1959, .iconst 1, 1, 0, 0, 0), (1960, .iadd, 1, 0, 0, 0), (1961, .iaload, 1, 0, 0, 0), (1962, .aload_n 3, 1, 0, 0, 0), (1963, .invokestatic 285, 3, 358, 0, 390), (1966, .istore 5, 2, 0, 0, 0), (1968, .aload_n 2, 1, 0, 0, 0),
  (1969, .aload_n 0, 1, 0, 0, 0), (1970, .iload 4, 2, 0, 0, 0), (1972, .iconst 1, 1, 0, 0, 0), (1973, .iadd, 1, 0, 0, 0), (1974, .iaload, 1, 0, 0, 0), (1975, .invokevirtual 287, 3, 285, 0, 391), (1978, .istore 6, 2, 0, 0, 0), (1980, .aload_n 2, 1, 0, 0, 0),
  (1981, .invokevirtual 199, 3, 242, 0, 337), (1984, .iload 5, 2, 0, 0, 0), (1986, .if_icmp .eq 5, 3, 1101, 0, 0), (1989, .iconst 0, 1, 0, 0, 0), (1990, .ireturn, 1, 0, 0, 0), (1991, .iload 5, 2, 0, 0, 0), (1993, .ifCond .ne 15, 3, 1112, 0, 0), (1996, .aload_n 3, 1, 0, 0, 0),
  (1997, .iconst 0, 1, 0, 0, 0), (1998, .laload, 1, 0, 0, 0), (1999, .iload 6, 2, 0, 0, 0), (2001, .i2l, 1, 0, 0, 0), (2002, .lcmp, 1, 0, 0, 0), (2003, .ifCond .eq 5, 3, 1112, 0, 0), (2006, .iconst 0, 1, 0, 0, 0), (2007, .ireturn, 1, 0, 0, 0),
  (2008, .goto 1938, 3, 2335, 0, 0), (2011, .aload_n 1, 1, 0, 0, 0), (2012, .invokevirtual 288, 3, 133, 0, 392), (2015, .aload_n 2, 1, 0, 0, 0), (2016, .invokevirtual 291, 3, 286, 0, 393), (2019, .if_icmp .eq 1927, 3, 2335, 0, 0), (2022, .iconst 0, 1, 0, 0, 0), (2023, .ireturn, 1, 0, 0, 0),
  (2024, .aload_n 1, 1, 0, 0, 0), (2025, .invokevirtual 292, 3, 134, 0, 394), (2028, .aload_n 2, 1, 0, 0, 0), (2029, .invokevirtual 295, 3, 287, 0, 395), (2032, .if_icmp .eq 1914, 3, 2335, 0, 0), (2035, .iconst 0, 1, 0, 0, 0), (2036, .ireturn, 1, 0, 0, 0), (2037, .aload_n 1, 1, 0, 0, 0),
  (2038, .aload_n 0, 1, 0, 0, 0), (2039, .iload 4, 2, 0, 0, 0), (2041, .iconst 1, 1, 0, 0, 0), (2042, .iadd, 1, 0, 0, 0), (2043, .iaload, 1, 0, 0, 0), (2044, .aload_n 3, 1, 0, 0, 0), (2045, .invokestatic 296, 3, 359, 0, 396), (2048, .istore 5, 2, 0, 0, 0),
  (2050, .aload_n 2, 1, 0, 0, 0), (2051, .aload_n 0, 1, 0, 0, 0), (2052, .iload 4, 2, 0, 0, 0), (2054, .iconst 1, 1, 0, 0, 0), (2055, .iadd, 1, 0, 0, 0), (2056, .iaload, 1, 0, 0, 0), (2057, .invokevirtual 298, 3, 289, 0, 397), (2060, .istore 6, 2, 0, 0, 0),
  (2062, .aload_n 2, 1, 0, 0, 0), (2063, .invokevirtual 199, 3, 242, 0, 337), (2066, .iload 5, 2, 0, 0, 0), (2068, .if_icmp .eq 5, 3, 1150, 0, 0), (2071, .iconst 0, 1, 0, 0, 0), (2072, .ireturn, 1, 0, 0, 0), (2073, .iload 5, 2, 0, 0, 0), (2075, .ifCond .ne 22, 3, 1164, 0, 0),
  (2078, .aload_n 3, 1, 0, 0, 0), (2079, .iconst 0, 1, 0, 0, 0), (2080, .laload, 1, 0, 0, 0), (2081, .iload 6, 2, 0, 0, 0), (2083, .ifCond .eq 7, 3, 1159, 0, 0), (2086, .lconst 1, 1, 0, 0, 0), (2087, .goto 4, 3, 1160, 0, 0), (2090, .lconst 0, 1, 0, 0, 0),
  (2091, .lcmp, 1, 0, 0, 0), (2092, .ifCond .eq 5, 3, 1164, 0, 0), (2095, .iconst 0, 1, 0, 0, 0), (2096, .ireturn, 1, 0, 0, 0), (2097, .goto 1849, 3, 2335, 0, 0), (2100, .aload_n 1, 1, 0, 0, 0), (2101, .aload_n 0, 1, 0, 0, 0), (2102, .iload 4, 2, 0, 0, 0),
  (2104, .iconst 1, 1, 0, 0, 0), (2105, .iadd, 1, 0, 0, 0), (2106, .iaload, 1, 0, 0, 0), (2107, .aload_n 3, 1, 0, 0, 0), (2108, .invokestatic 299, 3, 360, 0, 398), (2111, .istore 5, 2, 0, 0, 0), (2113, .aload_n 2, 1, 0, 0, 0), (2114, .aload_n 0, 1, 0, 0, 0),
  (2115, .iload 4, 2, 0, 0, 0), (2117, .iconst 1, 1, 0, 0, 0), (2118, .iadd, 1, 0, 0, 0), (2119, .iaload, 1, 0, 0, 0), (2120, .invokevirtual 301, 3, 290, 0, 399), (2123, .istore 6, 2, 0, 0, 0), (2125, .aload_n 2, 1, 0, 0, 0), (2126, .invokevirtual 199, 3, 242, 0, 337),
  (2129, .iload 5, 2, 0, 0, 0), (2131, .if_icmp .eq 5, 3, 1188, 0, 0), (2134, .iconst 0, 1, 0, 0, 0), (2135, .ireturn, 1, 0, 0, 0), (2136, .iload 5, 2, 0, 0, 0), (2138, .ifCond .ne 15, 3, 1199, 0, 0), (2141, .aload_n 3, 1, 0, 0, 0), (2142, .iconst 0, 1, 0, 0, 0),
  (2143, .laload, 1, 0, 0, 0), (2144, .iload 6, 2, 0, 0, 0), (2146, .i2l, 1, 0, 0, 0), (2147, .lcmp, 1, 0, 0, 0), (2148, .ifCond .eq 5, 3, 1199, 0, 0), (2151, .iconst 0, 1, 0, 0, 0), (2152, .ireturn, 1, 0, 0, 0), (2153, .goto 1793, 3, 2335, 0, 0),
  (2156, .aload_n 1, 1, 0, 0, 0), (2157, .aload_n 0, 1, 0, 0, 0), (2158, .iload 4, 2, 0, 0, 0), (2160, .iconst 1, 1, 0, 0, 0), (2161, .iadd, 1, 0, 0, 0), (2162, .iaload, 1, 0, 0, 0), (2163, .aload_n 3, 1, 0, 0, 0), (2164, .invokestatic 302, 3, 361, 0, 400),
  (2167, .istore 5, 2, 0, 0, 0), (2169, .aload_n 2, 1, 0, 0, 0), (2170, .aload_n 0, 1, 0, 0, 0), (2171, .iload 4, 2, 0, 0, 0), (2173, .iconst 1, 1, 0, 0, 0), (2174, .iadd, 1, 0, 0, 0), (2175, .iaload, 1, 0, 0, 0), (2176, .invokevirtual 304, 3, 291, 0, 401),
  (2179, .istore 6, 2, 0, 0, 0), (2181, .aload_n 2, 1, 0, 0, 0), (2182, .invokevirtual 199, 3, 242, 0, 337), (2185, .iload 5, 2, 0, 0, 0), (2187, .if_icmp .eq 5, 3, 1223, 0, 0), (2190, .iconst 0, 1, 0, 0, 0), (2191, .ireturn, 1, 0, 0, 0), (2192, .iload 5, 2, 0, 0, 0),
  (2194, .ifCond .ne 15, 3, 1234, 0, 0), (2197, .aload_n 3, 1, 0, 0, 0), (2198, .iconst 0, 1, 0, 0, 0), (2199, .laload, 1, 0, 0, 0), (2200, .iload 6, 2, 0, 0, 0), (2202, .i2l, 1, 0, 0, 0), (2203, .lcmp, 1, 0, 0, 0), (2204, .ifCond .eq 5, 3, 1234, 0, 0),
  (2207, .iconst 0, 1, 0, 0, 0), (2208, .ireturn, 1, 0, 0, 0), (2209, .goto 1737, 3, 2335, 0, 0), (2212, .aload_n 1, 1, 0, 0, 0), (2213, .aload_n 0, 1, 0, 0, 0), (2214, .iload 4, 2, 0, 0, 0), (2216, .iconst 1, 1, 0, 0, 0), (2217, .iadd, 1, 0, 0, 0),
  (2218, .iaload, 1, 0, 0, 0), (2219, .aload_n 3, 1, 0, 0, 0), (2220, .invokestatic 305, 3, 362, 0, 402), (2223, .istore 5, 2, 0, 0, 0), (2225, .aload_n 2, 1, 0, 0, 0), (2226, .aload_n 0, 1, 0, 0, 0), (2227, .iload 4, 2, 0, 0, 0), (2229, .iconst 1, 1, 0, 0, 0),
  (2230, .iadd, 1, 0, 0, 0), (2231, .iaload, 1, 0, 0, 0), (2232, .invokevirtual 307, 3, 292, 0, 403), (2235, .istore 6, 2, 0, 0, 0), (2237, .aload_n 2, 1, 0, 0, 0), (2238, .invokevirtual 199, 3, 242, 0, 337), (2241, .iload 5, 2, 0, 0, 0), (2243, .if_icmp .eq 5, 3, 1258, 0, 0),
  (2246, .iconst 0, 1, 0, 0, 0), (2247, .ireturn, 1, 0, 0, 0), (2248, .iload 5, 2, 0, 0, 0), (2250, .ifCond .ne 15, 3, 1269, 0, 0), (2253, .aload_n 3, 1, 0, 0, 0), (2254, .iconst 0, 1, 0, 0, 0), (2255, .laload, 1, 0, 0, 0), (2256, .iload 6, 2, 0, 0, 0),
  (2258, .i2l, 1, 0, 0, 0), (2259, .lcmp, 1, 0, 0, 0), (2260, .ifCond .eq 5, 3, 1269, 0, 0), (2263, .iconst 0, 1, 0, 0, 0), (2264, .ireturn, 1, 0, 0, 0), (2265, .goto 1681, 3, 2335, 0, 0), (2268, .aload_n 1, 1, 0, 0, 0), (2269, .aload_n 0, 1, 0, 0, 0),
  (2270, .iload 4, 2, 0, 0, 0), (2272, .iconst 1, 1, 0, 0, 0), (2273, .iadd, 1, 0, 0, 0), (2274, .iaload, 1, 0, 0, 0), (2275, .aload_n 3, 1, 0, 0, 0), (2276, .invokestatic 308, 3, 363, 0, 404), (2279, .istore 5, 2, 0, 0, 0), (2281, .aload_n 2, 1, 0, 0, 0),
  (2282, .aload_n 0, 1, 0, 0, 0), (2283, .iload 4, 2, 0, 0, 0), (2285, .iconst 1, 1, 0, 0, 0), (2286, .iadd, 1, 0, 0, 0), (2287, .iaload, 1, 0, 0, 0), (2288, .invokevirtual 310, 3, 293, 0, 405), (2291, .istore 6, 2, 0, 0, 0), (2293, .aload_n 2, 1, 0, 0, 0),
  (2294, .invokevirtual 199, 3, 242, 0, 337), (2297, .iload 5, 2, 0, 0, 0), (2299, .if_icmp .eq 5, 3, 1293, 0, 0), (2302, .iconst 0, 1, 0, 0, 0), (2303, .ireturn, 1, 0, 0, 0), (2304, .iload 5, 2, 0, 0, 0), (2306, .ifCond .ne 15, 3, 1304, 0, 0), (2309, .aload_n 3, 1, 0, 0, 0),
  (2310, .iconst 0, 1, 0, 0, 0), (2311, .laload, 1, 0, 0, 0), (2312, .iload 6, 2, 0, 0, 0), (2314, .i2l, 1, 0, 0, 0), (2315, .lcmp, 1, 0, 0, 0), (2316, .ifCond .eq 5, 3, 1304, 0, 0), (2319, .iconst 0, 1, 0, 0, 0), (2320, .ireturn, 1, 0, 0, 0),
  (2321, .goto 1625, 3, 2335, 0, 0), (2324, .aload_n 1, 1, 0, 0, 0), (2325, .aload_n 0, 1, 0, 0, 0), (2326, .iload 4, 2, 0, 0, 0), (2328, .iconst 1, 1, 0, 0, 0), (2329, .iadd, 1, 0, 0, 0), (2330, .iaload, 1, 0, 0, 0), (2331, .aload_n 3, 1, 0, 0, 0),
  (2332, .invokestatic 311, 3, 364, 0, 406), (2335, .istore 5, 2, 0, 0, 0), (2337, .aload_n 2, 1, 0, 0, 0), (2338, .aload_n 0, 1, 0, 0, 0), (2339, .iload 4, 2, 0, 0, 0), (2341, .iconst 1, 1, 0, 0, 0), (2342, .iadd, 1, 0, 0, 0), (2343, .iaload, 1, 0, 0, 0),
  (2344, .invokevirtual 313, 3, 294, 0, 407), (2347, .istore 6, 2, 0, 0, 0), (2349, .aload_n 2, 1, 0, 0, 0), (2350, .invokevirtual 199, 3, 242, 0, 337), (2353, .iload 5, 2, 0, 0, 0), (2355, .if_icmp .eq 5, 3, 1328, 0, 0), (2358, .iconst 0, 1, 0, 0, 0), (2359, .ireturn, 1, 0, 0, 0),
  (2360, .iload 5, 2, 0, 0, 0), (2362, .ifCond .ne 15, 3, 1339, 0, 0), (2365, .aload_n 3, 1, 0, 0, 0), (2366, .iconst 0, 1, 0, 0, 0), (2367, .laload, 1, 0, 0, 0), (2368, .iload 6, 2, 0, 0, 0), (2370, .i2l, 1, 0, 0, 0), (2371, .lcmp, 1, 0, 0, 0),
  (2372, .ifCond .eq 5, 3, 1339, 0, 0), (2375, .iconst 0, 1, 0, 0, 0), (2376, .ireturn, 1, 0, 0, 0), (2377, .goto 1569, 3, 2335, 0, 0), (2380, .aload_n 1, 1, 0, 0, 0), (2381, .aload_n 0, 1, 0, 0, 0), (2382, .iload 4, 2, 0, 0, 0), (2384, .iconst 1, 1, 0, 0, 0),
  (2385, .iadd, 1, 0, 0, 0), (2386, .iaload, 1, 0, 0, 0), (2387, .aload_n 3, 1, 0, 0, 0), (2388, .invokestatic 314, 3, 365, 0, 408), (2391, .istore 5, 2, 0, 0, 0), (2393, .aload_n 2, 1, 0, 0, 0), (2394, .aload_n 0, 1, 0, 0, 0), (2395, .iload 4, 2, 0, 0, 0),
  (2397, .iconst 1, 1, 0, 0, 0), (2398, .iadd, 1, 0, 0, 0), (2399, .iaload, 1, 0, 0, 0), (2400, .invokevirtual 316, 3, 295, 0, 409), (2403, .istore 6, 2, 0, 0, 0), (2405, .aload_n 2, 1, 0, 0, 0), (2406, .invokevirtual 199, 3, 242, 0, 337), (2409, .iload 5, 2, 0, 0, 0),
  (2411, .if_icmp .eq 5, 3, 1363, 0, 0), (2414, .iconst 0, 1, 0, 0, 0), (2415, .ireturn, 1, 0, 0, 0), (2416, .iload 5, 2, 0, 0, 0), (2418, .ifCond .ne 15, 3, 1374, 0, 0), (2421, .aload_n 3, 1, 0, 0, 0), (2422, .iconst 0, 1, 0, 0, 0), (2423, .laload, 1, 0, 0, 0),
  (2424, .iload 6, 2, 0, 0, 0), (2426, .i2l, 1, 0, 0, 0), (2427, .lcmp, 1, 0, 0, 0), (2428, .ifCond .eq 5, 3, 1374, 0, 0), (2431, .iconst 0, 1, 0, 0, 0), (2432, .ireturn, 1, 0, 0, 0), (2433, .goto 1513, 3, 2335, 0, 0), (2436, .aload_n 1, 1, 0, 0, 0),
  (2437, .aload_n 0, 1, 0, 0, 0), (2438, .iload 4, 2, 0, 0, 0), (2440, .iconst 1, 1, 0, 0, 0), (2441, .iadd, 1, 0, 0, 0), (2442, .iaload, 1, 0, 0, 0), (2443, .aload_n 3, 1, 0, 0, 0), (2444, .invokestatic 317, 3, 366, 0, 410), (2447, .istore 5, 2, 0, 0, 0),
  (2449, .aload_n 2, 1, 0, 0, 0), (2450, .aload_n 0, 1, 0, 0, 0), (2451, .iload 4, 2, 0, 0, 0), (2453, .iconst 1, 1, 0, 0, 0), (2454, .iadd, 1, 0, 0, 0), (2455, .iaload, 1, 0, 0, 0), (2456, .invokevirtual 319, 3, 296, 0, 411), (2459, .istore 6, 2, 0, 0, 0),
  (2461, .aload_n 2, 1, 0, 0, 0), (2462, .invokevirtual 199, 3, 242, 0, 337), (2465, .iload 5, 2, 0, 0, 0), (2467, .if_icmp .eq 5, 3, 1398, 0, 0), (2470, .iconst 0, 1, 0, 0, 0), (2471, .ireturn, 1, 0, 0, 0), (2472, .iload 5, 2, 0, 0, 0), (2474, .ifCond .ne 15, 3, 1409, 0, 0),
  (2477, .aload_n 3, 1, 0, 0, 0), (2478, .iconst 0, 1, 0, 0, 0), (2479, .laload, 1, 0, 0, 0), (2480, .iload 6, 2, 0, 0, 0), (2482, .i2l, 1, 0, 0, 0), (2483, .lcmp, 1, 0, 0, 0), (2484, .ifCond .eq 5, 3, 1409, 0, 0), (2487, .iconst 0, 1, 0, 0, 0),
  (2488, .ireturn, 1, 0, 0, 0), (2489, .goto 1457, 3, 2335, 0, 0), (2492, .aload_n 1, 1, 0, 0, 0), (2493, .aload_n 0, 1, 0, 0, 0), (2494, .iload 4, 2, 0, 0, 0), (2496, .iconst 1, 1, 0, 0, 0), (2497, .iadd, 1, 0, 0, 0), (2498, .iaload, 1, 0, 0, 0),
  (2499, .aload_n 3, 1, 0, 0, 0), (2500, .invokestatic 320, 3, 367, 0, 412), (2503, .istore 5, 2, 0, 0, 0), (2505, .aload_n 2, 1, 0, 0, 0), (2506, .aload_n 0, 1, 0, 0, 0), (2507, .iload 4, 2, 0, 0, 0), (2509, .iconst 1, 1, 0, 0, 0), (2510, .iadd, 1, 0, 0, 0),
  (2511, .iaload, 1, 0, 0, 0), (2512, .invokevirtual 322, 3, 297, 0, 413), (2515, .istore 6, 2, 0, 0, 0), (2517, .aload_n 2, 1, 0, 0, 0), (2518, .invokevirtual 199, 3, 242, 0, 337), (2521, .iload 5, 2, 0, 0, 0), (2523, .if_icmp .eq 5, 3, 1433, 0, 0), (2526, .iconst 0, 1, 0, 0, 0),
  (2527, .ireturn, 1, 0, 0, 0), (2528, .iload 5, 2, 0, 0, 0), (2530, .ifCond .ne 15, 3, 1444, 0, 0), (2533, .aload_n 3, 1, 0, 0, 0), (2534, .iconst 0, 1, 0, 0, 0), (2535, .laload, 1, 0, 0, 0), (2536, .iload 6, 2, 0, 0, 0), (2538, .i2l, 1, 0, 0, 0),
  (2539, .lcmp, 1, 0, 0, 0), (2540, .ifCond .eq 5, 3, 1444, 0, 0), (2543, .iconst 0, 1, 0, 0, 0), (2544, .ireturn, 1, 0, 0, 0), (2545, .goto 1401, 3, 2335, 0, 0), (2548, .aload_n 1, 1, 0, 0, 0), (2549, .aload_n 0, 1, 0, 0, 0), (2550, .iload 4, 2, 0, 0, 0),
  (2552, .iconst 1, 1, 0, 0, 0), (2553, .iadd, 1, 0, 0, 0), (2554, .iaload, 1, 0, 0, 0), (2555, .aload_n 3, 1, 0, 0, 0), (2556, .invokestatic 323, 3, 368, 0, 414), (2559, .istore 5, 2, 0, 0, 0), (2561, .aload_n 2, 1, 0, 0, 0), (2562, .aload_n 0, 1, 0, 0, 0),
  (2563, .iload 4, 2, 0, 0, 0), (2565, .iconst 1, 1, 0, 0, 0), (2566, .iadd, 1, 0, 0, 0), (2567, .iaload, 1, 0, 0, 0), (2568, .invokevirtual 325, 3, 298, 0, 415), (2571, .istore 6, 2, 0, 0, 0), (2573, .aload_n 2, 1, 0, 0, 0), (2574, .invokevirtual 199, 3, 242, 0, 337),
  (2577, .iload 5, 2, 0, 0, 0), (2579, .if_icmp .eq 5, 3, 1468, 0, 0), (2582, .iconst 0, 1, 0, 0, 0), (2583, .ireturn, 1, 0, 0, 0), (2584, .iload 5, 2, 0, 0, 0), (2586, .ifCond .ne 15, 3, 1479, 0, 0), (2589, .aload_n 3, 1, 0, 0, 0), (2590, .iconst 0, 1, 0, 0, 0),
  (2591, .laload, 1, 0, 0, 0), (2592, .iload 6, 2, 0, 0, 0), (2594, .i2l, 1, 0, 0, 0), (2595, .lcmp, 1, 0, 0, 0), (2596, .ifCond .eq 5, 3, 1479, 0, 0), (2599, .iconst 0, 1, 0, 0, 0), (2600, .ireturn, 1, 0, 0, 0), (2601, .goto 1345, 3, 2335, 0, 0),
  (2604, .aload_n 1, 1, 0, 0, 0), (2605, .aload_n 0, 1, 0, 0, 0), (2606, .iload 4, 2, 0, 0, 0), (2608, .iconst 1, 1, 0, 0, 0), (2609, .iadd, 1, 0, 0, 0), (2610, .iaload, 1, 0, 0, 0), (2611, .aload_n 3, 1, 0, 0, 0), (2612, .invokestatic 326, 3, 369, 0, 416),
  (2615, .istore 5, 2, 0, 0, 0), (2617, .aload_n 2, 1, 0, 0, 0), (2618, .aload_n 0, 1, 0, 0, 0), (2619, .iload 4, 2, 0, 0, 0), (2621, .iconst 1, 1, 0, 0, 0), (2622, .iadd, 1, 0, 0, 0), (2623, .iaload, 1, 0, 0, 0), (2624, .invokevirtual 328, 3, 299, 0, 417),
  (2627, .istore 6, 2, 0, 0, 0), (2629, .aload_n 2, 1, 0, 0, 0), (2630, .invokevirtual 199, 3, 242, 0, 337), (2633, .iload 5, 2, 0, 0, 0), (2635, .if_icmp .eq 5, 3, 1503, 0, 0), (2638, .iconst 0, 1, 0, 0, 0), (2639, .ireturn, 1, 0, 0, 0), (2640, .iload 5, 2, 0, 0, 0),
  (2642, .ifCond .ne 15, 3, 1514, 0, 0), (2645, .aload_n 3, 1, 0, 0, 0), (2646, .iconst 0, 1, 0, 0, 0), (2647, .laload, 1, 0, 0, 0), (2648, .iload 6, 2, 0, 0, 0), (2650, .i2l, 1, 0, 0, 0), (2651, .lcmp, 1, 0, 0, 0), (2652, .ifCond .eq 5, 3, 1514, 0, 0),
  (2655, .iconst 0, 1, 0, 0, 0), (2656, .ireturn, 1, 0, 0, 0), (2657, .goto 1289, 3, 2335, 0, 0), (2660, .aload_n 1, 1, 0, 0, 0), (2661, .aload_n 0, 1, 0, 0, 0), (2662, .iload 4, 2, 0, 0, 0), (2664, .iconst 1, 1, 0, 0, 0), (2665, .iadd, 1, 0, 0, 0),
  (2666, .iaload, 1, 0, 0, 0), (2667, .aload_n 3, 1, 0, 0, 0), (2668, .invokestatic 329, 3, 370, 0, 418), (2671, .istore 5, 2, 0, 0, 0), (2673, .aload_n 2, 1, 0, 0, 0), (2674, .aload_n 0, 1, 0, 0, 0), (2675, .iload 4, 2, 0, 0, 0), (2677, .iconst 1, 1, 0, 0, 0),
  (2678, .iadd, 1, 0, 0, 0), (2679, .iaload, 1, 0, 0, 0), (2680, .invokevirtual 331, 3, 300, 0, 419), (2683, .istore 6, 2, 0, 0, 0), (2685, .aload_n 2, 1, 0, 0, 0), (2686, .invokevirtual 199, 3, 242, 0, 337), (2689, .iload 5, 2, 0, 0, 0), (2691, .if_icmp .eq 5, 3, 1538, 0, 0),
  (2694, .iconst 0, 1, 0, 0, 0), (2695, .ireturn, 1, 0, 0, 0), (2696, .iload 5, 2, 0, 0, 0), (2698, .ifCond .ne 15, 3, 1549, 0, 0), (2701, .aload_n 3, 1, 0, 0, 0), (2702, .iconst 0, 1, 0, 0, 0), (2703, .laload, 1, 0, 0, 0), (2704, .iload 6, 2, 0, 0, 0),
  (2706, .i2l, 1, 0, 0, 0), (2707, .lcmp, 1, 0, 0, 0), (2708, .ifCond .eq 5, 3, 1549, 0, 0), (2711, .iconst 0, 1, 0, 0, 0), (2712, .ireturn, 1, 0, 0, 0), (2713, .goto 1233, 3, 2335, 0, 0), (2716, .aload_n 1, 1, 0, 0, 0), (2717, .aload_n 0, 1, 0, 0, 0),
  (2718, .iload 4, 2, 0, 0, 0), (2720, .iconst 1, 1, 0, 0, 0), (2721, .iadd, 1, 0, 0, 0), (2722, .iaload, 1, 0, 0, 0), (2723, .aload_n 0, 1, 0, 0, 0), (2724, .iload 4, 2, 0, 0, 0), (2726, .iconst 2, 1, 0, 0, 0), (2727, .iadd, 1, 0, 0, 0),
  (2728, .iaload, 1, 0, 0, 0), (2729, .aload_n 3, 1, 0, 0, 0), (2730, .invokestatic 332, 3, 371, 0, 420), (2733, .istore 5, 2, 0, 0, 0), (2735, .aload_n 2, 1, 0, 0, 0), (2736, .aload_n 0, 1, 0, 0, 0), (2737, .iload 4, 2, 0, 0, 0), (2739, .iconst 1, 1, 0, 0, 0),
  (2740, .iadd, 1, 0, 0, 0), (2741, .iaload, 1, 0, 0, 0), (2742, .aload_n 0, 1, 0, 0, 0), (2743, .iload 4, 2, 0, 0, 0), (2745, .iconst 2, 1, 0, 0, 0), (2746, .iadd, 1, 0, 0, 0), (2747, .iaload, 1, 0, 0, 0), (2748, .invokevirtual 334, 3, 301, 0, 421),
  (2751, .istore 6, 2, 0, 0, 0), (2753, .aload_n 2, 1, 0, 0, 0), (2754, .invokevirtual 199, 3, 242, 0, 337), (2757, .iload 5, 2, 0, 0, 0), (2759, .if_icmp .eq 5, 3, 1583, 0, 0), (2762, .iconst 0, 1, 0, 0, 0), (2763, .ireturn, 1, 0, 0, 0), (2764, .iload 5, 2, 0, 0, 0),
  (2766, .ifCond .ne 22, 3, 1597, 0, 0), (2769, .aload_n 3, 1, 0, 0, 0), (2770, .iconst 0, 1, 0, 0, 0), (2771, .laload, 1, 0, 0, 0), (2772, .iload 6, 2, 0, 0, 0), (2774, .ifCond .eq 7, 3, 1592, 0, 0), (2777, .lconst 1, 1, 0, 0, 0), (2778, .goto 4, 3, 1593, 0, 0),
  (2781, .lconst 0, 1, 0, 0, 0), (2782, .lcmp, 1, 0, 0, 0), (2783, .ifCond .eq 5, 3, 1597, 0, 0), (2786, .iconst 0, 1, 0, 0, 0), (2787, .ireturn, 1, 0, 0, 0), (2788, .goto 1158, 3, 2335, 0, 0), (2791, .aload_n 1, 1, 0, 0, 0), (2792, .aload_n 0, 1, 0, 0, 0),
  (2793, .iload 4, 2, 0, 0, 0), (2795, .iconst 1, 1, 0, 0, 0), (2796, .iadd, 1, 0, 0, 0), (2797, .iaload, 1, 0, 0, 0), (2798, .aload_n 0, 1, 0, 0, 0), (2799, .iload 4, 2, 0, 0, 0), (2801, .iconst 2, 1, 0, 0, 0), (2802, .iadd, 1, 0, 0, 0),
  (2803, .iaload, 1, 0, 0, 0), (2804, .aload_n 3, 1, 0, 0, 0), (2805, .invokestatic 335, 3, 372, 0, 422), (2808, .istore 5, 2, 0, 0, 0), (2810, .aload_n 2, 1, 0, 0, 0), (2811, .aload_n 0, 1, 0, 0, 0), (2812, .iload 4, 2, 0, 0, 0), (2814, .iconst 1, 1, 0, 0, 0),
  (2815, .iadd, 1, 0, 0, 0), (2816, .iaload, 1, 0, 0, 0), (2817, .aload_n 0, 1, 0, 0, 0), (2818, .iload 4, 2, 0, 0, 0), (2820, .iconst 2, 1, 0, 0, 0), (2821, .iadd, 1, 0, 0, 0), (2822, .iaload, 1, 0, 0, 0), (2823, .invokevirtual 337, 3, 302, 0, 423),
  (2826, .istore 6, 2, 0, 0, 0), (2828, .aload_n 2, 1, 0, 0, 0), (2829, .invokevirtual 199, 3, 242, 0, 337), (2832, .iload 5, 2, 0, 0, 0), (2834, .if_icmp .eq 5, 3, 1631, 0, 0), (2837, .iconst 0, 1, 0, 0, 0), (2838, .ireturn, 1, 0, 0, 0), (2839, .iload 5, 2, 0, 0, 0),
  (2841, .ifCond .ne 15, 3, 1642, 0, 0), (2844, .aload_n 3, 1, 0, 0, 0), (2845, .iconst 0, 1, 0, 0, 0), (2846, .laload, 1, 0, 0, 0), (2847, .iload 6, 2, 0, 0, 0), (2849, .i2l, 1, 0, 0, 0), (2850, .lcmp, 1, 0, 0, 0), (2851, .ifCond .eq 5, 3, 1642, 0, 0),
  (2854, .iconst 0, 1, 0, 0, 0), (2855, .ireturn, 1, 0, 0, 0), (2856, .goto 1090, 3, 2335, 0, 0), (2859, .aload_n 1, 1, 0, 0, 0), (2860, .aload_n 0, 1, 0, 0, 0), (2861, .iload 4, 2, 0, 0, 0), (2863, .iconst 1, 1, 0, 0, 0), (2864, .iadd, 1, 0, 0, 0),
  (2865, .iaload, 1, 0, 0, 0), (2866, .aload_n 0, 1, 0, 0, 0), (2867, .iload 4, 2, 0, 0, 0), (2869, .iconst 2, 1, 0, 0, 0), (2870, .iadd, 1, 0, 0, 0), (2871, .iaload, 1, 0, 0, 0), (2872, .aload_n 3, 1, 0, 0, 0), (2873, .invokestatic 338, 3, 373, 0, 424),
  (2876, .istore 5, 2, 0, 0, 0), (2878, .aload_n 2, 1, 0, 0, 0), (2879, .aload_n 0, 1, 0, 0, 0), (2880, .iload 4, 2, 0, 0, 0), (2882, .iconst 1, 1, 0, 0, 0), (2883, .iadd, 1, 0, 0, 0), (2884, .iaload, 1, 0, 0, 0), (2885, .aload_n 0, 1, 0, 0, 0),
  (2886, .iload 4, 2, 0, 0, 0), (2888, .iconst 2, 1, 0, 0, 0), (2889, .iadd, 1, 0, 0, 0), (2890, .iaload, 1, 0, 0, 0), (2891, .invokevirtual 340, 3, 304, 0, 425), (2894, .istore 6, 2, 0, 0, 0), (2896, .aload_n 2, 1, 0, 0, 0), (2897, .invokevirtual 199, 3, 242, 0, 337),
  (2900, .iload 5, 2, 0, 0, 0), (2902, .if_icmp .eq 5, 3, 1676, 0, 0), (2905, .iconst 0, 1, 0, 0, 0), (2906, .ireturn, 1, 0, 0, 0), (2907, .iload 5, 2, 0, 0, 0), (2909, .ifCond .ne 15, 3, 1687, 0, 0), (2912, .aload_n 3, 1, 0, 0, 0), (2913, .iconst 0, 1, 0, 0, 0),
  (2914, .laload, 1, 0, 0, 0), (2915, .iload 6, 2, 0, 0, 0), (2917, .i2l, 1, 0, 0, 0), (2918, .lcmp, 1, 0, 0, 0), (2919, .ifCond .eq 5, 3, 1687, 0, 0), (2922, .iconst 0, 1, 0, 0, 0), (2923, .ireturn, 1, 0, 0, 0), (2924, .goto 1022, 3, 2335, 0, 0),
  (2927, .aload_n 1, 1, 0, 0, 0), (2928, .aload_n 0, 1, 0, 0, 0), (2929, .iload 4, 2, 0, 0, 0), (2931, .iconst 1, 1, 0, 0, 0), (2932, .iadd, 1, 0, 0, 0), (2933, .iaload, 1, 0, 0, 0), (2934, .aload_n 0, 1, 0, 0, 0), (2935, .iload 4, 2, 0, 0, 0),
  (2937, .iconst 2, 1, 0, 0, 0), (2938, .iadd, 1, 0, 0, 0), (2939, .iaload, 1, 0, 0, 0), (2940, .aload_n 3, 1, 0, 0, 0), (2941, .invokestatic 341, 3, 374, 0, 426), (2944, .istore 5, 2, 0, 0, 0), (2946, .aload_n 2, 1, 0, 0, 0), (2947, .aload_n 0, 1, 0, 0, 0),
  (2948, .iload 4, 2, 0, 0, 0), (2950, .iconst 1, 1, 0, 0, 0), (2951, .iadd, 1, 0, 0, 0), (2952, .iaload, 1, 0, 0, 0), (2953, .aload_n 0, 1, 0, 0, 0), (2954, .iload 4, 2, 0, 0, 0), (2956, .iconst 2, 1, 0, 0, 0), (2957, .iadd, 1, 0, 0, 0),
  (2958, .iaload, 1, 0, 0, 0), (2959, .invokevirtual 343, 3, 305, 0, 427), (2962, .istore 6, 2, 0, 0, 0), (2964, .aload_n 2, 1, 0, 0, 0), (2965, .invokevirtual 199, 3, 242, 0, 337), (2968, .iload 5, 2, 0, 0, 0), (2970, .if_icmp .eq 5, 3, 1721, 0, 0), (2973, .iconst 0, 1, 0, 0, 0),
  (2974, .ireturn, 1, 0, 0, 0), (2975, .iload 5, 2, 0, 0, 0), (2977, .ifCond .ne 15, 3, 1732, 0, 0), (2980, .aload_n 3, 1, 0, 0, 0), (2981, .iconst 0, 1, 0, 0, 0), (2982, .laload, 1, 0, 0, 0), (2983, .iload 6, 2, 0, 0, 0), (2985, .i2l, 1, 0, 0, 0),
  (2986, .lcmp, 1, 0, 0, 0), (2987, .ifCond .eq 5, 3, 1732, 0, 0), (2990, .iconst 0, 1, 0, 0, 0), (2991, .ireturn, 1, 0, 0, 0), (2992, .goto 954, 3, 2335, 0, 0), (2995, .aload_n 1, 1, 0, 0, 0), (2996, .aload_n 0, 1, 0, 0, 0), (2997, .iload 4, 2, 0, 0, 0),
  (2999, .iconst 1, 1, 0, 0, 0), (3000, .iadd, 1, 0, 0, 0), (3001, .iaload, 1, 0, 0, 0), (3002, .aload_n 0, 1, 0, 0, 0), (3003, .iload 4, 2, 0, 0, 0), (3005, .iconst 2, 1, 0, 0, 0), (3006, .iadd, 1, 0, 0, 0), (3007, .iaload, 1, 0, 0, 0),
  (3008, .aload_n 3, 1, 0, 0, 0), (3009, .invokestatic 344, 3, 375, 0, 428), (3012, .istore 5, 2, 0, 0, 0), (3014, .aload_n 2, 1, 0, 0, 0), (3015, .aload_n 0, 1, 0, 0, 0), (3016, .iload 4, 2, 0, 0, 0), (3018, .iconst 1, 1, 0, 0, 0), (3019, .iadd, 1, 0, 0, 0),
  (3020, .iaload, 1, 0, 0, 0), (3021, .aload_n 0, 1, 0, 0, 0), (3022, .iload 4, 2, 0, 0, 0), (3024, .iconst 2, 1, 0, 0, 0), (3025, .iadd, 1, 0, 0, 0), (3026, .iaload, 1, 0, 0, 0), (3027, .invokevirtual 346, 3, 306, 0, 429), (3030, .istore 6, 2, 0, 0, 0),
  (3032, .aload_n 2, 1, 0, 0, 0), (3033, .invokevirtual 199, 3, 242, 0, 337), (3036, .iload 5, 2, 0, 0, 0), (3038, .if_icmp .eq 5, 3, 1766, 0, 0), (3041, .iconst 0, 1, 0, 0, 0), (3042, .ireturn, 1, 0, 0, 0), (3043, .iload 5, 2, 0, 0, 0), (3045, .ifCond .ne 15, 3, 1777, 0, 0),
  (3048, .aload_n 3, 1, 0, 0, 0), (3049, .iconst 0, 1, 0, 0, 0), (3050, .laload, 1, 0, 0, 0), (3051, .iload 6, 2, 0, 0, 0), (3053, .i2l, 1, 0, 0, 0), (3054, .lcmp, 1, 0, 0, 0), (3055, .ifCond .eq 5, 3, 1777, 0, 0), (3058, .iconst 0, 1, 0, 0, 0),
  (3059, .ireturn, 1, 0, 0, 0), (3060, .goto 886, 3, 2335, 0, 0), (3063, .aload_n 1, 1, 0, 0, 0), (3064, .aload_n 0, 1, 0, 0, 0), (3065, .iload 4, 2, 0, 0, 0), (3067, .iconst 1, 1, 0, 0, 0), (3068, .iadd, 1, 0, 0, 0), (3069, .iaload, 1, 0, 0, 0),
  (3070, .aload_n 0, 1, 0, 0, 0), (3071, .iload 4, 2, 0, 0, 0), (3073, .iconst 2, 1, 0, 0, 0), (3074, .iadd, 1, 0, 0, 0), (3075, .iaload, 1, 0, 0, 0), (3076, .aload_n 3, 1, 0, 0, 0), (3077, .invokestatic 347, 3, 376, 0, 430), (3080, .istore 5, 2, 0, 0, 0),
  (3082, .aload_n 2, 1, 0, 0, 0), (3083, .aload_n 0, 1, 0, 0, 0), (3084, .iload 4, 2, 0, 0, 0), (3086, .iconst 1, 1, 0, 0, 0), (3087, .iadd, 1, 0, 0, 0), (3088, .iaload, 1, 0, 0, 0), (3089, .aload_n 0, 1, 0, 0, 0), (3090, .iload 4, 2, 0, 0, 0),
  (3092, .iconst 2, 1, 0, 0, 0), (3093, .iadd, 1, 0, 0, 0), (3094, .iaload, 1, 0, 0, 0), (3095, .invokevirtual 349, 3, 307, 0, 431), (3098, .istore 6, 2, 0, 0, 0), (3100, .aload_n 2, 1, 0, 0, 0), (3101, .invokevirtual 199, 3, 242, 0, 337), (3104, .iload 5, 2, 0, 0, 0),
  (3106, .if_icmp .eq 5, 3, 1811, 0, 0), (3109, .iconst 0, 1, 0, 0, 0), (3110, .ireturn, 1, 0, 0, 0), (3111, .iload 5, 2, 0, 0, 0), (3113, .ifCond .ne 15, 3, 1822, 0, 0), (3116, .aload_n 3, 1, 0, 0, 0), (3117, .iconst 0, 1, 0, 0, 0), (3118, .laload, 1, 0, 0, 0),
  (3119, .iload 6, 2, 0, 0, 0), (3121, .i2l, 1, 0, 0, 0), (3122, .lcmp, 1, 0, 0, 0), (3123, .ifCond .eq 5, 3, 1822, 0, 0), (3126, .iconst 0, 1, 0, 0, 0), (3127, .ireturn, 1, 0, 0, 0), (3128, .goto 818, 3, 2335, 0, 0), (3131, .aload_n 1, 1, 0, 0, 0),
  (3132, .aload_n 0, 1, 0, 0, 0), (3133, .iload 4, 2, 0, 0, 0), (3135, .iconst 1, 1, 0, 0, 0), (3136, .iadd, 1, 0, 0, 0), (3137, .iaload, 1, 0, 0, 0), (3138, .aload_n 0, 1, 0, 0, 0), (3139, .iload 4, 2, 0, 0, 0), (3141, .iconst 2, 1, 0, 0, 0),
  (3142, .iadd, 1, 0, 0, 0), (3143, .iaload, 1, 0, 0, 0), (3144, .aload_n 3, 1, 0, 0, 0), (3145, .invokestatic 350, 3, 377, 0, 432), (3148, .istore 5, 2, 0, 0, 0), (3150, .aload_n 2, 1, 0, 0, 0), (3151, .aload_n 0, 1, 0, 0, 0), (3152, .iload 4, 2, 0, 0, 0),
  (3154, .iconst 1, 1, 0, 0, 0), (3155, .iadd, 1, 0, 0, 0), (3156, .iaload, 1, 0, 0, 0), (3157, .aload_n 0, 1, 0, 0, 0), (3158, .iload 4, 2, 0, 0, 0), (3160, .iconst 2, 1, 0, 0, 0), (3161, .iadd, 1, 0, 0, 0), (3162, .iaload, 1, 0, 0, 0),
  (3163, .invokevirtual 352, 3, 308, 0, 433), (3166, .istore 6, 2, 0, 0, 0), (3168, .aload_n 2, 1, 0, 0, 0), (3169, .invokevirtual 199, 3, 242, 0, 337), (3172, .iload 5, 2, 0, 0, 0), (3174, .if_icmp .eq 5, 3, 1856, 0, 0), (3177, .iconst 0, 1, 0, 0, 0), (3178, .ireturn, 1, 0, 0, 0),
  (3179, .iload 5, 2, 0, 0, 0), (3181, .ifCond .ne 15, 3, 1867, 0, 0), (3184, .aload_n 3, 1, 0, 0, 0), (3185, .iconst 0, 1, 0, 0, 0), (3186, .laload, 1, 0, 0, 0), (3187, .iload 6, 2, 0, 0, 0), (3189, .i2l, 1, 0, 0, 0), (3190, .lcmp, 1, 0, 0, 0),
  (3191, .ifCond .eq 5, 3, 1867, 0, 0), (3194, .iconst 0, 1, 0, 0, 0), (3195, .ireturn, 1, 0, 0, 0), (3196, .goto 750, 3, 2335, 0, 0), (3199, .aload_n 1, 1, 0, 0, 0), (3200, .aload_n 0, 1, 0, 0, 0), (3201, .iload 4, 2, 0, 0, 0), (3203, .iconst 1, 1, 0, 0, 0),
  (3204, .iadd, 1, 0, 0, 0), (3205, .iaload, 1, 0, 0, 0), (3206, .aload_n 0, 1, 0, 0, 0), (3207, .iload 4, 2, 0, 0, 0), (3209, .iconst 2, 1, 0, 0, 0), (3210, .iadd, 1, 0, 0, 0), (3211, .iaload, 1, 0, 0, 0), (3212, .aload_n 3, 1, 0, 0, 0),
  (3213, .invokestatic 353, 3, 378, 0, 434), (3216, .istore 5, 2, 0, 0, 0), (3218, .aload_n 2, 1, 0, 0, 0), (3219, .aload_n 0, 1, 0, 0, 0), (3220, .iload 4, 2, 0, 0, 0), (3222, .iconst 1, 1, 0, 0, 0), (3223, .iadd, 1, 0, 0, 0), (3224, .iaload, 1, 0, 0, 0),
  (3225, .aload_n 0, 1, 0, 0, 0), (3226, .iload 4, 2, 0, 0, 0), (3228, .iconst 2, 1, 0, 0, 0), (3229, .iadd, 1, 0, 0, 0), (3230, .iaload, 1, 0, 0, 0), (3231, .invokevirtual 355, 3, 309, 0, 435), (3234, .istore 6, 2, 0, 0, 0), (3236, .aload_n 2, 1, 0, 0, 0),
  (3237, .invokevirtual 199, 3, 242, 0, 337), (3240, .iload 5, 2, 0, 0, 0), (3242, .if_icmp .eq 5, 3, 1901, 0, 0), (3245, .iconst 0, 1, 0, 0, 0), (3246, .ireturn, 1, 0, 0, 0), (3247, .iload 5, 2, 0, 0, 0), (3249, .ifCond .ne 15, 3, 1912, 0, 0), (3252, .aload_n 3, 1, 0, 0, 0),
  (3253, .iconst 0, 1, 0, 0, 0), (3254, .laload, 1, 0, 0, 0), (3255, .iload 6, 2, 0, 0, 0), (3257, .i2l, 1, 0, 0, 0), (3258, .lcmp, 1, 0, 0, 0), (3259, .ifCond .eq 5, 3, 1912, 0, 0), (3262, .iconst 0, 1, 0, 0, 0), (3263, .ireturn, 1, 0, 0, 0),
  (3264, .goto 682, 3, 2335, 0, 0), (3267, .aload_n 1, 1, 0, 0, 0), (3268, .aload_n 0, 1, 0, 0, 0), (3269, .iload 4, 2, 0, 0, 0), (3271, .iconst 1, 1, 0, 0, 0), (3272, .iadd, 1, 0, 0, 0), (3273, .iaload, 1, 0, 0, 0), (3274, .aload_n 0, 1, 0, 0, 0),
  (3275, .iload 4, 2, 0, 0, 0), (3277, .iconst 2, 1, 0, 0, 0), (3278, .iadd, 1, 0, 0, 0), (3279, .iaload, 1, 0, 0, 0), (3280, .aload_n 3, 1, 0, 0, 0), (3281, .invokestatic 356, 3, 379, 0, 436), (3284, .istore 5, 2, 0, 0, 0), (3286, .aload_n 2, 1, 0, 0, 0),
  (3287, .aload_n 0, 1, 0, 0, 0), (3288, .iload 4, 2, 0, 0, 0), (3290, .iconst 1, 1, 0, 0, 0), (3291, .iadd, 1, 0, 0, 0), (3292, .iaload, 1, 0, 0, 0), (3293, .aload_n 0, 1, 0, 0, 0), (3294, .iload 4, 2, 0, 0, 0), (3296, .iconst 2, 1, 0, 0, 0),
  (3297, .iadd, 1, 0, 0, 0), (3298, .iaload, 1, 0, 0, 0), (3299, .invokevirtual 358, 3, 311, 0, 437), (3302, .istore 6, 2, 0, 0, 0), (3304, .aload_n 2, 1, 0, 0, 0), (3305, .invokevirtual 199, 3, 242, 0, 337), (3308, .iload 5, 2, 0, 0, 0), (3310, .if_icmp .eq 5, 3, 1946, 0, 0),
  (3313, .iconst 0, 1, 0, 0, 0), (3314, .ireturn, 1, 0, 0, 0), (3315, .iload 5, 2, 0, 0, 0), (3317, .ifCond .ne 15, 3, 1957, 0, 0), (3320, .aload_n 3, 1, 0, 0, 0), (3321, .iconst 0, 1, 0, 0, 0), (3322, .laload, 1, 0, 0, 0), (3323, .iload 6, 2, 0, 0, 0),
  (3325, .i2l, 1, 0, 0, 0), (3326, .lcmp, 1, 0, 0, 0), (3327, .ifCond .eq 5, 3, 1957, 0, 0), (3330, .iconst 0, 1, 0, 0, 0), (3331, .ireturn, 1, 0, 0, 0), (3332, .goto 614, 3, 2335, 0, 0), (3335, .aload_n 1, 1, 0, 0, 0), (3336, .aload_n 0, 1, 0, 0, 0),
  (3337, .iload 4, 2, 0, 0, 0), (3339, .iconst 1, 1, 0, 0, 0), (3340, .iadd, 1, 0, 0, 0), (3341, .iaload, 1, 0, 0, 0), (3342, .aload_n 0, 1, 0, 0, 0), (3343, .iload 4, 2, 0, 0, 0), (3345, .iconst 2, 1, 0, 0, 0), (3346, .iadd, 1, 0, 0, 0),
  (3347, .iaload, 1, 0, 0, 0), (3348, .aload_n 3, 1, 0, 0, 0), (3349, .invokestatic 359, 3, 380, 0, 438), (3352, .istore 5, 2, 0, 0, 0), (3354, .aload_n 2, 1, 0, 0, 0), (3355, .aload_n 0, 1, 0, 0, 0), (3356, .iload 4, 2, 0, 0, 0), (3358, .iconst 1, 1, 0, 0, 0),
  (3359, .iadd, 1, 0, 0, 0), (3360, .iaload, 1, 0, 0, 0), (3361, .aload_n 0, 1, 0, 0, 0), (3362, .iload 4, 2, 0, 0, 0), (3364, .iconst 2, 1, 0, 0, 0), (3365, .iadd, 1, 0, 0, 0), (3366, .iaload, 1, 0, 0, 0), (3367, .invokevirtual 361, 3, 312, 0, 439),
  (3370, .istore 6, 2, 0, 0, 0), (3372, .aload_n 2, 1, 0, 0, 0), (3373, .invokevirtual 199, 3, 242, 0, 337), (3376, .iload 5, 2, 0, 0, 0), (3378, .if_icmp .eq 5, 3, 1991, 0, 0), (3381, .iconst 0, 1, 0, 0, 0), (3382, .ireturn, 1, 0, 0, 0), (3383, .iload 5, 2, 0, 0, 0),
  (3385, .ifCond .ne 15, 3, 2002, 0, 0), (3388, .aload_n 3, 1, 0, 0, 0), (3389, .iconst 0, 1, 0, 0, 0), (3390, .laload, 1, 0, 0, 0), (3391, .iload 6, 2, 0, 0, 0), (3393, .i2l, 1, 0, 0, 0), (3394, .lcmp, 1, 0, 0, 0), (3395, .ifCond .eq 5, 3, 2002, 0, 0),
  (3398, .iconst 0, 1, 0, 0, 0), (3399, .ireturn, 1, 0, 0, 0), (3400, .goto 546, 3, 2335, 0, 0), (3403, .aload_n 1, 1, 0, 0, 0), (3404, .invokevirtual 362, 3, 157, 0, 440), (3407, .aload_n 2, 1, 0, 0, 0), (3408, .invokevirtual 365, 3, 313, 0, 441), (3411, .if_icmp .eq 535, 3, 2335, 0, 0),
  (3414, .iconst 0, 1, 0, 0, 0), (3415, .ireturn, 1, 0, 0, 0), (3416, .aload_n 1, 1, 0, 0, 0), (3417, .invokevirtual 366, 3, 158, 0, 442), (3420, .aload_n 2, 1, 0, 0, 0), (3421, .invokevirtual 369, 3, 315, 0, 443), (3424, .if_icmp .eq 522, 3, 2335, 0, 0), (3427, .iconst 0, 1, 0, 0, 0),
  (3428, .ireturn, 1, 0, 0, 0), (3429, .aload_n 1, 1, 0, 0, 0), (3430, .invokevirtual 370, 3, 159, 0, 444), (3433, .aload_n 2, 1, 0, 0, 0), (3434, .invokevirtual 373, 3, 316, 0, 445), (3437, .if_icmp .eq 509, 3, 2335, 0, 0), (3440, .iconst 0, 1, 0, 0, 0), (3441, .ireturn, 1, 0, 0, 0),
  (3442, .aload_n 1, 1, 0, 0, 0), (3443, .aload_n 0, 1, 0, 0, 0), (3444, .iload 4, 2, 0, 0, 0), (3446, .iconst 1, 1, 0, 0, 0), (3447, .iadd, 1, 0, 0, 0), (3448, .iaload, 1, 0, 0, 0), (3449, .aload_n 0, 1, 0, 0, 0), (3450, .iload 4, 2, 0, 0, 0),
  (3452, .iconst 2, 1, 0, 0, 0), (3453, .iadd, 1, 0, 0, 0), (3454, .iaload, 1, 0, 0, 0), (3455, .aload_n 3, 1, 0, 0, 0), (3456, .invokestatic 374, 3, 381, 0, 446), (3459, .istore 5, 2, 0, 0, 0), (3461, .aload_n 2, 1, 0, 0, 0), (3462, .aload_n 0, 1, 0, 0, 0),
  (3463, .iload 4, 2, 0, 0, 0), (3465, .iconst 1, 1, 0, 0, 0), (3466, .iadd, 1, 0, 0, 0), (3467, .iaload, 1, 0, 0, 0), (3468, .aload_n 0, 1, 0, 0, 0), (3469, .iload 4, 2, 0, 0, 0), (3471, .iconst 2, 1, 0, 0, 0), (3472, .iadd, 1, 0, 0, 0),
  (3473, .iaload, 1, 0, 0, 0), (3474, .invokevirtual 376, 3, 317, 0, 447), (3477, .istore 6, 2, 0, 0, 0), (3479, .aload_n 2, 1, 0, 0, 0), (3480, .invokevirtual 199, 3, 242, 0, 337), (3483, .iload 5, 2, 0, 0, 0), (3485, .if_icmp .eq 5, 3, 2057, 0, 0), (3488, .iconst 0, 1, 0, 0, 0),
  (3489, .ireturn, 1, 0, 0, 0), (3490, .iload 5, 2, 0, 0, 0), (3492, .ifCond .ne 15, 3, 2068, 0, 0), (3495, .aload_n 3, 1, 0, 0, 0), (3496, .iconst 0, 1, 0, 0, 0), (3497, .laload, 1, 0, 0, 0), (3498, .iload 6, 2, 0, 0, 0), (3500, .i2l, 1, 0, 0, 0),
  (3501, .lcmp, 1, 0, 0, 0), (3502, .ifCond .eq 5, 3, 2068, 0, 0), (3505, .iconst 0, 1, 0, 0, 0), (3506, .ireturn, 1, 0, 0, 0), (3507, .goto 439, 3, 2335, 0, 0), (3510, .aload_n 1, 1, 0, 0, 0), (3511, .aload_n 0, 1, 0, 0, 0), (3512, .iload 4, 2, 0, 0, 0),
  (3514, .iconst 1, 1, 0, 0, 0), (3515, .iadd, 1, 0, 0, 0), (3516, .iaload, 1, 0, 0, 0), (3517, .aload_n 0, 1, 0, 0, 0), (3518, .iload 4, 2, 0, 0, 0), (3520, .iconst 2, 1, 0, 0, 0), (3521, .iadd, 1, 0, 0, 0), (3522, .iaload, 1, 0, 0, 0),
  (3523, .aload_n 3, 1, 0, 0, 0), (3524, .invokestatic 377, 3, 382, 0, 448), (3527, .istore 5, 2, 0, 0, 0), (3529, .aload_n 2, 1, 0, 0, 0), (3530, .aload_n 0, 1, 0, 0, 0), (3531, .iload 4, 2, 0, 0, 0), (3533, .iconst 1, 1, 0, 0, 0), (3534, .iadd, 1, 0, 0, 0),
  (3535, .iaload, 1, 0, 0, 0), (3536, .aload_n 0, 1, 0, 0, 0), (3537, .iload 4, 2, 0, 0, 0), (3539, .iconst 2, 1, 0, 0, 0), (3540, .iadd, 1, 0, 0, 0), (3541, .iaload, 1, 0, 0, 0), (3542, .invokevirtual 379, 3, 318, 0, 449), (3545, .istore 6, 2, 0, 0, 0),
  (3547, .aload_n 2, 1, 0, 0, 0), (3548, .invokevirtual 199, 3, 242, 0, 337), (3551, .iload 5, 2, 0, 0, 0), (3553, .if_icmp .eq 5, 3, 2102, 0, 0), (3556, .iconst 0, 1, 0, 0, 0), (3557, .ireturn, 1, 0, 0, 0), (3558, .iload 5, 2, 0, 0, 0), (3560, .ifCond .ne 15, 3, 2113, 0, 0),
  (3563, .aload_n 3, 1, 0, 0, 0), (3564, .iconst 0, 1, 0, 0, 0), (3565, .laload, 1, 0, 0, 0), (3566, .iload 6, 2, 0, 0, 0), (3568, .i2l, 1, 0, 0, 0), (3569, .lcmp, 1, 0, 0, 0), (3570, .ifCond .eq 5, 3, 2113, 0, 0), (3573, .iconst 0, 1, 0, 0, 0),
  (3574, .ireturn, 1, 0, 0, 0), (3575, .goto 371, 3, 2335, 0, 0), (3578, .aload_n 1, 1, 0, 0, 0), (3579, .aload_n 0, 1, 0, 0, 0), (3580, .iload 4, 2, 0, 0, 0), (3582, .iconst 1, 1, 0, 0, 0), (3583, .iadd, 1, 0, 0, 0), (3584, .iaload, 1, 0, 0, 0),
  (3585, .aload_n 3, 1, 0, 0, 0), (3586, .invokestatic 380, 3, 383, 0, 450), (3589, .istore 5, 2, 0, 0, 0), (3591, .aload_n 2, 1, 0, 0, 0), (3592, .aload_n 0, 1, 0, 0, 0), (3593, .iload 4, 2, 0, 0, 0), (3595, .iconst 1, 1, 0, 0, 0), (3596, .iadd, 1, 0, 0, 0),
  (3597, .iaload, 1, 0, 0, 0), (3598, .invokevirtual 382, 3, 319, 0, 451), (3601, .istore 6, 2, 0, 0, 0), (3603, .aload_n 2, 1, 0, 0, 0), (3604, .invokevirtual 199, 3, 242, 0, 337), (3607, .iload 5, 2, 0, 0, 0), (3609, .if_icmp .eq 5, 3, 2137, 0, 0), (3612, .iconst 0, 1, 0, 0, 0),
  (3613, .ireturn, 1, 0, 0, 0), (3614, .iload 5, 2, 0, 0, 0), (3616, .ifCond .ne 22, 3, 2151, 0, 0), (3619, .aload_n 3, 1, 0, 0, 0), (3620, .iconst 0, 1, 0, 0, 0), (3621, .laload, 1, 0, 0, 0), (3622, .iload 6, 2, 0, 0, 0), (3624, .ifCond .eq 7, 3, 2146, 0, 0),
  (3627, .lconst 1, 1, 0, 0, 0), (3628, .goto 4, 3, 2147, 0, 0), (3631, .lconst 0, 1, 0, 0, 0), (3632, .lcmp, 1, 0, 0, 0), (3633, .ifCond .eq 5, 3, 2151, 0, 0), (3636, .iconst 0, 1, 0, 0, 0), (3637, .ireturn, 1, 0, 0, 0), (3638, .goto 308, 3, 2335, 0, 0),
  (3641, .aload_n 1, 1, 0, 0, 0), (3642, .aload_n 0, 1, 0, 0, 0), (3643, .iload 4, 2, 0, 0, 0), (3645, .iconst 1, 1, 0, 0, 0), (3646, .iadd, 1, 0, 0, 0), (3647, .iaload, 1, 0, 0, 0), (3648, .aload_n 3, 1, 0, 0, 0), (3649, .invokestatic 383, 3, 384, 0, 452),
  (3652, .istore 5, 2, 0, 0, 0), (3654, .aload_n 2, 1, 0, 0, 0), (3655, .aload_n 0, 1, 0, 0, 0), (3656, .iload 4, 2, 0, 0, 0), (3658, .iconst 1, 1, 0, 0, 0), (3659, .iadd, 1, 0, 0, 0), (3660, .iaload, 1, 0, 0, 0), (3661, .invokevirtual 385, 3, 320, 0, 453),
  (3664, .istore 6, 2, 0, 0, 0), (3666, .aload_n 2, 1, 0, 0, 0), (3667, .invokevirtual 199, 3, 242, 0, 337), (3670, .iload 5, 2, 0, 0, 0), (3672, .if_icmp .eq 5, 3, 2175, 0, 0), (3675, .iconst 0, 1, 0, 0, 0), (3676, .ireturn, 1, 0, 0, 0), (3677, .iload 5, 2, 0, 0, 0),
  (3679, .ifCond .ne 15, 3, 2186, 0, 0), (3682, .aload_n 3, 1, 0, 0, 0), (3683, .iconst 0, 1, 0, 0, 0), (3684, .laload, 1, 0, 0, 0), (3685, .iload 6, 2, 0, 0, 0), (3687, .i2l, 1, 0, 0, 0), (3688, .lcmp, 1, 0, 0, 0), (3689, .ifCond .eq 5, 3, 2186, 0, 0),
  (3692, .iconst 0, 1, 0, 0, 0), (3693, .ireturn, 1, 0, 0, 0), (3694, .goto 252, 3, 2335, 0, 0), (3697, .aload_n 1, 1, 0, 0, 0), (3698, .invokevirtual 386, 3, 164, 0, 454), (3701, .aload_n 2, 1, 0, 0, 0), (3702, .invokevirtual 389, 3, 323, 0, 455), (3705, .if_icmp .eq 241, 3, 2335, 0, 0),
  (3708, .iconst 0, 1, 0, 0, 0), (3709, .ireturn, 1, 0, 0, 0), (3710, .aload_n 1, 1, 0, 0, 0), (3711, .aload_n 0, 1, 0, 0, 0), (3712, .iload 4, 2, 0, 0, 0), (3714, .iconst 1, 1, 0, 0, 0), (3715, .iadd, 1, 0, 0, 0), (3716, .iaload, 1, 0, 0, 0),
  (3717, .aload_n 3, 1, 0, 0, 0), (3718, .invokestatic 390, 3, 385, 0, 456), (3721, .istore 5, 2, 0, 0, 0), (3723, .aload_n 2, 1, 0, 0, 0), (3724, .aload_n 0, 1, 0, 0, 0), (3725, .iload 4, 2, 0, 0, 0), (3727, .iconst 1, 1, 0, 0, 0), (3728, .iadd, 1, 0, 0, 0),
  (3729, .iaload, 1, 0, 0, 0), (3730, .invokevirtual 392, 3, 324, 0, 457), (3733, .istore 6, 2, 0, 0, 0), (3735, .aload_n 2, 1, 0, 0, 0), (3736, .invokevirtual 199, 3, 242, 0, 337), (3739, .iload 5, 2, 0, 0, 0), (3741, .if_icmp .eq 5, 3, 2217, 0, 0), (3744, .iconst 0, 1, 0, 0, 0),
  (3745, .ireturn, 1, 0, 0, 0), (3746, .iload 5, 2, 0, 0, 0), (3748, .ifCond .ne 15, 3, 2228, 0, 0), (3751, .aload_n 3, 1, 0, 0, 0), (3752, .iconst 0, 1, 0, 0, 0), (3753, .laload, 1, 0, 0, 0), (3754, .iload 6, 2, 0, 0, 0), (3756, .i2l, 1, 0, 0, 0),
  (3757, .lcmp, 1, 0, 0, 0), (3758, .ifCond .eq 5, 3, 2228, 0, 0), (3761, .iconst 0, 1, 0, 0, 0), (3762, .ireturn, 1, 0, 0, 0), (3763, .goto 183, 3, 2335, 0, 0), (3766, .aload_n 1, 1, 0, 0, 0), (3767, .invokevirtual 393, 3, 166, 0, 458), (3770, .aload_n 2, 1, 0, 0, 0),
  (3771, .invokevirtual 396, 3, 325, 0, 459), (3774, .if_icmp .eq 172, 3, 2335, 0, 0), (3777, .iconst 0, 1, 0, 0, 0), (3778, .ireturn, 1, 0, 0, 0), (3779, .aload_n 1, 1, 0, 0, 0), (3780, .aload_n 0, 1, 0, 0, 0), (3781, .iload 4, 2, 0, 0, 0), (3783, .iconst 1, 1, 0, 0, 0),
  (3784, .iadd, 1, 0, 0, 0), (3785, .iaload, 1, 0, 0, 0), (3786, .aload_n 3, 1, 0, 0, 0), (3787, .invokestatic 397, 3, 386, 0, 460), (3790, .istore 5, 2, 0, 0, 0), (3792, .aload_n 2, 1, 0, 0, 0), (3793, .aload_n 0, 1, 0, 0, 0), (3794, .iload 4, 2, 0, 0, 0),
  (3796, .iconst 1, 1, 0, 0, 0), (3797, .iadd, 1, 0, 0, 0), (3798, .iaload, 1, 0, 0, 0), (3799, .invokevirtual 399, 3, 326, 0, 461), (3802, .istore 6, 2, 0, 0, 0), (3804, .aload_n 2, 1, 0, 0, 0), (3805, .invokevirtual 199, 3, 242, 0, 337), (3808, .iload 5, 2, 0, 0, 0),
  (3810, .if_icmp .eq 5, 3, 2259, 0, 0), (3813, .iconst 0, 1, 0, 0, 0), (3814, .ireturn, 1, 0, 0, 0), (3815, .iload 5, 2, 0, 0, 0), (3817, .ifCond .ne 15, 3, 2270, 0, 0), (3820, .aload_n 3, 1, 0, 0, 0), (3821, .iconst 0, 1, 0, 0, 0), (3822, .laload, 1, 0, 0, 0),
  (3823, .iload 6, 2, 0, 0, 0), (3825, .i2l, 1, 0, 0, 0), (3826, .lcmp, 1, 0, 0, 0), (3827, .ifCond .eq 5, 3, 2270, 0, 0), (3830, .iconst 0, 1, 0, 0, 0), (3831, .ireturn, 1, 0, 0, 0), (3832, .goto 114, 3, 2335, 0, 0), (3835, .aload_n 1, 1, 0, 0, 0),
  (3836, .aload_n 0, 1, 0, 0, 0), (3837, .iload 4, 2, 0, 0, 0), (3839, .iconst 1, 1, 0, 0, 0), (3840, .iadd, 1, 0, 0, 0), (3841, .iaload, 1, 0, 0, 0), (3842, .aload_n 3, 1, 0, 0, 0), (3843, .invokestatic 400, 3, 387, 0, 462), (3846, .istore 5, 2, 0, 0, 0),
  (3848, .aload_n 2, 1, 0, 0, 0), (3849, .aload_n 0, 1, 0, 0, 0), (3850, .iload 4, 2, 0, 0, 0), (3852, .iconst 1, 1, 0, 0, 0), (3853, .iadd, 1, 0, 0, 0), (3854, .iaload, 1, 0, 0, 0), (3855, .invokevirtual 402, 3, 327, 0, 463), (3858, .istore 6, 2, 0, 0, 0),
  (3860, .aload_n 2, 1, 0, 0, 0), (3861, .invokevirtual 199, 3, 242, 0, 337), (3864, .iload 5, 2, 0, 0, 0), (3866, .if_icmp .eq 5, 3, 2294, 0, 0), (3869, .iconst 0, 1, 0, 0, 0), (3870, .ireturn, 1, 0, 0, 0), (3871, .iload 5, 2, 0, 0, 0), (3873, .ifCond .ne 15, 3, 2305, 0, 0),
  (3876, .aload_n 3, 1, 0, 0, 0), (3877, .iconst 0, 1, 0, 0, 0), (3878, .laload, 1, 0, 0, 0), (3879, .iload 6, 2, 0, 0, 0), (3881, .i2l, 1, 0, 0, 0), (3882, .lcmp, 1, 0, 0, 0), (3883, .ifCond .eq 5, 3, 2305, 0, 0), (3886, .iconst 0, 1, 0, 0, 0),
  (3887, .ireturn, 1, 0, 0, 0), (3888, .goto 58, 3, 2335, 0, 0), (3891, .aload_n 1, 1, 0, 0, 0), (3892, .invokevirtual 403, 3, 169, 0, 464), (3895, .dstore 5, 2, 0, 0, 0), (3897, .aload_n 2, 1, 0, 0, 0), (3898, .invokevirtual 407, 3, 328, 0, 465), (3901, .dstore 7, 2, 0, 0, 0),
  (3903, .dload 5, 2, 0, 0, 0), (3905, .dload 7, 2, 0, 0, 0), (3907, .dcmp .l, 1, 0, 0, 0), (3908, .ifCond .eq 21, 3, 2326, 0, 0), (3911, .dload 5, 2, 0, 0, 0), (3913, .dload 5, 2, 0, 0, 0), (3915, .dcmp .l, 1, 0, 0, 0), (3916, .ifCond .eq 11, 3, 2324, 0, 0),
  (3919, .dload 7, 2, 0, 0, 0), (3921, .dload 7, 2, 0, 0, 0), (3923, .dcmp .l, 1, 0, 0, 0), (3924, .ifCond .ne 5, 3, 2326, 0, 0), (3927, .iconst 0, 1, 0, 0, 0), (3928, .ireturn, 1, 0, 0, 0), (3929, .goto 17, 3, 2335, 0, 0), (3932, .aload_n 1, 1, 0, 0, 0),
  (3933, .invokevirtual 408, 3, 170, 0, 466), (3936, .aload_n 2, 1, 0, 0, 0), (3937, .invokevirtual 412, 3, 331, 0, 467), (3940, .lcmp, 1, 0, 0, 0), (3941, .ifCond .eq 5, 3, 2335, 0, 0), (3944, .iconst 0, 1, 0, 0, 0), (3945, .ireturn, 1, 0, 0, 0), (3946, .iinc 4 5, 3, 0, 0, 0),
  (3949, .goto (-3926), 3, 13, 0, 0), (3952, .iconst 1, 1, 0, 0, 0), (3953, .ireturn, 1, 0, 0, 0)]
set_option maxRecDepth 100000 in
noncomputable def rw_379 : List PRow := [
  (0, .iload_n 0, 1, 0, 0, 0), (1, .iload_n 0, 1, 0, 0, 0), (2, .iconst 1, 1, 0, 0, 0), (3, .iushr, 1, 0, 0, 0), (4, .ldc_w 265, 3, 1431655765, 0, 5), (7, .iand, 1, 0, 0, 0), (8, .isub, 1, 0, 0, 0), (9, .istore_n 0, 1, 0, 0, 0),
  (10, .iload_n 0, 1, 0, 0, 0), (11, .ldc_w 266, 3, 858993459, 0, 6), (14, .iand, 1, 0, 0, 0), (15, .iload_n 0, 1, 0, 0, 0), (16, .iconst 2, 1, 0, 0, 0), (17, .iushr, 1, 0, 0, 0), (18, .ldc_w 266, 3, 858993459, 0, 6), (21, .iand, 1, 0, 0, 0),
  (22, .iadd, 1, 0, 0, 0), (23, .istore_n 0, 1, 0, 0, 0), (24, .iload_n 0, 1, 0, 0, 0), (25, .iload_n 0, 1, 0, 0, 0), (26, .iconst 4, 1, 0, 0, 0), (27, .iushr, 1, 0, 0, 0), (28, .iadd, 1, 0, 0, 0), (29, .ldc_w 267, 3, 252645135, 0, 7),
  (32, .iand, 1, 0, 0, 0), (33, .istore_n 0, 1, 0, 0, 0), (34, .iload_n 0, 1, 0, 0, 0), (35, .iload_n 0, 1, 0, 0, 0), (36, .bipush 8, 2, 0, 0, 0), (38, .iushr, 1, 0, 0, 0), (39, .iadd, 1, 0, 0, 0), (40, .istore_n 0, 1, 0, 0, 0),
  (41, .iload_n 0, 1, 0, 0, 0), (42, .iload_n 0, 1, 0, 0, 0), (43, .bipush 16, 2, 0, 0, 0), (45, .iushr, 1, 0, 0, 0), (46, .iadd, 1, 0, 0, 0), (47, .istore_n 0, 1, 0, 0, 0), (48, .iload_n 0, 1, 0, 0, 0), (49, .bipush 63, 2, 0, 0, 0),
  (51, .iand, 1, 0, 0, 0), (52, .ireturn, 1, 0, 0, 0)]
set_option maxRecDepth 100000 in
noncomputable def rw_380 : List PRow := [
  (0, .iconst 0, 1, 0, 0, 0), (1, .istore_n 2, 1, 0, 0, 0), (2, .aload_n 0, 1, 0, 0, 0), (3, .arraylength, 1, 0, 0, 0), (4, .istore_n 3, 1, 0, 0, 0), (5, .iload_n 2, 1, 0, 0, 0), (6, .iload_n 3, 1, 0, 0, 0), (7, .if_icmp .ge 13, 3, 14, 0, 0),
  (10, .aload_n 0, 1, 0, 0, 0), (11, .iload_n 2, 1, 0, 0, 0), (12, .iload_n 1, 1, 0, 0, 0), (13, .iastore, 1, 0, 0, 0), (14, .iinc 2 1, 3, 0, 0, 0), (17, .goto (-12), 3, 5, 0, 0), (20, .return_, 1, 0, 0, 0)]
noncomputable def qRowsL : List (List PRow) := [rw_0, rw_1, rw_2, rw_3, rw_4, rw_5, rw_6, rw_7, rw_8, rw_9, rw_10, rw_11, rw_12, rw_13, rw_14, rw_15, rw_16, rw_17, rw_18, rw_19, rw_20, rw_21, rw_22, rw_23, rw_24, rw_25, rw_26, rw_27, rw_28, rw_29, rw_30, rw_31, rw_32, rw_33, rw_34, rw_35, rw_36, rw_37, rw_38, rw_39, rw_40, rw_41, rw_42, rw_43, rw_44, rw_45, rw_46, rw_47, rw_48, rw_49, rw_50, rw_51, rw_52, rw_53, rw_54, rw_55, rw_56, rw_57, rw_58, rw_59, rw_60, rw_61, rw_62, rw_63, rw_64, rw_65, rw_66, rw_67, rw_68, rw_69, rw_70, rw_71, rw_72, rw_73, rw_74, rw_75, rw_76, rw_77, rw_78, rw_79, rw_80, rw_81, rw_82, rw_83, rw_84, rw_85, rw_86, rw_87, rw_88, rw_89, rw_90, rw_91, rw_92, rw_93, rw_94, rw_95, rw_96, rw_97, rw_98, rw_99, rw_100, rw_101, rw_102, rw_103, rw_104, rw_105, rw_106, rw_107, rw_108, rw_109, rw_110, rw_111, rw_112, rw_113, rw_114, rw_115, rw_116, rw_117, rw_118, rw_119, rw_120, rw_121, rw_122, rw_123, rw_124, rw_125, rw_126, rw_127, rw_128, rw_129, rw_130, rw_131, rw_132, rw_133, rw_134, rw_135, rw_136, rw_137, rw_138, rw_139, rw_140, rw_141, rw_142, rw_143, rw_144, rw_145, rw_146, rw_147, rw_148, rw_149, rw_150, rw_151, rw_152, rw_153, rw_154, rw_155, rw_156, rw_157, rw_158, rw_159, rw_160, rw_161, rw_162, rw_163, rw_164, rw_165, rw_166, rw_167, rw_168, rw_169, rw_170, rw_171, rw_172, rw_173, rw_174, rw_175, rw_176, rw_177, rw_178, rw_179, rw_180, rw_181, rw_182, rw_183, rw_184, rw_185, rw_186, rw_187, rw_188, rw_189, rw_190, rw_191, rw_192, rw_193, rw_194, rw_195, rw_196, rw_197, rw_198, rw_199, rw_200, rw_201, rw_202, rw_203, rw_204, rw_205, rw_206, rw_207, rw_208, rw_209, rw_210, rw_211, rw_212, rw_213, rw_214, rw_215, rw_216, rw_217, rw_218, rw_219, rw_220, rw_221, rw_222, rw_223, rw_224, rw_225, rw_226, rw_227, rw_228, rw_229, rw_230, rw_231, rw_232, rw_233, rw_234, rw_235, rw_236, rw_237, rw_238, rw_239, rw_240, rw_241, rw_242, rw_243, rw_244, rw_245, rw_246, rw_247, rw_248, rw_249, rw_250, rw_251, rw_252, rw_253, rw_254, rw_255, rw_256, rw_257, rw_258, rw_259, rw_260, rw_261, rw_262, rw_263, rw_264, rw_265, rw_266, rw_267, rw_268, rw_269, rw_270, rw_271, rw_272, rw_273, rw_274, rw_275, rw_276, rw_277, rw_278, rw_279, rw_280, rw_281, rw_282, rw_283, rw_284, rw_285, rw_286, rw_287, rw_288, rw_289, rw_290, rw_291, rw_292, rw_293, rw_294, rw_295, rw_296, rw_297, rw_298, rw_299, rw_300, rw_301, rw_302, rw_303, rw_304, rw_305, rw_306, rw_307, rw_308, rw_309, rw_310, rw_311, rw_312, rw_313, rw_314, rw_315, rw_316, rw_317, rw_318, rw_319, rw_320, rw_321, rw_322, rw_323, rw_324, rw_325, rw_326, rw_327, rw_328, rw_329, rw_330, rw_331, rw_332, rw_333, rw_334, rw_335, rw_336, rw_337, rw_338, rw_339, rw_340, rw_341, rw_342, rw_343, rw_344, rw_345, rw_346, rw_347, rw_348, rw_349, rw_350, rw_351, rw_352, rw_353, rw_354, rw_355, rw_356, rw_357, rw_358, rw_359, rw_360, rw_361, rw_362, rw_363, rw_364, rw_365, rw_366, rw_367, rw_368, rw_369, rw_370, rw_371, rw_372, rw_373, rw_374, rw_375, rw_376, rw_377, rw_378, rw_379, rw_380]
noncomputable def qRows (m : Nat) : List PRow := qRowsL.getD m []
/-- fields that are linked: the class whose pool it is, the entry, the class of the field, its number there, 1 by a nest mate, the word's place in lw_tbl -/
def qFL : List (Nat × Nat × Nat × Nat × Nat × Nat) := [(0, 7, 0, 0, 0, 2067), (0, 13, 0, 1, 0, 2069), (0, 17, 0, 2, 0, 2072), (0, 21, 5, 1, 0, 5150), (1, 11, 1, 0, 0, 2082), (1, 19, 1, 1, 0, 2084), (1, 26, 1, 2, 0, 2086), (1, 53, 1, 3, 0, 2088), (1, 67, 6, 4, 0, 1230), (1, 71, 6, 12, 0, 2010), (1, 74, 6, 5, 0, 1232), (1, 77, 6, 0, 0, 1217), (1, 84, 6, 9, 0, 2003), (1, 88, 7, 0, 0, 1178), (1, 109, 6, 1, 0, 1220), (1, 113, 8, 0, 0, 1156), (1, 136, 6, 13, 0, 2013), (1, 143, 6, 15, 0, 2020), (1, 146, 6, 17, 0, 2024), (1, 156, 6, 14, 0, 2016), (1, 166, 4, 3, 0, 1122), (1, 184, 6, 8, 0, 2000), (1, 196, 6, 6, 0, 1235), (1, 203, 3, 6, 0, 1079), (1, 206, 3, 7, 0, 1082), (1, 212, 6, 2, 0, 1224), (1, 215, 3, 10, 0, 1091), (1, 216, 3, 8, 0, 1085), (1, 217, 3, 9, 0, 1088), (1, 218, 3, 0, 0, 1057), (1, 232, 6, 11, 0, 2008), (1, 235, 2, 2, 0, 3034), (1, 245, 5, 0, 0, 5147), (1, 253, 5, 1, 0, 5152), (1, 255, 0, 1, 0, 2070), (1, 258, 8, 2, 0, 1161), (1, 261, 0, 2, 0, 2073), (1, 268, 3, 3, 0, 1069), (1, 271, 3, 2, 0, 1065), (1, 277, 4, 5, 0, 1126), (1, 280, 3, 4, 0, 1073), (1, 287, 3, 1, 0, 1061), (1, 314, 3, 5, 0, 1076), (1, 321, 6, 16, 0, 2022), (1, 346, 6, 3, 0, 1227), (2, 9, 2, 0, 0, 3027), (2, 15, 2, 1, 0, 3030), (2, 18, 2, 2, 0, 3033), (2, 22, 2, 3, 0, 3035), (2, 25, 5, 5, 0, 5161), (2, 36, 5, 0, 0, 5146), (2, 39, 5, 1, 0, 5151), (3, 11, 3, 0, 0, 1056), (3, 17, 3, 1, 0, 1058), (3, 21, 3, 2, 0, 1062), (3, 24, 3, 3, 0, 1066), (3, 27, 3, 4, 0, 1070), (3, 30, 3, 5, 0, 1074), (3, 34, 3, 6, 0, 1077), (3, 37, 3, 7, 0, 1080), (3, 40, 3, 8, 0, 1083), (3, 43, 3, 9, 0, 1086), (3, 46, 3, 10, 0, 1089), (4, 11, 4, 0, 0, 1116), (4, 17, 4, 1, 0, 1118), (4, 22, 4, 2, 0, 1119), (4, 32, 4, 3, 0, 1120), (4, 36, 4, 4, 0, 1123), (4, 39, 4, 5, 0, 1124), (4, 56, 3, 1, 0, 1059), (4, 59, 3, 2, 0, 1063), (4, 62, 3, 3, 0, 1067), (4, 65, 3, 4, 0, 1071), (4, 68, 3, 5, 0, 1075), (4, 72, 3, 6, 0, 1078), (4, 75, 3, 7, 0, 1081), (4, 78, 3, 8, 0, 1084), (4, 81, 3, 9, 0, 1087), (4, 82, 3, 10, 0, 1090), (5, 7, 5, 0, 0, 5144), (5, 13, 5, 1, 0, 5148), (5, 16, 5, 2, 0, 5153), (5, 19, 5, 3, 0, 5156), (5, 22, 5, 4, 0, 5158), (5, 25, 5, 5, 0, 5160), (6, 12, 6, 1, 0, 1219), (6, 18, 6, 2, 0, 1222), (6, 22, 6, 3, 0, 1225), (6, 27, 6, 7, 0, 1237), (6, 31, 6, 0, 0, 1216), (6, 39, 6, 4, 0, 1228), (6, 43, 6, 5, 0, 1231), (6, 46, 6, 6, 0, 1234), (6, 49, 6, 8, 0, 1239), (6, 52, 6, 9, 0, 2002), (6, 62, 6, 12, 0, 2009), (6, 65, 6, 13, 0, 2012), (6, 68, 6, 14, 0, 2015), (6, 71, 7, 0, 0, 1177), (6, 76, 6, 15, 0, 2018), (6, 79, 7, 3, 0, 1185), (6, 90, 6, 16, 0, 2021), (6, 93, 6, 17, 0, 2023), (6, 100, 6, 10, 0, 2005), (6, 103, 6, 11, 0, 2007), (6, 106, 2, 0, 0, 3028), (6, 107, 7, 1, 0, 1181), (6, 140, 2, 1, 0, 3031), (6, 143, 2, 3, 0, 3036), (6, 145, 7, 2, 0, 1183), (7, 10, 7, 3, 0, 1184), (7, 16, 7, 0, 0, 1176), (7, 20, 7, 1, 0, 1180), (7, 23, 7, 2, 0, 1182), (8, 9, 8, 0, 0, 1155), (8, 15, 8, 1, 0, 1158), (8, 18, 8, 2, 0, 1160), (8, 27, 5, 1, 0, 5149), (8, 33, 5, 0, 0, 5145), (8, 36, 5, 3, 0, 5157), (8, 39, 5, 2, 0, 5154), (8, 42, 5, 5, 0, 5162), (8, 45, 5, 4, 0, 5159), (9, 10, 9, 0, 0, 2099), (9, 16, 9, 1, 0, 2100), (9, 34, 6, 4, 0, 1229), (9, 55, 1, 2, 0, 2087), (9, 71, 4, 5, 0, 1125), (9, 86, 6, 12, 0, 2011), (9, 93, 6, 15, 0, 2019), (9, 96, 6, 9, 0, 2004), (9, 100, 7, 0, 0, 1179), (9, 108, 1, 0, 0, 2083), (9, 116, 6, 3, 0, 1226), (9, 123, 6, 5, 0, 1233), (9, 130, 4, 3, 0, 1121), (9, 141, 6, 10, 0, 2006), (9, 151, 6, 2, 0, 1223), (9, 175, 3, 1, 0, 1060), (9, 180, 3, 2, 0, 1064), (9, 183, 3, 3, 0, 1068), (9, 186, 3, 4, 0, 1072), (9, 194, 1, 1, 0, 2085), (9, 207, 0, 0, 0, 2068), (9, 211, 0, 1, 0, 2071), (9, 219, 6, 8, 0, 2001), (9, 220, 5, 2, 0, 5155), (9, 226, 0, 2, 0, 2074), (9, 229, 1, 3, 0, 2089), (9, 232, 6, 6, 0, 1236), (9, 235, 6, 13, 0, 2014), (9, 238, 6, 14, 0, 2017), (9, 264, 2, 1, 0, 3032), (9, 275, 6, 1, 0, 1221), (9, 279, 8, 0, 0, 1157), (9, 284, 8, 1, 0, 1159), (9, 291, 6, 0, 0, 1218), (9, 305, 2, 0, 0, 3029), (9, 366, 4, 0, 0, 1117), (9, 370, 6, 7, 0, 1238), (10, 9, 10, 2, 0, 6217), (10, 15, 10, 3, 0, 6219), (10, 19, 10, 4, 0, 6221), (10, 22, 10, 5, 0, 6223), (10, 25, 10, 6, 0, 6225), (10, 28, 10, 7, 0, 6227), (10, 31, 10, 8, 0, 6229), (10, 34, 10, 9, 0, 6231), (10, 37, 10, 10, 0, 6233), (10, 40, 10, 11, 0, 6234), (10, 43, 10, 12, 0, 6235), (10, 46, 10, 13, 0, 6237), (10, 49, 10, 14, 0, 6239), (10, 52, 10, 15, 0, 7001), (10, 57, 10, 16, 0, 7003), (10, 60, 10, 17, 0, 7005), (10, 63, 10, 18, 0, 7007), (10, 66, 10, 19, 0, 7009), (10, 69, 10, 20, 0, 7010), (10, 72, 10, 21, 0, 7012), (10, 75, 10, 23, 0, 7016), (10, 78, 10, 24, 0, 7018), (10, 81, 10, 25, 0, 7019), (10, 84, 10, 26, 0, 7021), (10, 87, 10, 27, 0, 7023), (10, 96, 10, 0, 0, 6213), (10, 100, 10, 1, 0, 6215), (10, 111, 10, 22, 0, 7014), (11, 12, 11, 0, 0, 7095), (11, 16, 11, 1, 0, 7096), (11, 23, 11, 2, 0, 7097), (11, 27, 10, 22, 1, 7015), (11, 30, 10, 2, 1, 6218), (11, 34, 10, 12, 1, 6236), (11, 42, 10, 5, 1, 6224), (11, 66, 10, 1, 1, 6216), (11, 84, 10, 9, 1, 6232), (11, 87, 10, 13, 1, 6238), (11, 97, 10, 18, 1, 7008), (11, 104, 10, 14, 1, 7000), (11, 107, 10, 15, 1, 7002), (11, 110, 10, 17, 1, 7006), (11, 114, 10, 16, 1, 7004), (11, 125, 10, 21, 1, 7013), (11, 131, 10, 3, 1, 6220), (11, 138, 10, 8, 1, 6230), (11, 151, 10, 20, 1, 7011), (11, 172, 10, 23, 1, 7017), (11, 193, 10, 25, 1, 7020), (11, 196, 10, 26, 1, 7022), (11, 210, 10, 27, 1, 7024), (11, 213, 10, 0, 1, 6214), (11, 220, 10, 4, 1, 6222), (11, 223, 10, 6, 1, 6226), (11, 226, 10, 7, 1, 6228), (11, 283, 11, 3, 0, 7098)]
/-- methods that are linked: pool, entry, the callee's number + 10 (0 Object.<init>, 1 arraycopy, 2 Math.max, 3 Math.min), 1 by a nest mate, the word's place, 0 virtual 1 static 2 special -/
def qML : List (Nat × Nat × Nat × Nat × Nat × Nat) := [(0, 1, 0, 0, 2066, 2), (0, 26, 13, 0, 5139, 0), (0, 29, 65, 0, 5140, 2), (1, 3, 0, 0, 1036, 2), (1, 25, 57, 0, 1043, 2), (1, 30, 17, 0, 1140, 1), (1, 34, 66, 0, 1196, 2), (1, 37, 10, 1, 2063, 2), (1, 40, 100, 0, 1145, 2), (1, 43, 67, 0, 4101, 0), (1, 47, 11, 0, 4102, 0), (1, 50, 58, 0, 4106, 0), (1, 57, 70, 0, 2149, 0), (1, 61, 12, 0, 2163, 0), (1, 64, 59, 0, 2167, 0), (1, 80, 76, 0, 2188, 0), (1, 91, 75, 0, 2200, 0), (1, 95, 73, 0, 3006, 0), (1, 99, 72, 0, 2204, 0), (1, 102, 82, 0, 3090, 0), (1, 106, 26, 0, 6174, 0), (1, 119, 28, 0, 3166, 0), (1, 123, 14, 0, 3174, 0), (1, 126, 30, 0, 3178, 0), (1, 129, 21, 0, 3183, 0), (1, 132, 29, 0, 3170, 0), (1, 139, 22, 0, 3182, 0), (1, 149, 36, 0, 2184, 0), (1, 153, 77, 0, 2212, 0), (1, 159, 71, 0, 2216, 0), (1, 162, 32, 0, 2220, 0), (1, 169, 40, 0, 3066, 0), (1, 172, 33, 0, 2224, 0), (1, 175, 34, 0, 3010, 0), (1, 178, 98, 0, 3014, 0), (1, 181, 38, 0, 3046, 0), (1, 185, 97, 0, 2228, 0), (1, 189, 78, 0, 2232, 0), (1, 192, 35, 0, 3002, 0), (1, 199, 62, 0, 2196, 0), (1, 209, 37, 0, 2192, 0), (1, 222, 74, 0, 2208, 0), (1, 226, 79, 0, 3050, 0), (1, 229, 39, 0, 3054, 0), (1, 241, 103, 0, 3058, 0), (1, 250, 13, 0, 3062, 0), (1, 264, 64, 0, 3070, 0), (1, 274, 60, 0, 3074, 0), (1, 281, 56, 0, 3078, 0), (1, 284, 95, 0, 3082, 0), (1, 290, 42, 0, 3086, 0), (1, 294, 44, 0, 3099, 0), (1, 298, 43, 0, 3103, 0), (1, 301, 45, 0, 3107, 0), (1, 304, 47, 0, 3137, 0), (1, 307, 46, 0, 3146, 0), (1, 310, 48, 0, 3158, 0), (1, 317, 41, 0, 3095, 0), (1, 324, 96, 0, 3111, 0), (1, 327, 92, 0, 3115, 0), (1, 330, 93, 0, 3124, 0), (1, 333, 94, 0, 3130, 0), (1, 337, 3, 0, 3134, 1), (1, 343, 89, 0, 3150, 0), (1, 349, 2, 0, 3141, 1), (1, 352, 99, 0, 3142, 0), (2, 3, 0, 0, 3026, 2), (2, 30, 389, 0, 3236, 1), (3, 3, 0, 0, 1053, 2), (4, 3, 0, 0, 1046, 2), (4, 21, 53, 1, 1050, 2), (4, 26, 390, 0, 4110, 1), (4, 42, 1, 0, 2171, 1), (4, 48, 54, 0, 2172, 0), (4, 52, 60, 0, 4193, 0), (5, 1, 0, 0, 5143, 2), (6, 3, 0, 0, 1199, 2), (6, 11, 101, 1, 1201, 2), (6, 35, 67, 0, 1203, 0), (6, 56, 86, 0, 1207, 0), (6, 59, 68, 0, 1211, 0), (6, 80, 102, 0, 1215, 0), (6, 84, 1, 0, 2153, 1), (6, 96, 84, 0, 2154, 0), (6, 108, 389, 0, 2236, 1), (6, 114, 77, 0, 4220, 0), (6, 118, 75, 0, 3128, 0), (6, 121, 73, 0, 3094, 0), (6, 125, 72, 0, 3018, 0), (6, 128, 3, 0, 4020, 1), (6, 134, 2, 0, 3129, 1), (6, 137, 85, 0, 2158, 0), (6, 146, 87, 0, 5002, 0), (6, 149, 100, 0, 5006, 2), (6, 152, 90, 0, 3154, 0), (6, 156, 91, 0, 3119, 0), (6, 160, 74, 0, 3123, 0), (6, 164, 390, 0, 3019, 1), (6, 170, 49, 0, 3023, 2), (7, 1, 0, 0, 1148, 2), (7, 9, 101, 1, 1151, 2), (7, 26, 102, 0, 1169, 0), (8, 3, 0, 0, 1154, 2), (8, 21, 1, 0, 1173, 1), (9, 1, 0, 0, 1028, 2), (9, 9, 16, 0, 1033, 2), (9, 26, 18, 0, 4097, 0), (9, 30, 186, 0, 4120, 0), (9, 40, 178, 0, 4143, 1), (9, 44, 69, 0, 4162, 0), (9, 47, 20, 0, 4166, 0), (9, 51, 180, 0, 4184, 1), (9, 59, 60, 0, 4188, 0), (9, 65, 61, 0, 4189, 0), (9, 75, 31, 0, 2180, 0), (9, 78, 80, 0, 4216, 0), (9, 82, 32, 0, 4221, 0), (9, 89, 36, 0, 4229, 0), (9, 105, 88, 0, 4237, 0), (9, 112, 76, 0, 5014, 0), (9, 120, 72, 0, 3221, 0), (9, 126, 62, 0, 5015, 0), (9, 133, 179, 0, 4124, 1), (9, 136, 81, 0, 5023, 0), (9, 144, 49, 0, 5028, 2), (9, 147, 84, 0, 5029, 0), (9, 154, 38, 0, 5030, 0), (9, 158, 183, 0, 5045, 0), (9, 161, 40, 0, 5050, 0), (9, 164, 64, 0, 5058, 0), (9, 168, 63, 0, 5066, 0), (9, 172, 187, 0, 5077, 0), (9, 187, 55, 0, 3208, 0), (9, 190, 184, 0, 5116, 0), (9, 198, 15, 0, 5133, 0), (9, 204, 181, 0, 5120, 1), (9, 223, 13, 0, 3216, 0), (9, 241, 71, 0, 6028, 0), (9, 244, 73, 0, 3222, 0), (9, 247, 389, 0, 3223, 1), (9, 252, 75, 0, 6078, 0), (9, 260, 188, 0, 6087, 0), (9, 265, 50, 0, 3232, 0), (9, 268, 51, 0, 3237, 0), (9, 271, 52, 0, 4001, 0), (9, 272, 182, 0, 5124, 1), (9, 287, 22, 0, 2122, 0), (9, 294, 21, 0, 2130, 0), (9, 297, 2, 0, 2138, 1), (9, 302, 83, 0, 4016, 0), (9, 306, 23, 0, 4005, 0), (9, 310, 24, 0, 3224, 0), (9, 314, 25, 0, 6170, 0), (9, 317, 19, 0, 2145, 0), (9, 321, 177, 0, 2176, 0), (9, 328, 133, 0, 3198, 0), (9, 331, 134, 0, 3199, 0), (9, 334, 117, 0, 3200, 0), (9, 337, 157, 0, 3201, 0), (9, 340, 158, 0, 3202, 0), (9, 343, 159, 0, 3203, 0), (9, 345, 171, 0, 3204, 0), (9, 349, 172, 0, 3212, 0), (9, 352, 173, 0, 3217, 0), (9, 356, 174, 0, 3228, 0), (9, 359, 175, 0, 4009, 1), (9, 363, 176, 0, 4012, 0), (9, 374, 27, 0, 3162, 0), (9, 389, 185, 0, 5128, 1), (9, 394, 14, 0, 5132, 0), (9, 397, 74, 0, 6091, 0), (10, 3, 0, 0, 6210, 2), (10, 90, 1, 0, 7094, 1), (10, 103, 190, 0, 7091, 1), (10, 107, 194, 0, 8000, 0), (10, 114, 193, 0, 7087, 0), (10, 118, 195, 0, 7236, 0), (10, 122, 197, 0, 7175, 0), (10, 126, 199, 0, 7191, 0), (10, 130, 200, 0, 7187, 0), (10, 134, 201, 0, 7203, 0), (10, 137, 203, 0, 7183, 0), (10, 140, 204, 0, 7179, 0), (10, 143, 205, 0, 7171, 0), (10, 146, 207, 0, 7223, 1), (10, 149, 202, 0, 8020, 0), (10, 152, 210, 0, 7199, 0), (10, 156, 3, 0, 7207, 1), (10, 161, 211, 0, 7195, 0), (10, 164, 208, 0, 7219, 0), (10, 168, 215, 0, 7224, 0), (10, 171, 213, 0, 8016, 0), (10, 175, 216, 0, 7228, 0), (10, 178, 196, 0, 7232, 0), (10, 181, 212, 0, 7167, 0), (10, 184, 217, 0, 8004, 0), (10, 187, 218, 0, 8008, 0), (10, 190, 219, 0, 8012, 0), (10, 193, 221, 0, 8028, 0), (10, 196, 222, 0, 8032, 0), (10, 200, 209, 0, 8036, 0), (10, 204, 224, 0, 8040, 0), (10, 207, 226, 0, 8057, 0), (10, 210, 227, 0, 8061, 0), (10, 213, 206, 0, 7208, 0), (10, 216, 223, 0, 8044, 0), (10, 219, 198, 0, 8048, 0), (10, 222, 225, 0, 8052, 0), (10, 225, 2, 0, 8056, 1), (10, 228, 228, 0, 8065, 0), (10, 231, 231, 0, 7163, 0), (10, 234, 220, 0, 8024, 0), (10, 238, 229, 0, 7212, 1), (10, 241, 214, 0, 7215, 0), (10, 244, 233, 0, 9159, 0), (10, 247, 232, 0, 9167, 0), (11, 3, 0, 0, 6204, 2), (11, 11, 189, 1, 6207, 2), (11, 19, 192, 0, 7083, 0), (11, 38, 207, 0, 7148, 1), (11, 45, 243, 0, 7116, 0), (11, 48, 244, 0, 7124, 1), (11, 52, 193, 0, 7127, 0), (11, 55, 249, 0, 7128, 0), (11, 59, 250, 0, 7144, 0), (11, 62, 255, 0, 7140, 0), (11, 69, 230, 0, 7159, 0), (11, 72, 236, 0, 8073, 0), (11, 75, 214, 0, 8077, 0), (11, 78, 251, 0, 8082, 0), (11, 81, 212, 0, 8086, 0), (11, 90, 201, 0, 8091, 0), (11, 94, 204, 0, 8092, 0), (11, 100, 228, 0, 8093, 0), (11, 117, 190, 1, 8094, 1), (11, 121, 206, 0, 8099, 0), (11, 128, 197, 0, 8100, 0), (11, 134, 210, 1, 8101, 0), (11, 141, 203, 0, 8110, 0), (11, 144, 205, 0, 8115, 0), (11, 147, 196, 0, 8116, 0), (11, 154, 217, 0, 8117, 0), (11, 157, 263, 0, 8106, 0), (11, 160, 264, 0, 8111, 0), (11, 163, 248, 0, 8130, 0), (11, 166, 220, 0, 8134, 0), (11, 169, 221, 0, 8139, 0), (11, 175, 1, 0, 8144, 1), (11, 181, 271, 0, 8149, 0), (11, 184, 245, 0, 8177, 1), (11, 187, 246, 0, 8180, 1), (11, 190, 247, 0, 8183, 1), (11, 199, 277, 0, 8173, 0), (11, 203, 281, 0, 8198, 0), (11, 206, 195, 0, 8202, 0), (11, 216, 288, 0, 8231, 0), (11, 229, 229, 0, 9015, 1), (11, 232, 202, 0, 9028, 0), (11, 235, 198, 0, 9045, 0), (11, 238, 200, 0, 9054, 0), (11, 241, 303, 0, 9050, 0), (11, 244, 310, 0, 9079, 0), (11, 248, 232, 0, 9091, 0), (11, 251, 314, 0, 9099, 0), (11, 254, 240, 0, 9107, 0), (11, 257, 237, 0, 9115, 0), (11, 260, 238, 0, 9123, 0), (11, 263, 239, 0, 9131, 0), (11, 266, 234, 0, 9155, 0), (11, 270, 235, 0, 9163, 0), (11, 273, 321, 0, 9151, 0), (11, 276, 191, 0, 9143, 0), (11, 280, 322, 0, 9147, 0), (11, 289, 329, 0, 9193, 0), (11, 292, 305, 0, 9203, 0), (11, 297, 276, 0, 9198, 0), (11, 300, 330, 0, 9199, 0), (12, 7, 105, 0, 4025, 0), (12, 15, 106, 0, 4116, 0), (12, 22, 107, 0, 4173, 0), (12, 25, 108, 0, 4180, 0), (12, 29, 109, 0, 4197, 0), (12, 32, 110, 0, 4204, 0), (12, 35, 111, 0, 4212, 0), (12, 38, 112, 0, 4225, 0), (12, 41, 113, 0, 4233, 0), (12, 44, 114, 0, 5010, 0), (12, 47, 115, 0, 5019, 0), (12, 50, 116, 0, 5034, 0), (12, 53, 118, 0, 5041, 0), (12, 57, 119, 0, 5054, 0), (12, 60, 120, 0, 5062, 0), (12, 63, 121, 0, 5073, 0), (12, 66, 122, 0, 5084, 0), (12, 69, 123, 0, 5091, 0), (12, 72, 124, 0, 5098, 0), (12, 75, 125, 0, 5105, 0), (12, 78, 126, 0, 5112, 0), (12, 82, 127, 0, 5179, 0), (12, 85, 128, 0, 5186, 0), (12, 89, 129, 0, 5193, 0), (12, 92, 130, 0, 5201, 0), (12, 95, 131, 0, 5208, 0), (12, 98, 132, 0, 5215, 0), (12, 101, 135, 0, 5222, 0), (12, 104, 136, 0, 5229, 0), (12, 107, 137, 0, 5236, 0), (12, 110, 138, 0, 6003, 0), (12, 113, 139, 0, 6010, 0), (12, 116, 140, 0, 6017, 0), (12, 119, 141, 0, 6024, 0), (12, 122, 142, 0, 6032, 0), (12, 125, 143, 0, 6039, 0), (12, 128, 144, 0, 6046, 0), (12, 131, 145, 0, 6053, 0), (12, 134, 146, 0, 6060, 0), (12, 137, 147, 0, 6067, 0), (12, 141, 148, 0, 6074, 0), (12, 144, 149, 0, 6083, 0), (12, 147, 150, 0, 6096, 0), (12, 150, 151, 0, 6103, 0), (12, 153, 152, 0, 6110, 0), (12, 156, 153, 0, 6117, 0), (12, 159, 154, 0, 6124, 0), (12, 162, 155, 0, 6131, 0), (12, 165, 156, 0, 6138, 0), (12, 168, 160, 0, 6145, 0), (12, 171, 161, 0, 6152, 0), (12, 174, 162, 0, 6159, 0), (12, 177, 163, 0, 6166, 0), (12, 180, 165, 0, 6181, 0), (12, 183, 167, 0, 6188, 0), (12, 186, 168, 0, 6195, 0), (12, 189, 104, 0, 1025, 2), (12, 192, 241, 0, 6201, 2), (12, 193, 332, 0, 4021, 1), (12, 198, 252, 0, 7112, 0), (12, 199, 242, 0, 7108, 0), (12, 203, 333, 0, 4111, 1), (12, 205, 253, 0, 7120, 0), (12, 206, 334, 0, 4170, 1), (12, 208, 254, 0, 7132, 0), (12, 209, 335, 0, 4177, 1), (12, 212, 256, 0, 7136, 0), (12, 213, 336, 0, 4194, 1), (12, 215, 257, 0, 7151, 0), (12, 216, 337, 0, 4201, 1), (12, 218, 258, 0, 7155, 0), (12, 219, 338, 0, 4209, 1), (12, 221, 259, 0, 8069, 0), (12, 222, 339, 0, 4222, 1), (12, 224, 260, 0, 8078, 0), (12, 225, 340, 0, 4230, 1), (12, 227, 261, 0, 8087, 0), (12, 228, 341, 0, 5007, 1), (12, 230, 262, 0, 8095, 0), (12, 231, 342, 0, 5016, 1), (12, 233, 265, 0, 8102, 0), (12, 234, 343, 0, 5031, 1), (12, 236, 266, 0, 8118, 0), (12, 237, 117, 0, 2106, 0), (12, 240, 267, 0, 8122, 0), (12, 241, 344, 0, 5038, 1), (12, 243, 268, 0, 8126, 0), (12, 244, 345, 0, 5051, 1), (12, 246, 269, 0, 8135, 0), (12, 247, 346, 0, 5059, 1), (12, 249, 270, 0, 8140, 0), (12, 250, 347, 0, 5070, 1), (12, 252, 272, 0, 8145, 0), (12, 253, 348, 0, 5081, 1), (12, 255, 273, 0, 8153, 0), (12, 256, 349, 0, 5088, 1), (12, 258, 274, 0, 8157, 0), (12, 259, 350, 0, 5095, 1), (12, 261, 275, 0, 8161, 0), (12, 262, 351, 0, 5102, 1), (12, 264, 276, 0, 8165, 0), (12, 265, 352, 0, 5109, 1), (12, 268, 278, 0, 8169, 0), (12, 269, 353, 0, 5176, 1), (12, 271, 279, 0, 8186, 0), (12, 272, 354, 0, 5183, 1), (12, 275, 280, 0, 8190, 0), (12, 276, 355, 0, 5190, 1), (12, 278, 282, 0, 8194, 0), (12, 279, 356, 0, 5198, 1), (12, 281, 283, 0, 8203, 0), (12, 282, 357, 0, 5205, 1), (12, 284, 284, 0, 8207, 0), (12, 285, 358, 0, 5212, 1), (12, 287, 285, 0, 8211, 0), (12, 288, 133, 0, 2110, 0), (12, 291, 286, 0, 8215, 0), (12, 292, 134, 0, 2114, 0), (12, 295, 287, 0, 8219, 0), (12, 296, 359, 0, 5219, 1), (12, 298, 289, 0, 8223, 0), (12, 299, 360, 0, 5226, 1), (12, 301, 290, 0, 8227, 0), (12, 302, 361, 0, 5233, 1), (12, 304, 291, 0, 8235, 0), (12, 305, 362, 0, 6000, 1), (12, 307, 292, 0, 8239, 0), (12, 308, 363, 0, 6007, 1), (12, 310, 293, 0, 9003, 0), (12, 311, 364, 0, 6014, 1), (12, 313, 294, 0, 9007, 0), (12, 314, 365, 0, 6021, 1), (12, 316, 295, 0, 9011, 0), (12, 317, 366, 0, 6029, 1), (12, 319, 296, 0, 9016, 0), (12, 320, 367, 0, 6036, 1), (12, 322, 297, 0, 9020, 0), (12, 323, 368, 0, 6043, 1), (12, 325, 298, 0, 9024, 0), (12, 326, 369, 0, 6050, 1), (12, 328, 299, 0, 9029, 0), (12, 329, 370, 0, 6057, 1), (12, 331, 300, 0, 9033, 0), (12, 332, 371, 0, 6064, 1), (12, 334, 301, 0, 9037, 0), (12, 335, 372, 0, 6071, 1), (12, 337, 302, 0, 9041, 0), (12, 338, 373, 0, 6080, 1), (12, 340, 304, 0, 9046, 0), (12, 341, 374, 0, 6093, 1), (12, 343, 305, 0, 9055, 0), (12, 344, 375, 0, 6100, 1), (12, 346, 306, 0, 9059, 0), (12, 347, 376, 0, 6107, 1), (12, 349, 307, 0, 9063, 0), (12, 350, 377, 0, 6114, 1), (12, 352, 308, 0, 9067, 0), (12, 353, 378, 0, 6121, 1), (12, 355, 309, 0, 9071, 0), (12, 356, 379, 0, 6128, 1), (12, 358, 311, 0, 9075, 0), (12, 359, 380, 0, 6135, 1), (12, 361, 312, 0, 9083, 0), (12, 362, 157, 0, 2118, 0), (12, 365, 313, 0, 9087, 0), (12, 366, 158, 0, 2126, 0), (12, 369, 315, 0, 9095, 0), (12, 370, 159, 0, 2134, 0), (12, 373, 316, 0, 9103, 0), (12, 374, 381, 0, 6142, 1), (12, 376, 317, 0, 9111, 0), (12, 377, 382, 0, 6149, 1), (12, 379, 318, 0, 9119, 0), (12, 380, 383, 0, 6156, 1), (12, 382, 319, 0, 9127, 0), (12, 383, 384, 0, 6163, 1), (12, 385, 320, 0, 9135, 0), (12, 386, 164, 0, 2141, 0), (12, 389, 323, 0, 9139, 0), (12, 390, 385, 0, 6178, 1), (12, 392, 324, 0, 9168, 0), (12, 393, 166, 0, 3184, 0), (12, 396, 325, 0, 9172, 0), (12, 397, 386, 0, 6185, 1), (12, 399, 326, 0, 9176, 0), (12, 400, 387, 0, 6192, 1), (12, 402, 327, 0, 9180, 0), (12, 403, 169, 0, 3188, 0), (12, 407, 328, 0, 9184, 0), (12, 408, 170, 0, 3192, 0), (12, 412, 331, 0, 9188, 0)]
/-- classes: pool, entry, kind, the word's place -/
def qCL : List (Nat × Nat × Nat × Nat) := [(0, 22, 5, 5137), (1, 9, 18, 1037), (1, 17, 15, 1039), (1, 23, 4, 1041), (1, 9, 6, 1037), (1, 17, 0, 1039), (1, 38, 7, 1143), (3, 9, 16, 1054), (4, 9, 17, 1047), (4, 9, 3, 1047), (6, 9, 8, 1200), (6, 25, 16, 1202), (6, 72, 7, 5001), (6, 25, 2, 1202), (7, 7, 8, 1149), (9, 7, 1, 1031), (9, 139, 2, 5027), (10, 55, 19, 6211), (11, 9, 10, 6205), (12, 8, 9, 1023), (12, 190, 11, 6199)]
/-- constants: pool, entry, value, 1 a long, the word's place -/
def qKL : List (Nat × Nat × Nat × Nat × Nat) := [(6, 144, 1048576, 0, 2162), (9, 324, 2423, 1, 3196), (9, 326, 31, 1, 3197), (11, 287, 31, 1, 9197), (11, 295, 2423, 1, 9192), (13, 265, 1431655765, 0, 2239), (13, 266, 858993459, 0, 3000), (13, 267, 252645135, 0, 3001)]
/-- throws (all in class 9): new's entry, the text's, the constructor's, which exception, 1 a wide text, the place of the class link -/
def qTH : List (Nat × Nat × Nat × Nat × Nat × Nat) := [(19, 21, 23, 0, 0, 4029), (19, 69, 23, 0, 0, 4029), (214, 216, 218, 1, 0, 4146), (255, 257, 259, 2, 1, 4127), (214, 377, 218, 1, 1, 4146), (255, 379, 259, 2, 1, 4127), (19, 381, 23, 0, 1, 4029), (255, 383, 259, 2, 1, 4127), (255, 385, 259, 2, 1, 4127), (255, 387, 259, 2, 1, 4127), (19, 392, 23, 0, 1, 4029), (255, 401, 259, 2, 1, 4127)]
/-- a method: class, name, code, maxLocals, answer, args with this, 1 static, frames and locals below it, its handlers, places of its words: code, instance or static, selects, initialized -/
abbrev QMI : Type := Nat × MethodName × ByteArray × Nat × Option FieldType × Nat × Nat × Nat × Nat × List (Nat × Nat × Nat × Nat) × Nat × Nat × Nat × Nat
noncomputable def mi_0 : QMI := (0, yX0_init, cX0_init, 1, none, 1, 0, 1, 20, [], 2065, 2064, 0, 1009)
noncomputable def mi_1 : QMI := (0, yX0_forget, cX0_forget, 1, none, 1, 0, 0, 0, [], 4105, 4103, 4104, 1009)
noncomputable def mi_2 : QMI := (0, yX0_copyFrom, cX0_copyFrom, 2, none, 2, 0, 0, 0, [], 2166, 2164, 2165, 1009)
noncomputable def mi_3 : QMI := (0, yX0_serial, cX0_serial, 1, (some FieldType.int), 1, 0, 0, 0, [], 3065, 3063, 3064, 1009)
noncomputable def mi_4 : QMI := (0, yX0_waits, cX0_waits, 1, (some FieldType.boolean), 1, 0, 0, 0, [], 3177, 3175, 3176, 1009)
noncomputable def mi_5 : QMI := (0, yX0_ask, cX0_ask, 6, (some FieldType.int), 6, 0, 2, 46, [], 5136, 5134, 5135, 1009)
noncomputable def mi_6 : QMI := (1, yX1_init, cX1_init, 3, none, 1, 0, 5, 124, [], 1035, 1034, 0, 1002)
noncomputable def mi_7 : QMI := (1, yX1_firstSnapshot, cX1_firstSnapshot, 1, (some (FieldType.object "QuorumLog$Snapshot")), 1, 1, 3, 85, [], 1142, 1141, 0, 1002)
noncomputable def mi_8 : QMI := (1, yX1_begin, cX1_begin, 7, none, 2, 0, 4, 105, [], 4100, 4098, 4099, 1002)
noncomputable def mi_9 : QMI := (1, yX1_copyFrom, cX1_copyFrom, 3, none, 2, 0, 3, 83, [], 2148, 2146, 2147, 1002)
noncomputable def mi_10 : QMI := (1, yX1_countUp, cX1_countUp, 6, (some FieldType.int), 1, 0, 0, 0, [], 4169, 4167, 4168, 1002)
noncomputable def mi_11 : QMI := (1, yX1_countLeaders, cX1_countLeaders, 6, (some FieldType.int), 1, 0, 0, 0, [], 2133, 2131, 2132, 1002)
noncomputable def mi_12 : QMI := (1, yX1_newestLeader, cX1_newestLeader, 6, (some (FieldType.object "QuorumLog$Server")), 1, 0, 0, 0, [], 2125, 2123, 2124, 1002)
noncomputable def mi_13 : QMI := (1, yX1_countCopies, cX1_countCopies, 9, (some FieldType.int), 4, 0, 1, 21, [], 4008, 4006, 4007, 1002)
noncomputable def mi_14 : QMI := (1, yX1_isElectable, cX1_isElectable, 10, (some FieldType.boolean), 2, 0, 2, 43, [], 3227, 3225, 3226, 1002)
noncomputable def mi_15 : QMI := (1, yX1_countValues, cX1_countValues, 4, (some FieldType.int), 2, 0, 1, 23, [], 6173, 6171, 6172, 1002)
noncomputable def mi_16 : QMI := (1, yX1_isFirstWithValue, cX1_isFirstWithValue, 4, (some FieldType.boolean), 3, 0, 0, 0, [], 6177, 6176, 34, 1002)
noncomputable def mi_17 : QMI := (1, yX1_hasReached, cX1_hasReached, 3, (some FieldType.boolean), 3, 0, 3, 70, [], 3165, 3163, 3164, 1002)
noncomputable def mi_18 : QMI := (1, yX1_hasFollowedLeader, cX1_hasFollowedLeader, 5, (some FieldType.boolean), 1, 0, 2, 46, [], 3169, 3168, 19, 1002)
noncomputable def mi_19 : QMI := (1, yX1_isFollowedByAll, cX1_isFollowedByAll, 6, (some FieldType.boolean), 2, 0, 1, 21, [], 3173, 3172, 20, 1002)
noncomputable def mi_20 : QMI := (1, yX1_isAgreed, cX1_isAgreed, 7, (some FieldType.boolean), 1, 0, 1, 25, [], 3181, 3180, 21, 1002)
noncomputable def mi_21 : QMI := (1, yX1_playRound, cX1_playRound, 5, none, 1, 0, 5, 132, [], 2183, 2181, 2182, 1002)
noncomputable def mi_22 : QMI := (1, yX1_rise, cX1_rise, 4, none, 3, 0, 3, 74, [], 2223, 2221, 2222, 1002)
noncomputable def mi_23 : QMI := (1, yX1_sounding, cX1_sounding, 2, (some FieldType.int), 2, 0, 2, 50, [], 2227, 2226, 5, 1002)
noncomputable def mi_24 : QMI := (1, yX1_standing, cX1_standing, 2, (some FieldType.int), 2, 0, 2, 50, [], 3013, 3012, 7, 1002)
noncomputable def mi_25 : QMI := (1, yX1_askOthers, cX1_askOthers, 6, none, 4, 0, 1, 25, [], 3005, 3004, 6, 1002)
noncomputable def mi_26 : QMI := (1, yX1_sendToOthers, cX1_sendToOthers, 4, (some FieldType.int), 2, 0, 2, 51, [], 2187, 2185, 2186, 1002)
noncomputable def mi_27 : QMI := (1, yX1_sendTo, cX1_sendTo, 7, none, 3, 0, 1, 25, [], 2195, 2194, 4, 1002)
noncomputable def mi_28 : QMI := (1, yX1_lookCommitted, cX1_lookCommitted, 3, none, 2, 0, 2, 47, [], 3049, 3047, 3048, 1002)
noncomputable def mi_29 : QMI := (1, yX1_commit, cX1_commit, 6, none, 3, 0, 1, 22, [], 3057, 3056, 8, 1002)
noncomputable def mi_30 : QMI := (1, yX1_handle, cX1_handle, 5, (some FieldType.boolean), 2, 0, 4, 108, [], 3069, 3067, 3068, 1002)
noncomputable def mi_31 : QMI := (1, yX1_reply, cX1_reply, 7, none, 6, 0, 1, 25, [], 3098, 3097, 10, 1002)
noncomputable def mi_32 : QMI := (1, yX1_onSound, cX1_onSound, 5, none, 3, 0, 2, 51, [], 3089, 3088, 9, 1002)
noncomputable def mi_33 : QMI := (1, yX1_onCall, cX1_onCall, 5, none, 3, 0, 2, 51, [], 3106, 3105, 12, 1002)
noncomputable def mi_34 : QMI := (1, yX1_onYes, cX1_onYes, 5, (some FieldType.boolean), 5, 0, 2, 40, [], 3102, 3101, 11, 1002)
noncomputable def mi_35 : QMI := (1, yX1_onEntries, cX1_onEntries, 5, none, 3, 0, 3, 66, [], 3110, 3109, 13, 1002)
noncomputable def mi_36 : QMI := (1, yX1_onSnapshot, cX1_onSnapshot, 4, none, 3, 0, 3, 85, [], 3149, 3148, 16, 1002)
noncomputable def mi_37 : QMI := (1, yX1_onAnswer, cX1_onAnswer, 3, none, 3, 0, 3, 69, [], 3140, 3139, 15, 1002)
noncomputable def mi_38 : QMI := (1, yX1_isHurried, cX1_isHurried, 3, (some FieldType.boolean), 3, 0, 1, 20, [], 3161, 3160, 18, 1002)
noncomputable def mi_39 : QMI := (2, yX2_init, cX2_init, 5, none, 5, 0, 1, 20, [], 3025, 3024, 0, 1020)
noncomputable def mi_40 : QMI := (2, yX2_value, cX2_value, 1, (some FieldType.int), 1, 0, 1, 20, [], 3235, 3233, 3234, 1020)
noncomputable def mi_41 : QMI := (2, yX2_client, cX2_client, 1, (some FieldType.int), 1, 0, 0, 0, [], 4000, 3238, 3239, 1020)
noncomputable def mi_42 : QMI := (2, yX2_serial, cX2_serial, 1, (some FieldType.int), 1, 0, 0, 0, [], 4004, 4002, 4003, 1020)
noncomputable def mi_43 : QMI := (3, yX3_init, cX3_init, 1, none, 1, 0, 1, 20, [], 1052, 1051, 0, 1004)
noncomputable def mi_44 : QMI := (3, yX3_copyFrom, cX3_copyFrom, 3, none, 2, 0, 0, 0, [], 2175, 2173, 2174, 1004)
noncomputable def mi_45 : QMI := (3, yX3_told, cX3_told, 1, (some FieldType.int), 1, 0, 0, 0, [], 3211, 3209, 3210, 1004)
noncomputable def mi_46 : QMI := (3, yX3_bearsItsTerm, cX3_bearsItsTerm, 1, (some FieldType.boolean), 1, 0, 0, 0, [], 3081, 3079, 3080, 1004)
noncomputable def mi_47 : QMI := (4, yX4_init, cX4_init, 2, none, 1, 0, 2, 40, [], 1045, 1044, 0, 1003)
noncomputable def mi_48 : QMI := (4, yX4_clear, cX4_clear, 1, none, 1, 0, 1, 23, [], 4109, 4107, 4108, 1003)
noncomputable def mi_49 : QMI := (4, yX4_copyFrom, cX4_copyFrom, 3, none, 2, 0, 1, 40, [], 2170, 2168, 2169, 1003)
noncomputable def mi_50 : QMI := (4, yX4_isCut, cX4_isCut, 3, (some FieldType.boolean), 3, 0, 0, 0, [], 3077, 3075, 3076, 1003)
noncomputable def mi_51 : QMI := (4, yX4_turn, cX4_turn, 3, (some FieldType.int), 3, 0, 1, 22, [], 4192, 4190, 4191, 1003)
noncomputable def mi_52 : QMI := (4, yX4_place, cX4_place, 6, (some (FieldType.object "QuorumLog$Message")), 5, 0, 0, 0, [], 2199, 2197, 2198, 1003)
noncomputable def mi_53 : QMI := (4, yX4_repeat, cX4_repeat, 2, (some FieldType.int), 2, 0, 1, 22, [], 5069, 5067, 5068, 1003)
noncomputable def mi_54 : QMI := (4, yX4_takeOut, cX4_takeOut, 4, (some (FieldType.object "QuorumLog$Message")), 2, 0, 0, 0, [], 3073, 3071, 3072, 1003)
noncomputable def mi_55 : QMI := (5, yX5_init, cX5_init, 7, none, 7, 0, 1, 20, [], 5142, 5141, 0, 1022)
noncomputable def mi_56 : QMI := (6, yX6_init, cX6_init, 3, none, 3, 0, 4, 102, [], 1198, 1197, 0, 1008)
noncomputable def mi_57 : QMI := (6, yX6_reset, cX6_reset, 2, none, 2, 0, 3, 81, [], 1206, 1204, 1205, 1008)
noncomputable def mi_58 : QMI := (6, yX6_rest, cX6_rest, 1, none, 1, 0, 2, 61, [], 1214, 1213, 1, 1008)
noncomputable def mi_59 : QMI := (6, yX6_goDown, cX6_goDown, 1, none, 1, 0, 3, 81, [], 4165, 4163, 4164, 1008)
noncomputable def mi_60 : QMI := (6, yX6_copyFrom, cX6_copyFrom, 3, none, 2, 0, 2, 61, [], 2152, 2150, 2151, 1008)
noncomputable def mi_61 : QMI := (6, yX6_patience, cX6_patience, 1, (some FieldType.int), 1, 0, 0, 0, [], 2219, 2217, 2218, 1008)
noncomputable def mi_62 : QMI := (6, yX6_lastIndex, cX6_lastIndex, 1, (some FieldType.int), 1, 0, 0, 0, [], 2207, 2205, 2206, 1008)
noncomputable def mi_63 : QMI := (6, yX6_lastTerm, cX6_lastTerm, 1, (some FieldType.int), 1, 0, 0, 0, [], 3009, 3007, 3008, 1008)
noncomputable def mi_64 : QMI := (6, yX6_entryAt, cX6_entryAt, 2, (some (FieldType.object "QuorumLog$Entry")), 2, 0, 0, 0, [], 2211, 2209, 2210, 1008)
noncomputable def mi_65 : QMI := (6, yX6_termOfIndex, cX6_termOfIndex, 2, (some FieldType.int), 2, 0, 0, 0, [], 2203, 2201, 2202, 1008)
noncomputable def mi_66 : QMI := (6, yX6_seesMember, cX6_seesMember, 2, (some FieldType.boolean), 2, 0, 0, 0, [], 2191, 2189, 2190, 1008)
noncomputable def mi_67 : QMI := (6, yX6_isMember, cX6_isMember, 1, (some FieldType.boolean), 1, 0, 0, 0, [], 2215, 2213, 2214, 1008)
noncomputable def mi_68 : QMI := (6, yX6_hasMostYeses, cX6_hasMostYeses, 1, (some FieldType.boolean), 1, 0, 1, 20, [], 2235, 2233, 2234, 1008)
noncomputable def mi_69 : QMI := (6, yX6_mostHave, cX6_mostHave, 5, (some FieldType.boolean), 2, 0, 0, 0, [], 3053, 3051, 3052, 1008)
noncomputable def mi_70 : QMI := (6, yX6_maySound, cX6_maySound, 1, (some FieldType.boolean), 1, 0, 1, 20, [], 4219, 4217, 4218, 1008)
noncomputable def mi_71 : QMI := (6, yX6_mayChangeMembers, cX6_mayChangeMembers, 1, (some FieldType.boolean), 1, 0, 1, 21, [], 5026, 5024, 5025, 1008)
noncomputable def mi_72 : QMI := (6, yX6_isReachedBy, cX6_isReachedBy, 4, (some FieldType.boolean), 3, 0, 1, 20, [], 3093, 3091, 3092, 1008)
noncomputable def mi_73 : QMI := (6, yX6_agreement, cX6_agreement, 4, (some FieldType.int), 2, 0, 1, 40, [], 4019, 4017, 4018, 1008)
noncomputable def mi_74 : QMI := (6, yX6_append, cX6_append, 2, none, 2, 0, 1, 22, [], 2157, 2155, 2156, 1008)
noncomputable def mi_75 : QMI := (6, yX6_widen, cX6_widen, 3, none, 1, 0, 0, 0, [], 2161, 2160, 2, 1008)
noncomputable def mi_76 : QMI := (6, yX6_findMembers, cX6_findMembers, 2, none, 1, 0, 0, 0, [], 1210, 1209, 0, 1008)
noncomputable def mi_77 : QMI := (6, yX6_membersBehind, cX6_membersBehind, 3, (some FieldType.int), 2, 0, 0, 0, [], 5005, 5004, 29, 1008)
noncomputable def mi_78 : QMI := (6, yX6_makeSnapshot, cX6_makeSnapshot, 2, (some FieldType.int), 1, 0, 3, 85, [], 5000, 4238, 4239, 1008)
noncomputable def mi_79 : QMI := (6, yX6_install, cX6_install, 3, none, 2, 0, 2, 63, [], 3153, 3151, 3152, 1008)
noncomputable def mi_80 : QMI := (6, yX6_replaceSnapshot, cX6_replaceSnapshot, 4, none, 3, 0, 1, 40, [], 3157, 3156, 17, 1008)
noncomputable def mi_81 : QMI := (6, yX6_hasEntry, cX6_hasEntry, 4, (some FieldType.boolean), 3, 0, 1, 21, [], 3122, 3121, 14, 1008)
noncomputable def mi_82 : QMI := (6, yX6_hasPrevious, cX6_hasPrevious, 3, (some FieldType.boolean), 3, 0, 2, 44, [], 3118, 3116, 3117, 1008)
noncomputable def mi_83 : QMI := (6, yX6_indexToTryNext, cX6_indexToTryNext, 4, (some FieldType.int), 2, 0, 1, 40, [], 3127, 3125, 3126, 1008)
noncomputable def mi_84 : QMI := (6, yX6_accept, cX6_accept, 3, none, 3, 0, 2, 44, [], 3133, 3131, 3132, 1008)
noncomputable def mi_85 : QMI := (6, yX6_enterTerm, cX6_enterTerm, 2, none, 2, 0, 0, 0, [], 3085, 3083, 3084, 1008)
noncomputable def mi_86 : QMI := (6, yX6_obey, cX6_obey, 2, none, 2, 0, 0, 0, [], 3114, 3112, 3113, 1008)
noncomputable def mi_87 : QMI := (6, yX6_startAs, cX6_startAs, 2, none, 2, 0, 0, 0, [], 2231, 2229, 2230, 1008)
noncomputable def mi_88 : QMI := (6, yX6_startLeading, cX6_startLeading, 1, none, 1, 0, 2, 44, [], 3017, 3015, 3016, 1008)
noncomputable def mi_89 : QMI := (6, yX6_learnMatched, cX6_learnMatched, 3, none, 3, 0, 0, 0, [], 3145, 3143, 3144, 1008)
noncomputable def mi_90 : QMI := (7, yX7_init, cX7_init, 5, none, 5, 0, 2, 61, [], 1147, 1146, 0, 1005)
noncomputable def mi_91 : QMI := (8, yX8_init, cX8_init, 1, none, 1, 0, 1, 20, [], 1153, 1152, 0, 1006)
noncomputable def mi_92 : QMI := (8, yX8_copyFrom, cX8_copyFrom, 2, none, 2, 0, 1, 40, [], 1172, 1170, 1171, 1006)
noncomputable def mi_93 : QMI := (8, yX8_apply, cX8_apply, 3, none, 2, 0, 0, 0, [], 3061, 3059, 3060, 1006)
noncomputable def mi_94 : QMI := (9, yX9_init, cX9_init, 1, none, 1, 0, 6, 146, [], 1027, 1026, 0, 1001)
noncomputable def mi_95 : QMI := (9, yX9_found, cX9_found, 2, (some FieldType.int), 2, 0, 6, 131, [], 4028, 4026, 4027, 1001)
noncomputable def mi_96 : QMI := (9, yX9_fail, cX9_fail, 3, (some FieldType.int), 2, 0, 8, 131, [], 4119, 4117, 4118, 1001)
noncomputable def mi_97 : QMI := (9, yX9_recover, cX9_recover, 3, (some FieldType.int), 2, 0, 8, 131, [], 4176, 4174, 4175, 1001)
noncomputable def mi_98 : QMI := (9, yX9_cut, cX9_cut, 3, (some FieldType.int), 3, 0, 8, 131, [], 4183, 4181, 4182, 1001)
noncomputable def mi_99 : QMI := (9, yX9_mend, cX9_mend, 3, (some FieldType.int), 3, 0, 8, 131, [], 4200, 4198, 4199, 1001)
noncomputable def mi_100 : QMI := (9, yX9_pass, cX9_pass, 4, (some FieldType.int), 2, 0, 6, 156, [], 4207, 4205, 4206, 1001)
noncomputable def mi_101 : QMI := (9, yX9_sound, cX9_sound, 3, (some FieldType.int), 2, 0, 8, 131, [], 4215, 4213, 4214, 1001)
noncomputable def mi_102 : QMI := (9, yX9_beat, cX9_beat, 3, (some FieldType.int), 2, 0, 8, 131, [], 4228, 4226, 4227, 1001)
noncomputable def mi_103 : QMI := (9, yX9_shorten, cX9_shorten, 3, (some FieldType.int), 2, 0, 8, 131, [], 4236, 4234, 4235, 1001)
noncomputable def mi_104 : QMI := (9, yX9_handOver, cX9_handOver, 4, (some FieldType.int), 3, 0, 8, 131, [], 5013, 5011, 5012, 1001)
noncomputable def mi_105 : QMI := (9, yX9_join, cX9_join, 5, (some FieldType.int), 3, 0, 8, 131, [], 5022, 5020, 5021, 1001)
noncomputable def mi_106 : QMI := (9, yX9_leave, cX9_leave, 6, (some FieldType.int), 3, 0, 8, 131, [], 5037, 5035, 5036, 1001)
noncomputable def mi_107 : QMI := (9, yX9_messages, cX9_messages, 1, (some FieldType.int), 1, 0, 0, 0, [], 2109, 2107, 2108, 1001)
noncomputable def mi_108 : QMI := (9, yX9_deliver, cX9_deliver, 2, (some FieldType.boolean), 2, 0, 7, 132, [], 5044, 5042, 5043, 1001)
noncomputable def mi_109 : QMI := (9, yX9_lose, cX9_lose, 2, (some FieldType.int), 2, 0, 7, 111, [], 5057, 5055, 5056, 1001)
noncomputable def mi_110 : QMI := (9, yX9_twice, cX9_twice, 2, (some FieldType.int), 2, 0, 7, 111, [], 5065, 5063, 5064, 1001)
noncomputable def mi_111 : QMI := (9, yX9_kindOfMessage, cX9_kindOfMessage, 2, (some FieldType.int), 2, 0, 8, 132, [], 5076, 5074, 5075, 1001)
noncomputable def mi_112 : QMI := (9, yX9_senderOf, cX9_senderOf, 2, (some FieldType.int), 2, 0, 8, 132, [], 5087, 5085, 5086, 1001)
noncomputable def mi_113 : QMI := (9, yX9_receiverOf, cX9_receiverOf, 2, (some FieldType.int), 2, 0, 8, 132, [], 5094, 5092, 5093, 1001)
noncomputable def mi_114 : QMI := (9, yX9_termOfMessage, cX9_termOfMessage, 2, (some FieldType.int), 2, 0, 8, 132, [], 5101, 5099, 5100, 1001)
noncomputable def mi_115 : QMI := (9, yX9_tells, cX9_tells, 2, (some FieldType.int), 2, 0, 8, 132, [], 5108, 5106, 5107, 1001)
noncomputable def mi_116 : QMI := (9, yX9_askPut, cX9_askPut, 4, (some FieldType.int), 4, 0, 8, 134, [], 5115, 5113, 5114, 1001)
noncomputable def mi_117 : QMI := (9, yX9_askAdd, cX9_askAdd, 4, (some FieldType.int), 4, 0, 8, 134, [], 5182, 5180, 5181, 1001)
noncomputable def mi_118 : QMI := (9, yX9_askSwap, cX9_askSwap, 5, (some FieldType.int), 5, 0, 8, 134, [], 5189, 5187, 5188, 1001)
noncomputable def mi_119 : QMI := (9, yX9_hand, cX9_hand, 6, (some FieldType.int), 3, 0, 8, 131, [], 5196, 5194, 5195, 1001)
noncomputable def mi_120 : QMI := (9, yX9_serialOf, cX9_serialOf, 2, (some FieldType.int), 2, 0, 7, 110, [], 5204, 5202, 5203, 1001)
noncomputable def mi_121 : QMI := (9, yX9_isAnswered, cX9_isAnswered, 2, (some FieldType.boolean), 2, 0, 7, 110, [], 5211, 5209, 5210, 1001)
noncomputable def mi_122 : QMI := (9, yX9_answerTo, cX9_answerTo, 2, (some FieldType.int), 2, 0, 7, 110, [], 5218, 5216, 5217, 1001)
noncomputable def mi_123 : QMI := (9, yX9_round, cX9_round, 1, (some FieldType.int), 1, 0, 0, 0, [], 2113, 2111, 2112, 1001)
noncomputable def mi_124 : QMI := (9, yX9_lost, cX9_lost, 1, (some FieldType.int), 1, 0, 0, 0, [], 2117, 2115, 2116, 1001)
noncomputable def mi_125 : QMI := (9, yX9_isUp, cX9_isUp, 2, (some FieldType.boolean), 2, 0, 8, 131, [], 5225, 5223, 5224, 1001)
noncomputable def mi_126 : QMI := (9, yX9_roleOf, cX9_roleOf, 2, (some FieldType.int), 2, 0, 8, 131, [], 5232, 5230, 5231, 1001)
noncomputable def mi_127 : QMI := (9, yX9_termOf, cX9_termOf, 2, (some FieldType.int), 2, 0, 8, 131, [], 5239, 5237, 5238, 1001)
noncomputable def mi_128 : QMI := (9, yX9_votedFor, cX9_votedFor, 2, (some FieldType.int), 2, 0, 8, 131, [], 6006, 6004, 6005, 1001)
noncomputable def mi_129 : QMI := (9, yX9_follows, cX9_follows, 2, (some FieldType.int), 2, 0, 8, 131, [], 6013, 6011, 6012, 1001)
noncomputable def mi_130 : QMI := (9, yX9_waitedOf, cX9_waitedOf, 2, (some FieldType.int), 2, 0, 8, 131, [], 6020, 6018, 6019, 1001)
noncomputable def mi_131 : QMI := (9, yX9_patienceOf, cX9_patienceOf, 2, (some FieldType.int), 2, 0, 8, 131, [], 6027, 6025, 6026, 1001)
noncomputable def mi_132 : QMI := (9, yX9_snapshotOf, cX9_snapshotOf, 2, (some FieldType.int), 2, 0, 8, 131, [], 6035, 6033, 6034, 1001)
noncomputable def mi_133 : QMI := (9, yX9_lastOf, cX9_lastOf, 2, (some FieldType.int), 2, 0, 8, 131, [], 6042, 6040, 6041, 1001)
noncomputable def mi_134 : QMI := (9, yX9_lastTermOf, cX9_lastTermOf, 2, (some FieldType.int), 2, 0, 8, 131, [], 6049, 6047, 6048, 1001)
noncomputable def mi_135 : QMI := (9, yX9_committedOf, cX9_committedOf, 2, (some FieldType.int), 2, 0, 8, 131, [], 6056, 6054, 6055, 1001)
noncomputable def mi_136 : QMI := (9, yX9_membersOf, cX9_membersOf, 2, (some FieldType.int), 2, 0, 8, 131, [], 6063, 6061, 6062, 1001)
noncomputable def mi_137 : QMI := (9, yX9_sees, cX9_sees, 3, (some FieldType.boolean), 3, 0, 8, 131, [], 6070, 6068, 6069, 1001)
noncomputable def mi_138 : QMI := (9, yX9_termAt, cX9_termAt, 4, (some FieldType.int), 3, 0, 8, 131, [], 6077, 6075, 6076, 1001)
noncomputable def mi_139 : QMI := (9, yX9_kindAt, cX9_kindAt, 3, (some FieldType.int), 3, 0, 9, 154, [], 6086, 6084, 6085, 1001)
noncomputable def mi_140 : QMI := (9, yX9_valueAt, cX9_valueAt, 3, (some FieldType.int), 3, 0, 9, 154, [], 6099, 6097, 6098, 1001)
noncomputable def mi_141 : QMI := (9, yX9_clientAt, cX9_clientAt, 3, (some FieldType.int), 3, 0, 9, 154, [], 6106, 6104, 6105, 1001)
noncomputable def mi_142 : QMI := (9, yX9_serialAt, cX9_serialAt, 3, (some FieldType.int), 3, 0, 9, 154, [], 6113, 6111, 6112, 1001)
noncomputable def mi_143 : QMI := (9, yX9_valueOf, cX9_valueOf, 3, (some FieldType.int), 3, 0, 8, 131, [], 6120, 6118, 6119, 1001)
noncomputable def mi_144 : QMI := (9, yX9_appliedSerial, cX9_appliedSerial, 3, (some FieldType.int), 3, 0, 8, 131, [], 6127, 6125, 6126, 1001)
noncomputable def mi_145 : QMI := (9, yX9_nextOf, cX9_nextOf, 3, (some FieldType.int), 3, 0, 8, 131, [], 6134, 6132, 6133, 1001)
noncomputable def mi_146 : QMI := (9, yX9_matchedOf, cX9_matchedOf, 3, (some FieldType.int), 3, 0, 8, 131, [], 6141, 6139, 6140, 1001)
noncomputable def mi_147 : QMI := (9, yX9_leader, cX9_leader, 2, (some FieldType.int), 1, 0, 1, 25, [], 2121, 2119, 2120, 1001)
noncomputable def mi_148 : QMI := (9, yX9_leaders, cX9_leaders, 1, (some FieldType.int), 1, 0, 1, 25, [], 2129, 2127, 2128, 1001)
noncomputable def mi_149 : QMI := (9, yX9_committed, cX9_committed, 6, (some FieldType.int), 1, 0, 1, 40, [], 2137, 2135, 2136, 1001)
noncomputable def mi_150 : QMI := (9, yX9_agreeUpTo, cX9_agreeUpTo, 3, (some FieldType.int), 3, 0, 8, 131, [], 6148, 6146, 6147, 1001)
noncomputable def mi_151 : QMI := (9, yX9_copiesOf, cX9_copiesOf, 4, (some FieldType.int), 3, 0, 9, 154, [], 6155, 6153, 6154, 1001)
noncomputable def mi_152 : QMI := (9, yX9_couldWin, cX9_couldWin, 2, (some FieldType.boolean), 2, 0, 8, 131, [], 6162, 6160, 6161, 1001)
noncomputable def mi_153 : QMI := (9, yX9_valuesOf, cX9_valuesOf, 2, (some FieldType.int), 2, 0, 7, 110, [], 6169, 6167, 6168, 1001)
noncomputable def mi_154 : QMI := (9, yX9_roundsToLeader, cX9_roundsToLeader, 1, (some FieldType.int), 1, 0, 7, 179, [], 2144, 2142, 2143, 1001)
noncomputable def mi_155 : QMI := (9, yX9_roundsToAnswer, cX9_roundsToAnswer, 2, (some FieldType.int), 2, 0, 7, 179, [], 6184, 6182, 6183, 1001)
noncomputable def mi_156 : QMI := (9, yX9_roundsToAgree, cX9_roundsToAgree, 1, (some FieldType.int), 1, 0, 7, 179, [], 3187, 3185, 3186, 1001)
noncomputable def mi_157 : QMI := (9, yX9_roleIfSounding, cX9_roleIfSounding, 4, (some FieldType.int), 2, 0, 8, 156, [], 6191, 6189, 6190, 1001)
noncomputable def mi_158 : QMI := (9, yX9_roundsWithout, cX9_roundsWithout, 2, (some FieldType.int), 2, 0, 8, 179, [], 6198, 6196, 6197, 1001)
noncomputable def mi_159 : QMI := (9, yX9_meanCommitted, cX9_meanCommitted, 8, (some FieldType.double), 1, 0, 0, 0, [], 3191, 3189, 3190, 1001)
noncomputable def mi_160 : QMI := (9, yX9_digest, cX9_digest, 7, (some FieldType.long), 1, 0, 4, 97, [], 3195, 3193, 3194, 1001)
noncomputable def mi_161 : QMI := (9, yX9_digestMessages, cX9_digestMessages, 7, (some FieldType.long), 2, 0, 1, 20, [], 3207, 3206, 22, 1001)
noncomputable def mi_162 : QMI := (9, yX9_digestClients, cX9_digestClients, 9, (some FieldType.long), 2, 0, 1, 20, [], 3215, 3214, 23, 1001)
noncomputable def mi_163 : QMI := (9, yX9_digestServer, cX9_digestServer, 6, (some FieldType.long), 3, 0, 3, 72, [], 3220, 3219, 24, 1001)
noncomputable def mi_164 : QMI := (9, yX9_digestLog, cX9_digestLog, 8, (some FieldType.long), 3, 0, 2, 49, [], 3231, 3230, 25, 1001)
noncomputable def mi_165 : QMI := (9, yX9_digestTable, cX9_digestTable, 9, (some FieldType.long), 2, 1, 0, 0, [], 4011, 4010, 0, 1001)
noncomputable def mi_166 : QMI := (9, yX9_digestOthers, cX9_digestOthers, 10, (some FieldType.long), 3, 0, 2, 63, [], 4015, 4014, 26, 1001)
noncomputable def mi_167 : QMI := (9, yX9_roundsUntil, cX9_roundsUntil, 4, (some FieldType.int), 3, 0, 6, 156, [], 2179, 2178, 3, 1001)
noncomputable def mi_168 : QMI := (9, yX9_refuseIf, cX9_refuseIf, 1, none, 1, 1, 6, 90, [], 4145, 4144, 0, 1001)
noncomputable def mi_169 : QMI := (9, yX9_checkServer, cX9_checkServer, 1, none, 1, 1, 6, 90, [], 4126, 4125, 0, 1001)
noncomputable def mi_170 : QMI := (9, yX9_checkPair, cX9_checkPair, 2, none, 2, 1, 7, 110, [], 4186, 4185, 0, 1001)
noncomputable def mi_171 : QMI := (9, yX9_checkClient, cX9_checkClient, 1, none, 1, 1, 6, 90, [], 5122, 5121, 0, 1001)
noncomputable def mi_172 : QMI := (9, yX9_checkKey, cX9_checkKey, 1, none, 1, 1, 6, 90, [], 5126, 5125, 0, 1001)
noncomputable def mi_173 : QMI := (9, yX9_checkMessage, cX9_checkMessage, 2, none, 2, 0, 6, 90, [], 5048, 5047, 30, 1001)
noncomputable def mi_174 : QMI := (9, yX9_checkRequest, cX9_checkRequest, 5, none, 5, 0, 7, 110, [], 5119, 5118, 32, 1001)
noncomputable def mi_175 : QMI := (9, yX9_isTooGreat, cX9_isTooGreat, 1, (some FieldType.boolean), 1, 1, 0, 0, [], 5130, 5129, 0, 1001)
noncomputable def mi_176 : QMI := (9, yX9_serverNumbered, cX9_serverNumbered, 2, (some (FieldType.object "QuorumLog$Server")), 2, 0, 7, 110, [], 4123, 4122, 28, 1001)
noncomputable def mi_177 : QMI := (9, yX9_messageAt, cX9_messageAt, 2, (some (FieldType.object "QuorumLog$Message")), 2, 0, 7, 111, [], 5080, 5079, 31, 1001)
noncomputable def mi_178 : QMI := (9, yX9_entryOf, cX9_entryOf, 4, (some (FieldType.object "QuorumLog$Entry")), 3, 0, 8, 131, [], 6090, 6089, 33, 1001)
noncomputable def mi_179 : QMI := (10, yX10_init, cX10_init, 1, none, 1, 0, 1, 20, [], 6209, 6208, 0, 1011)
noncomputable def mi_180 : QMI := (10, yX10_copy, cX10_copy, 2, none, 2, 1, 1, 40, [], 7093, 7092, 0, 1011)
noncomputable def mi_181 : QMI := (10, yX10_become, cX10_become, 3, none, 2, 0, 3, 84, [], 9146, 9144, 9145, 1011)
noncomputable def mi_182 : QMI := (10, yX10_begin, cX10_begin, 4, none, 2, 0, 3, 82, [], 7086, 7084, 7085, 1011)
noncomputable def mi_183 : QMI := (10, yX10_rest, cX10_rest, 2, none, 2, 0, 2, 61, [], 7090, 7088, 7089, 1011)
noncomputable def mi_184 : QMI := (10, yX10_makeRoom, cX10_makeRoom, 4, none, 3, 0, 2, 61, [], 8003, 8002, 44, 1011)
noncomputable def mi_185 : QMI := (10, yX10_append, cX10_append, 5, none, 5, 0, 3, 84, [], 7239, 7237, 7238, 1011)
noncomputable def mi_186 : QMI := (10, yX10_appendPlain, cX10_appendPlain, 5, none, 4, 0, 4, 108, [], 7235, 7233, 7234, 1011)
noncomputable def mi_187 : QMI := (10, yX10_last, cX10_last, 2, (some FieldType.int), 2, 0, 0, 0, [], 7178, 7176, 7177, 1011)
noncomputable def mi_188 : QMI := (10, yX10_hasEntry, cX10_hasEntry, 3, (some FieldType.boolean), 3, 0, 1, 21, [], 8051, 8049, 8050, 1011)
noncomputable def mi_189 : QMI := (10, yX10_place, cX10_place, 3, (some FieldType.int), 3, 0, 0, 0, [], 7194, 7192, 7193, 1011)
noncomputable def mi_190 : QMI := (10, yX10_part, cX10_part, 4, (some FieldType.int), 4, 0, 1, 22, [], 7190, 7188, 7189, 1011)
noncomputable def mi_191 : QMI := (10, yX10_termOf, cX10_termOf, 3, (some FieldType.int), 3, 0, 2, 45, [], 7206, 7204, 7205, 1011)
noncomputable def mi_192 : QMI := (10, yX10_lastTerm, cX10_lastTerm, 2, (some FieldType.int), 2, 0, 3, 67, [], 8023, 8021, 8022, 1011)
noncomputable def mi_193 : QMI := (10, yX10_membersIndex, cX10_membersIndex, 4, (some FieldType.int), 3, 0, 2, 45, [], 7186, 7184, 7185, 1011)
noncomputable def mi_194 : QMI := (10, yX10_membersUpTo, cX10_membersUpTo, 4, (some FieldType.int), 3, 0, 3, 68, [], 7182, 7180, 7181, 1011)
noncomputable def mi_195 : QMI := (10, yX10_members, cX10_members, 2, (some FieldType.int), 2, 0, 4, 91, [], 7174, 7172, 7173, 1011)
noncomputable def mi_196 : QMI := (10, yX10_sees, cX10_sees, 3, (some FieldType.boolean), 3, 0, 5, 112, [], 7211, 7209, 7210, 1011)
noncomputable def mi_197 : QMI := (10, yX10_count, cX10_count, 3, (some FieldType.int), 1, 1, 0, 0, [], 7150, 7149, 0, 1011)
noncomputable def mi_198 : QMI := (10, yX10_isMost, cX10_isMost, 4, (some FieldType.boolean), 3, 0, 5, 112, [], 7222, 7220, 7221, 1011)
noncomputable def mi_199 : QMI := (10, yX10_isAsGood, cX10_isAsGood, 4, (some FieldType.boolean), 4, 0, 4, 88, [], 8039, 8037, 8038, 1011)
noncomputable def mi_200 : QMI := (10, yX10_send, cX10_send, 9, (some FieldType.int), 7, 0, 0, 0, [], 7202, 7201, 41, 1011)
noncomputable def mi_201 : QMI := (10, yX10_sendLog, cX10_sendLog, 6, none, 3, 0, 3, 67, [], 7198, 7197, 40, 1011)
noncomputable def mi_202 : QMI := (10, yX10_sendAll, cX10_sendAll, 5, (some FieldType.int), 2, 0, 5, 112, [], 7170, 7168, 7169, 1011)
noncomputable def mi_203 : QMI := (10, yX10_ask, cX10_ask, 6, none, 4, 0, 5, 112, [], 8019, 8018, 47, 1011)
noncomputable def mi_204 : QMI := (10, yX10_sound, cX10_sound, 2, none, 2, 0, 8, 180, [], 7218, 7216, 7217, 1011)
noncomputable def mi_205 : QMI := (10, yX10_stand, cX10_stand, 2, none, 2, 0, 7, 159, [], 7227, 7226, 42, 1011)
noncomputable def mi_206 : QMI := (10, yX10_lead, cX10_lead, 3, none, 2, 0, 6, 137, [], 7231, 7230, 43, 1011)
noncomputable def mi_207 : QMI := (10, yX10_look, cX10_look, 6, none, 2, 0, 5, 112, [], 8007, 8005, 8006, 1011)
noncomputable def mi_208 : QMI := (10, yX10_apply, cX10_apply, 4, none, 2, 0, 1, 29, [], 8011, 8010, 45, 1011)
noncomputable def mi_209 : QMI := (10, yX10_applyRequest, cX10_applyRequest, 10, none, 4, 0, 0, 0, [], 8015, 8014, 46, 1011)
noncomputable def mi_210 : QMI := (10, yX10_handle, cX10_handle, 3, (some FieldType.boolean), 2, 0, 9, 209, [], 8027, 8025, 8026, 1011)
noncomputable def mi_211 : QMI := (10, yX10_drop, cX10_drop, 2, none, 2, 0, 1, 40, [], 8031, 8029, 8030, 1011)
noncomputable def mi_212 : QMI := (10, yX10_arrive, cX10_arrive, 10, none, 6, 0, 8, 180, [], 8035, 8034, 48, 1011)
noncomputable def mi_213 : QMI := (10, yX10_isOld, cX10_isOld, 4, (some FieldType.boolean), 4, 0, 1, 28, [], 8047, 8046, 50, 1011)
noncomputable def mi_214 : QMI := (10, yX10_takeEntries, cX10_takeEntries, 10, none, 6, 0, 4, 108, [], 8043, 8042, 49, 1011)
noncomputable def mi_215 : QMI := (10, yX10_aheadOfRun, cX10_aheadOfRun, 4, (some FieldType.int), 3, 0, 2, 45, [], 8055, 8054, 51, 1011)
noncomputable def mi_216 : QMI := (10, yX10_takeAnswer, cX10_takeAnswer, 6, none, 6, 0, 6, 137, [], 8060, 8059, 52, 1011)
noncomputable def mi_217 : QMI := (10, yX10_takeSnapshot, cX10_takeSnapshot, 7, none, 6, 0, 2, 62, [], 8064, 8063, 53, 1011)
noncomputable def mi_218 : QMI := (10, yX10_cutAhead, cX10_cutAhead, 3, none, 3, 0, 1, 40, [], 8068, 8066, 8067, 1011)
noncomputable def mi_219 : QMI := (10, yX10_patience, cX10_patience, 2, (some FieldType.int), 2, 1, 0, 0, [], 7214, 7213, 0, 1011)
noncomputable def mi_220 : QMI := (10, yX10_pass, cX10_pass, 2, none, 1, 0, 10, 231, [], 7162, 7160, 7161, 1011)
noncomputable def mi_221 : QMI := (10, yX10_takeTurn, cX10_takeTurn, 2, none, 2, 0, 9, 201, [], 7166, 7165, 39, 1011)
noncomputable def mi_222 : QMI := (10, yX10_leader, cX10_leader, 3, (some FieldType.int), 1, 0, 0, 0, [], 9094, 9092, 9093, 1011)
noncomputable def mi_223 : QMI := (10, yX10_isFollowed, cX10_isFollowed, 3, (some FieldType.boolean), 2, 0, 6, 134, [], 9162, 9160, 9161, 1011)
noncomputable def mi_224 : QMI := (10, yX10_hasFollowed, cX10_hasFollowed, 3, (some FieldType.boolean), 1, 0, 7, 156, [], 9158, 9156, 9157, 1011)
noncomputable def mi_225 : QMI := (10, yX10_doAgree, cX10_doAgree, 3, (some FieldType.boolean), 1, 0, 6, 134, [], 9166, 9164, 9165, 1011)
noncomputable def mi_226 : QMI := (10, yX10_canSound, cX10_canSound, 2, (some FieldType.boolean), 2, 0, 6, 134, [], 8076, 8074, 8075, 1011)
noncomputable def mi_227 : QMI := (10, yX10_agreeUpTo, cX10_agreeUpTo, 5, (some FieldType.int), 3, 0, 2, 45, [], 9118, 9116, 9117, 1011)
noncomputable def mi_228 : QMI := (10, yX10_copies, cX10_copies, 6, (some FieldType.int), 3, 0, 5, 112, [], 9126, 9124, 9125, 1011)
noncomputable def mi_229 : QMI := (10, yX10_couldWin, cX10_couldWin, 4, (some FieldType.boolean), 2, 0, 6, 135, [], 9134, 9132, 9133, 1011)
noncomputable def mi_230 : QMI := (10, yX10_furthest, cX10_furthest, 3, (some FieldType.int), 1, 0, 1, 40, [], 9110, 9108, 9109, 1011)
noncomputable def mi_231 : QMI := (11, yX11_init, cX11_init, 1, none, 1, 0, 4, 105, [], 6203, 6202, 0, 1010)
noncomputable def mi_232 : QMI := (11, yX11_thrown, cX11_thrown, 1, (some FieldType.int), 1, 0, 0, 0, [], 7111, 7109, 7110, 1010)
noncomputable def mi_233 : QMI := (11, yX11_refuse, cX11_refuse, 2, (some FieldType.int), 2, 0, 0, 0, [], 7119, 7118, 35, 1010)
noncomputable def mi_234 : QMI := (11, yX11_isServer, cX11_isServer, 1, (some FieldType.boolean), 1, 1, 0, 0, [], 7126, 7125, 0, 1010)
noncomputable def mi_235 : QMI := (11, yX11_isClient, cX11_isClient, 1, (some FieldType.boolean), 1, 1, 0, 0, [], 8179, 8178, 0, 1010)
noncomputable def mi_236 : QMI := (11, yX11_isKey, cX11_isKey, 1, (some FieldType.boolean), 1, 1, 0, 0, [], 8182, 8181, 0, 1010)
noncomputable def mi_237 : QMI := (11, yX11_isValue, cX11_isValue, 1, (some FieldType.boolean), 1, 1, 0, 0, [], 8185, 8184, 0, 1010)
noncomputable def mi_238 : QMI := (11, yX11_isMessage, cX11_isMessage, 2, (some FieldType.boolean), 2, 0, 0, 0, [], 8133, 8132, 57, 1010)
noncomputable def mi_239 : QMI := (11, yX11_up, cX11_up, 6, (some FieldType.int), 1, 0, 0, 0, [], 7131, 7130, 36, 1010)
noncomputable def mi_240 : QMI := (11, yX11_cutLinks, cX11_cutLinks, 6, (some FieldType.int), 1, 0, 1, 22, [], 7147, 7146, 38, 1010)
noncomputable def mi_241 : QMI := (11, yX11_isLeader, cX11_isLeader, 2, (some FieldType.boolean), 2, 0, 0, 0, [], 8085, 8084, 54, 1010)
noncomputable def mi_242 : QMI := (11, yX11_found, cX11_found, 2, (some FieldType.int), 2, 0, 4, 105, [], 7115, 7113, 7114, 1010)
noncomputable def mi_243 : QMI := (11, yX11_fail, cX11_fail, 2, (some FieldType.int), 2, 0, 3, 82, [], 7123, 7121, 7122, 1010)
noncomputable def mi_244 : QMI := (11, yX11_recover, cX11_recover, 2, (some FieldType.int), 2, 0, 1, 25, [], 7135, 7133, 7134, 1010)
noncomputable def mi_245 : QMI := (11, yX11_link, cX11_link, 4, (some FieldType.int), 4, 0, 2, 47, [], 7143, 7142, 37, 1010)
noncomputable def mi_246 : QMI := (11, yX11_cut, cX11_cut, 3, (some FieldType.int), 3, 0, 3, 70, [], 7139, 7137, 7138, 1010)
noncomputable def mi_247 : QMI := (11, yX11_mend, cX11_mend, 3, (some FieldType.int), 3, 0, 3, 70, [], 7154, 7152, 7153, 1010)
noncomputable def mi_248 : QMI := (11, yX11_pass, cX11_pass, 4, (some FieldType.int), 2, 0, 11, 252, [], 7158, 7156, 7157, 1010)
noncomputable def mi_249 : QMI := (11, yX11_sound, cX11_sound, 2, (some FieldType.int), 2, 0, 9, 201, [], 8072, 8070, 8071, 1010)
noncomputable def mi_250 : QMI := (11, yX11_beat, cX11_beat, 2, (some FieldType.int), 2, 0, 6, 136, [], 8081, 8079, 8080, 1010)
noncomputable def mi_251 : QMI := (11, yX11_shorten, cX11_shorten, 6, (some FieldType.int), 2, 0, 4, 91, [], 8090, 8088, 8089, 1010)
noncomputable def mi_252 : QMI := (11, yX11_handOver, cX11_handOver, 3, (some FieldType.int), 3, 0, 6, 134, [], 8098, 8096, 8097, 1010)
noncomputable def mi_253 : QMI := (11, yX11_canChange, cX11_canChange, 2, (some FieldType.boolean), 2, 0, 3, 68, [], 8109, 8108, 55, 1010)
noncomputable def mi_254 : QMI := (11, yX11_change, cX11_change, 4, (some FieldType.int), 3, 0, 6, 137, [], 8114, 8113, 56, 1010)
noncomputable def mi_255 : QMI := (11, yX11_join, cX11_join, 3, (some FieldType.int), 3, 0, 7, 160, [], 8105, 8103, 8104, 1010)
noncomputable def mi_256 : QMI := (11, yX11_leave, cX11_leave, 3, (some FieldType.int), 3, 0, 7, 160, [], 8121, 8119, 8120, 1010)
noncomputable def mi_257 : QMI := (11, yX11_messages, cX11_messages, 1, (some FieldType.int), 1, 0, 0, 0, [], 8125, 8123, 8124, 1010)
noncomputable def mi_258 : QMI := (11, yX11_deliver, cX11_deliver, 2, (some FieldType.boolean), 2, 0, 10, 231, [], 8129, 8127, 8128, 1010)
noncomputable def mi_259 : QMI := (11, yX11_lose, cX11_lose, 2, (some FieldType.int), 2, 0, 2, 61, [], 8138, 8136, 8137, 1010)
noncomputable def mi_260 : QMI := (11, yX11_twice, cX11_twice, 2, (some FieldType.int), 2, 0, 1, 40, [], 8143, 8141, 8142, 1010)
noncomputable def mi_261 : QMI := (11, yX11_ofMessage, cX11_ofMessage, 3, (some FieldType.int), 3, 0, 1, 21, [], 8152, 8151, 58, 1010)
noncomputable def mi_262 : QMI := (11, yX11_kindOfMessage, cX11_kindOfMessage, 2, (some FieldType.int), 2, 0, 2, 43, [], 8148, 8146, 8147, 1010)
noncomputable def mi_263 : QMI := (11, yX11_senderOf, cX11_senderOf, 2, (some FieldType.int), 2, 0, 2, 43, [], 8156, 8154, 8155, 1010)
noncomputable def mi_264 : QMI := (11, yX11_receiverOf, cX11_receiverOf, 2, (some FieldType.int), 2, 0, 2, 43, [], 8160, 8158, 8159, 1010)
noncomputable def mi_265 : QMI := (11, yX11_termOfMessage, cX11_termOfMessage, 2, (some FieldType.int), 2, 0, 2, 43, [], 8164, 8162, 8163, 1010)
noncomputable def mi_266 : QMI := (11, yX11_tells, cX11_tells, 2, (some FieldType.int), 2, 0, 2, 43, [], 8168, 8166, 8167, 1010)
noncomputable def mi_267 : QMI := (11, yX11_ask, cX11_ask, 8, (some FieldType.int), 6, 0, 1, 40, [], 8176, 8175, 59, 1010)
noncomputable def mi_268 : QMI := (11, yX11_askPut, cX11_askPut, 4, (some FieldType.int), 4, 0, 2, 67, [], 8172, 8170, 8171, 1010)
noncomputable def mi_269 : QMI := (11, yX11_askAdd, cX11_askAdd, 4, (some FieldType.int), 4, 0, 2, 67, [], 8189, 8187, 8188, 1010)
noncomputable def mi_270 : QMI := (11, yX11_askSwap, cX11_askSwap, 5, (some FieldType.int), 5, 0, 2, 67, [], 8193, 8191, 8192, 1010)
noncomputable def mi_271 : QMI := (11, yX11_isOpen, cX11_isOpen, 2, (some FieldType.boolean), 2, 0, 0, 0, [], 8201, 8200, 60, 1010)
noncomputable def mi_272 : QMI := (11, yX11_hand, cX11_hand, 4, (some FieldType.int), 3, 0, 6, 137, [], 8197, 8195, 8196, 1010)
noncomputable def mi_273 : QMI := (11, yX11_serialOf, cX11_serialOf, 2, (some FieldType.int), 2, 0, 1, 21, [], 8206, 8204, 8205, 1010)
noncomputable def mi_274 : QMI := (11, yX11_isAnswered, cX11_isAnswered, 2, (some FieldType.boolean), 2, 0, 1, 20, [], 8210, 8208, 8209, 1010)
noncomputable def mi_275 : QMI := (11, yX11_answerTo, cX11_answerTo, 2, (some FieldType.int), 2, 0, 1, 21, [], 8214, 8212, 8213, 1010)
noncomputable def mi_276 : QMI := (11, yX11_round, cX11_round, 1, (some FieldType.int), 1, 0, 0, 0, [], 8218, 8216, 8217, 1010)
noncomputable def mi_277 : QMI := (11, yX11_lost, cX11_lost, 1, (some FieldType.int), 1, 0, 0, 0, [], 8222, 8220, 8221, 1010)
noncomputable def mi_278 : QMI := (11, yX11_of, cX11_of, 3, (some FieldType.int), 3, 0, 1, 21, [], 8234, 8233, 61, 1010)
noncomputable def mi_279 : QMI := (11, yX11_isUp, cX11_isUp, 2, (some FieldType.boolean), 2, 0, 1, 20, [], 8226, 8224, 8225, 1010)
noncomputable def mi_280 : QMI := (11, yX11_roleOf, cX11_roleOf, 2, (some FieldType.int), 2, 0, 2, 43, [], 8230, 8228, 8229, 1010)
noncomputable def mi_281 : QMI := (11, yX11_termOf, cX11_termOf, 2, (some FieldType.int), 2, 0, 2, 43, [], 8238, 8236, 8237, 1010)
noncomputable def mi_282 : QMI := (11, yX11_votedFor, cX11_votedFor, 2, (some FieldType.int), 2, 0, 2, 43, [], 9002, 9000, 9001, 1010)
noncomputable def mi_283 : QMI := (11, yX11_follows, cX11_follows, 2, (some FieldType.int), 2, 0, 2, 43, [], 9006, 9004, 9005, 1010)
noncomputable def mi_284 : QMI := (11, yX11_waitedOf, cX11_waitedOf, 2, (some FieldType.int), 2, 0, 2, 43, [], 9010, 9008, 9009, 1010)
noncomputable def mi_285 : QMI := (11, yX11_patienceOf, cX11_patienceOf, 2, (some FieldType.int), 2, 0, 1, 21, [], 9014, 9012, 9013, 1010)
noncomputable def mi_286 : QMI := (11, yX11_snapshotOf, cX11_snapshotOf, 2, (some FieldType.int), 2, 0, 2, 43, [], 9019, 9017, 9018, 1010)
noncomputable def mi_287 : QMI := (11, yX11_lastOf, cX11_lastOf, 2, (some FieldType.int), 2, 0, 1, 21, [], 9023, 9021, 9022, 1010)
noncomputable def mi_288 : QMI := (11, yX11_lastTermOf, cX11_lastTermOf, 2, (some FieldType.int), 2, 0, 4, 88, [], 9027, 9025, 9026, 1010)
noncomputable def mi_289 : QMI := (11, yX11_committedOf, cX11_committedOf, 2, (some FieldType.int), 2, 0, 2, 43, [], 9032, 9030, 9031, 1010)
noncomputable def mi_290 : QMI := (11, yX11_membersOf, cX11_membersOf, 2, (some FieldType.int), 2, 0, 5, 112, [], 9036, 9034, 9035, 1010)
noncomputable def mi_291 : QMI := (11, yX11_sees, cX11_sees, 3, (some FieldType.boolean), 3, 0, 6, 134, [], 9040, 9038, 9039, 1010)
noncomputable def mi_292 : QMI := (11, yX11_termAt, cX11_termAt, 3, (some FieldType.int), 3, 0, 3, 67, [], 9044, 9042, 9043, 1010)
noncomputable def mi_293 : QMI := (11, yX11_ofEntry, cX11_ofEntry, 4, (some FieldType.int), 4, 0, 2, 45, [], 9053, 9052, 62, 1010)
noncomputable def mi_294 : QMI := (11, yX11_kindAt, cX11_kindAt, 3, (some FieldType.int), 3, 0, 3, 68, [], 9049, 9047, 9048, 1010)
noncomputable def mi_295 : QMI := (11, yX11_valueAt, cX11_valueAt, 3, (some FieldType.int), 3, 0, 3, 68, [], 9058, 9056, 9057, 1010)
noncomputable def mi_296 : QMI := (11, yX11_clientAt, cX11_clientAt, 3, (some FieldType.int), 3, 0, 3, 68, [], 9062, 9060, 9061, 1010)
noncomputable def mi_297 : QMI := (11, yX11_serialAt, cX11_serialAt, 3, (some FieldType.int), 3, 0, 3, 68, [], 9066, 9064, 9065, 1010)
noncomputable def mi_298 : QMI := (11, yX11_valueOf, cX11_valueOf, 3, (some FieldType.int), 3, 0, 1, 21, [], 9070, 9068, 9069, 1010)
noncomputable def mi_299 : QMI := (11, yX11_appliedSerial, cX11_appliedSerial, 3, (some FieldType.int), 3, 0, 1, 21, [], 9074, 9072, 9073, 1010)
noncomputable def mi_300 : QMI := (11, yX11_ofOther, cX11_ofOther, 4, (some FieldType.int), 4, 0, 1, 21, [], 9082, 9081, 63, 1010)
noncomputable def mi_301 : QMI := (11, yX11_nextOf, cX11_nextOf, 3, (some FieldType.int), 3, 0, 2, 44, [], 9078, 9076, 9077, 1010)
noncomputable def mi_302 : QMI := (11, yX11_matchedOf, cX11_matchedOf, 3, (some FieldType.int), 3, 0, 2, 44, [], 9086, 9084, 9085, 1010)
noncomputable def mi_303 : QMI := (11, yX11_leader, cX11_leader, 1, (some FieldType.int), 1, 0, 1, 22, [], 9090, 9088, 9089, 1010)
noncomputable def mi_304 : QMI := (11, yX11_leadersNow, cX11_leadersNow, 6, (some FieldType.int), 1, 0, 0, 0, [], 9102, 9101, 64, 1010)
noncomputable def mi_305 : QMI := (11, yX11_leaders, cX11_leaders, 1, (some FieldType.int), 1, 0, 1, 25, [], 9098, 9096, 9097, 1010)
noncomputable def mi_306 : QMI := (11, yX11_committed, cX11_committed, 1, (some FieldType.int), 1, 0, 2, 62, [], 9106, 9104, 9105, 1010)
noncomputable def mi_307 : QMI := (11, yX11_agreeUpTo, cX11_agreeUpTo, 3, (some FieldType.int), 3, 0, 3, 69, [], 9114, 9112, 9113, 1010)
noncomputable def mi_308 : QMI := (11, yX11_copiesOf, cX11_copiesOf, 3, (some FieldType.int), 3, 0, 6, 137, [], 9122, 9120, 9121, 1010)
noncomputable def mi_309 : QMI := (11, yX11_couldWin, cX11_couldWin, 2, (some FieldType.boolean), 2, 0, 7, 158, [], 9130, 9128, 9129, 1010)
noncomputable def mi_310 : QMI := (11, yX11_valuesOf, cX11_valuesOf, 6, (some FieldType.int), 2, 0, 1, 21, [], 9138, 9136, 9137, 1010)
noncomputable def mi_311 : QMI := (11, yX11_hasCome, cX11_hasCome, 3, (some FieldType.boolean), 3, 0, 8, 178, [], 9154, 9153, 66, 1010)
noncomputable def mi_312 : QMI := (11, yX11_roundsTill, cX11_roundsTill, 4, (some FieldType.int), 3, 0, 11, 252, [], 9150, 9149, 65, 1010)
noncomputable def mi_313 : QMI := (11, yX11_roundsToLeader, cX11_roundsToLeader, 1, (some FieldType.int), 1, 0, 12, 275, [], 9142, 9140, 9141, 1010)
noncomputable def mi_314 : QMI := (11, yX11_roundsToAnswer, cX11_roundsToAnswer, 2, (some FieldType.int), 2, 0, 12, 275, [], 9171, 9169, 9170, 1010)
noncomputable def mi_315 : QMI := (11, yX11_roundsToAgree, cX11_roundsToAgree, 1, (some FieldType.int), 1, 0, 12, 275, [], 9175, 9173, 9174, 1010)
noncomputable def mi_316 : QMI := (11, yX11_roleIfSounding, cX11_roleIfSounding, 3, (some FieldType.int), 2, 0, 11, 252, [], 9179, 9177, 9178, 1010)
noncomputable def mi_317 : QMI := (11, yX11_roundsWithout, cX11_roundsWithout, 2, (some FieldType.int), 2, 0, 12, 275, [], 9183, 9181, 9182, 1010)
noncomputable def mi_318 : QMI := (11, yX11_meanCommitted, cX11_meanCommitted, 3, (some FieldType.double), 1, 0, 1, 25, [], 9187, 9185, 9186, 1010)
noncomputable def mi_319 : QMI := (11, yX11_add, cX11_add, 2, none, 2, 0, 0, 0, [], 9196, 9195, 67, 1010)
noncomputable def mi_320 : QMI := (11, yX11_addServer, cX11_addServer, 3, none, 2, 0, 7, 158, [], 9202, 9201, 68, 1010)
noncomputable def mi_321 : QMI := (11, yX11_digest, cX11_digest, 3, (some FieldType.long), 1, 0, 8, 180, [], 9191, 9189, 9190, 1010)
noncomputable def mi_322 : QMI := (12, yL_found, cL_found, 4, (some FieldType.int), 3, 1, 7, 152, [(0, 9, 12, 13)], 4023, 4022, 0, 1000)
noncomputable def mi_323 : QMI := (12, yL_fail, cL_fail, 4, (some FieldType.int), 3, 1, 9, 153, [(0, 9, 12, 18), (0, 9, 15, 20)], 4113, 4112, 0, 1000)
noncomputable def mi_324 : QMI := (12, yL_recover, cL_recover, 4, (some FieldType.int), 3, 1, 9, 153, [(0, 9, 12, 18), (0, 9, 15, 20)], 4172, 4171, 0, 1000)
noncomputable def mi_325 : QMI := (12, yL_cut, cL_cut, 5, (some FieldType.int), 4, 1, 9, 153, [(0, 10, 13, 18), (0, 10, 17, 13), (0, 10, 21, 20)], 4179, 4178, 0, 1000)
noncomputable def mi_326 : QMI := (12, yL_mend, cL_mend, 5, (some FieldType.int), 4, 1, 9, 153, [(0, 10, 13, 18), (0, 10, 17, 13), (0, 10, 21, 20)], 4196, 4195, 0, 1000)
noncomputable def mi_327 : QMI := (12, yL_pass, cL_pass, 4, (some FieldType.int), 3, 1, 7, 179, [(0, 9, 12, 13)], 4203, 4202, 0, 1000)
noncomputable def mi_328 : QMI := (12, yL_sound, cL_sound, 4, (some FieldType.int), 3, 1, 9, 153, [(0, 9, 12, 18), (0, 9, 15, 20)], 4211, 4210, 0, 1000)
noncomputable def mi_329 : QMI := (12, yL_beat, cL_beat, 4, (some FieldType.int), 3, 1, 9, 153, [(0, 9, 12, 18), (0, 9, 15, 20)], 4224, 4223, 0, 1000)
noncomputable def mi_330 : QMI := (12, yL_shorten, cL_shorten, 4, (some FieldType.int), 3, 1, 9, 153, [(0, 9, 12, 18), (0, 9, 15, 20)], 4232, 4231, 0, 1000)
noncomputable def mi_331 : QMI := (12, yL_handOver, cL_handOver, 5, (some FieldType.int), 4, 1, 9, 154, [(0, 10, 13, 18), (0, 10, 17, 13), (0, 10, 21, 20)], 5009, 5008, 0, 1000)
noncomputable def mi_332 : QMI := (12, yL_join, cL_join, 5, (some FieldType.int), 4, 1, 9, 155, [(0, 10, 13, 18), (0, 10, 17, 20)], 5018, 5017, 0, 1000)
noncomputable def mi_333 : QMI := (12, yL_leave, cL_leave, 5, (some FieldType.int), 4, 1, 9, 156, [(0, 10, 13, 18), (0, 10, 17, 20)], 5033, 5032, 0, 1000)
noncomputable def mi_334 : QMI := (12, yL_deliver, cL_deliver, 4, (some FieldType.int), 3, 1, 8, 153, [(0, 16, 19, 18)], 5040, 5039, 0, 1000)
noncomputable def mi_335 : QMI := (12, yL_lose, cL_lose, 4, (some FieldType.int), 3, 1, 8, 132, [(0, 9, 12, 18)], 5053, 5052, 0, 1000)
noncomputable def mi_336 : QMI := (12, yL_twice, cL_twice, 4, (some FieldType.int), 3, 1, 8, 132, [(0, 9, 12, 18), (0, 9, 15, 20)], 5061, 5060, 0, 1000)
noncomputable def mi_337 : QMI := (12, yL_kindOfMessage, cL_kindOfMessage, 4, (some FieldType.int), 3, 1, 9, 153, [(0, 9, 12, 18)], 5072, 5071, 0, 1000)
noncomputable def mi_338 : QMI := (12, yL_senderOf, cL_senderOf, 4, (some FieldType.int), 3, 1, 9, 153, [(0, 9, 12, 18)], 5083, 5082, 0, 1000)
noncomputable def mi_339 : QMI := (12, yL_receiverOf, cL_receiverOf, 4, (some FieldType.int), 3, 1, 9, 153, [(0, 9, 12, 18)], 5090, 5089, 0, 1000)
noncomputable def mi_340 : QMI := (12, yL_termOfMessage, cL_termOfMessage, 4, (some FieldType.int), 3, 1, 9, 153, [(0, 9, 12, 18)], 5097, 5096, 0, 1000)
noncomputable def mi_341 : QMI := (12, yL_tells, cL_tells, 4, (some FieldType.int), 3, 1, 9, 153, [(0, 9, 12, 18)], 5104, 5103, 0, 1000)
noncomputable def mi_342 : QMI := (12, yL_askPut, cL_askPut, 6, (some FieldType.int), 5, 1, 9, 157, [(0, 12, 15, 18), (0, 12, 19, 13), (0, 12, 23, 20)], 5111, 5110, 0, 1000)
noncomputable def mi_343 : QMI := (12, yL_askAdd, cL_askAdd, 6, (some FieldType.int), 5, 1, 9, 157, [(0, 12, 15, 18), (0, 12, 19, 13), (0, 12, 23, 20)], 5178, 5177, 0, 1000)
noncomputable def mi_344 : QMI := (12, yL_askSwap, cL_askSwap, 7, (some FieldType.int), 6, 1, 9, 158, [(0, 14, 17, 18), (0, 14, 21, 13), (0, 14, 25, 20)], 5185, 5184, 0, 1000)
noncomputable def mi_345 : QMI := (12, yL_hand, cL_hand, 5, (some FieldType.int), 4, 1, 9, 156, [(0, 10, 13, 18), (0, 10, 17, 20)], 5192, 5191, 0, 1000)
noncomputable def mi_346 : QMI := (12, yL_serialOf, cL_serialOf, 4, (some FieldType.int), 3, 1, 8, 131, [(0, 9, 12, 18)], 5200, 5199, 0, 1000)
noncomputable def mi_347 : QMI := (12, yL_isAnswered, cL_isAnswered, 4, (some FieldType.int), 3, 1, 8, 131, [(0, 16, 19, 18)], 5207, 5206, 0, 1000)
noncomputable def mi_348 : QMI := (12, yL_answerTo, cL_answerTo, 4, (some FieldType.int), 3, 1, 8, 131, [(0, 9, 12, 18), (0, 9, 15, 20)], 5214, 5213, 0, 1000)
noncomputable def mi_349 : QMI := (12, yL_isUp, cL_isUp, 4, (some FieldType.int), 3, 1, 9, 152, [(0, 16, 19, 18)], 5221, 5220, 0, 1000)
noncomputable def mi_350 : QMI := (12, yL_roleOf, cL_roleOf, 4, (some FieldType.int), 3, 1, 9, 152, [(0, 9, 12, 18)], 5228, 5227, 0, 1000)
noncomputable def mi_351 : QMI := (12, yL_termOf, cL_termOf, 4, (some FieldType.int), 3, 1, 9, 152, [(0, 9, 12, 18)], 5235, 5234, 0, 1000)
noncomputable def mi_352 : QMI := (12, yL_votedFor, cL_votedFor, 4, (some FieldType.int), 3, 1, 9, 152, [(0, 9, 12, 18)], 6002, 6001, 0, 1000)
noncomputable def mi_353 : QMI := (12, yL_follows, cL_follows, 4, (some FieldType.int), 3, 1, 9, 152, [(0, 9, 12, 18)], 6009, 6008, 0, 1000)
noncomputable def mi_354 : QMI := (12, yL_waitedOf, cL_waitedOf, 4, (some FieldType.int), 3, 1, 9, 152, [(0, 9, 12, 18)], 6016, 6015, 0, 1000)
noncomputable def mi_355 : QMI := (12, yL_patienceOf, cL_patienceOf, 4, (some FieldType.int), 3, 1, 9, 152, [(0, 9, 12, 18)], 6023, 6022, 0, 1000)
noncomputable def mi_356 : QMI := (12, yL_snapshotOf, cL_snapshotOf, 4, (some FieldType.int), 3, 1, 9, 152, [(0, 9, 12, 18)], 6031, 6030, 0, 1000)
noncomputable def mi_357 : QMI := (12, yL_lastOf, cL_lastOf, 4, (some FieldType.int), 3, 1, 9, 152, [(0, 9, 12, 18)], 6038, 6037, 0, 1000)
noncomputable def mi_358 : QMI := (12, yL_lastTermOf, cL_lastTermOf, 4, (some FieldType.int), 3, 1, 9, 152, [(0, 9, 12, 18)], 6045, 6044, 0, 1000)
noncomputable def mi_359 : QMI := (12, yL_committedOf, cL_committedOf, 4, (some FieldType.int), 3, 1, 9, 152, [(0, 9, 12, 18)], 6052, 6051, 0, 1000)
noncomputable def mi_360 : QMI := (12, yL_membersOf, cL_membersOf, 4, (some FieldType.int), 3, 1, 9, 152, [(0, 9, 12, 18)], 6059, 6058, 0, 1000)
noncomputable def mi_361 : QMI := (12, yL_sees, cL_sees, 5, (some FieldType.int), 4, 1, 9, 153, [(0, 17, 20, 18)], 6066, 6065, 0, 1000)
noncomputable def mi_362 : QMI := (12, yL_termAt, cL_termAt, 5, (some FieldType.int), 4, 1, 9, 154, [(0, 10, 13, 18)], 6073, 6072, 0, 1000)
noncomputable def mi_363 : QMI := (12, yL_kindAt, cL_kindAt, 5, (some FieldType.int), 4, 1, 10, 176, [(0, 10, 13, 18)], 6082, 6081, 0, 1000)
noncomputable def mi_364 : QMI := (12, yL_valueAt, cL_valueAt, 5, (some FieldType.int), 4, 1, 10, 176, [(0, 10, 13, 18)], 6095, 6094, 0, 1000)
noncomputable def mi_365 : QMI := (12, yL_clientAt, cL_clientAt, 5, (some FieldType.int), 4, 1, 10, 176, [(0, 10, 13, 18)], 6102, 6101, 0, 1000)
noncomputable def mi_366 : QMI := (12, yL_serialAt, cL_serialAt, 5, (some FieldType.int), 4, 1, 10, 176, [(0, 10, 13, 18)], 6109, 6108, 0, 1000)
noncomputable def mi_367 : QMI := (12, yL_valueOf, cL_valueOf, 5, (some FieldType.int), 4, 1, 9, 153, [(0, 10, 13, 18)], 6116, 6115, 0, 1000)
noncomputable def mi_368 : QMI := (12, yL_appliedSerial, cL_appliedSerial, 5, (some FieldType.int), 4, 1, 9, 153, [(0, 10, 13, 18)], 6123, 6122, 0, 1000)
noncomputable def mi_369 : QMI := (12, yL_nextOf, cL_nextOf, 5, (some FieldType.int), 4, 1, 9, 153, [(0, 10, 13, 18), (0, 10, 17, 13), (0, 10, 21, 20)], 6130, 6129, 0, 1000)
noncomputable def mi_370 : QMI := (12, yL_matchedOf, cL_matchedOf, 5, (some FieldType.int), 4, 1, 9, 153, [(0, 10, 13, 18), (0, 10, 17, 13), (0, 10, 21, 20)], 6137, 6136, 0, 1000)
noncomputable def mi_371 : QMI := (12, yL_agreeUpTo, cL_agreeUpTo, 5, (some FieldType.int), 4, 1, 9, 153, [(0, 10, 13, 18)], 6144, 6143, 0, 1000)
noncomputable def mi_372 : QMI := (12, yL_copiesOf, cL_copiesOf, 5, (some FieldType.int), 4, 1, 10, 177, [(0, 10, 13, 18)], 6151, 6150, 0, 1000)
noncomputable def mi_373 : QMI := (12, yL_couldWin, cL_couldWin, 4, (some FieldType.int), 3, 1, 9, 152, [(0, 16, 19, 18)], 6158, 6157, 0, 1000)
noncomputable def mi_374 : QMI := (12, yL_valuesOf, cL_valuesOf, 4, (some FieldType.int), 3, 1, 8, 131, [(0, 9, 12, 18)], 6165, 6164, 0, 1000)
noncomputable def mi_375 : QMI := (12, yL_roundsToAnswer, cL_roundsToAnswer, 4, (some FieldType.int), 3, 1, 8, 200, [(0, 9, 12, 18)], 6180, 6179, 0, 1000)
noncomputable def mi_376 : QMI := (12, yL_roleIfSounding, cL_roleIfSounding, 4, (some FieldType.int), 3, 1, 9, 179, [(0, 9, 12, 18)], 6187, 6186, 0, 1000)
noncomputable def mi_377 : QMI := (12, yL_roundsWithout, cL_roundsWithout, 4, (some FieldType.int), 3, 1, 9, 200, [(0, 9, 12, 18), (0, 9, 15, 20)], 6194, 6193, 0, 1000)
noncomputable def mi_378 : QMI := (12, yL_law, cL_law, 9, (some .boolean), 1, 1, 13, 296, [], 0, 0, 0, 0)
noncomputable def mi_379 : QMI := (13, yJ6_bitCount_0f7a4, cJ6_bitCount_0f7a4, 1, (some FieldType.int), 1, 1, 0, 0, [], 2238, 2237, 0, 1019)
noncomputable def mi_380 : QMI := (15, yJ7_fill_53178, cJ7_fill_53178, 4, none, 2, 1, 0, 0, [], 3021, 3020, 0, 1016)
noncomputable def qMIL : List QMI := [mi_0, mi_1, mi_2, mi_3, mi_4, mi_5, mi_6, mi_7, mi_8, mi_9, mi_10, mi_11, mi_12, mi_13, mi_14, mi_15, mi_16, mi_17, mi_18, mi_19, mi_20, mi_21, mi_22, mi_23, mi_24, mi_25, mi_26, mi_27, mi_28, mi_29, mi_30, mi_31, mi_32, mi_33, mi_34, mi_35, mi_36, mi_37, mi_38, mi_39, mi_40, mi_41, mi_42, mi_43, mi_44, mi_45, mi_46, mi_47, mi_48, mi_49, mi_50, mi_51, mi_52, mi_53, mi_54, mi_55, mi_56, mi_57, mi_58, mi_59, mi_60, mi_61, mi_62, mi_63, mi_64, mi_65, mi_66, mi_67, mi_68, mi_69, mi_70, mi_71, mi_72, mi_73, mi_74, mi_75, mi_76, mi_77, mi_78, mi_79, mi_80, mi_81, mi_82, mi_83, mi_84, mi_85, mi_86, mi_87, mi_88, mi_89, mi_90, mi_91, mi_92, mi_93, mi_94, mi_95, mi_96, mi_97, mi_98, mi_99, mi_100, mi_101, mi_102, mi_103, mi_104, mi_105, mi_106, mi_107, mi_108, mi_109, mi_110, mi_111, mi_112, mi_113, mi_114, mi_115, mi_116, mi_117, mi_118, mi_119, mi_120, mi_121, mi_122, mi_123, mi_124, mi_125, mi_126, mi_127, mi_128, mi_129, mi_130, mi_131, mi_132, mi_133, mi_134, mi_135, mi_136, mi_137, mi_138, mi_139, mi_140, mi_141, mi_142, mi_143, mi_144, mi_145, mi_146, mi_147, mi_148, mi_149, mi_150, mi_151, mi_152, mi_153, mi_154, mi_155, mi_156, mi_157, mi_158, mi_159, mi_160, mi_161, mi_162, mi_163, mi_164, mi_165, mi_166, mi_167, mi_168, mi_169, mi_170, mi_171, mi_172, mi_173, mi_174, mi_175, mi_176, mi_177, mi_178, mi_179, mi_180, mi_181, mi_182, mi_183, mi_184, mi_185, mi_186, mi_187, mi_188, mi_189, mi_190, mi_191, mi_192, mi_193, mi_194, mi_195, mi_196, mi_197, mi_198, mi_199, mi_200, mi_201, mi_202, mi_203, mi_204, mi_205, mi_206, mi_207, mi_208, mi_209, mi_210, mi_211, mi_212, mi_213, mi_214, mi_215, mi_216, mi_217, mi_218, mi_219, mi_220, mi_221, mi_222, mi_223, mi_224, mi_225, mi_226, mi_227, mi_228, mi_229, mi_230, mi_231, mi_232, mi_233, mi_234, mi_235, mi_236, mi_237, mi_238, mi_239, mi_240, mi_241, mi_242, mi_243, mi_244, mi_245, mi_246, mi_247, mi_248, mi_249, mi_250, mi_251, mi_252, mi_253, mi_254, mi_255, mi_256, mi_257, mi_258, mi_259, mi_260, mi_261, mi_262, mi_263, mi_264, mi_265, mi_266, mi_267, mi_268, mi_269, mi_270, mi_271, mi_272, mi_273, mi_274, mi_275, mi_276, mi_277, mi_278, mi_279, mi_280, mi_281, mi_282, mi_283, mi_284, mi_285, mi_286, mi_287, mi_288, mi_289, mi_290, mi_291, mi_292, mi_293, mi_294, mi_295, mi_296, mi_297, mi_298, mi_299, mi_300, mi_301, mi_302, mi_303, mi_304, mi_305, mi_306, mi_307, mi_308, mi_309, mi_310, mi_311, mi_312, mi_313, mi_314, mi_315, mi_316, mi_317, mi_318, mi_319, mi_320, mi_321, mi_322, mi_323, mi_324, mi_325, mi_326, mi_327, mi_328, mi_329, mi_330, mi_331, mi_332, mi_333, mi_334, mi_335, mi_336, mi_337, mi_338, mi_339, mi_340, mi_341, mi_342, mi_343, mi_344, mi_345, mi_346, mi_347, mi_348, mi_349, mi_350, mi_351, mi_352, mi_353, mi_354, mi_355, mi_356, mi_357, mi_358, mi_359, mi_360, mi_361, mi_362, mi_363, mi_364, mi_365, mi_366, mi_367, mi_368, mi_369, mi_370, mi_371, mi_372, mi_373, mi_374, mi_375, mi_376, mi_377, mi_378, mi_379, mi_380]
noncomputable def qMI (m : Nat) : QMI := qMIL.getD m mi_0
def qHdL : List (Nat × List PHd) := [(322, [(0, 9, 8, 0)]), (323, [(0, 9, 8, 2), (0, 9, 11, 1)]), (324, [(0, 9, 8, 2), (0, 9, 11, 1)]), (325, [(0, 10, 9, 2), (0, 10, 12, 0), (0, 10, 15, 1)]), (326, [(0, 10, 9, 2), (0, 10, 12, 0), (0, 10, 15, 1)]), (327, [(0, 9, 8, 0)]), (328, [(0, 9, 8, 2), (0, 9, 11, 1)]), (329, [(0, 9, 8, 2), (0, 9, 11, 1)]), (330, [(0, 9, 8, 2), (0, 9, 11, 1)]), (331, [(0, 10, 9, 2), (0, 10, 12, 0), (0, 10, 15, 1)]), (332, [(0, 10, 9, 2), (0, 10, 12, 1)]), (333, [(0, 10, 9, 2), (0, 10, 12, 1)]), (334, [(0, 16, 11, 2)]), (335, [(0, 9, 8, 2)]), (336, [(0, 9, 8, 2), (0, 9, 11, 1)]), (337, [(0, 9, 8, 2)]), (338, [(0, 9, 8, 2)]), (339, [(0, 9, 8, 2)]), (340, [(0, 9, 8, 2)]), (341, [(0, 9, 8, 2)]), (342, [(0, 12, 10, 2), (0, 12, 13, 0), (0, 12, 16, 1)]), (343, [(0, 12, 10, 2), (0, 12, 13, 0), (0, 12, 16, 1)]), (344, [(0, 14, 11, 2), (0, 14, 14, 0), (0, 14, 17, 1)]), (345, [(0, 10, 9, 2), (0, 10, 12, 1)]), (346, [(0, 9, 8, 2)]), (347, [(0, 16, 11, 2)]), (348, [(0, 9, 8, 2), (0, 9, 11, 1)]), (349, [(0, 16, 11, 2)]), (350, [(0, 9, 8, 2)]), (351, [(0, 9, 8, 2)]), (352, [(0, 9, 8, 2)]), (353, [(0, 9, 8, 2)]), (354, [(0, 9, 8, 2)]), (355, [(0, 9, 8, 2)]), (356, [(0, 9, 8, 2)]), (357, [(0, 9, 8, 2)]), (358, [(0, 9, 8, 2)]), (359, [(0, 9, 8, 2)]), (360, [(0, 9, 8, 2)]), (361, [(0, 17, 12, 2)]), (362, [(0, 10, 9, 2)]), (363, [(0, 10, 9, 2)]), (364, [(0, 10, 9, 2)]), (365, [(0, 10, 9, 2)]), (366, [(0, 10, 9, 2)]), (367, [(0, 10, 9, 2)]), (368, [(0, 10, 9, 2)]), (369, [(0, 10, 9, 2), (0, 10, 12, 0), (0, 10, 15, 1)]), (370, [(0, 10, 9, 2), (0, 10, 12, 0), (0, 10, 15, 1)]), (371, [(0, 10, 9, 2)]), (372, [(0, 10, 9, 2)]), (373, [(0, 16, 11, 2)]), (374, [(0, 9, 8, 2)]), (375, [(0, 9, 8, 2)]), (376, [(0, 9, 8, 2)]), (377, [(0, 9, 8, 2), (0, 9, 11, 1)])]
/-- a handler's place in the code, the class link of what it catches, that word's place -/
def qHhL : List (Nat × List (Nat × Nat × Nat)) := [(322, [(12, 13, 4024)]), (323, [(12, 18, 4114), (15, 20, 4115)]), (324, [(12, 18, 4114), (15, 20, 4115)]), (325, [(13, 18, 4114), (17, 13, 4024), (21, 20, 4115)]), (326, [(13, 18, 4114), (17, 13, 4024), (21, 20, 4115)]), (327, [(12, 13, 4024)]), (328, [(12, 18, 4114), (15, 20, 4115)]), (329, [(12, 18, 4114), (15, 20, 4115)]), (330, [(12, 18, 4114), (15, 20, 4115)]), (331, [(13, 18, 4114), (17, 13, 4024), (21, 20, 4115)]), (332, [(13, 18, 4114), (17, 20, 4115)]), (333, [(13, 18, 4114), (17, 20, 4115)]), (334, [(19, 18, 4114)]), (335, [(12, 18, 4114)]), (336, [(12, 18, 4114), (15, 20, 4115)]), (337, [(12, 18, 4114)]), (338, [(12, 18, 4114)]), (339, [(12, 18, 4114)]), (340, [(12, 18, 4114)]), (341, [(12, 18, 4114)]), (342, [(15, 18, 4114), (19, 13, 4024), (23, 20, 4115)]), (343, [(15, 18, 4114), (19, 13, 4024), (23, 20, 4115)]), (344, [(17, 18, 4114), (21, 13, 4024), (25, 20, 4115)]), (345, [(13, 18, 4114), (17, 20, 4115)]), (346, [(12, 18, 4114)]), (347, [(19, 18, 4114)]), (348, [(12, 18, 4114), (15, 20, 4115)]), (349, [(19, 18, 4114)]), (350, [(12, 18, 4114)]), (351, [(12, 18, 4114)]), (352, [(12, 18, 4114)]), (353, [(12, 18, 4114)]), (354, [(12, 18, 4114)]), (355, [(12, 18, 4114)]), (356, [(12, 18, 4114)]), (357, [(12, 18, 4114)]), (358, [(12, 18, 4114)]), (359, [(12, 18, 4114)]), (360, [(12, 18, 4114)]), (361, [(20, 18, 4114)]), (362, [(13, 18, 4114)]), (363, [(13, 18, 4114)]), (364, [(13, 18, 4114)]), (365, [(13, 18, 4114)]), (366, [(13, 18, 4114)]), (367, [(13, 18, 4114)]), (368, [(13, 18, 4114)]), (369, [(13, 18, 4114), (17, 13, 4024), (21, 20, 4115)]), (370, [(13, 18, 4114), (17, 13, 4024), (21, 20, 4115)]), (371, [(13, 18, 4114)]), (372, [(13, 18, 4114)]), (373, [(19, 18, 4114)]), (374, [(12, 18, 4114)]), (375, [(12, 18, 4114)]), (376, [(12, 18, 4114)]), (377, [(12, 18, 4114), (15, 20, 4115)])]
def qHd (m : Nat) : List PHd := ((qHdL.find? (fun q => q.1 == m)).map (fun q => q.2)).getD []
def qHh (m : Nat) : List (Nat × Nat × Nat) := ((qHhL.find? (fun q => q.1 == m)).map (fun q => q.2)).getD []
