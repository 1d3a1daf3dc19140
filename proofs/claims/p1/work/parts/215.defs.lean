/-! ===== the law: its instructions, the state behind the constructors ===== -/
def sg_b : List Int32 := [105, 99, 101, 32, 98, 101, 97, 114, 115, 32, 115, 104, 111, 114, 101, 32, 119, 97, 121, 32, 98, 101, 115, 105, 100, 101, 32, 119, 97, 108, 107, 101, 114, 32, 119, 101, 105, 103, 104, 115, 32, 97, 116, 32, 119, 111, 114, 115, 101, 32, 104, 111, 117, 114, 32, 98, 101, 116, 116, 101, 114, 32, 115, 101, 110, 100, 32, 116, 111, 32, 115, 116, 101, 112, 32, 102, 114, 111, 115, 116, 32, 116, 104, 97, 119, 32, 97, 110, 121, 32, 119, 104, 101, 110, 32, 105, 110, 32, 119, 101, 116, 32, 108, 111, 111, 112, 32, 101, 110, 100, 32, 115, 116, 111, 112]
def sg_n : Nat := 115
def tg_G : List (List Nat) := [[0, 1000000, 1000000, 1000000, 1000000, 1000000, 1000000, 1000000, 1000000, 1000000, 1000000, 1000000, 1000000, 1000000, 1000000, 1000000, 1000000, 1000000, 1000000, 1000000, 1000000, 1000000, 1000000, 1000000, 1000000, 1000000, 1000000, 1000000, 1000000, 1000000, 1000000, 1000000, 1000000, 1000000, 1000000, 1000000, 1000000, 1000000, 1000000, 1000000, 1000000, 1000000, 1000000, 1000000, 1000000, 1000000, 1000000, 1000000, 1000000, 1000000, 1000000, 1000000, 1000000, 1000000, 1000000, 1000000, 1000000, 1000000, 1000000, 1000000, 1000000], [0, 1, 2, 3, 4, 5, 6, 7, 8, 9, 10, 11, 12, 13, 14, 15, 16, 17, 18, 19, 20, 21, 22, 23, 24, 25, 26, 27, 28, 29, 30, 31, 32, 33, 34, 35, 36, 37, 38, 39, 40, 41, 42, 43, 44, 45, 46, 47, 48, 49, 50, 51, 52, 53, 54, 55, 56, 57, 58, 59, 60], [0, 1, 2, 2, 3, 3, 3, 4, 4, 4, 4, 5, 5, 5, 5, 5, 6, 6, 6, 6, 6, 6, 7, 7, 7, 7, 7, 7, 7, 8, 8, 8, 8, 8, 8, 8, 8, 9, 9, 9, 9, 9, 9, 9, 9, 9, 10, 10, 10, 10, 10, 10, 10, 10, 10, 10, 11, 11, 11, 11, 11], [0, 1, 2, 2, 3, 3, 3, 3, 4, 4, 4, 4, 4, 4, 4, 5, 5, 5, 5, 5, 5, 5, 5, 5, 5, 5, 6, 6, 6, 6, 6, 6, 6, 6, 6, 6, 6, 6, 6, 6, 6, 6, 7, 7, 7, 7, 7, 7, 7, 7, 7, 7, 7, 7, 7, 7, 7, 7, 7, 7, 7], [0, 1, 2, 2, 3, 3, 3, 3, 4, 4, 4, 4, 4, 4, 4, 4, 5, 5, 5, 5, 5, 5, 5, 5, 5, 5, 5, 5, 5, 5, 5, 6, 6, 6, 6, 6, 6, 6, 6, 6, 6, 6, 6, 6, 6, 6, 6, 6, 6, 6, 6, 6, 6, 6, 6, 6, 6, 7, 7, 7, 7], [0, 1, 2, 2, 3, 3, 3, 3, 4, 4, 4, 4, 4, 4, 4, 4, 5, 5, 5, 5, 5, 5, 5, 5, 5, 5, 5, 5, 5, 5, 5, 5, 6, 6, 6, 6, 6, 6, 6, 6, 6, 6, 6, 6, 6, 6, 6, 6, 6, 6, 6, 6, 6, 6, 6, 6, 6, 6, 6, 6, 6], [0, 1, 2, 2, 3, 3, 3, 3, 4, 4, 4, 4, 4, 4, 4, 4, 5, 5, 5, 5, 5, 5, 5, 5, 5, 5, 5, 5, 5, 5, 5, 5, 6, 6, 6, 6, 6, 6, 6, 6, 6, 6, 6, 6, 6, 6, 6, 6, 6, 6, 6, 6, 6, 6, 6, 6, 6, 6, 6, 6, 6]]
def tg (k m : Nat) : Nat := (tg_G.getD k []).getD m 0
/-- the frame of the Reader's constructor: the loop over the text is jumped -/
def rd_lits : List Int64 := [9317, 2262611, 20201029, 23609, 72983685, 773205170, 777297171, 52, 24627813, 278194, 73027762, 628164, 655, 643248, 6897268, 663607, 1497, 762030, 302, 23732, 409072, 5572, 643568]
def rd_ov : List (Nat × rk_V) := [(0, .inl (.long 9317)), (1, .inl (.long 2262611)), (2, .inl (.long 20201029)), (3, .inl (.long 23609)), (4, .inl (.long 72983685)), (5, .inl (.long 773205170)), (6, .inl (.long 777297171)), (7, .inl (.long 52)), (8, .inl (.long 24627813)), (9, .inl (.long 278194)), (10, .inl (.long 73027762)), (11, .inl (.long 628164)), (12, .inl (.long 655)), (13, .inl (.long 643248)), (14, .inl (.long 6897268)), (15, .inl (.long 663607)), (16, .inl (.long 1497)), (17, .inl (.long 762030)), (18, .inl (.long 302)), (19, .inl (.long 23732)), (20, .inl (.long 409072)), (21, .inl (.long 5572)), (22, .inl (.long 643568))]
def rk_rdx : rk_Ext := fun pc ins st => if pc = 35 then (match st.1, st.2.1 with
  | [(2, .inl (.int x2)), (1, .inl (.int x1)), (0, .inr (.inl j))], [] => if x1 = 0 ∧ x2 = 0 then (match st.2.2.2.1[j]? with
    | some (.inl o) => if o.1 = 8 then (match (o.2[1]? : Option rk_V) with
      | some (.inr (.inl k)) => (match st.2.2.2.1[k]? with
        | some (.inr (.long, nn, dd, ov)) => if nn = 23 ∧ ov.isEmpty = true ∧ dd = .inl (.long 0) then some [(99, ([(0, .inr (.inl j))], [], st.2.2.1, st.2.2.2.1.set k (.inr (.long, 23, .inl (.long 0), rd_ov)), st.2.2.2.2.1, st.2.2.2.2.2))] else none
        | _ => none)
      | _ => none) else none
    | _ => none) else none
  | _, _ => none) else none
/-- the frame of the model's plain: its loop is jumped -/
def rk_plx : rk_Ext := fun pc ins st => if pc = 2 then (match st.1, st.2.1 with
  | [(2, .inl (.int x2)), (0, .inr (.inl j)), (1, .inl (.int sv))], [] => if x2 = 0 ∧ 0 ≤ sv.toInt ∧ sv.toInt + 842 ≤ 5894 then (match st.2.2.2.1[j]? with
    | some (.inl o) => if o.1 = 12 then (match (o.2[0]? : Option rk_V) with
      | some (.inr (.inl k)) => (match st.2.2.2.1[k]? with
        | some (.inr (.int, nn, dd, ov)) => if nn = 5894 ∧ dd = .inl (.int 0) then some [(24, ([(0, .inr (.inl j)), (1, .inl (.int sv))], [], st.2.2.1, st.2.2.2.1.set k (.inr (.int, 5894, .inl (.int 0), ov.filter (fun z => decide (z.1 < sv.toInt.toNat) || decide (sv.toInt.toNat + 842 ≤ z.1)))), st.2.2.2.2.1, st.2.2.2.2.2))] else none
        | _ => none)
      | _ => none) else none
    | _ => none) else none
  | _, _ => none) else none
/-- the table of trials, as places that are listed -/
def tg_ov (b n : Nat) : List (Nat × rk_V) := (List.range (b + 1)).flatMap (fun k => (List.range (n + 1)).map (fun t => (61 * k + t, .inl (.int (nI (tg k t))))))
def gk_tx (hp : List rk_H) (k : Nat) (dd : rk_V) (ov : List (Nat × rk_V)) (env : List rk_T) (an ab : rk_V) (lo1 lo2 : Int) (x y : Nat) : List rk_X := match (rk_cut env an (lo1 + x) (lo1 + x)).bind (fun e1 => rk_cut e1 ab (lo2 + y) (lo2 + y)) with
  | some e2 => [(some (.inl (.int (nI (tg (lo2 + y).toNat (lo1 + x).toNat)))), e2, hp.set k (.inr (.int, 427, dd, tg_ov (lo2 + y).toNat (lo1 + x).toNat ++ ov)), 0, 0)]
  | none => []
def gk_ts (as : List rk_V) (env : List rk_T) (hp : List rk_H) : Option rk_O := match as with
  | [.inr (.inl j), an, ab] => match hp[j]? with
    | some (.inl o) => if o.1 = 12 then (match (o.2[32]? : Option rk_V) with
      | some (.inr (.inl k)) => (match hp[k]? with
        | some (.inr (.int, nn, dd, ov)) => if nn = 427 then (match rk_iv env an, rk_iv env ab with
          | some I, some J => if (0 ≤ I.1 ∧ I.2 ≤ 60) ∧ 0 ≤ J.1 ∧ J.2 ≤ 6 then some (0, 0, (List.range (I.2 - I.1 + 1).toNat).flatMap (fun x => (List.range (J.2 - J.1 + 1).toNat).flatMap (fun y => gk_tx hp k dd ov env an ab I.1 J.1 x y))) else none
          | _, _ => none) else none
        | _ => none)
      | _ => none) else none
    | _ => none
  | _ => none
/-- the sums -/
def gk_sum (d f : Nat) (as : List rk_V) (env : List rk_T) (hp : List rk_H) : Option rk_O := if 4 ≤ d then (if f = 344 then gk_ts as env hp else if f = 99 then (if rk_sum env as ≤ gk_m99.2.1 then rk_loop gk_fty gk_cln gk_mci (fun _ _ _ _ => none) rk_rdx gk_m99 200 (0, (rk_args env 0 as, [], env, hp, 0, 0)) else none) else if f = 202 then (if rk_sum env as ≤ gk_m202.2.1 then rk_loop gk_fty gk_cln gk_mci (fun _ _ _ _ => none) rk_plx gk_m202 200 (0, (rk_args env 0 as, [], env, hp, 0, 0)) else none) else none) else none
def gk_la : List (Nat × Instr × Nat) := [(0, .new 7, 3), (3, .dup, 1), (4, .invokespecial 9, 3), (7, .astore_n 1, 1), (8, .new 10, 3), (11, .dup, 1), (12, .invokespecial 12, 3), (15, .astore_n 2, 1), (16, .iconst 0, 1), (17, .istore_n 3, 1)]
def gk_lb : List (Nat × Instr × Nat) := [(2160, .iinc 3 6, 3), (2163, .goto (-2145), 3), (2166, .iconst 1, 1), (2167, .ireturn, 1), (18, .iload_n 3, 1), (19, .aload_n 0, 1), (20, .arraylength, 1), (21, .bipush 6, 2), (23, .isub, 1), (24, .if_icmp .gt 2142, 3)]
def gk_ld : List (Nat × Instr × Nat) := [(27, .aload_n 0, 1), (28, .iload_n 3, 1), (29, .iaload, 1), (30, .bipush 63, 2), (32, .iand, 1), (33, .tableswitch 2127 0 58 #[251, 264, 278, 292, 335, 408, 442, 505, 568, 591, 614, 637, 660, 693, 726, 759, 792, 825, 848, 891, 924, 947, 970, 993, 1016, 1039, 1062, 1095, 1154, 1187, 1220, 1253, 1296, 1329, 1362, 1405, 1428, 1461, 1494, 1517, 1530, 1553, 1586, 1629, 1662, 1675, 1698, 1721, 1754, 1787, 1820, 1843, 1906, 1969, 2022, 2045, 2068, 2101, 2114], 251)]
def gk_lc0 : List (Nat × Instr × Nat) := [(284, .aload_n 1, 1), (285, .invokevirtual 13, 3), (288, .aload_n 2, 1), (289, .invokevirtual 17, 3), (292, .if_icmp .eq 1868, 3), (295, .iconst 0, 1), (296, .ireturn, 1)]
def gk_lc1 : List (Nat × Instr × Nat) := [(297, .aload_n 1, 1), (298, .invokevirtual 18, 3), (301, .aload_n 2, 1), (302, .invokevirtual 22, 3), (305, .lcmp, 1), (306, .ifCond .eq 1854, 3), (309, .iconst 0, 1), (310, .ireturn, 1)]
def gk_lc2 : List (Nat × Instr × Nat) := [(311, .aload_n 1, 1), (312, .invokevirtual 23, 3), (315, .aload_n 2, 1), (316, .invokevirtual 26, 3), (319, .lcmp, 1), (320, .ifCond .eq 1840, 3), (323, .iconst 0, 1), (324, .ireturn, 1)]
def gk_lc3 : List (Nat × Instr × Nat) := [(325, .aload_n 1, 1), (326, .aload_n 0, 1), (327, .iload_n 3, 1), (328, .iconst 1, 1), (329, .iadd, 1), (330, .iaload, 1), (331, .aload_n 0, 1), (332, .iload_n 3, 1), (333, .iconst 2, 1), (334, .iadd, 1), (335, .iaload, 1), (336, .aload_n 0, 1), (337, .iload_n 3, 1), (338, .iconst 3, 1), (339, .iadd, 1), (340, .iaload, 1), (341, .invokevirtual 27, 3), (344, .aload_n 2, 1), (345, .aload_n 0, 1), (346, .iload_n 3, 1), (347, .iconst 1, 1), (348, .iadd, 1), (349, .iaload, 1), (350, .aload_n 0, 1), (351, .iload_n 3, 1), (352, .iconst 2, 1), (353, .iadd, 1), (354, .iaload, 1), (355, .aload_n 0, 1), (356, .iload_n 3, 1), (357, .iconst 3, 1), (358, .iadd, 1), (359, .iaload, 1), (360, .invokevirtual 31, 3), (363, .if_icmp .eq 1797, 3), (366, .iconst 0, 1), (367, .ireturn, 1)]
def gk_lc4 : List (Nat × Instr × Nat) := [(368, .aload_n 1, 1), (369, .aload_n 0, 1), (370, .iload_n 3, 1), (371, .iconst 1, 1), (372, .iadd, 1), (373, .iaload, 1), (374, .aload_n 0, 1), (375, .iload_n 3, 1), (376, .iconst 2, 1), (377, .iadd, 1), (378, .iaload, 1), (379, .aload_n 0, 1), (380, .iload_n 3, 1), (381, .iconst 3, 1), (382, .iadd, 1), (383, .iaload, 1), (384, .i2l, 1), (385, .bipush 32, 2), (387, .lshl, 1), (388, .aload_n 0, 1), (389, .iload_n 3, 1), (390, .iconst 4, 1), (391, .iadd, 1), (392, .iaload, 1), (393, .i2l, 1), (394, .ldc2_w 32, 3), (397, .land, 1), (398, .lor, 1), (399, .invokevirtual 34, 3), (402, .aload_n 2, 1), (403, .aload_n 0, 1), (404, .iload_n 3, 1), (405, .iconst 1, 1), (406, .iadd, 1), (407, .iaload, 1), (408, .aload_n 0, 1), (409, .iload_n 3, 1), (410, .iconst 2, 1), (411, .iadd, 1), (412, .iaload, 1), (413, .aload_n 0, 1), (414, .iload_n 3, 1), (415, .iconst 3, 1), (416, .iadd, 1), (417, .iaload, 1), (418, .i2l, 1), (419, .bipush 32, 2), (421, .lshl, 1), (422, .aload_n 0, 1), (423, .iload_n 3, 1), (424, .iconst 4, 1), (425, .iadd, 1), (426, .iaload, 1), (427, .i2l, 1), (428, .ldc2_w 32, 3), (431, .land, 1), (432, .lor, 1), (433, .invokevirtual 38, 3), (436, .if_icmp .eq 1724, 3), (439, .iconst 0, 1), (440, .ireturn, 1)]
def gk_lc5 : List (Nat × Instr × Nat) := [(441, .aload_n 1, 1), (442, .aload_n 0, 1), (443, .iload_n 3, 1), (444, .iconst 1, 1), (445, .iadd, 1), (446, .iaload, 1), (447, .aload_n 0, 1), (448, .iload_n 3, 1), (449, .iconst 2, 1), (450, .iadd, 1), (451, .iaload, 1), (452, .invokevirtual 39, 3), (455, .aload_n 2, 1), (456, .aload_n 0, 1), (457, .iload_n 3, 1), (458, .iconst 1, 1), (459, .iadd, 1), (460, .iaload, 1), (461, .aload_n 0, 1), (462, .iload_n 3, 1), (463, .iconst 2, 1), (464, .iadd, 1), (465, .iaload, 1), (466, .invokevirtual 43, 3), (469, .lcmp, 1), (470, .ifCond .eq 1690, 3), (473, .iconst 0, 1), (474, .ireturn, 1)]
def gk_lc6 : List (Nat × Instr × Nat) := [(475, .aload_n 1, 1), (476, .aload_n 0, 1), (477, .iload_n 3, 1), (478, .iconst 1, 1), (479, .iadd, 1), (480, .iaload, 1), (481, .aload_n 0, 1), (482, .iload_n 3, 1), (483, .iconst 2, 1), (484, .iadd, 1), (485, .iaload, 1), (486, .aload_n 0, 1), (487, .iload_n 3, 1), (488, .iconst 3, 1), (489, .iadd, 1), (490, .iaload, 1), (491, .aload_n 0, 1), (492, .iload_n 3, 1), (493, .iconst 4, 1), (494, .iadd, 1), (495, .iaload, 1), (496, .aload_n 0, 1), (497, .iload_n 3, 1), (498, .iconst 5, 1), (499, .iadd, 1), (500, .iaload, 1), (501, .invokevirtual 44, 3), (504, .aload_n 2, 1), (505, .aload_n 0, 1), (506, .iload_n 3, 1), (507, .iconst 1, 1), (508, .iadd, 1), (509, .iaload, 1), (510, .aload_n 0, 1), (511, .iload_n 3, 1), (512, .iconst 2, 1), (513, .iadd, 1), (514, .iaload, 1), (515, .aload_n 0, 1), (516, .iload_n 3, 1), (517, .iconst 3, 1), (518, .iadd, 1), (519, .iaload, 1), (520, .aload_n 0, 1), (521, .iload_n 3, 1), (522, .iconst 4, 1), (523, .iadd, 1), (524, .iaload, 1), (525, .aload_n 0, 1), (526, .iload_n 3, 1), (527, .iconst 5, 1), (528, .iadd, 1), (529, .iaload, 1), (530, .invokevirtual 48, 3), (533, .if_icmp .eq 1627, 3), (536, .iconst 0, 1), (537, .ireturn, 1)]
def gk_lc7 : List (Nat × Instr × Nat) := [(538, .aload_n 1, 1), (539, .aload_n 0, 1), (540, .iload_n 3, 1), (541, .iconst 1, 1), (542, .iadd, 1), (543, .iaload, 1), (544, .aload_n 0, 1), (545, .iload_n 3, 1), (546, .iconst 2, 1), (547, .iadd, 1), (548, .iaload, 1), (549, .aload_n 0, 1), (550, .iload_n 3, 1), (551, .iconst 3, 1), (552, .iadd, 1), (553, .iaload, 1), (554, .aload_n 0, 1), (555, .iload_n 3, 1), (556, .iconst 4, 1), (557, .iadd, 1), (558, .iaload, 1), (559, .aload_n 0, 1), (560, .iload_n 3, 1), (561, .iconst 5, 1), (562, .iadd, 1), (563, .iaload, 1), (564, .invokevirtual 49, 3), (567, .aload_n 2, 1), (568, .aload_n 0, 1), (569, .iload_n 3, 1), (570, .iconst 1, 1), (571, .iadd, 1), (572, .iaload, 1), (573, .aload_n 0, 1), (574, .iload_n 3, 1), (575, .iconst 2, 1), (576, .iadd, 1), (577, .iaload, 1), (578, .aload_n 0, 1), (579, .iload_n 3, 1), (580, .iconst 3, 1), (581, .iadd, 1), (582, .iaload, 1), (583, .aload_n 0, 1), (584, .iload_n 3, 1), (585, .iconst 4, 1), (586, .iadd, 1), (587, .iaload, 1), (588, .aload_n 0, 1), (589, .iload_n 3, 1), (590, .iconst 5, 1), (591, .iadd, 1), (592, .iaload, 1), (593, .invokevirtual 53, 3), (596, .if_icmp .eq 1564, 3), (599, .iconst 0, 1), (600, .ireturn, 1)]
def gk_lc8 : List (Nat × Instr × Nat) := [(601, .aload_n 1, 1), (602, .aload_n 0, 1), (603, .iload_n 3, 1), (604, .iconst 1, 1), (605, .iadd, 1), (606, .iaload, 1), (607, .invokevirtual 54, 3), (610, .aload_n 2, 1), (611, .aload_n 0, 1), (612, .iload_n 3, 1), (613, .iconst 1, 1), (614, .iadd, 1), (615, .iaload, 1), (616, .invokevirtual 58, 3), (619, .if_icmp .eq 1541, 3), (622, .iconst 0, 1), (623, .ireturn, 1)]
def gk_lc9 : List (Nat × Instr × Nat) := [(624, .aload_n 1, 1), (625, .aload_n 0, 1), (626, .iload_n 3, 1), (627, .iconst 1, 1), (628, .iadd, 1), (629, .iaload, 1), (630, .invokevirtual 59, 3), (633, .aload_n 2, 1), (634, .aload_n 0, 1), (635, .iload_n 3, 1), (636, .iconst 1, 1), (637, .iadd, 1), (638, .iaload, 1), (639, .invokevirtual 62, 3), (642, .if_icmp .eq 1518, 3), (645, .iconst 0, 1), (646, .ireturn, 1)]
def gk_lc10 : List (Nat × Instr × Nat) := [(647, .aload_n 1, 1), (648, .aload_n 0, 1), (649, .iload_n 3, 1), (650, .iconst 1, 1), (651, .iadd, 1), (652, .iaload, 1), (653, .invokevirtual 63, 3), (656, .aload_n 2, 1), (657, .aload_n 0, 1), (658, .iload_n 3, 1), (659, .iconst 1, 1), (660, .iadd, 1), (661, .iaload, 1), (662, .invokevirtual 66, 3), (665, .if_icmp .eq 1495, 3), (668, .iconst 0, 1), (669, .ireturn, 1)]
def gk_lc11 : List (Nat × Instr × Nat) := [(670, .aload_n 1, 1), (671, .aload_n 0, 1), (672, .iload_n 3, 1), (673, .iconst 1, 1), (674, .iadd, 1), (675, .iaload, 1), (676, .invokevirtual 67, 3), (679, .aload_n 2, 1), (680, .aload_n 0, 1), (681, .iload_n 3, 1), (682, .iconst 1, 1), (683, .iadd, 1), (684, .iaload, 1), (685, .invokevirtual 70, 3), (688, .if_icmp .eq 1472, 3), (691, .iconst 0, 1), (692, .ireturn, 1)]
def gk_lc12 : List (Nat × Instr × Nat) := [(693, .aload_n 1, 1), (694, .aload_n 0, 1), (695, .iload_n 3, 1), (696, .iconst 1, 1), (697, .iadd, 1), (698, .iaload, 1), (699, .aload_n 0, 1), (700, .iload_n 3, 1), (701, .iconst 2, 1), (702, .iadd, 1), (703, .iaload, 1), (704, .invokevirtual 71, 3), (707, .aload_n 2, 1), (708, .aload_n 0, 1), (709, .iload_n 3, 1), (710, .iconst 1, 1), (711, .iadd, 1), (712, .iaload, 1), (713, .aload_n 0, 1), (714, .iload_n 3, 1), (715, .iconst 2, 1), (716, .iadd, 1), (717, .iaload, 1), (718, .invokevirtual 75, 3), (721, .if_icmp .eq 1439, 3), (724, .iconst 0, 1), (725, .ireturn, 1)]
def gk_lc13 : List (Nat × Instr × Nat) := [(726, .aload_n 1, 1), (727, .aload_n 0, 1), (728, .iload_n 3, 1), (729, .iconst 1, 1), (730, .iadd, 1), (731, .iaload, 1), (732, .aload_n 0, 1), (733, .iload_n 3, 1), (734, .iconst 2, 1), (735, .iadd, 1), (736, .iaload, 1), (737, .invokevirtual 76, 3), (740, .aload_n 2, 1), (741, .aload_n 0, 1), (742, .iload_n 3, 1), (743, .iconst 1, 1), (744, .iadd, 1), (745, .iaload, 1), (746, .aload_n 0, 1), (747, .iload_n 3, 1), (748, .iconst 2, 1), (749, .iadd, 1), (750, .iaload, 1), (751, .invokevirtual 79, 3), (754, .if_icmp .eq 1406, 3), (757, .iconst 0, 1), (758, .ireturn, 1)]
def gk_lc14 : List (Nat × Instr × Nat) := [(759, .aload_n 1, 1), (760, .aload_n 0, 1), (761, .iload_n 3, 1), (762, .iconst 1, 1), (763, .iadd, 1), (764, .iaload, 1), (765, .aload_n 0, 1), (766, .iload_n 3, 1), (767, .iconst 2, 1), (768, .iadd, 1), (769, .iaload, 1), (770, .invokevirtual 80, 3), (773, .aload_n 2, 1), (774, .aload_n 0, 1), (775, .iload_n 3, 1), (776, .iconst 1, 1), (777, .iadd, 1), (778, .iaload, 1), (779, .aload_n 0, 1), (780, .iload_n 3, 1), (781, .iconst 2, 1), (782, .iadd, 1), (783, .iaload, 1), (784, .invokevirtual 83, 3), (787, .if_icmp .eq 1373, 3), (790, .iconst 0, 1), (791, .ireturn, 1)]
def gk_lc15 : List (Nat × Instr × Nat) := [(792, .aload_n 1, 1), (793, .aload_n 0, 1), (794, .iload_n 3, 1), (795, .iconst 1, 1), (796, .iadd, 1), (797, .iaload, 1), (798, .aload_n 0, 1), (799, .iload_n 3, 1), (800, .iconst 2, 1), (801, .iadd, 1), (802, .iaload, 1), (803, .invokevirtual 84, 3), (806, .aload_n 2, 1), (807, .aload_n 0, 1), (808, .iload_n 3, 1), (809, .iconst 1, 1), (810, .iadd, 1), (811, .iaload, 1), (812, .aload_n 0, 1), (813, .iload_n 3, 1), (814, .iconst 2, 1), (815, .iadd, 1), (816, .iaload, 1), (817, .invokevirtual 87, 3), (820, .if_icmp .eq 1340, 3), (823, .iconst 0, 1), (824, .ireturn, 1)]
def gk_lc16 : List (Nat × Instr × Nat) := [(825, .aload_n 1, 1), (826, .aload_n 0, 1), (827, .iload_n 3, 1), (828, .iconst 1, 1), (829, .iadd, 1), (830, .iaload, 1), (831, .aload_n 0, 1), (832, .iload_n 3, 1), (833, .iconst 2, 1), (834, .iadd, 1), (835, .iaload, 1), (836, .invokevirtual 88, 3), (839, .aload_n 2, 1), (840, .aload_n 0, 1), (841, .iload_n 3, 1), (842, .iconst 1, 1), (843, .iadd, 1), (844, .iaload, 1), (845, .aload_n 0, 1), (846, .iload_n 3, 1), (847, .iconst 2, 1), (848, .iadd, 1), (849, .iaload, 1), (850, .invokevirtual 91, 3), (853, .if_icmp .eq 1307, 3), (856, .iconst 0, 1), (857, .ireturn, 1)]
def gk_lc17 : List (Nat × Instr × Nat) := [(858, .aload_n 1, 1), (859, .aload_n 0, 1), (860, .iload_n 3, 1), (861, .iconst 1, 1), (862, .iadd, 1), (863, .iaload, 1), (864, .invokevirtual 92, 3), (867, .aload_n 2, 1), (868, .aload_n 0, 1), (869, .iload_n 3, 1), (870, .iconst 1, 1), (871, .iadd, 1), (872, .iaload, 1), (873, .invokevirtual 95, 3), (876, .if_icmp .eq 1284, 3), (879, .iconst 0, 1), (880, .ireturn, 1)]
def gk_lc18 : List (Nat × Instr × Nat) := [(881, .aload_n 1, 1), (882, .aload_n 0, 1), (883, .iload_n 3, 1), (884, .iconst 1, 1), (885, .iadd, 1), (886, .iaload, 1), (887, .aload_n 0, 1), (888, .iload_n 3, 1), (889, .iconst 2, 1), (890, .iadd, 1), (891, .iaload, 1), (892, .aload_n 0, 1), (893, .iload_n 3, 1), (894, .iconst 3, 1), (895, .iadd, 1), (896, .iaload, 1), (897, .invokevirtual 96, 3), (900, .aload_n 2, 1), (901, .aload_n 0, 1), (902, .iload_n 3, 1), (903, .iconst 1, 1), (904, .iadd, 1), (905, .iaload, 1), (906, .aload_n 0, 1), (907, .iload_n 3, 1), (908, .iconst 2, 1), (909, .iadd, 1), (910, .iaload, 1), (911, .aload_n 0, 1), (912, .iload_n 3, 1), (913, .iconst 3, 1), (914, .iadd, 1), (915, .iaload, 1), (916, .invokevirtual 100, 3), (919, .if_icmp .eq 1241, 3), (922, .iconst 0, 1), (923, .ireturn, 1)]
def gk_lc19 : List (Nat × Instr × Nat) := [(924, .aload_n 1, 1), (925, .aload_n 0, 1), (926, .iload_n 3, 1), (927, .iconst 1, 1), (928, .iadd, 1), (929, .iaload, 1), (930, .aload_n 0, 1), (931, .iload_n 3, 1), (932, .iconst 2, 1), (933, .iadd, 1), (934, .iaload, 1), (935, .invokevirtual 101, 3), (938, .aload_n 2, 1), (939, .aload_n 0, 1), (940, .iload_n 3, 1), (941, .iconst 1, 1), (942, .iadd, 1), (943, .iaload, 1), (944, .aload_n 0, 1), (945, .iload_n 3, 1), (946, .iconst 2, 1), (947, .iadd, 1), (948, .iaload, 1), (949, .invokevirtual 104, 3), (952, .if_icmp .eq 1208, 3), (955, .iconst 0, 1), (956, .ireturn, 1)]
def gk_lc20 : List (Nat × Instr × Nat) := [(957, .aload_n 1, 1), (958, .aload_n 0, 1), (959, .iload_n 3, 1), (960, .iconst 1, 1), (961, .iadd, 1), (962, .iaload, 1), (963, .invokevirtual 105, 3), (966, .aload_n 2, 1), (967, .aload_n 0, 1), (968, .iload_n 3, 1), (969, .iconst 1, 1), (970, .iadd, 1), (971, .iaload, 1), (972, .invokevirtual 108, 3), (975, .if_icmp .eq 1185, 3), (978, .iconst 0, 1), (979, .ireturn, 1)]
def gk_lc21 : List (Nat × Instr × Nat) := [(980, .aload_n 1, 1), (981, .aload_n 0, 1), (982, .iload_n 3, 1), (983, .iconst 1, 1), (984, .iadd, 1), (985, .iaload, 1), (986, .invokevirtual 109, 3), (989, .aload_n 2, 1), (990, .aload_n 0, 1), (991, .iload_n 3, 1), (992, .iconst 1, 1), (993, .iadd, 1), (994, .iaload, 1), (995, .invokevirtual 112, 3), (998, .if_icmp .eq 1162, 3), (1001, .iconst 0, 1), (1002, .ireturn, 1)]
def gk_lc22 : List (Nat × Instr × Nat) := [(1003, .aload_n 1, 1), (1004, .aload_n 0, 1), (1005, .iload_n 3, 1), (1006, .iconst 1, 1), (1007, .iadd, 1), (1008, .iaload, 1), (1009, .invokevirtual 113, 3), (1012, .aload_n 2, 1), (1013, .aload_n 0, 1), (1014, .iload_n 3, 1), (1015, .iconst 1, 1), (1016, .iadd, 1), (1017, .iaload, 1), (1018, .invokevirtual 116, 3), (1021, .if_icmp .eq 1139, 3), (1024, .iconst 0, 1), (1025, .ireturn, 1)]
def gk_lc23 : List (Nat × Instr × Nat) := [(1026, .aload_n 1, 1), (1027, .aload_n 0, 1), (1028, .iload_n 3, 1), (1029, .iconst 1, 1), (1030, .iadd, 1), (1031, .iaload, 1), (1032, .invokevirtual 117, 3), (1035, .aload_n 2, 1), (1036, .aload_n 0, 1), (1037, .iload_n 3, 1), (1038, .iconst 1, 1), (1039, .iadd, 1), (1040, .iaload, 1), (1041, .invokevirtual 120, 3), (1044, .if_icmp .eq 1116, 3), (1047, .iconst 0, 1), (1048, .ireturn, 1)]
def gk_lc24 : List (Nat × Instr × Nat) := [(1049, .aload_n 1, 1), (1050, .aload_n 0, 1), (1051, .iload_n 3, 1), (1052, .iconst 1, 1), (1053, .iadd, 1), (1054, .iaload, 1), (1055, .invokevirtual 121, 3), (1058, .aload_n 2, 1), (1059, .aload_n 0, 1), (1060, .iload_n 3, 1), (1061, .iconst 1, 1), (1062, .iadd, 1), (1063, .iaload, 1), (1064, .invokevirtual 124, 3), (1067, .if_icmp .eq 1093, 3), (1070, .iconst 0, 1), (1071, .ireturn, 1)]
def gk_lc25 : List (Nat × Instr × Nat) := [(1072, .aload_n 1, 1), (1073, .aload_n 0, 1), (1074, .iload_n 3, 1), (1075, .iconst 1, 1), (1076, .iadd, 1), (1077, .iaload, 1), (1078, .invokevirtual 125, 3), (1081, .aload_n 2, 1), (1082, .aload_n 0, 1), (1083, .iload_n 3, 1), (1084, .iconst 1, 1), (1085, .iadd, 1), (1086, .iaload, 1), (1087, .invokevirtual 128, 3), (1090, .if_icmp .eq 1070, 3), (1093, .iconst 0, 1), (1094, .ireturn, 1)]
def gk_lc26 : List (Nat × Instr × Nat) := [(1095, .aload_n 1, 1), (1096, .aload_n 0, 1), (1097, .iload_n 3, 1), (1098, .iconst 1, 1), (1099, .iadd, 1), (1100, .iaload, 1), (1101, .aload_n 0, 1), (1102, .iload_n 3, 1), (1103, .iconst 2, 1), (1104, .iadd, 1), (1105, .iaload, 1), (1106, .invokevirtual 129, 3), (1109, .aload_n 2, 1), (1110, .aload_n 0, 1), (1111, .iload_n 3, 1), (1112, .iconst 1, 1), (1113, .iadd, 1), (1114, .iaload, 1), (1115, .aload_n 0, 1), (1116, .iload_n 3, 1), (1117, .iconst 2, 1), (1118, .iadd, 1), (1119, .iaload, 1), (1120, .invokevirtual 133, 3), (1123, .if_icmp .eq 1037, 3), (1126, .iconst 0, 1), (1127, .ireturn, 1)]
def gk_lc27 : List (Nat × Instr × Nat) := [(1128, .aload_n 1, 1), (1129, .aload_n 0, 1), (1130, .iload_n 3, 1), (1131, .iconst 1, 1), (1132, .iadd, 1), (1133, .iaload, 1), (1134, .aload_n 0, 1), (1135, .iload_n 3, 1), (1136, .iconst 2, 1), (1137, .iadd, 1), (1138, .iaload, 1), (1139, .aload_n 0, 1), (1140, .iload_n 3, 1), (1141, .iconst 3, 1), (1142, .iadd, 1), (1143, .iaload, 1), (1144, .ifCond .eq 7, 3), (1147, .iconst 1, 1), (1148, .goto 4, 3), (1151, .iconst 0, 1), (1152, .invokevirtual 134, 3), (1155, .aload_n 2, 1), (1156, .aload_n 0, 1), (1157, .iload_n 3, 1), (1158, .iconst 1, 1), (1159, .iadd, 1), (1160, .iaload, 1), (1161, .aload_n 0, 1), (1162, .iload_n 3, 1), (1163, .iconst 2, 1), (1164, .iadd, 1), (1165, .iaload, 1), (1166, .aload_n 0, 1), (1167, .iload_n 3, 1), (1168, .iconst 3, 1), (1169, .iadd, 1), (1170, .iaload, 1), (1171, .ifCond .eq 7, 3), (1174, .iconst 1, 1), (1175, .goto 4, 3), (1178, .iconst 0, 1), (1179, .invokevirtual 138, 3), (1182, .if_icmp .eq 978, 3), (1185, .iconst 0, 1), (1186, .ireturn, 1)]
def gk_lc28 : List (Nat × Instr × Nat) := [(1187, .aload_n 1, 1), (1188, .aload_n 0, 1), (1189, .iload_n 3, 1), (1190, .iconst 1, 1), (1191, .iadd, 1), (1192, .iaload, 1), (1193, .aload_n 0, 1), (1194, .iload_n 3, 1), (1195, .iconst 2, 1), (1196, .iadd, 1), (1197, .iaload, 1), (1198, .invokevirtual 139, 3), (1201, .aload_n 2, 1), (1202, .aload_n 0, 1), (1203, .iload_n 3, 1), (1204, .iconst 1, 1), (1205, .iadd, 1), (1206, .iaload, 1), (1207, .aload_n 0, 1), (1208, .iload_n 3, 1), (1209, .iconst 2, 1), (1210, .iadd, 1), (1211, .iaload, 1), (1212, .invokevirtual 142, 3), (1215, .if_icmp .eq 945, 3), (1218, .iconst 0, 1), (1219, .ireturn, 1)]
def gk_lc29 : List (Nat × Instr × Nat) := [(1220, .aload_n 1, 1), (1221, .aload_n 0, 1), (1222, .iload_n 3, 1), (1223, .iconst 1, 1), (1224, .iadd, 1), (1225, .iaload, 1), (1226, .aload_n 0, 1), (1227, .iload_n 3, 1), (1228, .iconst 2, 1), (1229, .iadd, 1), (1230, .iaload, 1), (1231, .invokevirtual 143, 3), (1234, .aload_n 2, 1), (1235, .aload_n 0, 1), (1236, .iload_n 3, 1), (1237, .iconst 1, 1), (1238, .iadd, 1), (1239, .iaload, 1), (1240, .aload_n 0, 1), (1241, .iload_n 3, 1), (1242, .iconst 2, 1), (1243, .iadd, 1), (1244, .iaload, 1), (1245, .invokevirtual 146, 3), (1248, .if_icmp .eq 912, 3), (1251, .iconst 0, 1), (1252, .ireturn, 1)]
def gk_lc30 : List (Nat × Instr × Nat) := [(1253, .aload_n 1, 1), (1254, .aload_n 0, 1), (1255, .iload_n 3, 1), (1256, .iconst 1, 1), (1257, .iadd, 1), (1258, .iaload, 1), (1259, .aload_n 0, 1), (1260, .iload_n 3, 1), (1261, .iconst 2, 1), (1262, .iadd, 1), (1263, .iaload, 1), (1264, .invokevirtual 147, 3), (1267, .aload_n 2, 1), (1268, .aload_n 0, 1), (1269, .iload_n 3, 1), (1270, .iconst 1, 1), (1271, .iadd, 1), (1272, .iaload, 1), (1273, .aload_n 0, 1), (1274, .iload_n 3, 1), (1275, .iconst 2, 1), (1276, .iadd, 1), (1277, .iaload, 1), (1278, .invokevirtual 150, 3), (1281, .if_icmp .eq 879, 3), (1284, .iconst 0, 1), (1285, .ireturn, 1)]
def gk_lc31 : List (Nat × Instr × Nat) := [(1286, .aload_n 1, 1), (1287, .aload_n 0, 1), (1288, .iload_n 3, 1), (1289, .iconst 1, 1), (1290, .iadd, 1), (1291, .iaload, 1), (1292, .aload_n 0, 1), (1293, .iload_n 3, 1), (1294, .iconst 2, 1), (1295, .iadd, 1), (1296, .iaload, 1), (1297, .aload_n 0, 1), (1298, .iload_n 3, 1), (1299, .iconst 3, 1), (1300, .iadd, 1), (1301, .iaload, 1), (1302, .invokevirtual 151, 3), (1305, .aload_n 2, 1), (1306, .aload_n 0, 1), (1307, .iload_n 3, 1), (1308, .iconst 1, 1), (1309, .iadd, 1), (1310, .iaload, 1), (1311, .aload_n 0, 1), (1312, .iload_n 3, 1), (1313, .iconst 2, 1), (1314, .iadd, 1), (1315, .iaload, 1), (1316, .aload_n 0, 1), (1317, .iload_n 3, 1), (1318, .iconst 3, 1), (1319, .iadd, 1), (1320, .iaload, 1), (1321, .invokevirtual 154, 3), (1324, .if_icmp .eq 836, 3), (1327, .iconst 0, 1), (1328, .ireturn, 1)]
def gk_lc32 : List (Nat × Instr × Nat) := [(1329, .aload_n 1, 1), (1330, .aload_n 0, 1), (1331, .iload_n 3, 1), (1332, .iconst 1, 1), (1333, .iadd, 1), (1334, .iaload, 1), (1335, .aload_n 0, 1), (1336, .iload_n 3, 1), (1337, .iconst 2, 1), (1338, .iadd, 1), (1339, .iaload, 1), (1340, .invokevirtual 155, 3), (1343, .aload_n 2, 1), (1344, .aload_n 0, 1), (1345, .iload_n 3, 1), (1346, .iconst 1, 1), (1347, .iadd, 1), (1348, .iaload, 1), (1349, .aload_n 0, 1), (1350, .iload_n 3, 1), (1351, .iconst 2, 1), (1352, .iadd, 1), (1353, .iaload, 1), (1354, .invokevirtual 158, 3), (1357, .if_icmp .eq 803, 3), (1360, .iconst 0, 1), (1361, .ireturn, 1)]
def gk_lc33 : List (Nat × Instr × Nat) := [(1362, .aload_n 1, 1), (1363, .aload_n 0, 1), (1364, .iload_n 3, 1), (1365, .iconst 1, 1), (1366, .iadd, 1), (1367, .iaload, 1), (1368, .aload_n 0, 1), (1369, .iload_n 3, 1), (1370, .iconst 2, 1), (1371, .iadd, 1), (1372, .iaload, 1), (1373, .invokevirtual 159, 3), (1376, .aload_n 2, 1), (1377, .aload_n 0, 1), (1378, .iload_n 3, 1), (1379, .iconst 1, 1), (1380, .iadd, 1), (1381, .iaload, 1), (1382, .aload_n 0, 1), (1383, .iload_n 3, 1), (1384, .iconst 2, 1), (1385, .iadd, 1), (1386, .iaload, 1), (1387, .invokevirtual 162, 3), (1390, .if_icmp .eq 770, 3), (1393, .iconst 0, 1), (1394, .ireturn, 1)]
def gk_lc34 : List (Nat × Instr × Nat) := [(1395, .aload_n 1, 1), (1396, .aload_n 0, 1), (1397, .iload_n 3, 1), (1398, .iconst 1, 1), (1399, .iadd, 1), (1400, .iaload, 1), (1401, .aload_n 0, 1), (1402, .iload_n 3, 1), (1403, .iconst 2, 1), (1404, .iadd, 1), (1405, .iaload, 1), (1406, .aload_n 0, 1), (1407, .iload_n 3, 1), (1408, .iconst 3, 1), (1409, .iadd, 1), (1410, .iaload, 1), (1411, .invokevirtual 163, 3), (1414, .aload_n 2, 1), (1415, .aload_n 0, 1), (1416, .iload_n 3, 1), (1417, .iconst 1, 1), (1418, .iadd, 1), (1419, .iaload, 1), (1420, .aload_n 0, 1), (1421, .iload_n 3, 1), (1422, .iconst 2, 1), (1423, .iadd, 1), (1424, .iaload, 1), (1425, .aload_n 0, 1), (1426, .iload_n 3, 1), (1427, .iconst 3, 1), (1428, .iadd, 1), (1429, .iaload, 1), (1430, .invokevirtual 166, 3), (1433, .if_icmp .eq 727, 3), (1436, .iconst 0, 1), (1437, .ireturn, 1)]
def gk_lc35 : List (Nat × Instr × Nat) := [(1438, .aload_n 1, 1), (1439, .aload_n 0, 1), (1440, .iload_n 3, 1), (1441, .iconst 1, 1), (1442, .iadd, 1), (1443, .iaload, 1), (1444, .invokevirtual 167, 3), (1447, .aload_n 2, 1), (1448, .aload_n 0, 1), (1449, .iload_n 3, 1), (1450, .iconst 1, 1), (1451, .iadd, 1), (1452, .iaload, 1), (1453, .invokevirtual 170, 3), (1456, .if_icmp .eq 704, 3), (1459, .iconst 0, 1), (1460, .ireturn, 1)]
def gk_lc36 : List (Nat × Instr × Nat) := [(1461, .aload_n 1, 1), (1462, .aload_n 0, 1), (1463, .iload_n 3, 1), (1464, .iconst 1, 1), (1465, .iadd, 1), (1466, .iaload, 1), (1467, .aload_n 0, 1), (1468, .iload_n 3, 1), (1469, .iconst 2, 1), (1470, .iadd, 1), (1471, .iaload, 1), (1472, .invokevirtual 171, 3), (1475, .aload_n 2, 1), (1476, .aload_n 0, 1), (1477, .iload_n 3, 1), (1478, .iconst 1, 1), (1479, .iadd, 1), (1480, .iaload, 1), (1481, .aload_n 0, 1), (1482, .iload_n 3, 1), (1483, .iconst 2, 1), (1484, .iadd, 1), (1485, .iaload, 1), (1486, .invokevirtual 174, 3), (1489, .if_icmp .eq 671, 3), (1492, .iconst 0, 1), (1493, .ireturn, 1)]
def gk_lc37 : List (Nat × Instr × Nat) := [(1494, .aload_n 1, 1), (1495, .aload_n 0, 1), (1496, .iload_n 3, 1), (1497, .iconst 1, 1), (1498, .iadd, 1), (1499, .iaload, 1), (1500, .aload_n 0, 1), (1501, .iload_n 3, 1), (1502, .iconst 2, 1), (1503, .iadd, 1), (1504, .iaload, 1), (1505, .invokevirtual 175, 3), (1508, .aload_n 2, 1), (1509, .aload_n 0, 1), (1510, .iload_n 3, 1), (1511, .iconst 1, 1), (1512, .iadd, 1), (1513, .iaload, 1), (1514, .aload_n 0, 1), (1515, .iload_n 3, 1), (1516, .iconst 2, 1), (1517, .iadd, 1), (1518, .iaload, 1), (1519, .invokevirtual 178, 3), (1522, .if_icmp .eq 638, 3), (1525, .iconst 0, 1), (1526, .ireturn, 1)]
def gk_lc38 : List (Nat × Instr × Nat) := [(1527, .aload_n 1, 1), (1528, .aload_n 0, 1), (1529, .iload_n 3, 1), (1530, .iconst 1, 1), (1531, .iadd, 1), (1532, .iaload, 1), (1533, .invokevirtual 179, 3), (1536, .aload_n 2, 1), (1537, .aload_n 0, 1), (1538, .iload_n 3, 1), (1539, .iconst 1, 1), (1540, .iadd, 1), (1541, .iaload, 1), (1542, .invokevirtual 182, 3), (1545, .if_icmp .eq 615, 3), (1548, .iconst 0, 1), (1549, .ireturn, 1)]
def gk_lc39 : List (Nat × Instr × Nat) := [(1550, .aload_n 1, 1), (1551, .invokevirtual 183, 3), (1554, .aload_n 2, 1), (1555, .invokevirtual 186, 3), (1558, .if_icmp .eq 602, 3), (1561, .iconst 0, 1), (1562, .ireturn, 1)]
def gk_lc40 : List (Nat × Instr × Nat) := [(1563, .aload_n 1, 1), (1564, .aload_n 0, 1), (1565, .iload_n 3, 1), (1566, .iconst 1, 1), (1567, .iadd, 1), (1568, .iaload, 1), (1569, .invokevirtual 187, 3), (1572, .aload_n 2, 1), (1573, .aload_n 0, 1), (1574, .iload_n 3, 1), (1575, .iconst 1, 1), (1576, .iadd, 1), (1577, .iaload, 1), (1578, .invokevirtual 190, 3), (1581, .if_icmp .eq 579, 3), (1584, .iconst 0, 1), (1585, .ireturn, 1)]
def gk_lc41 : List (Nat × Instr × Nat) := [(1586, .aload_n 1, 1), (1587, .aload_n 0, 1), (1588, .iload_n 3, 1), (1589, .iconst 1, 1), (1590, .iadd, 1), (1591, .iaload, 1), (1592, .aload_n 0, 1), (1593, .iload_n 3, 1), (1594, .iconst 2, 1), (1595, .iadd, 1), (1596, .iaload, 1), (1597, .invokevirtual 191, 3), (1600, .aload_n 2, 1), (1601, .aload_n 0, 1), (1602, .iload_n 3, 1), (1603, .iconst 1, 1), (1604, .iadd, 1), (1605, .iaload, 1), (1606, .aload_n 0, 1), (1607, .iload_n 3, 1), (1608, .iconst 2, 1), (1609, .iadd, 1), (1610, .iaload, 1), (1611, .invokevirtual 194, 3), (1614, .if_icmp .eq 546, 3), (1617, .iconst 0, 1), (1618, .ireturn, 1)]
def gk_lc42 : List (Nat × Instr × Nat) := [(1619, .aload_n 1, 1), (1620, .aload_n 0, 1), (1621, .iload_n 3, 1), (1622, .iconst 1, 1), (1623, .iadd, 1), (1624, .iaload, 1), (1625, .aload_n 0, 1), (1626, .iload_n 3, 1), (1627, .iconst 2, 1), (1628, .iadd, 1), (1629, .iaload, 1), (1630, .aload_n 0, 1), (1631, .iload_n 3, 1), (1632, .iconst 3, 1), (1633, .iadd, 1), (1634, .iaload, 1), (1635, .invokevirtual 195, 3), (1638, .aload_n 2, 1), (1639, .aload_n 0, 1), (1640, .iload_n 3, 1), (1641, .iconst 1, 1), (1642, .iadd, 1), (1643, .iaload, 1), (1644, .aload_n 0, 1), (1645, .iload_n 3, 1), (1646, .iconst 2, 1), (1647, .iadd, 1), (1648, .iaload, 1), (1649, .aload_n 0, 1), (1650, .iload_n 3, 1), (1651, .iconst 3, 1), (1652, .iadd, 1), (1653, .iaload, 1), (1654, .invokevirtual 198, 3), (1657, .if_icmp .eq 503, 3), (1660, .iconst 0, 1), (1661, .ireturn, 1)]
def gk_lc43 : List (Nat × Instr × Nat) := [(1662, .aload_n 1, 1), (1663, .aload_n 0, 1), (1664, .iload_n 3, 1), (1665, .iconst 1, 1), (1666, .iadd, 1), (1667, .iaload, 1), (1668, .aload_n 0, 1), (1669, .iload_n 3, 1), (1670, .iconst 2, 1), (1671, .iadd, 1), (1672, .iaload, 1), (1673, .invokevirtual 199, 3), (1676, .aload_n 2, 1), (1677, .aload_n 0, 1), (1678, .iload_n 3, 1), (1679, .iconst 1, 1), (1680, .iadd, 1), (1681, .iaload, 1), (1682, .aload_n 0, 1), (1683, .iload_n 3, 1), (1684, .iconst 2, 1), (1685, .iadd, 1), (1686, .iaload, 1), (1687, .invokevirtual 202, 3), (1690, .if_icmp .eq 470, 3), (1693, .iconst 0, 1), (1694, .ireturn, 1)]
def gk_lc44 : List (Nat × Instr × Nat) := [(1695, .aload_n 1, 1), (1696, .invokevirtual 203, 3), (1699, .aload_n 2, 1), (1700, .invokevirtual 206, 3), (1703, .if_icmp .eq 457, 3), (1706, .iconst 0, 1), (1707, .ireturn, 1)]
def gk_lc45 : List (Nat × Instr × Nat) := [(1708, .aload_n 1, 1), (1709, .aload_n 0, 1), (1710, .iload_n 3, 1), (1711, .iconst 1, 1), (1712, .iadd, 1), (1713, .iaload, 1), (1714, .invokevirtual 207, 3), (1717, .aload_n 2, 1), (1718, .aload_n 0, 1), (1719, .iload_n 3, 1), (1720, .iconst 1, 1), (1721, .iadd, 1), (1722, .iaload, 1), (1723, .invokevirtual 210, 3), (1726, .if_icmp .eq 434, 3), (1729, .iconst 0, 1), (1730, .ireturn, 1)]
def gk_lc46 : List (Nat × Instr × Nat) := [(1731, .aload_n 1, 1), (1732, .aload_n 0, 1), (1733, .iload_n 3, 1), (1734, .iconst 1, 1), (1735, .iadd, 1), (1736, .iaload, 1), (1737, .invokevirtual 211, 3), (1740, .aload_n 2, 1), (1741, .aload_n 0, 1), (1742, .iload_n 3, 1), (1743, .iconst 1, 1), (1744, .iadd, 1), (1745, .iaload, 1), (1746, .invokevirtual 214, 3), (1749, .if_icmp .eq 411, 3), (1752, .iconst 0, 1), (1753, .ireturn, 1)]
def gk_lc47 : List (Nat × Instr × Nat) := [(1754, .aload_n 1, 1), (1755, .aload_n 0, 1), (1756, .iload_n 3, 1), (1757, .iconst 1, 1), (1758, .iadd, 1), (1759, .iaload, 1), (1760, .aload_n 0, 1), (1761, .iload_n 3, 1), (1762, .iconst 2, 1), (1763, .iadd, 1), (1764, .iaload, 1), (1765, .invokevirtual 215, 3), (1768, .aload_n 2, 1), (1769, .aload_n 0, 1), (1770, .iload_n 3, 1), (1771, .iconst 1, 1), (1772, .iadd, 1), (1773, .iaload, 1), (1774, .aload_n 0, 1), (1775, .iload_n 3, 1), (1776, .iconst 2, 1), (1777, .iadd, 1), (1778, .iaload, 1), (1779, .invokevirtual 218, 3), (1782, .if_icmp .eq 378, 3), (1785, .iconst 0, 1), (1786, .ireturn, 1)]
def gk_lc48 : List (Nat × Instr × Nat) := [(1787, .aload_n 1, 1), (1788, .aload_n 0, 1), (1789, .iload_n 3, 1), (1790, .iconst 1, 1), (1791, .iadd, 1), (1792, .iaload, 1), (1793, .aload_n 0, 1), (1794, .iload_n 3, 1), (1795, .iconst 2, 1), (1796, .iadd, 1), (1797, .iaload, 1), (1798, .invokevirtual 219, 3), (1801, .aload_n 2, 1), (1802, .aload_n 0, 1), (1803, .iload_n 3, 1), (1804, .iconst 1, 1), (1805, .iadd, 1), (1806, .iaload, 1), (1807, .aload_n 0, 1), (1808, .iload_n 3, 1), (1809, .iconst 2, 1), (1810, .iadd, 1), (1811, .iaload, 1), (1812, .invokevirtual 222, 3), (1815, .if_icmp .eq 345, 3), (1818, .iconst 0, 1), (1819, .ireturn, 1)]
def gk_lc49 : List (Nat × Instr × Nat) := [(1820, .aload_n 1, 1), (1821, .aload_n 0, 1), (1822, .iload_n 3, 1), (1823, .iconst 1, 1), (1824, .iadd, 1), (1825, .iaload, 1), (1826, .aload_n 0, 1), (1827, .iload_n 3, 1), (1828, .iconst 2, 1), (1829, .iadd, 1), (1830, .iaload, 1), (1831, .invokevirtual 223, 3), (1834, .aload_n 2, 1), (1835, .aload_n 0, 1), (1836, .iload_n 3, 1), (1837, .iconst 1, 1), (1838, .iadd, 1), (1839, .iaload, 1), (1840, .aload_n 0, 1), (1841, .iload_n 3, 1), (1842, .iconst 2, 1), (1843, .iadd, 1), (1844, .iaload, 1), (1845, .invokevirtual 226, 3), (1848, .if_icmp .eq 312, 3), (1851, .iconst 0, 1), (1852, .ireturn, 1)]
def gk_lc50 : List (Nat × Instr × Nat) := [(1853, .aload_n 1, 1), (1854, .aload_n 0, 1), (1855, .iload_n 3, 1), (1856, .iconst 1, 1), (1857, .iadd, 1), (1858, .iaload, 1), (1859, .invokevirtual 227, 3), (1862, .aload_n 2, 1), (1863, .aload_n 0, 1), (1864, .iload_n 3, 1), (1865, .iconst 1, 1), (1866, .iadd, 1), (1867, .iaload, 1), (1868, .invokevirtual 230, 3), (1871, .if_icmp .eq 289, 3), (1874, .iconst 0, 1), (1875, .ireturn, 1)]
def gk_lc51 : List (Nat × Instr × Nat) := [(1876, .aload_n 1, 1), (1877, .aload_n 0, 1), (1878, .iload_n 3, 1), (1879, .iconst 1, 1), (1880, .iadd, 1), (1881, .iaload, 1), (1882, .aload_n 0, 1), (1883, .iload_n 3, 1), (1884, .iconst 2, 1), (1885, .iadd, 1), (1886, .iaload, 1), (1887, .aload_n 0, 1), (1888, .iload_n 3, 1), (1889, .iconst 3, 1), (1890, .iadd, 1), (1891, .iaload, 1), (1892, .aload_n 0, 1), (1893, .iload_n 3, 1), (1894, .iconst 4, 1), (1895, .iadd, 1), (1896, .iaload, 1), (1897, .aload_n 0, 1), (1898, .iload_n 3, 1), (1899, .iconst 5, 1), (1900, .iadd, 1), (1901, .iaload, 1), (1902, .invokevirtual 231, 3), (1905, .aload_n 2, 1), (1906, .aload_n 0, 1), (1907, .iload_n 3, 1), (1908, .iconst 1, 1), (1909, .iadd, 1), (1910, .iaload, 1), (1911, .aload_n 0, 1), (1912, .iload_n 3, 1), (1913, .iconst 2, 1), (1914, .iadd, 1), (1915, .iaload, 1), (1916, .aload_n 0, 1), (1917, .iload_n 3, 1), (1918, .iconst 3, 1), (1919, .iadd, 1), (1920, .iaload, 1), (1921, .aload_n 0, 1), (1922, .iload_n 3, 1), (1923, .iconst 4, 1), (1924, .iadd, 1), (1925, .iaload, 1), (1926, .aload_n 0, 1), (1927, .iload_n 3, 1), (1928, .iconst 5, 1), (1929, .iadd, 1), (1930, .iaload, 1), (1931, .invokevirtual 234, 3), (1934, .if_icmp .eq 226, 3), (1937, .iconst 0, 1), (1938, .ireturn, 1)]
def gk_lc52 : List (Nat × Instr × Nat) := [(1939, .aload_n 1, 1), (1940, .aload_n 0, 1), (1941, .iload_n 3, 1), (1942, .iconst 1, 1), (1943, .iadd, 1), (1944, .iaload, 1), (1945, .aload_n 0, 1), (1946, .iload_n 3, 1), (1947, .iconst 2, 1), (1948, .iadd, 1), (1949, .iaload, 1), (1950, .aload_n 0, 1), (1951, .iload_n 3, 1), (1952, .iconst 3, 1), (1953, .iadd, 1), (1954, .iaload, 1), (1955, .aload_n 0, 1), (1956, .iload_n 3, 1), (1957, .iconst 4, 1), (1958, .iadd, 1), (1959, .iaload, 1), (1960, .aload_n 0, 1), (1961, .iload_n 3, 1), (1962, .iconst 5, 1), (1963, .iadd, 1), (1964, .iaload, 1), (1965, .invokevirtual 235, 3), (1968, .aload_n 2, 1), (1969, .aload_n 0, 1), (1970, .iload_n 3, 1), (1971, .iconst 1, 1), (1972, .iadd, 1), (1973, .iaload, 1), (1974, .aload_n 0, 1), (1975, .iload_n 3, 1), (1976, .iconst 2, 1), (1977, .iadd, 1), (1978, .iaload, 1), (1979, .aload_n 0, 1), (1980, .iload_n 3, 1), (1981, .iconst 3, 1), (1982, .iadd, 1), (1983, .iaload, 1), (1984, .aload_n 0, 1), (1985, .iload_n 3, 1), (1986, .iconst 4, 1), (1987, .iadd, 1), (1988, .iaload, 1), (1989, .aload_n 0, 1), (1990, .iload_n 3, 1), (1991, .iconst 5, 1), (1992, .iadd, 1), (1993, .iaload, 1), (1994, .invokevirtual 238, 3), (1997, .if_icmp .eq 163, 3), (2000, .iconst 0, 1), (2001, .ireturn, 1)]
def gk_lc53 : List (Nat × Instr × Nat) := [(2002, .aload_n 1, 1), (2003, .aload_n 0, 1), (2004, .iload_n 3, 1), (2005, .iconst 1, 1), (2006, .iadd, 1), (2007, .iaload, 1), (2008, .aload_n 0, 1), (2009, .iload_n 3, 1), (2010, .iconst 2, 1), (2011, .iadd, 1), (2012, .iaload, 1), (2013, .aload_n 0, 1), (2014, .iload_n 3, 1), (2015, .iconst 3, 1), (2016, .iadd, 1), (2017, .iaload, 1), (2018, .aload_n 0, 1), (2019, .iload_n 3, 1), (2020, .iconst 4, 1), (2021, .iadd, 1), (2022, .iaload, 1), (2023, .invokevirtual 239, 3), (2026, .aload_n 2, 1), (2027, .aload_n 0, 1), (2028, .iload_n 3, 1), (2029, .iconst 1, 1), (2030, .iadd, 1), (2031, .iaload, 1), (2032, .aload_n 0, 1), (2033, .iload_n 3, 1), (2034, .iconst 2, 1), (2035, .iadd, 1), (2036, .iaload, 1), (2037, .aload_n 0, 1), (2038, .iload_n 3, 1), (2039, .iconst 3, 1), (2040, .iadd, 1), (2041, .iaload, 1), (2042, .aload_n 0, 1), (2043, .iload_n 3, 1), (2044, .iconst 4, 1), (2045, .iadd, 1), (2046, .iaload, 1), (2047, .invokevirtual 243, 3), (2050, .if_icmp .eq 110, 3), (2053, .iconst 0, 1), (2054, .ireturn, 1)]
def gk_lc54 : List (Nat × Instr × Nat) := [(2055, .aload_n 1, 1), (2056, .aload_n 0, 1), (2057, .iload_n 3, 1), (2058, .iconst 1, 1), (2059, .iadd, 1), (2060, .iaload, 1), (2061, .invokevirtual 244, 3), (2064, .aload_n 2, 1), (2065, .aload_n 0, 1), (2066, .iload_n 3, 1), (2067, .iconst 1, 1), (2068, .iadd, 1), (2069, .iaload, 1), (2070, .invokevirtual 247, 3), (2073, .if_icmp .eq 87, 3), (2076, .iconst 0, 1), (2077, .ireturn, 1)]
def gk_lc55 : List (Nat × Instr × Nat) := [(2078, .aload_n 1, 1), (2079, .aload_n 0, 1), (2080, .iload_n 3, 1), (2081, .iconst 1, 1), (2082, .iadd, 1), (2083, .iaload, 1), (2084, .invokevirtual 248, 3), (2087, .aload_n 2, 1), (2088, .aload_n 0, 1), (2089, .iload_n 3, 1), (2090, .iconst 1, 1), (2091, .iadd, 1), (2092, .iaload, 1), (2093, .invokevirtual 251, 3), (2096, .if_icmp .eq 64, 3), (2099, .iconst 0, 1), (2100, .ireturn, 1)]
def gk_lc56 : List (Nat × Instr × Nat) := [(2101, .aload_n 1, 1), (2102, .aload_n 0, 1), (2103, .iload_n 3, 1), (2104, .iconst 1, 1), (2105, .iadd, 1), (2106, .iaload, 1), (2107, .aload_n 0, 1), (2108, .iload_n 3, 1), (2109, .iconst 2, 1), (2110, .iadd, 1), (2111, .iaload, 1), (2112, .invokevirtual 252, 3), (2115, .aload_n 2, 1), (2116, .aload_n 0, 1), (2117, .iload_n 3, 1), (2118, .iconst 1, 1), (2119, .iadd, 1), (2120, .iaload, 1), (2121, .aload_n 0, 1), (2122, .iload_n 3, 1), (2123, .iconst 2, 1), (2124, .iadd, 1), (2125, .iaload, 1), (2126, .invokevirtual 255, 3), (2129, .if_icmp .eq 31, 3), (2132, .iconst 0, 1), (2133, .ireturn, 1)]
def gk_lc57 : List (Nat × Instr × Nat) := [(2134, .aload_n 1, 1), (2135, .invokevirtual 256, 3), (2138, .aload_n 2, 1), (2139, .invokevirtual 259, 3), (2142, .if_icmp .eq 18, 3), (2145, .iconst 0, 1), (2146, .ireturn, 1)]
def gk_lc58 : List (Nat × Instr × Nat) := [(2147, .aload_n 1, 1), (2148, .invokevirtual 260, 3), (2151, .aload_n 2, 1), (2152, .invokevirtual 263, 3), (2155, .if_icmp .eq 5, 3), (2158, .iconst 0, 1), (2159, .ireturn, 1)]
def gk_lcs : List (Nat × Value) := [(32, .long 4294967295)]
def gk_lM (l : List (Nat × Instr × Nat)) : rk_M2 := (l, 4, gk_lk12, gk_lcs, some .boolean, 999)
def gk_tgl : List Nat := [284, 297, 311, 325, 368, 441, 475, 538, 601, 624, 647, 670, 693, 726, 759, 792, 825, 858, 881, 924, 957, 980, 1003, 1026, 1049, 1072, 1095, 1128, 1187, 1220, 1253, 1286, 1329, 1362, 1395, 1438, 1461, 1494, 1527, 1550, 1563, 1586, 1619, 1662, 1695, 1708, 1731, 1754, 1787, 1820, 1853, 1876, 1939, 2002, 2055, 2078, 2101, 2134, 2147]
def gk_cpc : List (Nat × Nat) := [(284, 0), (297, 1), (311, 2), (325, 3), (368, 4), (441, 5), (475, 6), (538, 7), (601, 8), (624, 9), (647, 10), (670, 11), (693, 12), (726, 13), (759, 14), (792, 15), (825, 16), (858, 17), (881, 18), (924, 19), (957, 20), (980, 21), (1003, 22), (1026, 23), (1049, 24), (1072, 25), (1095, 26), (1128, 27), (1187, 28), (1220, 29), (1253, 30), (1286, 31), (1329, 32), (1362, 33), (1395, 34), (1438, 35), (1461, 36), (1494, 37), (1527, 38), (1550, 39), (1563, 40), (1586, 41), (1619, 42), (1662, 43), (1695, 44), (1708, 45), (1731, 46), (1754, 47), (1787, 48), (1820, 49), (1853, 50), (1876, 51), (1939, 52), (2002, 53), (2055, 54), (2078, 55), (2101, 56), (2134, 57), (2147, 58)]
def gk_atc : List (Nat × Nat) → Nat → Option Nat
  | [], _ => none
  | q :: r, pc => if q.1 = pc then some q.2 else gk_atc r pc
def gk_hp : List rk_H := [.inl (11, [.inl (.int 0), .inl (.long 0), .inl (.long 1), .inr (.inl 1), .inr (.inl 6), .inr (.inl 7), .inr (.inl 8), .inr (.inl 9), .inr (.inl 12), .inr (.inl 13), .inr (.inl 15), .inr (.inl 41), .inr (.inl 67), .inl (.int 0), .inr (.inl 68), .inr (.inl 73), .inr (.inl 185), .inr (.inl 188), .inr (.inl 191), .inl (.int 0)]),
  .inr ((.array .long), 4, .inl .null, [(3, .inr (.inl 5)), (2, .inr (.inl 4)), (1, .inr (.inl 3)), (0, .inr (.inl 2))]),
  .inr (.long, 60, .inl (.long 0), []),
  .inr (.long, 60, .inl (.long 0), []),
  .inr (.long, 60, .inl (.long 0), []),
  .inr (.long, 60, .inl (.long 0), []),
  .inr (.int, 4, .inl (.int 0), []),
  .inr (.int, 4, .inl (.int 0), [(3, .inl (.int (-1))), (2, .inl (.int (-1))), (1, .inl (.int (-1))), (0, .inl (.int (-1)))]),
  .inr (.int, 20, .inl (.int 0), []),
  .inl (8, [.inr (.inl 10), .inr (.inl 11), .inl (.int 0), .inl (.int 0), .inl (.int 0), .inl (.int 0), .inl (.int 0), .inl (.int 0), .inl (.long 0), .inl (.int 0), .inl (.int (-1)), .inl (.int (-1))]),
  .inr (.byte, 900, .inl (.int 0), []),
  .inr (.long, 23, .inl (.long 0), [(0, .inl (.long 9317)), (1, .inl (.long 2262611)), (2, .inl (.long 20201029)), (3, .inl (.long 23609)), (4, .inl (.long 72983685)), (5, .inl (.long 773205170)), (6, .inl (.long 777297171)), (7, .inl (.long 52)), (8, .inl (.long 24627813)), (9, .inl (.long 278194)), (10, .inl (.long 73027762)), (11, .inl (.long 628164)), (12, .inl (.long 655)), (13, .inl (.long 643248)), (14, .inl (.long 6897268)), (15, .inl (.long 663607)), (16, .inl (.long 1497)), (17, .inl (.long 762030)), (18, .inl (.long 302)), (19, .inl (.long 23732)), (20, .inl (.long 409072)), (21, .inl (.long 5572)), (22, .inl (.long 643568))]),
  .inl (4, [.inr (.inl 9), .inl (.int 0)]),
  .inl (10, [.inr (.inl 9), .inr (.inl 14), .inl (.int 0)]),
  .inr (.int, 3, .inl (.int 0), []),
  .inl (3, [.inr (.inl 16), .inr (.inl 17), .inr (.inl 18), .inr (.inl 19), .inr (.inl 20), .inr (.inl 21), .inr (.inl 26), .inr (.inl 34), .inl (.int 0), .inl (.int 0), .inl (.int 2), .inl (.int 4), .inl (.int 1), .inl (.int 0)]),
  .inr (.long, 10, .inl (.long 0), []),
  .inr (.int, 10, .inl (.int 0), []),
  .inr (.int, 10, .inl (.int 0), []),
  .inr (.int, 10, .inl (.int 0), []),
  .inr (.int, 10, .inl (.int 0), []),
  .inl (2, [.inr (.inl 22), .inr (.inl 23), .inr (.inl 24), .inr (.inl 25), .inl (.int 0), .inl (.int 0)]),
  .inr (.int, 10, .inl (.int 0), []),
  .inr (.int, 10, .inl (.int 0), []),
  .inr (.int, 10, .inl (.int 0), []),
  .inr (.int, 200, .inl (.int 0), []),
  .inl (0, [.inr (.inl 27), .inr (.inl 28), .inr (.inl 29), .inr (.inl 30), .inr (.inl 31), .inr (.inl 32), .inr (.inl 33), .inl (.int 0), .inl (.int 0), .inl (.int 0)]),
  .inr (.long, 8, .inl (.long 0), []),
  .inr (.int, 8, .inl (.int 0), []),
  .inr (.int, 8, .inl (.int 0), []),
  .inr (.int, 8, .inl (.int 0), []),
  .inr (.int, 8, .inl (.int 0), []),
  .inr (.int, 8, .inl (.int 0), []),
  .inr (.int, 160, .inl (.int 0), []),
  .inl (9, [.inr (.inl 35), .inr (.inl 36), .inr (.inl 37), .inr (.inl 38), .inr (.inl 39), .inr (.inl 40), .inl (.int 0), .inl (.int 0)]),
  .inr (.int, 30, .inl (.int 0), []),
  .inr (.int, 30, .inl (.int 0), []),
  .inr (.int, 30, .inl (.int 0), []),
  .inr (.int, 30, .inl (.int 0), []),
  .inr (.int, 30, .inl (.int 0), []),
  .inr (.int, 30, .inl (.int 0), []),
  .inl (3, [.inr (.inl 42), .inr (.inl 43), .inr (.inl 44), .inr (.inl 45), .inr (.inl 46), .inr (.inl 47), .inr (.inl 52), .inr (.inl 60), .inl (.int 0), .inl (.int 0), .inl (.int 2), .inl (.int 4), .inl (.int 1), .inl (.int 0)]),
  .inr (.long, 10, .inl (.long 0), []),
  .inr (.int, 10, .inl (.int 0), []),
  .inr (.int, 10, .inl (.int 0), []),
  .inr (.int, 10, .inl (.int 0), []),
  .inr (.int, 10, .inl (.int 0), []),
  .inl (2, [.inr (.inl 48), .inr (.inl 49), .inr (.inl 50), .inr (.inl 51), .inl (.int 0), .inl (.int 0)]),
  .inr (.int, 10, .inl (.int 0), []),
  .inr (.int, 10, .inl (.int 0), []),
  .inr (.int, 10, .inl (.int 0), []),
  .inr (.int, 200, .inl (.int 0), []),
  .inl (0, [.inr (.inl 53), .inr (.inl 54), .inr (.inl 55), .inr (.inl 56), .inr (.inl 57), .inr (.inl 58), .inr (.inl 59), .inl (.int 0), .inl (.int 0), .inl (.int 0)]),
  .inr (.long, 8, .inl (.long 0), []),
  .inr (.int, 8, .inl (.int 0), []),
  .inr (.int, 8, .inl (.int 0), []),
  .inr (.int, 8, .inl (.int 0), []),
  .inr (.int, 8, .inl (.int 0), []),
  .inr (.int, 8, .inl (.int 0), []),
  .inr (.int, 160, .inl (.int 0), []),
  .inl (9, [.inr (.inl 61), .inr (.inl 62), .inr (.inl 63), .inr (.inl 64), .inr (.inl 65), .inr (.inl 66), .inl (.int 0), .inl (.int 0)]),
  .inr (.int, 30, .inl (.int 0), []),
  .inr (.int, 30, .inl (.int 0), []),
  .inr (.int, 30, .inl (.int 0), []),
  .inr (.int, 30, .inl (.int 0), []),
  .inr (.int, 30, .inl (.int 0), []),
  .inr (.int, 30, .inl (.int 0), []),
  .inr ((.object "GooseIce$Lake"), 3, .inl .null, [(2, .inr (.inl 244)), (1, .inr (.inl 218)), (0, .inr (.inl 192))]),
  .inl (6, [.inr (.inl 69), .inr (.inl 70), .inr (.inl 71), .inr (.inl 72), .inl (.int 0), .inl (.int 0)]),
  .inr (.int, 10, .inl (.int 0), []),
  .inr (.int, 11, .inl (.int 0), []),
  .inr (.int, 10, .inl (.int 0), []),
  .inr (.int, 1024, .inl (.int 0), []),
  .inl (7, [.inr (.inl 74), .inr (.inl 75), .inr (.inl 76), .inr (.inl 77), .inr (.inl 78), .inr (.inl 79), .inr (.inl 80), .inl (.int 0), .inl (.int 0), .inl (.int 0), .inl (.int 0)]),
  .inr ((.object "GooseIce$Lake"), 4, .inl .null, [(3, .inr (.inl 159)), (2, .inr (.inl 133)), (1, .inr (.inl 107)), (0, .inr (.inl 81))]),
  .inr (.int, 4, .inl (.int 0), []),
  .inr (.int, 4, .inl (.int 0), []),
  .inr (.int, 4, .inl (.int 0), []),
  .inr (.int, 4, .inl (.int 0), []),
  .inr (.int, 4, .inl (.int 0), []),
  .inr (.int, 12, .inl (.int 0), []),
  .inl (3, [.inr (.inl 82), .inr (.inl 83), .inr (.inl 84), .inr (.inl 85), .inr (.inl 86), .inr (.inl 87), .inr (.inl 92), .inr (.inl 100), .inl (.int 0), .inl (.int 0), .inl (.int 2), .inl (.int 4), .inl (.int 1), .inl (.int 0)]),
  .inr (.long, 10, .inl (.long 0), []),
  .inr (.int, 10, .inl (.int 0), []),
  .inr (.int, 10, .inl (.int 0), []),
  .inr (.int, 10, .inl (.int 0), []),
  .inr (.int, 10, .inl (.int 0), []),
  .inl (2, [.inr (.inl 88), .inr (.inl 89), .inr (.inl 90), .inr (.inl 91), .inl (.int 0), .inl (.int 0)]),
  .inr (.int, 10, .inl (.int 0), []),
  .inr (.int, 10, .inl (.int 0), []),
  .inr (.int, 10, .inl (.int 0), []),
  .inr (.int, 200, .inl (.int 0), []),
  .inl (0, [.inr (.inl 93), .inr (.inl 94), .inr (.inl 95), .inr (.inl 96), .inr (.inl 97), .inr (.inl 98), .inr (.inl 99), .inl (.int 0), .inl (.int 0), .inl (.int 0)]),
  .inr (.long, 8, .inl (.long 0), []),
  .inr (.int, 8, .inl (.int 0), []),
  .inr (.int, 8, .inl (.int 0), []),
  .inr (.int, 8, .inl (.int 0), []),
  .inr (.int, 8, .inl (.int 0), []),
  .inr (.int, 8, .inl (.int 0), []),
  .inr (.int, 160, .inl (.int 0), []),
  .inl (9, [.inr (.inl 101), .inr (.inl 102), .inr (.inl 103), .inr (.inl 104), .inr (.inl 105), .inr (.inl 106), .inl (.int 0), .inl (.int 0)]),
  .inr (.int, 30, .inl (.int 0), []),
  .inr (.int, 30, .inl (.int 0), []),
  .inr (.int, 30, .inl (.int 0), []),
  .inr (.int, 30, .inl (.int 0), []),
  .inr (.int, 30, .inl (.int 0), []),
  .inr (.int, 30, .inl (.int 0), []),
  .inl (3, [.inr (.inl 108), .inr (.inl 109), .inr (.inl 110), .inr (.inl 111), .inr (.inl 112), .inr (.inl 113), .inr (.inl 118), .inr (.inl 126), .inl (.int 0), .inl (.int 0), .inl (.int 2), .inl (.int 4), .inl (.int 1), .inl (.int 0)]),
  .inr (.long, 10, .inl (.long 0), []),
  .inr (.int, 10, .inl (.int 0), []),
  .inr (.int, 10, .inl (.int 0), []),
  .inr (.int, 10, .inl (.int 0), []),
  .inr (.int, 10, .inl (.int 0), []),
  .inl (2, [.inr (.inl 114), .inr (.inl 115), .inr (.inl 116), .inr (.inl 117), .inl (.int 0), .inl (.int 0)]),
  .inr (.int, 10, .inl (.int 0), []),
  .inr (.int, 10, .inl (.int 0), []),
  .inr (.int, 10, .inl (.int 0), []),
  .inr (.int, 200, .inl (.int 0), []),
  .inl (0, [.inr (.inl 119), .inr (.inl 120), .inr (.inl 121), .inr (.inl 122), .inr (.inl 123), .inr (.inl 124), .inr (.inl 125), .inl (.int 0), .inl (.int 0), .inl (.int 0)]),
  .inr (.long, 8, .inl (.long 0), []),
  .inr (.int, 8, .inl (.int 0), []),
  .inr (.int, 8, .inl (.int 0), []),
  .inr (.int, 8, .inl (.int 0), []),
  .inr (.int, 8, .inl (.int 0), []),
  .inr (.int, 8, .inl (.int 0), []),
  .inr (.int, 160, .inl (.int 0), []),
  .inl (9, [.inr (.inl 127), .inr (.inl 128), .inr (.inl 129), .inr (.inl 130), .inr (.inl 131), .inr (.inl 132), .inl (.int 0), .inl (.int 0)]),
  .inr (.int, 30, .inl (.int 0), []),
  .inr (.int, 30, .inl (.int 0), []),
  .inr (.int, 30, .inl (.int 0), []),
  .inr (.int, 30, .inl (.int 0), []),
  .inr (.int, 30, .inl (.int 0), []),
  .inr (.int, 30, .inl (.int 0), []),
  .inl (3, [.inr (.inl 134), .inr (.inl 135), .inr (.inl 136), .inr (.inl 137), .inr (.inl 138), .inr (.inl 139), .inr (.inl 144), .inr (.inl 152), .inl (.int 0), .inl (.int 0), .inl (.int 2), .inl (.int 4), .inl (.int 1), .inl (.int 0)]),
  .inr (.long, 10, .inl (.long 0), []),
  .inr (.int, 10, .inl (.int 0), []),
  .inr (.int, 10, .inl (.int 0), []),
  .inr (.int, 10, .inl (.int 0), []),
  .inr (.int, 10, .inl (.int 0), []),
  .inl (2, [.inr (.inl 140), .inr (.inl 141), .inr (.inl 142), .inr (.inl 143), .inl (.int 0), .inl (.int 0)]),
  .inr (.int, 10, .inl (.int 0), []),
  .inr (.int, 10, .inl (.int 0), []),
  .inr (.int, 10, .inl (.int 0), []),
  .inr (.int, 200, .inl (.int 0), []),
  .inl (0, [.inr (.inl 145), .inr (.inl 146), .inr (.inl 147), .inr (.inl 148), .inr (.inl 149), .inr (.inl 150), .inr (.inl 151), .inl (.int 0), .inl (.int 0), .inl (.int 0)]),
  .inr (.long, 8, .inl (.long 0), []),
  .inr (.int, 8, .inl (.int 0), []),
  .inr (.int, 8, .inl (.int 0), []),
  .inr (.int, 8, .inl (.int 0), []),
  .inr (.int, 8, .inl (.int 0), []),
  .inr (.int, 8, .inl (.int 0), []),
  .inr (.int, 160, .inl (.int 0), []),
  .inl (9, [.inr (.inl 153), .inr (.inl 154), .inr (.inl 155), .inr (.inl 156), .inr (.inl 157), .inr (.inl 158), .inl (.int 0), .inl (.int 0)]),
  .inr (.int, 30, .inl (.int 0), []),
  .inr (.int, 30, .inl (.int 0), []),
  .inr (.int, 30, .inl (.int 0), []),
  .inr (.int, 30, .inl (.int 0), []),
  .inr (.int, 30, .inl (.int 0), []),
  .inr (.int, 30, .inl (.int 0), []),
  .inl (3, [.inr (.inl 160), .inr (.inl 161), .inr (.inl 162), .inr (.inl 163), .inr (.inl 164), .inr (.inl 165), .inr (.inl 170), .inr (.inl 178), .inl (.int 0), .inl (.int 0), .inl (.int 2), .inl (.int 4), .inl (.int 1), .inl (.int 0)]),
  .inr (.long, 10, .inl (.long 0), []),
  .inr (.int, 10, .inl (.int 0), []),
  .inr (.int, 10, .inl (.int 0), []),
  .inr (.int, 10, .inl (.int 0), []),
  .inr (.int, 10, .inl (.int 0), []),
  .inl (2, [.inr (.inl 166), .inr (.inl 167), .inr (.inl 168), .inr (.inl 169), .inl (.int 0), .inl (.int 0)]),
  .inr (.int, 10, .inl (.int 0), []),
  .inr (.int, 10, .inl (.int 0), []),
  .inr (.int, 10, .inl (.int 0), []),
  .inr (.int, 200, .inl (.int 0), []),
  .inl (0, [.inr (.inl 171), .inr (.inl 172), .inr (.inl 173), .inr (.inl 174), .inr (.inl 175), .inr (.inl 176), .inr (.inl 177), .inl (.int 0), .inl (.int 0), .inl (.int 0)]),
  .inr (.long, 8, .inl (.long 0), []),
  .inr (.int, 8, .inl (.int 0), []),
  .inr (.int, 8, .inl (.int 0), []),
  .inr (.int, 8, .inl (.int 0), []),
  .inr (.int, 8, .inl (.int 0), []),
  .inr (.int, 8, .inl (.int 0), []),
  .inr (.int, 160, .inl (.int 0), []),
  .inl (9, [.inr (.inl 179), .inr (.inl 180), .inr (.inl 181), .inr (.inl 182), .inr (.inl 183), .inr (.inl 184), .inl (.int 0), .inl (.int 0)]),
  .inr (.int, 30, .inl (.int 0), []),
  .inr (.int, 30, .inl (.int 0), []),
  .inr (.int, 30, .inl (.int 0), []),
  .inr (.int, 30, .inl (.int 0), []),
  .inr (.int, 30, .inl (.int 0), []),
  .inr (.int, 30, .inl (.int 0), []),
  .inl (1, [.inr (.inl 186), .inr (.inl 187), .inl (.int 0)]),
  .inr (.long, 21, .inl (.long 0), []),
  .inr (.long, 21, .inl (.long 0), []),
  .inl (5, [.inr (.inl 68), .inr (.inl 189), .inr (.inl 190), .inl (.int 0), .inl (.int 0), .inl (.int 0), .inl (.int 0), .inl (.int 0), .inl (.int 0), .inl (.int 0), .inl (.int 0)]),
  .inr (.int, 3, .inl (.int 0), []),
  .inr (.int, 3, .inl (.int 0), []),
  .inr (.int, 5, .inl (.int 0), []),
  .inl (3, [.inr (.inl 193), .inr (.inl 194), .inr (.inl 195), .inr (.inl 196), .inr (.inl 197), .inr (.inl 198), .inr (.inl 203), .inr (.inl 211), .inl (.int 0), .inl (.int 0), .inl (.int 2), .inl (.int 4), .inl (.int 1), .inl (.int 0)]),
  .inr (.long, 10, .inl (.long 0), []),
  .inr (.int, 10, .inl (.int 0), []),
  .inr (.int, 10, .inl (.int 0), []),
  .inr (.int, 10, .inl (.int 0), []),
  .inr (.int, 10, .inl (.int 0), []),
  .inl (2, [.inr (.inl 199), .inr (.inl 200), .inr (.inl 201), .inr (.inl 202), .inl (.int 0), .inl (.int 0)]),
  .inr (.int, 10, .inl (.int 0), []),
  .inr (.int, 10, .inl (.int 0), []),
  .inr (.int, 10, .inl (.int 0), []),
  .inr (.int, 200, .inl (.int 0), []),
  .inl (0, [.inr (.inl 204), .inr (.inl 205), .inr (.inl 206), .inr (.inl 207), .inr (.inl 208), .inr (.inl 209), .inr (.inl 210), .inl (.int 0), .inl (.int 0), .inl (.int 0)]),
  .inr (.long, 8, .inl (.long 0), []),
  .inr (.int, 8, .inl (.int 0), []),
  .inr (.int, 8, .inl (.int 0), []),
  .inr (.int, 8, .inl (.int 0), []),
  .inr (.int, 8, .inl (.int 0), []),
  .inr (.int, 8, .inl (.int 0), []),
  .inr (.int, 160, .inl (.int 0), []),
  .inl (9, [.inr (.inl 212), .inr (.inl 213), .inr (.inl 214), .inr (.inl 215), .inr (.inl 216), .inr (.inl 217), .inl (.int 0), .inl (.int 0)]),
  .inr (.int, 30, .inl (.int 0), []),
  .inr (.int, 30, .inl (.int 0), []),
  .inr (.int, 30, .inl (.int 0), []),
  .inr (.int, 30, .inl (.int 0), []),
  .inr (.int, 30, .inl (.int 0), []),
  .inr (.int, 30, .inl (.int 0), []),
  .inl (3, [.inr (.inl 219), .inr (.inl 220), .inr (.inl 221), .inr (.inl 222), .inr (.inl 223), .inr (.inl 224), .inr (.inl 229), .inr (.inl 237), .inl (.int 0), .inl (.int 0), .inl (.int 2), .inl (.int 4), .inl (.int 1), .inl (.int 0)]),
  .inr (.long, 10, .inl (.long 0), []),
  .inr (.int, 10, .inl (.int 0), []),
  .inr (.int, 10, .inl (.int 0), []),
  .inr (.int, 10, .inl (.int 0), []),
  .inr (.int, 10, .inl (.int 0), []),
  .inl (2, [.inr (.inl 225), .inr (.inl 226), .inr (.inl 227), .inr (.inl 228), .inl (.int 0), .inl (.int 0)]),
  .inr (.int, 10, .inl (.int 0), []),
  .inr (.int, 10, .inl (.int 0), []),
  .inr (.int, 10, .inl (.int 0), []),
  .inr (.int, 200, .inl (.int 0), []),
  .inl (0, [.inr (.inl 230), .inr (.inl 231), .inr (.inl 232), .inr (.inl 233), .inr (.inl 234), .inr (.inl 235), .inr (.inl 236), .inl (.int 0), .inl (.int 0), .inl (.int 0)]),
  .inr (.long, 8, .inl (.long 0), []),
  .inr (.int, 8, .inl (.int 0), []),
  .inr (.int, 8, .inl (.int 0), []),
  .inr (.int, 8, .inl (.int 0), []),
  .inr (.int, 8, .inl (.int 0), []),
  .inr (.int, 8, .inl (.int 0), []),
  .inr (.int, 160, .inl (.int 0), []),
  .inl (9, [.inr (.inl 238), .inr (.inl 239), .inr (.inl 240), .inr (.inl 241), .inr (.inl 242), .inr (.inl 243), .inl (.int 0), .inl (.int 0)]),
  .inr (.int, 30, .inl (.int 0), []),
  .inr (.int, 30, .inl (.int 0), []),
  .inr (.int, 30, .inl (.int 0), []),
  .inr (.int, 30, .inl (.int 0), []),
  .inr (.int, 30, .inl (.int 0), []),
  .inr (.int, 30, .inl (.int 0), []),
  .inl (3, [.inr (.inl 245), .inr (.inl 246), .inr (.inl 247), .inr (.inl 248), .inr (.inl 249), .inr (.inl 250), .inr (.inl 255), .inr (.inl 263), .inl (.int 0), .inl (.int 0), .inl (.int 2), .inl (.int 4), .inl (.int 1), .inl (.int 0)]),
  .inr (.long, 10, .inl (.long 0), []),
  .inr (.int, 10, .inl (.int 0), []),
  .inr (.int, 10, .inl (.int 0), []),
  .inr (.int, 10, .inl (.int 0), []),
  .inr (.int, 10, .inl (.int 0), []),
  .inl (2, [.inr (.inl 251), .inr (.inl 252), .inr (.inl 253), .inr (.inl 254), .inl (.int 0), .inl (.int 0)]),
  .inr (.int, 10, .inl (.int 0), []),
  .inr (.int, 10, .inl (.int 0), []),
  .inr (.int, 10, .inl (.int 0), []),
  .inr (.int, 200, .inl (.int 0), []),
  .inl (0, [.inr (.inl 256), .inr (.inl 257), .inr (.inl 258), .inr (.inl 259), .inr (.inl 260), .inr (.inl 261), .inr (.inl 262), .inl (.int 0), .inl (.int 0), .inl (.int 0)]),
  .inr (.long, 8, .inl (.long 0), []),
  .inr (.int, 8, .inl (.int 0), []),
  .inr (.int, 8, .inl (.int 0), []),
  .inr (.int, 8, .inl (.int 0), []),
  .inr (.int, 8, .inl (.int 0), []),
  .inr (.int, 8, .inl (.int 0), []),
  .inr (.int, 160, .inl (.int 0), []),
  .inl (9, [.inr (.inl 264), .inr (.inl 265), .inr (.inl 266), .inr (.inl 267), .inr (.inl 268), .inr (.inl 269), .inl (.int 0), .inl (.int 0)]),
  .inr (.int, 30, .inl (.int 0), []),
  .inr (.int, 30, .inl (.int 0), []),
  .inr (.int, 30, .inl (.int 0), []),
  .inr (.int, 30, .inl (.int 0), []),
  .inr (.int, 30, .inl (.int 0), []),
  .inr (.int, 30, .inl (.int 0), []),
  .inl (12, [.inr (.inl 271), .inr (.inl 272), .inl (.int 0), .inl (.long 0), .inl (.long 1), .inr (.inl 273), .inr (.inl 274), .inr (.inl 275), .inr (.inl 276), .inr (.inl 277), .inl (.int 0), .inl (.int 0), .inl (.int 0), .inl (.int 0), .inl (.int 0), .inl (.int 0), .inl (.int (-1)), .inl (.int (-1)), .inl (.int 0), .inl (.int 0), .inl (.int 0), .inr (.inl 278), .inl (.int 0), .inl (.int 0), .inr (.inl 279), .inl (.int 0), .inr (.inl 280), .inr (.inl 281), .inr (.inl 282), .inr (.inl 283), .inl (.int 0), .inr (.inl 284), .inr (.inl 285), .inr (.inl 286), .inr (.inl 287), .inr (.inl 288), .inl (.int 0), .inl (.int 0), .inr (.inl 289), .inr (.inl 290), .inr (.inl 291), .inl (.int 0), .inl (.int 0)]),
  .inr (.int, 5894, .inl (.int 0), [(6, .inl (.int (-1))), (4, .inl (.int 1)), (3, .inl (.int 4)), (2, .inl (.int 2))]),
  .inr (.long, 108, .inl (.long 0), []),
  .inr (.int, 4, .inl (.int 0), []),
  .inr (.int, 4, .inl (.int 0), [(3, .inl (.int (-1))), (2, .inl (.int (-1))), (1, .inl (.int (-1))), (0, .inl (.int (-1)))]),
  .inr (.long, 240, .inl (.long 0), []),
  .inr (.byte, 900, .inl (.int 0), []),
  .inr (.byte, 900, .inl (.int 0), []),
  .inr (.int, 3, .inl (.int 0), []),
  .inr (.int, 10, .inl (.int 0), []),
  .inr (.int, 4, .inl (.int 0), []),
  .inr (.int, 4, .inl (.int 0), []),
  .inr (.int, 4, .inl (.int 0), []),
  .inr (.int, 4, .inl (.int 0), []),
  .inr (.int, 256, .inl (.int 0), []),
  .inr (.int, 427, .inl (.int 0), []),
  .inr (.int, 10, .inl (.int 0), []),
  .inr (.long, 21, .inl (.long 0), []),
  .inr (.long, 21, .inl (.long 0), []),
  .inr (.int, 80, .inl (.int 0), []),
  .inr (.int, 5, .inl (.int 0), []),
  .inr (.int, 5, .inl (.int 0), [])]
def gk_env (lo hi : Int) : List rk_T := [(0, -2147483648, 2147483647), (0, -2147483648, 2147483647), (0, -2147483648, 2147483647), (0, -2147483648, 2147483647), (0, -2147483648, 2147483647), (0, -2147483648, 2147483647), (2, 0, 0), (0, lo, hi), (2, 0, 0)]
def gk_S (v : Nat) : rk_S := ([(3, .inl (.int 0)), (2, .inr (.inl 270)), (1, .inr (.inl 0)), (0, .inr (.inr (.inl 6)))], [], gk_env 6 6 ++ [(0, (v : Int), (v : Int))], gk_hp, 292, 17714)
def gk_S16 (lo hi : Int) : rk_S := ([(2, .inr (.inl 270)), (1, .inr (.inl 0)), (0, .inr (.inr (.inl 6)))], [], gk_env lo hi, gk_hp, 292, 17714)
def gk_S33 : rk_S := ([(3, .inl (.int 0)), (2, .inr (.inl 270)), (1, .inr (.inl 0)), (0, .inr (.inr (.inl 6)))], [.inr (.inr (.inl 9))], gk_env 6 6 ++ [(0, 0, 63)], gk_hp, 292, 17714)
def gk_Sd : rk_S := ([(3, .inl (.int 0)), (2, .inr (.inl 270)), (1, .inr (.inl 0)), (0, .inr (.inr (.inl 6)))], [], gk_env 6 6 ++ [(0, 0, 63)], gk_hp, 292, 17714)
def gk_h126 : List rk_H := [.inl (11, [.inl (.int 0), .inl (.long 0), .inl (.long 1), .inr (.inl 1), .inr (.inl 6), .inr (.inl 7), .inr (.inl 8), .inr (.inl 9), .inr (.inl 12), .inr (.inl 13), .inr (.inl 15), .inr (.inl 41), .inr (.inl 67), .inl (.int 0), .inr (.inl 68), .inr (.inl 73), .inr (.inl 185), .inr (.inl 188), .inr (.inl 191), .inl (.int 0)]),
  .inr ((.array .long), 4, .inl .null, [(3, .inr (.inl 5)), (2, .inr (.inl 4)), (1, .inr (.inl 3)), (0, .inr (.inl 2))]),
  .inr (.long, 60, .inl (.long 0), []),
  .inr (.long, 60, .inl (.long 0), []),
  .inr (.long, 60, .inl (.long 0), []),
  .inr (.long, 60, .inl (.long 0), []),
  .inr (.int, 4, .inl (.int 0), []),
  .inr (.int, 4, .inl (.int 0), [(3, .inl (.int (-1))), (2, .inl (.int (-1))), (1, .inl (.int (-1))), (0, .inl (.int (-1)))]),
  .inr (.int, 20, .inl (.int 0), []),
  .inl (8, [.inr (.inl 10), .inr (.inl 11), .inl (.int 0), .inl (.int 0), .inl (.int 0), .inl (.int 0), .inl (.int 0), .inl (.int 0), .inl (.long 0), .inl (.int 0), .inl (.int (-1)), .inl (.int (-1))]),
  .inr (.byte, 900, .inl (.int 0), []),
  .inr (.long, 23, .inl (.long 0), [(0, .inl (.long 9317)), (1, .inl (.long 2262611)), (2, .inl (.long 20201029)), (3, .inl (.long 23609)), (4, .inl (.long 72983685)), (5, .inl (.long 773205170)), (6, .inl (.long 777297171)), (7, .inl (.long 52)), (8, .inl (.long 24627813)), (9, .inl (.long 278194)), (10, .inl (.long 73027762)), (11, .inl (.long 628164)), (12, .inl (.long 655)), (13, .inl (.long 643248)), (14, .inl (.long 6897268)), (15, .inl (.long 663607)), (16, .inl (.long 1497)), (17, .inl (.long 762030)), (18, .inl (.long 302)), (19, .inl (.long 23732)), (20, .inl (.long 409072)), (21, .inl (.long 5572)), (22, .inl (.long 643568))]),
  .inl (4, [.inr (.inl 9), .inl (.int 0)]),
  .inl (10, [.inr (.inl 9), .inr (.inl 14), .inl (.int 0)]),
  .inr (.int, 3, .inl (.int 0), []),
  .inl (3, [.inr (.inl 16), .inr (.inl 17), .inr (.inl 18), .inr (.inl 19), .inr (.inl 20), .inr (.inl 21), .inr (.inl 26), .inr (.inl 34), .inl (.int 0), .inl (.int 0), .inl (.int 2), .inl (.int 4), .inl (.int 1), .inl (.int 0)]),
  .inr (.long, 10, .inl (.long 0), []),
  .inr (.int, 10, .inl (.int 0), []),
  .inr (.int, 10, .inl (.int 0), []),
  .inr (.int, 10, .inl (.int 0), []),
  .inr (.int, 10, .inl (.int 0), []),
  .inl (2, [.inr (.inl 22), .inr (.inl 23), .inr (.inl 24), .inr (.inl 25), .inl (.int 0), .inl (.int 0)]),
  .inr (.int, 10, .inl (.int 0), []),
  .inr (.int, 10, .inl (.int 0), []),
  .inr (.int, 10, .inl (.int 0), []),
  .inr (.int, 200, .inl (.int 0), []),
  .inl (0, [.inr (.inl 27), .inr (.inl 28), .inr (.inl 29), .inr (.inl 30), .inr (.inl 31), .inr (.inl 32), .inr (.inl 33), .inl (.int 0), .inl (.int 0), .inl (.int 0)]),
  .inr (.long, 8, .inl (.long 0), []),
  .inr (.int, 8, .inl (.int 0), []),
  .inr (.int, 8, .inl (.int 0), []),
  .inr (.int, 8, .inl (.int 0), []),
  .inr (.int, 8, .inl (.int 0), []),
  .inr (.int, 8, .inl (.int 0), []),
  .inr (.int, 160, .inl (.int 0), []),
  .inl (9, [.inr (.inl 35), .inr (.inl 36), .inr (.inl 37), .inr (.inl 38), .inr (.inl 39), .inr (.inl 40), .inl (.int 0), .inl (.int 0)]),
  .inr (.int, 30, .inl (.int 0), []),
  .inr (.int, 30, .inl (.int 0), []),
  .inr (.int, 30, .inl (.int 0), []),
  .inr (.int, 30, .inl (.int 0), []),
  .inr (.int, 30, .inl (.int 0), []),
  .inr (.int, 30, .inl (.int 0), []),
  .inl (3, [.inr (.inl 42), .inr (.inl 43), .inr (.inl 44), .inr (.inl 45), .inr (.inl 46), .inr (.inl 47), .inr (.inl 52), .inr (.inl 60), .inl (.int 0), .inl (.int 0), .inl (.int 2), .inl (.int 4), .inl (.int 1), .inl (.int 0)]),
  .inr (.long, 10, .inl (.long 0), []),
  .inr (.int, 10, .inl (.int 0), []),
  .inr (.int, 10, .inl (.int 0), []),
  .inr (.int, 10, .inl (.int 0), []),
  .inr (.int, 10, .inl (.int 0), []),
  .inl (2, [.inr (.inl 48), .inr (.inl 49), .inr (.inl 50), .inr (.inl 51), .inl (.int 0), .inl (.int 0)]),
  .inr (.int, 10, .inl (.int 0), []),
  .inr (.int, 10, .inl (.int 0), []),
  .inr (.int, 10, .inl (.int 0), []),
  .inr (.int, 200, .inl (.int 0), []),
  .inl (0, [.inr (.inl 53), .inr (.inl 54), .inr (.inl 55), .inr (.inl 56), .inr (.inl 57), .inr (.inl 58), .inr (.inl 59), .inl (.int 0), .inl (.int 0), .inl (.int 0)]),
  .inr (.long, 8, .inl (.long 0), []),
  .inr (.int, 8, .inl (.int 0), []),
  .inr (.int, 8, .inl (.int 0), []),
  .inr (.int, 8, .inl (.int 0), []),
  .inr (.int, 8, .inl (.int 0), []),
  .inr (.int, 8, .inl (.int 0), []),
  .inr (.int, 160, .inl (.int 0), []),
  .inl (9, [.inr (.inl 61), .inr (.inl 62), .inr (.inl 63), .inr (.inl 64), .inr (.inl 65), .inr (.inl 66), .inl (.int 0), .inl (.int 0)]),
  .inr (.int, 30, .inl (.int 0), []),
  .inr (.int, 30, .inl (.int 0), []),
  .inr (.int, 30, .inl (.int 0), []),
  .inr (.int, 30, .inl (.int 0), []),
  .inr (.int, 30, .inl (.int 0), []),
  .inr (.int, 30, .inl (.int 0), []),
  .inr ((.object "GooseIce$Lake"), 3, .inl .null, [(2, .inr (.inl 244)), (1, .inr (.inl 218)), (0, .inr (.inl 192))]),
  .inl (6, [.inr (.inl 69), .inr (.inl 70), .inr (.inl 71), .inr (.inl 72), .inl (.int 0), .inl (.int 0)]),
  .inr (.int, 10, .inl (.int 0), []),
  .inr (.int, 11, .inl (.int 0), []),
  .inr (.int, 10, .inl (.int 0), []),
  .inr (.int, 1024, .inl (.int 0), []),
  .inl (7, [.inr (.inl 74), .inr (.inl 75), .inr (.inl 76), .inr (.inl 77), .inr (.inl 78), .inr (.inl 79), .inr (.inl 80), .inl (.int 0), .inl (.int 0), .inl (.int 0), .inl (.int 0)]),
  .inr ((.object "GooseIce$Lake"), 4, .inl .null, [(3, .inr (.inl 159)), (2, .inr (.inl 133)), (1, .inr (.inl 107)), (0, .inr (.inl 81))]),
  .inr (.int, 4, .inl (.int 0), []),
  .inr (.int, 4, .inl (.int 0), []),
  .inr (.int, 4, .inl (.int 0), []),
  .inr (.int, 4, .inl (.int 0), []),
  .inr (.int, 4, .inl (.int 0), []),
  .inr (.int, 12, .inl (.int 0), []),
  .inl (3, [.inr (.inl 82), .inr (.inl 83), .inr (.inl 84), .inr (.inl 85), .inr (.inl 86), .inr (.inl 87), .inr (.inl 92), .inr (.inl 100), .inl (.int 0), .inl (.int 0), .inl (.int 2), .inl (.int 4), .inl (.int 1), .inl (.int 0)]),
  .inr (.long, 10, .inl (.long 0), []),
  .inr (.int, 10, .inl (.int 0), []),
  .inr (.int, 10, .inl (.int 0), []),
  .inr (.int, 10, .inl (.int 0), []),
  .inr (.int, 10, .inl (.int 0), []),
  .inl (2, [.inr (.inl 88), .inr (.inl 89), .inr (.inl 90), .inr (.inl 91), .inl (.int 0), .inl (.int 0)]),
  .inr (.int, 10, .inl (.int 0), []),
  .inr (.int, 10, .inl (.int 0), []),
  .inr (.int, 10, .inl (.int 0), []),
  .inr (.int, 200, .inl (.int 0), []),
  .inl (0, [.inr (.inl 93), .inr (.inl 94), .inr (.inl 95), .inr (.inl 96), .inr (.inl 97), .inr (.inl 98), .inr (.inl 99), .inl (.int 0), .inl (.int 0), .inl (.int 0)]),
  .inr (.long, 8, .inl (.long 0), []),
  .inr (.int, 8, .inl (.int 0), []),
  .inr (.int, 8, .inl (.int 0), []),
  .inr (.int, 8, .inl (.int 0), []),
  .inr (.int, 8, .inl (.int 0), []),
  .inr (.int, 8, .inl (.int 0), []),
  .inr (.int, 160, .inl (.int 0), []),
  .inl (9, [.inr (.inl 101), .inr (.inl 102), .inr (.inl 103), .inr (.inl 104), .inr (.inl 105), .inr (.inl 106), .inl (.int 0), .inl (.int 0)]),
  .inr (.int, 30, .inl (.int 0), []),
  .inr (.int, 30, .inl (.int 0), []),
  .inr (.int, 30, .inl (.int 0), []),
  .inr (.int, 30, .inl (.int 0), []),
  .inr (.int, 30, .inl (.int 0), []),
  .inr (.int, 30, .inl (.int 0), []),
  .inl (3, [.inr (.inl 108), .inr (.inl 109), .inr (.inl 110), .inr (.inl 111), .inr (.inl 112), .inr (.inl 113), .inr (.inl 118), .inr (.inl 126), .inl (.int 0), .inl (.int 0), .inl (.int 2), .inl (.int 4), .inl (.int 1), .inl (.int 0)]),
  .inr (.long, 10, .inl (.long 0), []),
  .inr (.int, 10, .inl (.int 0), []),
  .inr (.int, 10, .inl (.int 0), []),
  .inr (.int, 10, .inl (.int 0), []),
  .inr (.int, 10, .inl (.int 0), []),
  .inl (2, [.inr (.inl 114), .inr (.inl 115), .inr (.inl 116), .inr (.inl 117), .inl (.int 0), .inl (.int 0)]),
  .inr (.int, 10, .inl (.int 0), []),
  .inr (.int, 10, .inl (.int 0), []),
  .inr (.int, 10, .inl (.int 0), []),
  .inr (.int, 200, .inl (.int 0), []),
  .inl (0, [.inr (.inl 119), .inr (.inl 120), .inr (.inl 121), .inr (.inl 122), .inr (.inl 123), .inr (.inl 124), .inr (.inl 125), .inl (.int 0), .inl (.int 0), .inl (.int 0)]),
  .inr (.long, 8, .inl (.long 0), []),
  .inr (.int, 8, .inl (.int 0), []),
  .inr (.int, 8, .inl (.int 0), []),
  .inr (.int, 8, .inl (.int 0), []),
  .inr (.int, 8, .inl (.int 0), []),
  .inr (.int, 8, .inl (.int 0), []),
  .inr (.int, 160, .inl (.int 0), []),
  .inl (9, [.inr (.inl 127), .inr (.inl 128), .inr (.inl 129), .inr (.inl 130), .inr (.inl 131), .inr (.inl 132), .inl (.int 0), .inl (.int 0)]),
  .inr (.int, 30, .inl (.int 0), []),
  .inr (.int, 30, .inl (.int 0), []),
  .inr (.int, 30, .inl (.int 0), []),
  .inr (.int, 30, .inl (.int 0), []),
  .inr (.int, 30, .inl (.int 0), []),
  .inr (.int, 30, .inl (.int 0), []),
  .inl (3, [.inr (.inl 134), .inr (.inl 135), .inr (.inl 136), .inr (.inl 137), .inr (.inl 138), .inr (.inl 139), .inr (.inl 144), .inr (.inl 152), .inl (.int 0), .inl (.int 0), .inl (.int 2), .inl (.int 4), .inl (.int 1), .inl (.int 0)]),
  .inr (.long, 10, .inl (.long 0), []),
  .inr (.int, 10, .inl (.int 0), []),
  .inr (.int, 10, .inl (.int 0), []),
  .inr (.int, 10, .inl (.int 0), []),
  .inr (.int, 10, .inl (.int 0), []),
  .inl (2, [.inr (.inl 140), .inr (.inl 141), .inr (.inl 142), .inr (.inl 143), .inl (.int 0), .inl (.int 0)]),
  .inr (.int, 10, .inl (.int 0), []),
  .inr (.int, 10, .inl (.int 0), []),
  .inr (.int, 10, .inl (.int 0), []),
  .inr (.int, 200, .inl (.int 0), []),
  .inl (0, [.inr (.inl 145), .inr (.inl 146), .inr (.inl 147), .inr (.inl 148), .inr (.inl 149), .inr (.inl 150), .inr (.inl 151), .inl (.int 0), .inl (.int 0), .inl (.int 0)]),
  .inr (.long, 8, .inl (.long 0), []),
  .inr (.int, 8, .inl (.int 0), []),
  .inr (.int, 8, .inl (.int 0), []),
  .inr (.int, 8, .inl (.int 0), []),
  .inr (.int, 8, .inl (.int 0), []),
  .inr (.int, 8, .inl (.int 0), []),
  .inr (.int, 160, .inl (.int 0), []),
  .inl (9, [.inr (.inl 153), .inr (.inl 154), .inr (.inl 155), .inr (.inl 156), .inr (.inl 157), .inr (.inl 158), .inl (.int 0), .inl (.int 0)]),
  .inr (.int, 30, .inl (.int 0), []),
  .inr (.int, 30, .inl (.int 0), []),
  .inr (.int, 30, .inl (.int 0), []),
  .inr (.int, 30, .inl (.int 0), []),
  .inr (.int, 30, .inl (.int 0), []),
  .inr (.int, 30, .inl (.int 0), []),
  .inl (3, [.inr (.inl 160), .inr (.inl 161), .inr (.inl 162), .inr (.inl 163), .inr (.inl 164), .inr (.inl 165), .inr (.inl 170), .inr (.inl 178), .inl (.int 0), .inl (.int 0), .inl (.int 2), .inl (.int 4), .inl (.int 1), .inl (.int 0)]),
  .inr (.long, 10, .inl (.long 0), []),
  .inr (.int, 10, .inl (.int 0), []),
  .inr (.int, 10, .inl (.int 0), []),
  .inr (.int, 10, .inl (.int 0), []),
  .inr (.int, 10, .inl (.int 0), []),
  .inl (2, [.inr (.inl 166), .inr (.inl 167), .inr (.inl 168), .inr (.inl 169), .inl (.int 0), .inl (.int 0)]),
  .inr (.int, 10, .inl (.int 0), []),
  .inr (.int, 10, .inl (.int 0), []),
  .inr (.int, 10, .inl (.int 0), []),
  .inr (.int, 200, .inl (.int 0), []),
  .inl (0, [.inr (.inl 171), .inr (.inl 172), .inr (.inl 173), .inr (.inl 174), .inr (.inl 175), .inr (.inl 176), .inr (.inl 177), .inl (.int 0), .inl (.int 0), .inl (.int 0)]),
  .inr (.long, 8, .inl (.long 0), []),
  .inr (.int, 8, .inl (.int 0), []),
  .inr (.int, 8, .inl (.int 0), []),
  .inr (.int, 8, .inl (.int 0), []),
  .inr (.int, 8, .inl (.int 0), []),
  .inr (.int, 8, .inl (.int 0), []),
  .inr (.int, 160, .inl (.int 0), []),
  .inl (9, [.inr (.inl 179), .inr (.inl 180), .inr (.inl 181), .inr (.inl 182), .inr (.inl 183), .inr (.inl 184), .inl (.int 0), .inl (.int 0)]),
  .inr (.int, 30, .inl (.int 0), []),
  .inr (.int, 30, .inl (.int 0), []),
  .inr (.int, 30, .inl (.int 0), []),
  .inr (.int, 30, .inl (.int 0), []),
  .inr (.int, 30, .inl (.int 0), []),
  .inr (.int, 30, .inl (.int 0), []),
  .inl (1, [.inr (.inl 186), .inr (.inl 187), .inl (.int 0)]),
  .inr (.long, 21, .inl (.long 0), []),
  .inr (.long, 21, .inl (.long 0), []),
  .inl (5, [.inr (.inl 68), .inr (.inl 189), .inr (.inl 190), .inl (.int 0), .inl (.int 0), .inl (.int 0), .inl (.int 0), .inl (.int 0), .inl (.int 0), .inl (.int 0), .inl (.int 0)]),
  .inr (.int, 3, .inl (.int 0), []),
  .inr (.int, 3, .inl (.int 0), []),
  .inr (.int, 5, .inl (.int 0), []),
  .inl (3, [.inr (.inl 193), .inr (.inl 194), .inr (.inl 195), .inr (.inl 196), .inr (.inl 197), .inr (.inl 198), .inr (.inl 203), .inr (.inl 211), .inl (.int 0), .inl (.int 0), .inl (.int 2), .inl (.int 4), .inl (.int 1), .inl (.int 0)]),
  .inr (.long, 10, .inl (.long 0), []),
  .inr (.int, 10, .inl (.int 0), []),
  .inr (.int, 10, .inl (.int 0), []),
  .inr (.int, 10, .inl (.int 0), []),
  .inr (.int, 10, .inl (.int 0), []),
  .inl (2, [.inr (.inl 199), .inr (.inl 200), .inr (.inl 201), .inr (.inl 202), .inl (.int 0), .inl (.int 0)]),
  .inr (.int, 10, .inl (.int 0), []),
  .inr (.int, 10, .inl (.int 0), []),
  .inr (.int, 10, .inl (.int 0), []),
  .inr (.int, 200, .inl (.int 0), []),
  .inl (0, [.inr (.inl 204), .inr (.inl 205), .inr (.inl 206), .inr (.inl 207), .inr (.inl 208), .inr (.inl 209), .inr (.inl 210), .inl (.int 0), .inl (.int 0), .inl (.int 0)]),
  .inr (.long, 8, .inl (.long 0), []),
  .inr (.int, 8, .inl (.int 0), []),
  .inr (.int, 8, .inl (.int 0), []),
  .inr (.int, 8, .inl (.int 0), []),
  .inr (.int, 8, .inl (.int 0), []),
  .inr (.int, 8, .inl (.int 0), []),
  .inr (.int, 160, .inl (.int 0), []),
  .inl (9, [.inr (.inl 212), .inr (.inl 213), .inr (.inl 214), .inr (.inl 215), .inr (.inl 216), .inr (.inl 217), .inl (.int 0), .inl (.int 0)]),
  .inr (.int, 30, .inl (.int 0), []),
  .inr (.int, 30, .inl (.int 0), []),
  .inr (.int, 30, .inl (.int 0), []),
  .inr (.int, 30, .inl (.int 0), []),
  .inr (.int, 30, .inl (.int 0), []),
  .inr (.int, 30, .inl (.int 0), []),
  .inl (3, [.inr (.inl 219), .inr (.inl 220), .inr (.inl 221), .inr (.inl 222), .inr (.inl 223), .inr (.inl 224), .inr (.inl 229), .inr (.inl 237), .inl (.int 0), .inl (.int 0), .inl (.int 2), .inl (.int 4), .inl (.int 1), .inl (.int 0)]),
  .inr (.long, 10, .inl (.long 0), []),
  .inr (.int, 10, .inl (.int 0), []),
  .inr (.int, 10, .inl (.int 0), []),
  .inr (.int, 10, .inl (.int 0), []),
  .inr (.int, 10, .inl (.int 0), []),
  .inl (2, [.inr (.inl 225), .inr (.inl 226), .inr (.inl 227), .inr (.inl 228), .inl (.int 0), .inl (.int 0)]),
  .inr (.int, 10, .inl (.int 0), []),
  .inr (.int, 10, .inl (.int 0), []),
  .inr (.int, 10, .inl (.int 0), []),
  .inr (.int, 200, .inl (.int 0), []),
  .inl (0, [.inr (.inl 230), .inr (.inl 231), .inr (.inl 232), .inr (.inl 233), .inr (.inl 234), .inr (.inl 235), .inr (.inl 236), .inl (.int 0), .inl (.int 0), .inl (.int 0)]),
  .inr (.long, 8, .inl (.long 0), []),
  .inr (.int, 8, .inl (.int 0), []),
  .inr (.int, 8, .inl (.int 0), []),
  .inr (.int, 8, .inl (.int 0), []),
  .inr (.int, 8, .inl (.int 0), []),
  .inr (.int, 8, .inl (.int 0), []),
  .inr (.int, 160, .inl (.int 0), []),
  .inl (9, [.inr (.inl 238), .inr (.inl 239), .inr (.inl 240), .inr (.inl 241), .inr (.inl 242), .inr (.inl 243), .inl (.int 0), .inl (.int 0)]),
  .inr (.int, 30, .inl (.int 0), []),
  .inr (.int, 30, .inl (.int 0), []),
  .inr (.int, 30, .inl (.int 0), []),
  .inr (.int, 30, .inl (.int 0), []),
  .inr (.int, 30, .inl (.int 0), []),
  .inr (.int, 30, .inl (.int 0), []),
  .inl (3, [.inr (.inl 245), .inr (.inl 246), .inr (.inl 247), .inr (.inl 248), .inr (.inl 249), .inr (.inl 250), .inr (.inl 255), .inr (.inl 263), .inl (.int 0), .inl (.int 0), .inl (.int 2), .inl (.int 4), .inl (.int 1), .inl (.int 0)]),
  .inr (.long, 10, .inl (.long 0), []),
  .inr (.int, 10, .inl (.int 0), []),
  .inr (.int, 10, .inl (.int 0), []),
  .inr (.int, 10, .inl (.int 0), []),
  .inr (.int, 10, .inl (.int 0), []),
  .inl (2, [.inr (.inl 251), .inr (.inl 252), .inr (.inl 253), .inr (.inl 254), .inl (.int 0), .inl (.int 0)]),
  .inr (.int, 10, .inl (.int 0), []),
  .inr (.int, 10, .inl (.int 0), []),
  .inr (.int, 10, .inl (.int 0), []),
  .inr (.int, 200, .inl (.int 0), []),
  .inl (0, [.inr (.inl 256), .inr (.inl 257), .inr (.inl 258), .inr (.inl 259), .inr (.inl 260), .inr (.inl 261), .inr (.inl 262), .inl (.int 0), .inl (.int 0), .inl (.int 0)]),
  .inr (.long, 8, .inl (.long 0), []),
  .inr (.int, 8, .inl (.int 0), []),
  .inr (.int, 8, .inl (.int 0), []),
  .inr (.int, 8, .inl (.int 0), []),
  .inr (.int, 8, .inl (.int 0), []),
  .inr (.int, 8, .inl (.int 0), []),
  .inr (.int, 160, .inl (.int 0), []),
  .inl (9, [.inr (.inl 264), .inr (.inl 265), .inr (.inl 266), .inr (.inl 267), .inr (.inl 268), .inr (.inl 269), .inl (.int 0), .inl (.int 0)]),
  .inr (.int, 30, .inl (.int 0), []),
  .inr (.int, 30, .inl (.int 0), []),
  .inr (.int, 30, .inl (.int 0), []),
  .inr (.int, 30, .inl (.int 0), []),
  .inr (.int, 30, .inl (.int 0), []),
  .inr (.int, 30, .inl (.int 0), [])]
def gk_X126 : rk_O := (269, 8747, [(none, gk_env 0 6, gk_h126, 269, 8747)])
def gk_h201 : List rk_H := [.inl (12, [.inr (.inl 1), .inr (.inl 2), .inl (.int 0), .inl (.long 0), .inl (.long 1), .inr (.inl 3), .inr (.inl 4), .inr (.inl 5), .inr (.inl 6), .inr (.inl 7), .inl (.int 0), .inl (.int 0), .inl (.int 0), .inl (.int 0), .inl (.int 0), .inl (.int 0), .inl (.int (-1)), .inl (.int (-1)), .inl (.int 0), .inl (.int 0), .inl (.int 0), .inr (.inl 8), .inl (.int 0), .inl (.int 0), .inr (.inl 9), .inl (.int 0), .inr (.inl 10), .inr (.inl 11), .inr (.inl 12), .inr (.inl 13), .inl (.int 0), .inr (.inl 14), .inr (.inl 15), .inr (.inl 16), .inr (.inl 17), .inr (.inl 18), .inl (.int 0), .inl (.int 0), .inr (.inl 19), .inr (.inl 20), .inr (.inl 21), .inl (.int 0), .inl (.int 0)]),
  .inr (.int, 5894, .inl (.int 0), [(6, .inl (.int (-1))), (4, .inl (.int 1)), (3, .inl (.int 4)), (2, .inl (.int 2))]),
  .inr (.long, 108, .inl (.long 0), []),
  .inr (.int, 4, .inl (.int 0), []),
  .inr (.int, 4, .inl (.int 0), [(3, .inl (.int (-1))), (2, .inl (.int (-1))), (1, .inl (.int (-1))), (0, .inl (.int (-1)))]),
  .inr (.long, 240, .inl (.long 0), []),
  .inr (.byte, 900, .inl (.int 0), []),
  .inr (.byte, 900, .inl (.int 0), []),
  .inr (.int, 3, .inl (.int 0), []),
  .inr (.int, 10, .inl (.int 0), []),
  .inr (.int, 4, .inl (.int 0), []),
  .inr (.int, 4, .inl (.int 0), []),
  .inr (.int, 4, .inl (.int 0), []),
  .inr (.int, 4, .inl (.int 0), []),
  .inr (.int, 256, .inl (.int 0), []),
  .inr (.int, 427, .inl (.int 0), []),
  .inr (.int, 10, .inl (.int 0), []),
  .inr (.long, 21, .inl (.long 0), []),
  .inr (.long, 21, .inl (.long 0), []),
  .inr (.int, 80, .inl (.int 0), []),
  .inr (.int, 5, .inl (.int 0), []),
  .inr (.int, 5, .inl (.int 0), [])]
def gk_X201 : rk_O := (21, 8904, [(none, gk_env 0 6, gk_h201, 21, 8904)])
def gk_eq1 (a b : List (Nat × rk_V)) : Bool := decide (a = b)
def gk_eq2 (a b : List rk_V) : Bool := decide (a = b)
def gk_eq3 (a b : List rk_T) : Bool := decide (a = b)
def gk_eqD (a b : rk_D) : Bool := decide (a.1 = b.1) && (decide (a.2.1 = b.2.1) && (decide (a.2.2.1 = b.2.2.1) && gk_eq1 a.2.2.2 b.2.2.2))
def gk_eqH : rk_H → rk_H → Bool
  | .inl a, .inl b => decide (a.1 = b.1) && gk_eq2 a.2 b.2
  | .inr a, .inr b => gk_eqD a b
  | _, _ => false
def gk_eqL : List rk_H → List rk_H → Bool
  | [], [] => true
  | a :: l, b :: k => gk_eqH a b && gk_eqL l k
  | _, _ => false
def gk_eqS (a b : rk_S) : Bool := gk_eq1 a.1 b.1 && (gk_eq2 a.2.1 b.2.1 && (gk_eq3 a.2.2.1 b.2.2.1 && (gk_eqL a.2.2.2.1 b.2.2.2.1 && (decide (a.2.2.2.2.1 = b.2.2.2.2.1) && decide (a.2.2.2.2.2 = b.2.2.2.2.2)))))
theorem gk_eqD_ok {a b : rk_D} (h : gk_eqD a b = true) : a = b := by
  simp only [gk_eqD, gk_eq1, Bool.and_eq_true, decide_eq_true_eq] at h
  exact Prod.ext h.1 (Prod.ext h.2.1 (Prod.ext h.2.2.1 h.2.2.2))
theorem gk_eqH_ok {a b : rk_H} (h : gk_eqH a b = true) : a = b := by
  rcases a with a | a <;> rcases b with b | b
  · simp only [gk_eqH, gk_eq2, Bool.and_eq_true, decide_eq_true_eq] at h
    exact congrArg Sum.inl (Prod.ext h.1 h.2)
  · cases h
  · cases h
  · exact congrArg Sum.inr (gk_eqD_ok h)
theorem gk_eqL_ok : ∀ {a b : List rk_H}, gk_eqL a b = true → a = b := by
  intro a
  induction a with
  | nil => intro b h; cases b with
    | nil => rfl
    | cons y k => cases h
  | cons x l ih => intro b h; cases b with
    | nil => cases h
    | cons y k =>
      simp only [gk_eqL, Bool.and_eq_true] at h
      rw [gk_eqH_ok h.1, ih h.2]
theorem gk_eqS_ok {a b : rk_S} (h : gk_eqS a b = true) : a = b := by
  simp only [gk_eqS, gk_eq1, gk_eq2, gk_eq3, Bool.and_eq_true, decide_eq_true_eq] at h
  exact Prod.ext h.1 (Prod.ext h.2.1 (Prod.ext h.2.2.1 (Prod.ext (gk_eqL_ok h.2.2.2.1) (Prod.ext h.2.2.2.2.1 h.2.2.2.2.2))))
def gk_stop (at_ : Nat) (S : rk_S) : rk_Ext := fun pc ins st => if pc = at_ then (if gk_eqS st S = true then some [] else none) else rk_lawx pc ins st
def gk_eqX (a b : rk_X) : Bool := decide (a.1 = b.1) && (gk_eq3 a.2.1 b.2.1 && (gk_eqL a.2.2.1 b.2.2.1 && (decide (a.2.2.2.1 = b.2.2.2.1) && decide (a.2.2.2.2 = b.2.2.2.2))))
def gk_eqO (a : Option rk_O) (b : rk_O) : Bool := match a, b with
  | some (c, n, [x]), (c', n', [y]) => decide (c = c') && (decide (n = n') && gk_eqX x y)
  | _, _ => false
theorem gk_eqX_ok {a b : rk_X} (h : gk_eqX a b = true) : a = b := by
  simp only [gk_eqX, gk_eq3, Bool.and_eq_true, decide_eq_true_eq] at h
  exact Prod.ext h.1 (Prod.ext h.2.1 (Prod.ext (gk_eqL_ok h.2.2.1) (Prod.ext h.2.2.2.1 h.2.2.2.2)))
theorem gk_eqO_ok {a : Option rk_O} {b : rk_O} (h : gk_eqO a b = true) : a = some b := by
  unfold gk_eqO at h
  split at h
  · simp only [Bool.and_eq_true, decide_eq_true_eq] at h
    rw [h.1, h.2.1, gk_eqX_ok h.2.2]
  · cases h
def gk_newc (ci : Nat) : rk_H := .inl (ci, (gk_fty.getD ci []).map (fun t => .inl (defaultValue t.1)))
def gk_good1 (o : Option rk_O) : Bool := match o with
  | some o => decide (o.1 ≤ 600000) && (decide (o.2.1 ≤ 7302250) && o.2.2.all (fun x => decide (x.1 = some (.inl (.int 1)))))
  | none => false
def gk_call : Nat → List rk_V → List rk_T → List rk_H → Option rk_O := rk_run gk_P gk_fty gk_cln gk_mci gk_sum 30000 40
def gk_ctor (F ci : Nat) (X : rk_O) (f : Nat) (as : List rk_V) (env : List rk_T) (hp : List rk_H) : Option rk_O := if f = F ∧ gk_eq2 as [.inr (.inl 0)] = true ∧ gk_eq3 env (gk_env 0 6) = true ∧ gk_eqL hp [gk_newc ci] = true then some X else none
def gk_call2 (f : Nat) (as : List rk_V) (env : List rk_T) (hp : List rk_H) : Option rk_O := match as with
  | .inr (.inl j) :: _ => if f = 126 then gk_ctor 126 11 gk_X126 f as env hp else if f = 201 then rk_suf (gk_ctor 201 12 gk_X201) 270 f as env hp else if j = 270 then rk_suf gk_call 270 f as env hp else rk_pfx gk_call 270 f as env hp
  | _ => none
def gk_go (ext : rk_Ext) (l : List (Nat × Instr × Nat)) (q : Nat × rk_S) : Bool := gk_good1 (rk_loop gk_fty gk_cln gk_mci gk_call2 ext (gk_lM l) 30000 q)
def gk_q0 (lo hi : Int) : Nat × rk_S := (0, ([(0, .inr (.inr (.inl 6)))], [], gk_env lo hi, [], 0, 0))
def gk_cutS (v : Nat) (n1 n2 b1 b2 : Int) : rk_S := match (rk_cut (gk_S v).2.2.1 (.inr (.inr (.inl 1))) n1 n2).bind (fun e => rk_cut e (.inr (.inr (.inl 2))) b1 b2) with
  | some e => ((gk_S v).1, (gk_S v).2.1, e, (gk_S v).2.2.2)
  | none => gk_S v
