def X10_mid (a1 : Int32) (h : Hp) : Option (Int32 × Hp) :=
  if (X10_in a1 (0 : Int32) (12 : Int32)) = (0 : Int32) then (some ((-1 : Int32), h))
  else (if (h.1 51 2) = (0 : Int32) then (some ((-4 : Int32), h))
  else (ob2 (X10_weighed (-9 : Int32) a1 h) fun r5 h4 =>
  ob (X10_twelves h4) fun r6 =>
  ob (X10_tellPart r5 r6 h4) fun h9 =>
  some ((1 : Int32), h9)))
set_option maxHeartbeats 4000000 in
set_option maxRecDepth 100000 in
theorem w_X10_mid {x : Cx} {d : Nat} (K : Ok x cX10_mid RX10 2 (some .int) (d + 4)) (a1 : Int32) (h : Hp)  {z : Int32 × Hp} (E : X10_mid a1 h = some z) (T : x.2.2.2.2 = (some (.int (z.1)), z.2)) : VV x 0 [(0, .ref (ad x 51)), (1, .int a1)] [] h := by
  unfold X10_mid at E
  refine V_iload_n K 1 dX10_mid_0 rfl ?_
  refine V_ic (v := 0) K dX10_mid_1 rfl ?_
  refine V_bp (v := 12) K dX10_mid_2 rfl ?_
  refine iv_X10_63 K (c_X10_in _ a1 (0 : Int32) (12 : Int32) h) dX10_mid_4 (Nat.le_of_ble_eq_true rfl) ?_
  rcases if_inv E with ⟨c1, E⟩ | ⟨c1, E⟩
  · refine V_if_ne_f K 12 dX10_mid_7 (by decide) c1 ?_
    refine V_ic (v := -1) K dX10_mid_10 rfl ?_
    cases E
    exact V_iret K dX10_mid_11 rfl T
  · refine V_if_ne_t K 12 dX10_mid_7 (by decide) c1 ?_
    refine V_aload_n K 0 dX10_mid_12 rfl ?_
    refine gf_X10_120 K dX10_mid_13 ?_
    rcases if_inv E with ⟨c2, E⟩ | ⟨c2, E⟩
    · refine V_if_ne_f K 22 dX10_mid_16 (by decide) c2 ?_
      refine V_bp (v := -4) K dX10_mid_19 rfl ?_
      cases E
      exact V_iret K dX10_mid_21 rfl T
    · refine V_if_ne_t K 22 dX10_mid_16 (by decide) c2 ?_
      refine V_aload_n K 0 dX10_mid_22 rfl ?_
      refine V_aload_n K 0 dX10_mid_23 rfl ?_
      refine V_bp (v := -9) K dX10_mid_24 rfl ?_
      refine V_iload_n K 1 dX10_mid_26 rfl ?_
      obtain ⟨r5, h4, q3, E⟩ := ob2_inv E
      refine iv_X10_216 K (c_X10_weighed _ (-9 : Int32) a1 h q3) dX10_mid_27 (Nat.le_of_ble_eq_true rfl) ?_
      refine V_aload_n K 0 dX10_mid_30 rfl ?_
      obtain ⟨r6, q7, E⟩ := ob_inv E
      refine iv_X10_220 K (c_X10_twelves _ h4 q7) dX10_mid_31 (Nat.le_of_ble_eq_true rfl) ?_
      obtain ⟨h9, q8, E⟩ := ob_inv E
      refine iv_X10_224 K (c_X10_tellPart _ r5 r6 h4 q8) dX10_mid_34 (Nat.le_of_ble_eq_true rfl) ?_
      refine V_ic (v := 1) K dX10_mid_37 rfl ?_
      cases E
      exact V_iret K dX10_mid_38 rfl T
theorem c_X10_mid (d : Nat) (a1 : Int32) (h : Hp)  {r : Int32} {h' : Hp} (E : X10_mid a1 h = some (r, h')) : Runs (d + 4) yX10_mid cX10_mid 2 (some .int) (fun f => [.ref (f 51), .int a1]) h (fun _ => some (.int r)) h' :=
  Runs.of (by decide +kernel) (fun _ => Nat.le_of_ble_eq_true rfl) (fun x K T => w_X10_mid K  a1 h  E T)
def X10_sizesOf_s5 (x1 : Int32) (x2 : Int32) (y3 : Int32) (y4 : Int32) (h : Hp) : Option ((Int32 × Int32 × Hp) ⊕ (Int32 × Int32 × Hp)) :=
  if (30 : Int32) < y4 then (some (.inl (y3, y4, h)))
  else (ob (X10_laySize y4 h) fun h3 =>
  gd (ib x1 6) (
  ob2 (X10_isSo x1 x2 (h3.1 53 (ix x1)) h3) fun r7 h6 =>
  ob (if r7 = (0 : Int32) then (some (0 : Int32))
  else (some ((1 : Int32) <<< (y4 &&& 31)))) fun v8 =>
  lt_ (y3 ||| v8) fun v10 =>
  lt_ (y4 + (1 : Int32)) fun v12 =>
  some (.inr (v10, v12, h6))))
set_option maxHeartbeats 4000000 in
set_option maxRecDepth 100000 in
theorem wl_X10_sizesOf_s5 {x : Cx} {d : Nat} (K : Ok x cX10_sizesOf RX10 5 (some .int) (d + 4)) (x1 : Int32) (x2 : Int32)  : ∀ (n : Nat) (s : Int32 × Int32 × Hp) (r : (Int32 × Int32 × Hp)), lp (fun s : Int32 × Int32 × Hp => X10_sizesOf_s5 x1 x2 s.1 s.2.1 s.2.2) n s = some r → (fun r : (Int32 × Int32 × Hp) => VV x 50 [(0, .ref (ad x 51)), (1, .int x1), (2, .int x2), (3, .int (r.1)), (4, .int (r.2.1))] [] r.2.2) r → (fun s : Int32 × Int32 × Hp => VV x 5 [(0, .ref (ad x 51)), (1, .int x1), (2, .int x2), (3, .int (s.1)), (4, .int (s.2.1))] [] s.2.2) s := by
  refine lp_walk ?_
  intro s z E T
  obtain ⟨y3, y4, h⟩ := s
  replace E : X10_sizesOf_s5 x1 x2 y3 y4 h = some z := E
  unfold X10_sizesOf_s5 at E
  show VV x 5 [(0, .ref (ad x 51)), (1, .int x1), (2, .int x2), (3, .int y3), (4, .int y4)] [] h
  refine V_iload K 4 dX10_sizesOf_5 rfl ?_
  refine V_bp (v := 30) K dX10_sizesOf_7 rfl ?_
  rcases if_inv E with ⟨c1, E⟩ | ⟨c1, E⟩
  · refine V_ic_gt_t K 50 dX10_sizesOf_9 (by decide) c1 ?_
    cases E
    exact V_sub [0, 1, 2, 3, 4] rfl T
  · refine V_ic_gt_f K 50 dX10_sizesOf_9 (by decide) c1 ?_
    refine V_aload_n K 0 dX10_sizesOf_12 rfl ?_
    refine V_iload K 4 dX10_sizesOf_13 rfl ?_
    obtain ⟨h3, q2, E⟩ := ob_inv E
    refine iv_X10_190 K (c_X10_laySize _ y4 h q2) dX10_sizesOf_15 (Nat.le_of_ble_eq_true rfl) ?_
    refine V_iload_n K 3 dX10_sizesOf_18 rfl ?_
    refine V_aload_n K 0 dX10_sizesOf_19 rfl ?_
    refine V_iload_n K 1 dX10_sizesOf_20 rfl ?_
    refine V_iload_n K 2 dX10_sizesOf_21 rfl ?_
    refine V_aload_n K 0 dX10_sizesOf_22 rfl ?_
    refine gf_X10_13 K dX10_sizesOf_23 ?_
    refine V_iload_n K 1 dX10_sizesOf_26 rfl ?_
    obtain ⟨g4, E⟩ := gd_inv E
    refine V_iald K k_53 n_53 g4 dX10_sizesOf_27 ?_
    obtain ⟨r7, h6, q5, E⟩ := ob2_inv E
    refine iv_X10_193 K (c_X10_isSo _ x1 x2 (h3.1 53 (ix x1)) h3 q5) dX10_sizesOf_28 (Nat.le_of_ble_eq_true rfl) ?_
    obtain ⟨v8, q14, E⟩ := ob_inv E
    have T9 : VV x 42 [(0, .ref (ad x 51)), (1, .int x1), (2, .int x2), (4, .int y4)] [.int v8, .int y3] h6 := by
      refine V_ior K dX10_sizesOf_42 ?_
      obtain ⟨v10, e11, E⟩ := lt_inv E
      refine V_top e11 ?_
      refine V_istore_n (lv' := [(3, .int v10), (0, .ref (ad x 51)), (1, .int x1), (2, .int x2), (4, .int y4)]) K dX10_sizesOf_43 (by decide) rfl ?_
      obtain ⟨v12, e13, E⟩ := lt_inv E
      refine V_iinc (lv' := [(4, .int v12), (3, .int v10), (0, .ref (ad x 51)), (1, .int x1), (2, .int x2)]) K 4 dX10_sizesOf_44 rfl (by rw [e13]; rfl) (by decide) rfl ?_
      refine V_goto K 5 dX10_sizesOf_47 (by decide) ?_
      cases E
      exact V_sub [2, 3, 4, 1, 0] rfl T
    have E := q14
    have T := T9
    rcases if_inv E with ⟨c9, E⟩ | ⟨c9, E⟩
    · refine V_if_eq_t K 41 dX10_sizesOf_31 (by decide) c9 ?_
      refine V_ic (v := 0) K dX10_sizesOf_41 rfl ?_
      cases E
      exact V_sub [0, 1, 2, 4] rfl T
    · refine V_if_eq_f K 41 dX10_sizesOf_31 (by decide) c9 ?_
      refine V_ic (v := 1) K dX10_sizesOf_34 rfl ?_
      refine V_iload K 4 dX10_sizesOf_35 rfl ?_
      refine V_ishl K dX10_sizesOf_37 ?_
      refine V_goto K 42 dX10_sizesOf_38 (by decide) ?_
      cases E
      exact V_sub [0, 1, 2, 4] rfl T
def X10_sizesOf (a1 : Int32) (a2 : Int32) (h : Hp) : Option (Int32 × Hp) :=
  ob3 (lp (fun s : Int32 × Int32 × Hp => X10_sizesOf_s5 a1 a2 s.1 s.2.1 s.2.2) FU ((0 : Int32), (0 : Int32), h)) fun v15 v16 h17 =>
  some (v15, h17)
set_option maxHeartbeats 4000000 in
set_option maxRecDepth 100000 in
theorem w_X10_sizesOf {x : Cx} {d : Nat} (K : Ok x cX10_sizesOf RX10 5 (some .int) (d + 4)) (a1 : Int32) (a2 : Int32) (h : Hp)  {z : Int32 × Hp} (E : X10_sizesOf a1 a2 h = some z) (T : x.2.2.2.2 = (some (.int (z.1)), z.2)) : VV x 0 [(0, .ref (ad x 51)), (1, .int a1), (2, .int a2)] [] h := by
  unfold X10_sizesOf at E
  refine V_ic (v := 0) K dX10_sizesOf_0 rfl ?_
  refine V_istore_n (lv' := [(3, .int (0 : Int32)), (0, .ref (ad x 51)), (1, .int a1), (2, .int a2)]) K dX10_sizesOf_1 (by decide) rfl ?_
  refine V_ic (v := 0) K dX10_sizesOf_2 rfl ?_
  refine V_istore (lv' := [(4, .int (0 : Int32)), (3, .int (0 : Int32)), (0, .ref (ad x 51)), (1, .int a1), (2, .int a2)]) K dX10_sizesOf_3 (by decide) rfl ?_
  obtain ⟨v15, v16, h17, q18, E⟩ := ob3_inv E
  refine V_sub [2, 3, 4, 1, 0] rfl (wl_X10_sizesOf_s5 K a1 a2  _ _ _ q18 ?_)
  show VV x 50 [(0, .ref (ad x 51)), (1, .int a1), (2, .int a2), (3, .int v15), (4, .int v16)] [] h17
  refine V_iload_n K 3 dX10_sizesOf_50 rfl ?_
  cases E
  exact V_iret K dX10_sizesOf_51 rfl T
theorem c_X10_sizesOf (d : Nat) (a1 : Int32) (a2 : Int32) (h : Hp)  {r : Int32} {h' : Hp} (E : X10_sizesOf a1 a2 h = some (r, h')) : Runs (d + 4) yX10_sizesOf cX10_sizesOf 5 (some .int) (fun f => [.ref (f 51), .int a1, .int a2]) h (fun _ => some (.int r)) h' :=
  Runs.of (by decide +kernel) (fun _ => Nat.le_of_ble_eq_true rfl) (fun x K T => w_X10_sizesOf K  a1 a2 h  E T)
def X10_next_s60 (x2 : Int32) (x3 : Int32) (y4 : Int32) (y5 : Int32) (y6 : Int32) (h : Hp) : Option ((Int32 × Int32 × Int32 × Hp) ⊕ (Int32 × Int32 × Int32 × Hp)) :=
  if (h.1 51 2) ≤ y6 then (some (.inl (y4, y5, y6, h)))
  else (gd (ib x2 6) (
  ob2 (X10_greatestPart x3 y6 (h.1 56 (ix x2)) h) fun r14 h13 =>
  ob (if y5 ≤ r14 then (some y4)
  else (some y6)) fun v15 =>
  ob (if y5 ≤ r14 then (some y5)
  else (some r14)) fun v17 =>
  lt_ (y6 + (1 : Int32)) fun v19 =>
  some (.inr (v15, v17, v19, h13))))
set_option maxHeartbeats 4000000 in
set_option maxRecDepth 100000 in
theorem wl_X10_next_s60 {x : Cx} {d : Nat} (K : Ok x cX10_next RX10 8 (some .int) (d + 5)) (x2 : Int32) (x3 : Int32)  : ∀ (n : Nat) (s : Int32 × Int32 × Int32 × Hp) (r : (Int32 × Int32 × Int32 × Hp)), lp (fun s : Int32 × Int32 × Int32 × Hp => X10_next_s60 x2 x3 s.1 s.2.1 s.2.2.1 s.2.2.2) n s = some r → (fun r : (Int32 × Int32 × Int32 × Hp) => VV x 122 [(0, .ref (ad x 51)), (2, .int x2), (3, .int x3), (4, .int (r.1)), (5, .int (r.2.1)), (6, .int (r.2.2.1))] [] r.2.2.2) r → (fun s : Int32 × Int32 × Int32 × Hp => VV x 60 [(0, .ref (ad x 51)), (2, .int x2), (3, .int x3), (4, .int (s.1)), (5, .int (s.2.1)), (6, .int (s.2.2.1))] [] s.2.2.2) s := by
  refine lp_walk ?_
  intro s z E T
  obtain ⟨y4, y5, y6, h⟩ := s
  replace E : X10_next_s60 x2 x3 y4 y5 y6 h = some z := E
  unfold X10_next_s60 at E
  show VV x 60 [(0, .ref (ad x 51)), (2, .int x2), (3, .int x3), (4, .int y4), (5, .int y5), (6, .int y6)] [] h
  refine V_iload K 5 dX10_next_60 rfl ?_
  refine V_aload_n K 0 dX10_next_62 rfl ?_
  refine gf_X10_120 K dX10_next_63 ?_
  rcases if_inv E with ⟨c10, E⟩ | ⟨c10, E⟩
  · refine V_ic_ge_t K 122 dX10_next_66 (by decide) c10 ?_
    cases E
    exact V_sub [0, 1, 2, 3, 4, 5] rfl T
  · refine V_ic_ge_f K 122 dX10_next_66 (by decide) c10 ?_
    refine V_aload_n K 0 dX10_next_69 rfl ?_
    refine V_iload_n K 2 dX10_next_70 rfl ?_
    refine V_iload K 5 dX10_next_71 rfl ?_
    refine V_aload_n K 0 dX10_next_73 rfl ?_
    refine gf_X10_22 K dX10_next_74 ?_
    refine V_iload_n K 1 dX10_next_77 rfl ?_
    obtain ⟨g11, E⟩ := gd_inv E
    refine V_iald K k_56 n_56 g11 dX10_next_78 ?_
    obtain ⟨r14, h13, q12, E⟩ := ob2_inv E
    refine iv_X10_202 K (c_X10_greatestPart _ x3 y6 (h.1 56 (ix x2)) h q12) dX10_next_79 (Nat.le_of_ble_eq_true rfl) ?_
    refine V_istore (lv' := [(7, .int r14), (0, .ref (ad x 51)), (2, .int x2), (3, .int x3), (4, .int y4), (5, .int y5), (6, .int y6)]) K dX10_next_82 (by decide) rfl ?_
    refine V_iload K 0 dX10_next_84 rfl ?_
    refine V_iload K 5 dX10_next_86 rfl ?_
    obtain ⟨v15, q22, E⟩ := ob_inv E
    have T9 : VV x 98 [(0, .ref (ad x 51)), (2, .int x2), (3, .int x3), (5, .int y5), (6, .int y6), (7, .int r14)] [.int v15] h13 := by
      refine V_istore (lv' := [(4, .int v15), (0, .ref (ad x 51)), (2, .int x2), (3, .int x3), (5, .int y5), (6, .int y6), (7, .int r14)]) K dX10_next_98 (by decide) rfl ?_
      refine V_iload K 6 dX10_next_100 rfl ?_
      refine V_iload K 4 dX10_next_102 rfl ?_
      obtain ⟨v17, q21, E⟩ := ob_inv E
      have T9 : VV x 114 [(0, .ref (ad x 51)), (2, .int x2), (3, .int x3), (4, .int v15), (6, .int y6)] [.int v17] h13 := by
        refine V_istore (lv' := [(5, .int v17), (0, .ref (ad x 51)), (2, .int x2), (3, .int x3), (4, .int v15), (6, .int y6)]) K dX10_next_114 (by decide) rfl ?_
        obtain ⟨v19, e20, E⟩ := lt_inv E
        refine V_iinc (lv' := [(6, .int v19), (5, .int v17), (0, .ref (ad x 51)), (2, .int x2), (3, .int x3), (4, .int v15)]) K 5 dX10_next_116 rfl (by rw [e20]; rfl) (by decide) rfl ?_
        refine V_goto K 60 dX10_next_119 (by decide) ?_
        cases E
        exact V_sub [2, 3, 4, 5, 1, 0] rfl T
      have E := q21
      have T := T9
      rcases if_inv E with ⟨c18, E⟩ | ⟨c18, E⟩
      · refine V_ic_ge_t K 112 dX10_next_104 (by decide) c18 ?_
        refine V_iload K 4 dX10_next_112 rfl ?_
        cases E
        exact V_sub [1, 2, 3, 0, 5] rfl T
      · refine V_ic_ge_f K 112 dX10_next_104 (by decide) c18 ?_
        refine V_iload K 6 dX10_next_107 rfl ?_
        refine V_goto K 114 dX10_next_109 (by decide) ?_
        cases E
        exact V_sub [1, 2, 3, 0, 5] rfl T
    have E := q22
    have T := T9
    rcases if_inv E with ⟨c16, E⟩ | ⟨c16, E⟩
    · refine V_ic_ge_t K 96 dX10_next_88 (by decide) c16 ?_
      refine V_iload K 4 dX10_next_96 rfl ?_
      cases E
      exact V_sub [1, 2, 3, 5, 6, 0] rfl T
    · refine V_ic_ge_f K 96 dX10_next_88 (by decide) c16 ?_
      refine V_iload K 6 dX10_next_91 rfl ?_
      refine V_goto K 98 dX10_next_93 (by decide) ?_
      cases E
      exact V_sub [1, 2, 3, 5, 6, 0] rfl T
def X10_next (a1 : Int32) (a2 : Int32) (h : Hp) : Option (Int32 × Hp) :=
  if (X10_isOne a1 h) = (0 : Int32) then (some ((-1 : Int32), h))
  else (if (X10_isRow a2) = (0 : Int32) then (some ((-1 : Int32), h))
  else (ob (X10_wrongRow a2 h) fun r3 =>
  if r3 ≤ (0 : Int32) then (ob2 (X10_sizesOf a1 a2 h) fun r8 h7 =>
  if r8 = (0 : Int32) then (some ((-9 : Int32), h7))
  else (ob4 (lp (fun s : Int32 × Int32 × Int32 × Hp => X10_next_s60 a2 r8 s.1 s.2.1 s.2.2.1 s.2.2.2) FU ((-9 : Int32), (99 : Int32), (0 : Int32), h7)) fun v23 v24 v25 h26 =>
  lt_ (up h26 51 13 v24) fun h27 =>
  some (v23, h27)))
  else (ob (X10_wrongRow a2 h) fun r30 =>
  ob2 (X10_find r30 h) fun r34 h33 =>
  some (r34, h33))))
set_option maxHeartbeats 4000000 in
set_option maxRecDepth 100000 in
theorem w_X10_next {x : Cx} {d : Nat} (K : Ok x cX10_next RX10 8 (some .int) (d + 5)) (a1 : Int32) (a2 : Int32) (h : Hp)  {z : Int32 × Hp} (E : X10_next a1 a2 h = some z) (T : x.2.2.2.2 = (some (.int (z.1)), z.2)) : VV x 0 [(0, .ref (ad x 51)), (1, .int a1), (2, .int a2)] [] h := by
  unfold X10_next at E
  refine V_aload_n K 0 dX10_next_0 rfl ?_
  refine V_iload_n K 1 dX10_next_1 rfl ?_
  refine iv_X10_152 K (c_X10_isOne _ a1 h) dX10_next_2 (Nat.le_of_ble_eq_true rfl) ?_
  rcases if_inv E with ⟨c1, E⟩ | ⟨c1, E⟩
  · refine V_if_eq_t K 15 dX10_next_5 (by decide) c1 ?_
    refine V_ic (v := -1) K dX10_next_15 rfl ?_
    cases E
    exact V_iret K dX10_next_16 rfl T
  · refine V_if_eq_f K 15 dX10_next_5 (by decide) c1 ?_
    refine V_iload_n K 2 dX10_next_8 rfl ?_
    refine iv_X10_67 K (c_X10_isRow _ a2 h) dX10_next_9 (Nat.le_of_ble_eq_true rfl) ?_
    rcases if_inv E with ⟨c2, E⟩ | ⟨c2, E⟩
    · refine V_if_ne_f K 17 dX10_next_12 (by decide) c2 ?_
      refine V_ic (v := -1) K dX10_next_15 rfl ?_
      cases E
      exact V_iret K dX10_next_16 rfl T
    · refine V_if_ne_t K 17 dX10_next_12 (by decide) c2 ?_
      refine V_aload_n K 0 dX10_next_17 rfl ?_
      refine V_iload_n K 2 dX10_next_18 rfl ?_
      obtain ⟨r3, q4, E⟩ := ob_inv E
      refine iv_X10_196 K (c_X10_wrongRow _ a2 h q4) dX10_next_19 (Nat.le_of_ble_eq_true rfl) ?_
      rcases if_inv E with ⟨c5, E⟩ | ⟨c5, E⟩
      · refine V_if_le_t K 35 dX10_next_22 (by decide) c5 ?_
        refine V_aload_n K 0 dX10_next_35 rfl ?_
        refine V_iload_n K 1 dX10_next_36 rfl ?_
        refine V_iload_n K 2 dX10_next_37 rfl ?_
        obtain ⟨r8, h7, q6, E⟩ := ob2_inv E
        refine iv_X10_199 K (c_X10_sizesOf _ a1 a2 h q6) dX10_next_38 (Nat.le_of_ble_eq_true rfl) ?_
        refine V_istore_n (lv' := [(3, .int r8), (0, .ref (ad x 51)), (1, .int a1), (2, .int a2)]) K dX10_next_41 (by decide) rfl ?_
        refine V_iload_n K 0 dX10_next_42 rfl ?_
        rcases if_inv E with ⟨c9, E⟩ | ⟨c9, E⟩
        · refine V_if_ne_f K 49 dX10_next_43 (by decide) c9 ?_
          refine V_bp (v := -9) K dX10_next_46 rfl ?_
          cases E
          exact V_iret K dX10_next_48 rfl T
        · refine V_if_ne_t K 49 dX10_next_43 (by decide) c9 ?_
          refine V_bp (v := -9) K dX10_next_49 rfl ?_
          refine V_istore (lv' := [(4, .int (-9 : Int32)), (3, .int r8), (0, .ref (ad x 51)), (1, .int a1), (2, .int a2)]) K dX10_next_51 (by decide) rfl ?_
          refine V_bp (v := 99) K dX10_next_53 rfl ?_
          refine V_istore (lv' := [(5, .int (99 : Int32)), (4, .int (-9 : Int32)), (3, .int r8), (0, .ref (ad x 51)), (1, .int a1), (2, .int a2)]) K dX10_next_55 (by decide) rfl ?_
          refine V_ic (v := 0) K dX10_next_57 rfl ?_
          refine V_istore (lv' := [(6, .int (0 : Int32)), (5, .int (99 : Int32)), (4, .int (-9 : Int32)), (3, .int r8), (0, .ref (ad x 51)), (1, .int a1), (2, .int a2)]) K dX10_next_58 (by decide) rfl ?_
          obtain ⟨v23, v24, v25, h26, q29, E⟩ := ob4_inv E
          refine V_sub [4, 6, 3, 2, 1, 0] rfl (wl_X10_next_s60 K a2 r8  _ _ _ q29 ?_)
          show VV x 122 [(0, .ref (ad x 51)), (2, .int a2), (3, .int r8), (4, .int v23), (5, .int v24), (6, .int v25)] [] h26
          refine V_aload_n K 0 dX10_next_122 rfl ?_
          refine V_iload K 4 dX10_next_123 rfl ?_
          obtain ⟨h27, e28, E⟩ := lt_inv E
          refine pf_X10_60 K dX10_next_125 ?_
          refine V_hp e28 ?_
          refine V_iload K 3 dX10_next_128 rfl ?_
          cases E
          exact V_iret K dX10_next_130 rfl T
      · refine V_if_le_f K 35 dX10_next_22 (by decide) c5 ?_
        refine V_aload_n K 0 dX10_next_25 rfl ?_
        refine V_aload_n K 0 dX10_next_26 rfl ?_
        refine V_iload_n K 2 dX10_next_27 rfl ?_
        obtain ⟨r30, q31, E⟩ := ob_inv E
        refine iv_X10_196 K (c_X10_wrongRow _ a2 h q31) dX10_next_28 (Nat.le_of_ble_eq_true rfl) ?_
        obtain ⟨r34, h33, q32, E⟩ := ob2_inv E
        refine iv_X10_71 K (c_X10_find _ r30 h q32) dX10_next_31 (Nat.le_of_ble_eq_true rfl) ?_
        cases E
        exact V_iret K dX10_next_34 rfl T
theorem c_X10_next (d : Nat) (a1 : Int32) (a2 : Int32) (h : Hp)  {r : Int32} {h' : Hp} (E : X10_next a1 a2 h = some (r, h')) : Runs (d + 5) yX10_next cX10_next 8 (some .int) (fun f => [.ref (f 51), .int a1, .int a2]) h (fun _ => some (.int r)) h' :=
  Runs.of (by decide +kernel) (fun _ => Nat.le_of_ble_eq_true rfl) (fun x K T => w_X10_next K  a1 a2 h  E T)
def X10_odds (a1 : Int32) (a2 : Int32) (h : Hp) : Option (Int32 × Hp) :=
  if (X10_isOne a1 h) = (0 : Int32) then (some ((-1 : Int32), h))
  else (if (X10_in a2 (0 : Int32) (12 : Int32)) = (0 : Int32) then (some ((-1 : Int32), h))
  else (ob2 (X10_weighed a1 a2 h) fun r5 h4 =>
  ob (X10_twelves h4) fun r6 =>
  ob (X10_tellPart r5 r6 h4) fun h9 =>
  some ((1 : Int32), h9)))
set_option maxHeartbeats 4000000 in
set_option maxRecDepth 100000 in
theorem w_X10_odds {x : Cx} {d : Nat} (K : Ok x cX10_odds RX10 3 (some .int) (d + 4)) (a1 : Int32) (a2 : Int32) (h : Hp)  {z : Int32 × Hp} (E : X10_odds a1 a2 h = some z) (T : x.2.2.2.2 = (some (.int (z.1)), z.2)) : VV x 0 [(0, .ref (ad x 51)), (1, .int a1), (2, .int a2)] [] h := by
  unfold X10_odds at E
  refine V_aload_n K 0 dX10_odds_0 rfl ?_
  refine V_iload_n K 1 dX10_odds_1 rfl ?_
  refine iv_X10_152 K (c_X10_isOne _ a1 h) dX10_odds_2 (Nat.le_of_ble_eq_true rfl) ?_
  rcases if_inv E with ⟨c1, E⟩ | ⟨c1, E⟩
  · refine V_if_eq_t K 18 dX10_odds_5 (by decide) c1 ?_
    refine V_ic (v := -1) K dX10_odds_18 rfl ?_
    cases E
    exact V_iret K dX10_odds_19 rfl T
  · refine V_if_eq_f K 18 dX10_odds_5 (by decide) c1 ?_
    refine V_iload_n K 2 dX10_odds_8 rfl ?_
    refine V_ic (v := 0) K dX10_odds_9 rfl ?_
    refine V_bp (v := 12) K dX10_odds_10 rfl ?_
    refine iv_X10_63 K (c_X10_in _ a2 (0 : Int32) (12 : Int32) h) dX10_odds_12 (Nat.le_of_ble_eq_true rfl) ?_
    rcases if_inv E with ⟨c2, E⟩ | ⟨c2, E⟩
    · refine V_if_ne_f K 20 dX10_odds_15 (by decide) c2 ?_
      refine V_ic (v := -1) K dX10_odds_18 rfl ?_
      cases E
      exact V_iret K dX10_odds_19 rfl T
    · refine V_if_ne_t K 20 dX10_odds_15 (by decide) c2 ?_
      refine V_aload_n K 0 dX10_odds_20 rfl ?_
      refine V_aload_n K 0 dX10_odds_21 rfl ?_
      refine V_iload_n K 1 dX10_odds_22 rfl ?_
      refine V_iload_n K 2 dX10_odds_23 rfl ?_
      obtain ⟨r5, h4, q3, E⟩ := ob2_inv E
      refine iv_X10_216 K (c_X10_weighed _ a1 a2 h q3) dX10_odds_24 (Nat.le_of_ble_eq_true rfl) ?_
      refine V_aload_n K 0 dX10_odds_27 rfl ?_
      obtain ⟨r6, q7, E⟩ := ob_inv E
      refine iv_X10_220 K (c_X10_twelves _ h4 q7) dX10_odds_28 (Nat.le_of_ble_eq_true rfl) ?_
      obtain ⟨h9, q8, E⟩ := ob_inv E
      refine iv_X10_224 K (c_X10_tellPart _ r5 r6 h4 q8) dX10_odds_31 (Nat.le_of_ble_eq_true rfl) ?_
      refine V_ic (v := 1) K dX10_odds_34 rfl ?_
      cases E
      exact V_iret K dX10_odds_35 rfl T
theorem c_X10_odds (d : Nat) (a1 : Int32) (a2 : Int32) (h : Hp)  {r : Int32} {h' : Hp} (E : X10_odds a1 a2 h = some (r, h')) : Runs (d + 4) yX10_odds cX10_odds 3 (some .int) (fun f => [.ref (f 51), .int a1, .int a2]) h (fun _ => some (.int r)) h' :=
  Runs.of (by decide +kernel) (fun _ => Nat.le_of_ble_eq_true rfl) (fun x K T => w_X10_odds K  a1 a2 h  E T)
def X10_on_s30 (x1 : Int32) (y2 : Int32) (h : Hp) : Option ((Int32 × Hp) ⊕ (Int32 × Hp)) :=
  if (697 : Int32) ≤ y2 then (some (.inl (y2, h)))
  else (gd (ib (((697 : Int32) * (x1 + (1 : Int32))) + y2) 2805) (
  gd (ib y2 2805) (
  lt_ (up h 52 (ix y2) (h.1 52 (ix (((697 : Int32) * (x1 + (1 : Int32))) + y2)))) fun h10 =>
  lt_ (y2 + (1 : Int32)) fun v12 =>
  some (.inr (v12, h10)))))
set_option maxHeartbeats 4000000 in
set_option maxRecDepth 100000 in
theorem wl_X10_on_s30 {x : Cx} {d : Nat} (K : Ok x cX10_on RX10 3 (some .int) (d + 1)) (x1 : Int32)  : ∀ (n : Nat) (s : Int32 × Hp) (r : (Int32 × Hp)), lp (fun s : Int32 × Hp => X10_on_s30 x1 s.1 s.2) n s = some r → (fun r : (Int32 × Hp) => VV x 63 [(0, .ref (ad x 51)), (1, .int x1), (2, .int (r.1))] [] r.2) r → (fun s : Int32 × Hp => VV x 30 [(0, .ref (ad x 51)), (1, .int x1), (2, .int (s.1))] [] s.2) s := by
  refine lp_walk ?_
  intro s z E T
  obtain ⟨y2, h⟩ := s
  replace E : X10_on_s30 x1 y2 h = some z := E
  unfold X10_on_s30 at E
  show VV x 30 [(0, .ref (ad x 51)), (1, .int x1), (2, .int y2)] [] h
  refine V_iload_n K 2 dX10_on_30 rfl ?_
  refine V_sp (v := 697) K dX10_on_31 rfl ?_
  rcases if_inv E with ⟨c7, E⟩ | ⟨c7, E⟩
  · refine V_ic_ge_t K 63 dX10_on_34 (by decide) c7 ?_
    cases E
    exact V_sub [0, 1, 2] rfl T
  · refine V_ic_ge_f K 63 dX10_on_34 (by decide) c7 ?_
    refine V_aload_n K 0 dX10_on_37 rfl ?_
    refine gf_X10_7 K dX10_on_38 ?_
    refine V_iload_n K 2 dX10_on_41 rfl ?_
    refine V_aload_n K 0 dX10_on_42 rfl ?_
    refine gf_X10_7 K dX10_on_43 ?_
    refine V_sp (v := 697) K dX10_on_46 rfl ?_
    refine V_iload_n K 1 dX10_on_49 rfl ?_
    refine V_ic (v := 1) K dX10_on_50 rfl ?_
    refine V_iadd K dX10_on_51 ?_
    refine V_imul K dX10_on_52 ?_
    refine V_iload_n K 2 dX10_on_53 rfl ?_
    refine V_iadd K dX10_on_54 ?_
    obtain ⟨g8, E⟩ := gd_inv E
    refine V_iald K k_52 n_52 g8 dX10_on_55 ?_
    obtain ⟨g9, E⟩ := gd_inv E
    obtain ⟨h10, e11, E⟩ := lt_inv E
    refine V_iast K k_52 n_52 g9 dX10_on_56 ?_
    refine V_hp e11 ?_
    obtain ⟨v12, e13, E⟩ := lt_inv E
    refine V_iinc (lv' := [(2, .int v12), (0, .ref (ad x 51)), (1, .int x1)]) K 2 dX10_on_57 rfl (by rw [e13]; rfl) (by decide) rfl ?_
    refine V_goto K 30 dX10_on_60 (by decide) ?_
    cases E
    exact V_sub [1, 2, 0] rfl T
def X10_on (a1 : Int32) (h : Hp) : Option (Int32 × Hp) :=
  if (X10_in a1 (0 : Int32) (2 : Int32)) = (0 : Int32) then (some ((-1 : Int32), h))
  else (gd (ib a1 3) (
  if (h.1 54 (ix a1)) = (-9 : Int32) then (ob2 (X10_find (1 : Int32) h) fun r6 h5 =>
  some (r6, h5))
  else (ob2 (lp (fun s : Int32 × Hp => X10_on_s30 a1 s.1 s.2) FU ((0 : Int32), h)) fun v14 h15 =>
  lt_ (up h15 51 5 (h15.1 54 (ix a1))) fun h16 =>
  some (h16.1 51 5, h16))))
set_option maxHeartbeats 4000000 in
set_option maxRecDepth 100000 in
theorem w_X10_on {x : Cx} {d : Nat} (K : Ok x cX10_on RX10 3 (some .int) (d + 1)) (a1 : Int32) (h : Hp)  {z : Int32 × Hp} (E : X10_on a1 h = some z) (T : x.2.2.2.2 = (some (.int (z.1)), z.2)) : VV x 0 [(0, .ref (ad x 51)), (1, .int a1)] [] h := by
  unfold X10_on at E
  refine V_iload_n K 1 dX10_on_0 rfl ?_
  refine V_ic (v := 0) K dX10_on_1 rfl ?_
  refine V_ic (v := 2) K dX10_on_2 rfl ?_
  refine iv_X10_63 K (c_X10_in _ a1 (0 : Int32) (2 : Int32) h) dX10_on_3 (Nat.le_of_ble_eq_true rfl) ?_
  rcases if_inv E with ⟨c1, E⟩ | ⟨c1, E⟩
  · refine V_if_ne_f K 11 dX10_on_6 (by decide) c1 ?_
    refine V_ic (v := -1) K dX10_on_9 rfl ?_
    cases E
    exact V_iret K dX10_on_10 rfl T
  · refine V_if_ne_t K 11 dX10_on_6 (by decide) c1 ?_
    refine V_aload_n K 0 dX10_on_11 rfl ?_
    refine gf_X10_16 K dX10_on_12 ?_
    refine V_iload_n K 1 dX10_on_15 rfl ?_
    obtain ⟨g2, E⟩ := gd_inv E
    refine V_iald K k_54 n_54 g2 dX10_on_16 ?_
    refine V_bp (v := -9) K dX10_on_17 rfl ?_
    rcases if_inv E with ⟨c3, E⟩ | ⟨c3, E⟩
    · refine V_ic_ne_f K 28 dX10_on_19 (by decide) c3 ?_
      refine V_aload_n K 0 dX10_on_22 rfl ?_
      refine V_ic (v := 1) K dX10_on_23 rfl ?_
      obtain ⟨r6, h5, q4, E⟩ := ob2_inv E
      refine iv_X10_71 K (c_X10_find _ (1 : Int32) h q4) dX10_on_24 (Nat.le_of_ble_eq_true rfl) ?_
      cases E
      exact V_iret K dX10_on_27 rfl T
    · refine V_ic_ne_t K 28 dX10_on_19 (by decide) c3 ?_
      refine V_ic (v := 0) K dX10_on_28 rfl ?_
      refine V_istore_n (lv' := [(2, .int (0 : Int32)), (0, .ref (ad x 51)), (1, .int a1)]) K dX10_on_29 (by decide) rfl ?_
      obtain ⟨v14, h15, q18, E⟩ := ob2_inv E
      refine V_sub [1, 2, 0] rfl (wl_X10_on_s30 K a1  _ _ _ q18 ?_)
      show VV x 63 [(0, .ref (ad x 51)), (1, .int a1), (2, .int v14)] [] h15
      refine V_aload_n K 0 dX10_on_63 rfl ?_
      refine V_aload_n K 0 dX10_on_64 rfl ?_
      refine gf_X10_16 K dX10_on_65 ?_
      refine V_iload_n K 1 dX10_on_68 rfl ?_
      refine V_iald K k_54 n_54 g2 dX10_on_69 ?_
      obtain ⟨h16, e17, E⟩ := lt_inv E
      refine pf_X10_129 K dX10_on_70 ?_
      refine V_hp e17 ?_
      refine V_aload_n K 0 dX10_on_73 rfl ?_
      refine gf_X10_129 K dX10_on_74 ?_
      cases E
      exact V_iret K dX10_on_77 rfl T
theorem c_X10_on (d : Nat) (a1 : Int32) (h : Hp)  {r : Int32} {h' : Hp} (E : X10_on a1 h = some (r, h')) : Runs (d + 1) yX10_on cX10_on 3 (some .int) (fun f => [.ref (f 51), .int a1]) h (fun _ => some (.int r)) h' :=
  Runs.of (by decide +kernel) (fun _ => Nat.le_of_ble_eq_true rfl) (fun x K T => w_X10_on K  a1 h  E T)
def X10_one (a1 : Int32) (a2 : Int32) (h : Hp) : Option (Int32 × Hp) :=
  if (X10_isOne a1 h) = (0 : Int32) then (some ((-1 : Int32), h))
  else (if (X10_in a2 (0 : Int32) (4 : Int32)) = (0 : Int32) then (some ((-1 : Int32), h))
  else (ob (X10_ofOne a1 a2 h) fun r3 =>
  ob2 (X10_tell r3 h) fun r7 h6 =>
  some (r7, h6)))
set_option maxHeartbeats 4000000 in
set_option maxRecDepth 100000 in
theorem w_X10_one {x : Cx} {d : Nat} (K : Ok x cX10_one RX10 3 (some .int) (d + 3)) (a1 : Int32) (a2 : Int32) (h : Hp)  {z : Int32 × Hp} (E : X10_one a1 a2 h = some z) (T : x.2.2.2.2 = (some (.int (z.1)), z.2)) : VV x 0 [(0, .ref (ad x 51)), (1, .int a1), (2, .int a2)] [] h := by
  unfold X10_one at E
  refine V_aload_n K 0 dX10_one_0 rfl ?_
  refine V_iload_n K 1 dX10_one_1 rfl ?_
  refine iv_X10_152 K (c_X10_isOne _ a1 h) dX10_one_2 (Nat.le_of_ble_eq_true rfl) ?_
  rcases if_inv E with ⟨c1, E⟩ | ⟨c1, E⟩
  · refine V_if_eq_t K 30 dX10_one_5 (by decide) c1 ?_
    refine V_ic (v := -1) K dX10_one_30 rfl ?_
    cases E
    exact V_iret K dX10_one_31 rfl T
  · refine V_if_eq_f K 30 dX10_one_5 (by decide) c1 ?_
    refine V_iload_n K 2 dX10_one_8 rfl ?_
    refine V_ic (v := 0) K dX10_one_9 rfl ?_
    refine V_ic (v := 4) K dX10_one_10 rfl ?_
    refine iv_X10_63 K (c_X10_in _ a2 (0 : Int32) (4 : Int32) h) dX10_one_11 (Nat.le_of_ble_eq_true rfl) ?_
    rcases if_inv E with ⟨c2, E⟩ | ⟨c2, E⟩
    · refine V_if_eq_t K 30 dX10_one_14 (by decide) c2 ?_
      refine V_ic (v := -1) K dX10_one_30 rfl ?_
      cases E
      exact V_iret K dX10_one_31 rfl T
    · refine V_if_eq_f K 30 dX10_one_14 (by decide) c2 ?_
      refine V_aload_n K 0 dX10_one_17 rfl ?_
      refine V_aload_n K 0 dX10_one_18 rfl ?_
      refine V_iload_n K 1 dX10_one_19 rfl ?_
      refine V_iload_n K 2 dX10_one_20 rfl ?_
      obtain ⟨r3, q4, E⟩ := ob_inv E
      refine iv_X10_155 K (c_X10_ofOne _ a1 a2 h q4) dX10_one_21 (Nat.le_of_ble_eq_true rfl) ?_
      obtain ⟨r7, h6, q5, E⟩ := ob2_inv E
      refine iv_X10_79 K (c_X10_tell _ r3 h q5) dX10_one_24 (Nat.le_of_ble_eq_true rfl) ?_
      refine V_goto K 31 dX10_one_27 (by decide) ?_
      cases E
      exact V_iret K dX10_one_31 rfl T
theorem c_X10_one (d : Nat) (a1 : Int32) (a2 : Int32) (h : Hp)  {r : Int32} {h' : Hp} (E : X10_one a1 a2 h = some (r, h')) : Runs (d + 3) yX10_one cX10_one 3 (some .int) (fun f => [.ref (f 51), .int a1, .int a2]) h (fun _ => some (.int r)) h' :=
  Runs.of (by decide +kernel) (fun _ => Nat.le_of_ble_eq_true rfl) (fun x K T => w_X10_one K  a1 a2 h  E T)
def X10_put (a1 : Int32) (a2 : Int32) (a3 : Int32) (h : Hp) : Option (Int32 × Hp) :=
  if (X10_isText a1) = (0 : Int32) then (some ((-1 : Int32), h))
  else (gd (ib a1 4) (
  if (h.1 58 (ix a1)) = (-9 : Int32) then (ob2 (X10_find (1 : Int32) h) fun r6 h5 =>
  some (r6, h5))
  else (if (X10_in a2 (0 : Int32) ((h.1 58 (ix a1)) - (1 : Int32))) = (0 : Int32) then (ob2 (X10_find (2 : Int32) h) fun r10 h9 =>
  some (r10, h9))
  else (gd (ib (((60 : Int32) * a1) + a2) 240) (
  lt_ (h.1 57 (ix (((60 : Int32) * a1) + a2))) fun v12 =>
  lt_ (up h 57 (ix (((60 : Int32) * a1) + a2)) (a3.toInt8.toInt32)) fun h14 =>
  some ((v12 + (1000 : Int32)), h14))))))
set_option maxHeartbeats 4000000 in
set_option maxRecDepth 100000 in
theorem w_X10_put {x : Cx} {d : Nat} (K : Ok x cX10_put RX10 5 (some .int) (d + 2)) (a1 : Int32) (a2 : Int32) (a3 : Int32) (h : Hp)  {z : Int32 × Hp} (E : X10_put a1 a2 a3 h = some z) (T : x.2.2.2.2 = (some (.int (z.1)), z.2)) : VV x 0 [(0, .ref (ad x 51)), (1, .int a1), (2, .int a2), (3, .int a3)] [] h := by
  unfold X10_put at E
  refine V_iload_n K 1 dX10_put_0 rfl ?_
  refine iv_X10_82 K (c_X10_isText _ a1 h) dX10_put_1 (Nat.le_of_ble_eq_true rfl) ?_
  rcases if_inv E with ⟨c1, E⟩ | ⟨c1, E⟩
  · refine V_if_ne_f K 9 dX10_put_4 (by decide) c1 ?_
    refine V_ic (v := -1) K dX10_put_7 rfl ?_
    cases E
    exact V_iret K dX10_put_8 rfl T
  · refine V_if_ne_t K 9 dX10_put_4 (by decide) c1 ?_
    refine V_aload_n K 0 dX10_put_9 rfl ?_
    refine gf_X10_28 K dX10_put_10 ?_
    refine V_iload_n K 1 dX10_put_13 rfl ?_
    obtain ⟨g2, E⟩ := gd_inv E
    refine V_iald K k_58 n_58 g2 dX10_put_14 ?_
    refine V_bp (v := -9) K dX10_put_15 rfl ?_
    rcases if_inv E with ⟨c3, E⟩ | ⟨c3, E⟩
    · refine V_ic_ne_f K 26 dX10_put_17 (by decide) c3 ?_
      refine V_aload_n K 0 dX10_put_20 rfl ?_
      refine V_ic (v := 1) K dX10_put_21 rfl ?_
      obtain ⟨r6, h5, q4, E⟩ := ob2_inv E
      refine iv_X10_71 K (c_X10_find _ (1 : Int32) h q4) dX10_put_22 (Nat.le_of_ble_eq_true rfl) ?_
      cases E
      exact V_iret K dX10_put_25 rfl T
    · refine V_ic_ne_t K 26 dX10_put_17 (by decide) c3 ?_
      refine V_iload_n K 2 dX10_put_26 rfl ?_
      refine V_ic (v := 0) K dX10_put_27 rfl ?_
      refine V_aload_n K 0 dX10_put_28 rfl ?_
      refine gf_X10_28 K dX10_put_29 ?_
      refine V_iload_n K 1 dX10_put_32 rfl ?_
      refine V_iald K k_58 n_58 g2 dX10_put_33 ?_
      refine V_ic (v := 1) K dX10_put_34 rfl ?_
      refine V_isub K dX10_put_35 ?_
      refine iv_X10_63 K (c_X10_in _ a2 (0 : Int32) ((h.1 58 (ix a1)) - (1 : Int32)) h) dX10_put_36 (Nat.le_of_ble_eq_true rfl) ?_
      rcases if_inv E with ⟨c7, E⟩ | ⟨c7, E⟩
      · refine V_if_ne_f K 48 dX10_put_39 (by decide) c7 ?_
        refine V_aload_n K 0 dX10_put_42 rfl ?_
        refine V_ic (v := 2) K dX10_put_43 rfl ?_
        obtain ⟨r10, h9, q8, E⟩ := ob2_inv E
        refine iv_X10_71 K (c_X10_find _ (2 : Int32) h q8) dX10_put_44 (Nat.le_of_ble_eq_true rfl) ?_
        cases E
        exact V_iret K dX10_put_47 rfl T
      · refine V_if_ne_t K 48 dX10_put_39 (by decide) c7 ?_
        refine V_aload_n K 0 dX10_put_48 rfl ?_
        refine gf_X10_25 K dX10_put_49 ?_
        refine V_bp (v := 60) K dX10_put_52 rfl ?_
        refine V_iload_n K 1 dX10_put_54 rfl ?_
        refine V_imul K dX10_put_55 ?_
        refine V_iload_n K 2 dX10_put_56 rfl ?_
        refine V_iadd K dX10_put_57 ?_
        obtain ⟨g11, E⟩ := gd_inv E
        refine V_iald K k_57 n_57 g11 dX10_put_58 ?_
        obtain ⟨v12, e13, E⟩ := lt_inv E
        refine V_top e13 ?_
        refine V_istore (lv' := [(4, .int v12), (0, .ref (ad x 51)), (1, .int a1), (2, .int a2), (3, .int a3)]) K dX10_put_59 (by decide) rfl ?_
        refine V_aload_n K 1 dX10_put_61 rfl ?_
        refine gf_X10_25 K dX10_put_62 ?_
        refine V_bp (v := 60) K dX10_put_65 rfl ?_
        refine V_iload_n K 2 dX10_put_67 rfl ?_
        refine V_imul K dX10_put_68 ?_
        refine V_iload_n K 3 dX10_put_69 rfl ?_
        refine V_iadd K dX10_put_70 ?_
        refine V_iload_n K 4 dX10_put_71 rfl ?_
        refine V_i2b K dX10_put_72 ?_
        obtain ⟨h14, e15, E⟩ := lt_inv E
        refine V_iast K k_57 n_57 g11 dX10_put_73 ?_
        refine V_hp e15 ?_
        refine V_iload K 0 dX10_put_74 rfl ?_
        refine V_sp (v := 1000) K dX10_put_76 rfl ?_
        refine V_iadd K dX10_put_79 ?_
        cases E
        exact V_iret K dX10_put_80 rfl T
theorem c_X10_put (d : Nat) (a1 : Int32) (a2 : Int32) (a3 : Int32) (h : Hp)  {r : Int32} {h' : Hp} (E : X10_put a1 a2 a3 h = some (r, h')) : Runs (d + 2) yX10_put cX10_put 5 (some .int) (fun f => [.ref (f 51), .int a1, .int a2, .int a3]) h (fun _ => some (.int r)) h' :=
  Runs.of (by decide +kernel) (fun _ => Nat.le_of_ble_eq_true rfl) (fun x K T => w_X10_put K  a1 a2 a3 h  E T)
def X10_rain (a1 : Int32) (h : Hp) : Option (Int32 × Hp) :=
  if (X10_in a1 (0 : Int32) (1 : Int32)) = (0 : Int32) then (some ((-1 : Int32), h))
  else (if (h.1 51 2) = (0 : Int32) then (some ((-4 : Int32), h))
  else (gd (ib ((X10_now h) + (15 : Int32)) 2805) (
  if (h.1 52 (ix ((X10_now h) + (15 : Int32)))) = a1 then (some ((-4 : Int32), h))
  else (if (h.1 51 5) = (40 : Int32) then (some ((-2 : Int32), h))
  else (ob2 (X10_begin h) fun r8 h7 =>
  gd (ib (r8 + (15 : Int32)) 2805) (
  lt_ (up h7 52 (ix (r8 + (15 : Int32))) a1) fun h10 =>
  some (a1, h10)))))))
set_option maxHeartbeats 4000000 in
set_option maxRecDepth 100000 in
theorem w_X10_rain {x : Cx} {d : Nat} (K : Ok x cX10_rain RX10 2 (some .int) (d + 2)) (a1 : Int32) (h : Hp)  {z : Int32 × Hp} (E : X10_rain a1 h = some z) (T : x.2.2.2.2 = (some (.int (z.1)), z.2)) : VV x 0 [(0, .ref (ad x 51)), (1, .int a1)] [] h := by
  unfold X10_rain at E
  refine V_iload_n K 1 dX10_rain_0 rfl ?_
  refine V_ic (v := 0) K dX10_rain_1 rfl ?_
  refine V_ic (v := 1) K dX10_rain_2 rfl ?_
  refine iv_X10_63 K (c_X10_in _ a1 (0 : Int32) (1 : Int32) h) dX10_rain_3 (Nat.le_of_ble_eq_true rfl) ?_
  rcases if_inv E with ⟨c1, E⟩ | ⟨c1, E⟩
  · refine V_if_ne_f K 11 dX10_rain_6 (by decide) c1 ?_
    refine V_ic (v := -1) K dX10_rain_9 rfl ?_
    cases E
    exact V_iret K dX10_rain_10 rfl T
  · refine V_if_ne_t K 11 dX10_rain_6 (by decide) c1 ?_
    refine V_aload_n K 0 dX10_rain_11 rfl ?_
    refine gf_X10_120 K dX10_rain_12 ?_
    rcases if_inv E with ⟨c2, E⟩ | ⟨c2, E⟩
    · refine V_if_eq_t K 34 dX10_rain_15 (by decide) c2 ?_
      refine V_bp (v := -4) K dX10_rain_34 rfl ?_
      cases E
      exact V_iret K dX10_rain_36 rfl T
    · refine V_if_eq_f K 34 dX10_rain_15 (by decide) c2 ?_
      refine V_aload_n K 0 dX10_rain_18 rfl ?_
      refine gf_X10_7 K dX10_rain_19 ?_
      refine V_aload_n K 0 dX10_rain_22 rfl ?_
      refine iv_X10_145 K (c_X10_now _ h) dX10_rain_23 (Nat.le_of_ble_eq_true rfl) ?_
      refine V_bp (v := 15) K dX10_rain_26 rfl ?_
      refine V_iadd K dX10_rain_28 ?_
      obtain ⟨g3, E⟩ := gd_inv E
      refine V_iald K k_52 n_52 g3 dX10_rain_29 ?_
      refine V_iload_n K 1 dX10_rain_30 rfl ?_
      rcases if_inv E with ⟨c4, E⟩ | ⟨c4, E⟩
      · refine V_ic_ne_f K 37 dX10_rain_31 (by decide) c4 ?_
        refine V_bp (v := -4) K dX10_rain_34 rfl ?_
        cases E
        exact V_iret K dX10_rain_36 rfl T
      · refine V_ic_ne_t K 37 dX10_rain_31 (by decide) c4 ?_
        refine V_aload_n K 0 dX10_rain_37 rfl ?_
        refine gf_X10_129 K dX10_rain_38 ?_
        refine V_bp (v := 40) K dX10_rain_41 rfl ?_
        rcases if_inv E with ⟨c5, E⟩ | ⟨c5, E⟩
        · refine V_ic_ne_f K 49 dX10_rain_43 (by decide) c5 ?_
          refine V_bp (v := -2) K dX10_rain_46 rfl ?_
          cases E
          exact V_iret K dX10_rain_48 rfl T
        · refine V_ic_ne_t K 49 dX10_rain_43 (by decide) c5 ?_
          refine V_aload_n K 0 dX10_rain_49 rfl ?_
          refine gf_X10_7 K dX10_rain_50 ?_
          refine V_aload_n K 0 dX10_rain_53 rfl ?_
          obtain ⟨r8, h7, q6, E⟩ := ob2_inv E
          refine iv_X10_171 K (c_X10_begin _ h q6) dX10_rain_54 (Nat.le_of_ble_eq_true rfl) ?_
          refine V_bp (v := 15) K dX10_rain_57 rfl ?_
          refine V_iadd K dX10_rain_59 ?_
          refine V_iload_n K 1 dX10_rain_60 rfl ?_
          obtain ⟨g9, E⟩ := gd_inv E
          obtain ⟨h10, e11, E⟩ := lt_inv E
          refine V_iast K k_52 n_52 g9 dX10_rain_61 ?_
          refine V_hp e11 ?_
          refine V_iload_n K 1 dX10_rain_62 rfl ?_
          cases E
          exact V_iret K dX10_rain_63 rfl T
theorem c_X10_rain (d : Nat) (a1 : Int32) (h : Hp)  {r : Int32} {h' : Hp} (E : X10_rain a1 h = some (r, h')) : Runs (d + 2) yX10_rain cX10_rain 2 (some .int) (fun f => [.ref (f 51), .int a1]) h (fun _ => some (.int r)) h' :=
  Runs.of (by decide +kernel) (fun _ => Nat.le_of_ble_eq_true rfl) (fun x K T => w_X10_rain K  a1 h  E T)
def X10_row_s27 (x1 : Int32) (x2 : Int32) (y3 : Int32) (h : Hp) : Option ((Int32 × Hp) ⊕ (Int32 × Hp)) :=
  if x2 ≤ y3 then (some (.inl (y3, h)))
  else (gd (ib (((40 : Int32) * x1) + y3) 240) (
  lt_ (up h 55 (ix (((40 : Int32) * x1) + y3)) (0 : Int32)) fun h6 =>
  lt_ (y3 + (1 : Int32)) fun v8 =>
  some (.inr (v8, h6))))
set_option maxHeartbeats 4000000 in
set_option maxRecDepth 100000 in
theorem wl_X10_row_s27 {x : Cx} {d : Nat} (K : Ok x cX10_row RX10 4 (some .int) (d + 2)) (x1 : Int32) (x2 : Int32)  : ∀ (n : Nat) (s : Int32 × Hp) (r : (Int32 × Hp)), lp (fun s : Int32 × Hp => X10_row_s27 x1 x2 s.1 s.2) n s = some r → (fun r : (Int32 × Hp) => VV x 50 [(0, .ref (ad x 51)), (1, .int x1), (2, .int x2), (3, .int (r.1))] [] r.2) r → (fun s : Int32 × Hp => VV x 27 [(0, .ref (ad x 51)), (1, .int x1), (2, .int x2), (3, .int (s.1))] [] s.2) s := by
  refine lp_walk ?_
  intro s z E T
  obtain ⟨y3, h⟩ := s
  replace E : X10_row_s27 x1 x2 y3 h = some z := E
  unfold X10_row_s27 at E
  show VV x 27 [(0, .ref (ad x 51)), (1, .int x1), (2, .int x2), (3, .int y3)] [] h
  refine V_iload_n K 3 dX10_row_27 rfl ?_
  refine V_iload_n K 2 dX10_row_28 rfl ?_
  rcases if_inv E with ⟨c4, E⟩ | ⟨c4, E⟩
  · refine V_ic_ge_t K 50 dX10_row_29 (by decide) c4 ?_
    cases E
    exact V_sub [0, 1, 2, 3] rfl T
  · refine V_ic_ge_f K 50 dX10_row_29 (by decide) c4 ?_
    refine V_aload_n K 0 dX10_row_32 rfl ?_
    refine gf_X10_19 K dX10_row_33 ?_
    refine V_bp (v := 40) K dX10_row_36 rfl ?_
    refine V_iload_n K 1 dX10_row_38 rfl ?_
    refine V_imul K dX10_row_39 ?_
    refine V_iload_n K 3 dX10_row_40 rfl ?_
    refine V_iadd K dX10_row_41 ?_
    refine V_ic (v := 0) K dX10_row_42 rfl ?_
    obtain ⟨g5, E⟩ := gd_inv E
    obtain ⟨h6, e7, E⟩ := lt_inv E
    refine V_iast K k_55 n_55 g5 dX10_row_43 ?_
    refine V_hp e7 ?_
    obtain ⟨v8, e9, E⟩ := lt_inv E
    refine V_iinc (lv' := [(3, .int v8), (0, .ref (ad x 51)), (1, .int x1), (2, .int x2)]) K 3 dX10_row_44 rfl (by rw [e9]; rfl) (by decide) rfl ?_
    refine V_goto K 27 dX10_row_47 (by decide) ?_
    cases E
    exact V_sub [1, 2, 3, 0] rfl T
def X10_row (a1 : Int32) (a2 : Int32) (h : Hp) : Option (Int32 × Hp) :=
  if (X10_isRow a1) = (0 : Int32) then (some ((-1 : Int32), h))
  else (if a2 ≤ (40 : Int32) then (if (0 : Int32) ≤ a2 then (ob2 (lp (fun s : Int32 × Hp => X10_row_s27 a1 a2 s.1 s.2) FU ((0 : Int32), h)) fun v10 h11 =>
  gd (ib a1 6) (
  lt_ (up h11 56 (ix a1) a2) fun h13 =>
  some (a2, h13)))
  else (ob2 (X10_find (5 : Int32) h) fun r18 h17 =>
  some (r18, h17)))
  else (some ((-1 : Int32), h)))
set_option maxHeartbeats 4000000 in
set_option maxRecDepth 100000 in
theorem w_X10_row {x : Cx} {d : Nat} (K : Ok x cX10_row RX10 4 (some .int) (d + 2)) (a1 : Int32) (a2 : Int32) (h : Hp)  {z : Int32 × Hp} (E : X10_row a1 a2 h = some z) (T : x.2.2.2.2 = (some (.int (z.1)), z.2)) : VV x 0 [(0, .ref (ad x 51)), (1, .int a1), (2, .int a2)] [] h := by
  unfold X10_row at E
  refine V_iload_n K 1 dX10_row_0 rfl ?_
  refine iv_X10_67 K (c_X10_isRow _ a1 h) dX10_row_1 (Nat.le_of_ble_eq_true rfl) ?_
  rcases if_inv E with ⟨c1, E⟩ | ⟨c1, E⟩
  · refine V_if_eq_t K 13 dX10_row_4 (by decide) c1 ?_
    refine V_ic (v := -1) K dX10_row_13 rfl ?_
    cases E
    exact V_iret K dX10_row_14 rfl T
  · refine V_if_eq_f K 13 dX10_row_4 (by decide) c1 ?_
    refine V_iload_n K 2 dX10_row_7 rfl ?_
    refine V_bp (v := 40) K dX10_row_8 rfl ?_
    rcases if_inv E with ⟨c2, E⟩ | ⟨c2, E⟩
    · refine V_ic_le_t K 15 dX10_row_10 (by decide) c2 ?_
      refine V_iload_n K 2 dX10_row_15 rfl ?_
      rcases if_inv E with ⟨c3, E⟩ | ⟨c3, E⟩
      · refine V_if_ge_t K 25 dX10_row_16 (by decide) c3 ?_
        refine V_ic (v := 0) K dX10_row_25 rfl ?_
        refine V_istore_n (lv' := [(3, .int (0 : Int32)), (0, .ref (ad x 51)), (1, .int a1), (2, .int a2)]) K dX10_row_26 (by decide) rfl ?_
        obtain ⟨v10, h11, q15, E⟩ := ob2_inv E
        refine V_sub [1, 2, 3, 0] rfl (wl_X10_row_s27 K a1 a2  _ _ _ q15 ?_)
        show VV x 50 [(0, .ref (ad x 51)), (1, .int a1), (2, .int a2), (3, .int v10)] [] h11
        refine V_aload_n K 0 dX10_row_50 rfl ?_
        refine gf_X10_22 K dX10_row_51 ?_
        refine V_iload_n K 1 dX10_row_54 rfl ?_
        refine V_iload_n K 2 dX10_row_55 rfl ?_
        obtain ⟨g12, E⟩ := gd_inv E
        obtain ⟨h13, e14, E⟩ := lt_inv E
        refine V_iast K k_56 n_56 g12 dX10_row_56 ?_
        refine V_hp e14 ?_
        refine V_iload_n K 2 dX10_row_57 rfl ?_
        cases E
        exact V_iret K dX10_row_58 rfl T
      · refine V_if_ge_f K 25 dX10_row_16 (by decide) c3 ?_
        refine V_aload_n K 0 dX10_row_19 rfl ?_
        refine V_ic (v := 5) K dX10_row_20 rfl ?_
        obtain ⟨r18, h17, q16, E⟩ := ob2_inv E
        refine iv_X10_71 K (c_X10_find _ (5 : Int32) h q16) dX10_row_21 (Nat.le_of_ble_eq_true rfl) ?_
        cases E
        exact V_iret K dX10_row_24 rfl T
    · refine V_ic_le_f K 15 dX10_row_10 (by decide) c2 ?_
      refine V_ic (v := -1) K dX10_row_13 rfl ?_
      cases E
      exact V_iret K dX10_row_14 rfl T
theorem c_X10_row (d : Nat) (a1 : Int32) (a2 : Int32) (h : Hp)  {r : Int32} {h' : Hp} (E : X10_row a1 a2 h = some (r, h')) : Runs (d + 2) yX10_row cX10_row 4 (some .int) (fun f => [.ref (f 51), .int a1, .int a2]) h (fun _ => some (.int r)) h' :=
  Runs.of (by decide +kernel) (fun _ => Nat.le_of_ble_eq_true rfl) (fun x K T => w_X10_row K  a1 a2 h  E T)
def X10_sets_s38 (x1 : Int32) (h : Hp) (y2 : Int32) (y3 : Int32) (y4 : Int32) : Option ((Int32 × Int32 × Int32) ⊕ (Int32 × Int32 × Int32)) :=
  if y4 < (0 : Int32) then (some (.inl (y2, y3, y4)))
  else (ob (X10_haveOf y4 h) fun r6 =>
  ob2 (if r6 = x1 then (lt_ (y2 + (1 : Int32)) fun v11 =>
  some (v11, y4))
  else (some (y2, y3))) fun v8 v9 =>
  lt_ (y4 + (-1 : Int32)) fun v13 =>
  some (.inr (v8, v9, v13)))
set_option maxHeartbeats 4000000 in
set_option maxRecDepth 100000 in
theorem wl_X10_sets_s38 {x : Cx} {d : Nat} (K : Ok x cX10_sets RX10 5 (some .int) (d + 2)) (x1 : Int32) (h : Hp)  : ∀ (n : Nat) (s : Int32 × Int32 × Int32) (r : (Int32 × Int32 × Int32)), lp (fun s : Int32 × Int32 × Int32 => X10_sets_s38 x1 h s.1 s.2.1 s.2.2) n s = some r → (fun r : (Int32 × Int32 × Int32) => VV x 65 [(0, .ref (ad x 51)), (1, .int x1), (2, .int (r.1)), (3, .int (r.2.1)), (4, .int (r.2.2))] [] h) r → (fun s : Int32 × Int32 × Int32 => VV x 38 [(0, .ref (ad x 51)), (1, .int x1), (2, .int (s.1)), (3, .int (s.2.1)), (4, .int (s.2.2))] [] h) s := by
  refine lp_walk ?_
  intro s z E T
  obtain ⟨y2, y3, y4⟩ := s
  replace E : X10_sets_s38 x1 h y2 y3 y4 = some z := E
  unfold X10_sets_s38 at E
  show VV x 38 [(0, .ref (ad x 51)), (1, .int x1), (2, .int y2), (3, .int y3), (4, .int y4)] [] h
  refine V_iload K 4 dX10_sets_38 rfl ?_
  rcases if_inv E with ⟨c5, E⟩ | ⟨c5, E⟩
  · refine V_if_lt_t K 65 dX10_sets_40 (by decide) c5 ?_
    cases E
    exact V_sub [0, 1, 2, 3, 4] rfl T
  · refine V_if_lt_f K 65 dX10_sets_40 (by decide) c5 ?_
    refine V_aload_n K 0 dX10_sets_43 rfl ?_
    refine V_iload K 4 dX10_sets_44 rfl ?_
    obtain ⟨r6, q7, E⟩ := ob_inv E
    refine iv_X10_205 K (c_X10_haveOf _ y4 h q7) dX10_sets_46 (Nat.le_of_ble_eq_true rfl) ?_
    refine V_iload_n K 1 dX10_sets_49 rfl ?_
    obtain ⟨v8, v9, q15, E⟩ := ob2_inv E
    have T9 : VV x 59 [(0, .ref (ad x 51)), (1, .int x1), (2, .int v8), (3, .int v9), (4, .int y4)] [] h := by
      obtain ⟨v13, e14, E⟩ := lt_inv E
      refine V_iinc (lv' := [(4, .int v13), (0, .ref (ad x 51)), (1, .int x1), (2, .int v8), (3, .int v9)]) K 4 dX10_sets_59 rfl (by rw [e14]; rfl) (by decide) rfl ?_
      refine V_goto K 38 dX10_sets_62 (by decide) ?_
      cases E
      exact V_sub [1, 2, 3, 4, 0] rfl T
    have E := q15
    have T := T9
    rcases if_inv E with ⟨c10, E⟩ | ⟨c10, E⟩
    · refine V_ic_ne_f K 59 dX10_sets_50 (by decide) c10 ?_
      obtain ⟨v11, e12, E⟩ := lt_inv E
      refine V_iinc (lv' := [(2, .int v11), (0, .ref (ad x 51)), (1, .int x1), (3, .int y3), (4, .int y4)]) K 2 dX10_sets_53 rfl (by rw [e12]; rfl) (by decide) rfl ?_
      refine V_iload K 4 dX10_sets_56 rfl ?_
      refine V_istore_n (lv' := [(3, .int y4), (2, .int v11), (0, .ref (ad x 51)), (1, .int x1), (4, .int y4)]) K dX10_sets_58 (by decide) rfl ?_
      cases E
      exact V_sub [2, 3, 1, 0, 4] rfl T
    · refine V_ic_ne_t K 59 dX10_sets_50 (by decide) c10 ?_
      cases E
      exact V_sub [0, 1, 2, 3, 4] rfl T
def X10_sets (a1 : Int32) (h : Hp) : Option (Int32 × Hp) :=
  if (X10_in a1 (0 : Int32) (180 : Int32)) = (0 : Int32) then (some ((-1 : Int32), h))
  else (if (h.1 51 2) = (0 : Int32) then (some ((-4 : Int32), h))
  else (lt_ (((1 : Int32) <<< ((h.1 51 2) &&& 31)) - (1 : Int32)) fun v3 =>
  ob3 (lp (fun s : Int32 × Int32 × Int32 => X10_sets_s38 a1 h s.1 s.2.1 s.2.2) FU ((0 : Int32), (-9 : Int32), v3)) fun v16 v17 v18 =>
  lt_ (upL h 51 14 (v16.toInt64)) fun h19 =>
  lt_ (upL h19 51 15 (1 : Int64)) fun h21 =>
  ob2 (X10_tell v17 h21) fun r25 h24 =>
  some (r25, h24)))
set_option maxHeartbeats 4000000 in
set_option maxRecDepth 100000 in
theorem w_X10_sets {x : Cx} {d : Nat} (K : Ok x cX10_sets RX10 5 (some .int) (d + 2)) (a1 : Int32) (h : Hp)  {z : Int32 × Hp} (E : X10_sets a1 h = some z) (T : x.2.2.2.2 = (some (.int (z.1)), z.2)) : VV x 0 [(0, .ref (ad x 51)), (1, .int a1)] [] h := by
  unfold X10_sets at E
  refine V_iload_n K 1 dX10_sets_0 rfl ?_
  refine V_ic (v := 0) K dX10_sets_1 rfl ?_
  refine V_sp (v := 180) K dX10_sets_2 rfl ?_
  refine iv_X10_63 K (c_X10_in _ a1 (0 : Int32) (180 : Int32) h) dX10_sets_5 (Nat.le_of_ble_eq_true rfl) ?_
  rcases if_inv E with ⟨c1, E⟩ | ⟨c1, E⟩
  · refine V_if_ne_f K 13 dX10_sets_8 (by decide) c1 ?_
    refine V_ic (v := -1) K dX10_sets_11 rfl ?_
    cases E
    exact V_iret K dX10_sets_12 rfl T
  · refine V_if_ne_t K 13 dX10_sets_8 (by decide) c1 ?_
    refine V_aload_n K 0 dX10_sets_13 rfl ?_
    refine gf_X10_120 K dX10_sets_14 ?_
    rcases if_inv E with ⟨c2, E⟩ | ⟨c2, E⟩
    · refine V_if_ne_f K 23 dX10_sets_17 (by decide) c2 ?_
      refine V_bp (v := -4) K dX10_sets_20 rfl ?_
      cases E
      exact V_iret K dX10_sets_22 rfl T
    · refine V_if_ne_t K 23 dX10_sets_17 (by decide) c2 ?_
      refine V_ic (v := 0) K dX10_sets_23 rfl ?_
      refine V_istore_n (lv' := [(2, .int (0 : Int32)), (0, .ref (ad x 51)), (1, .int a1)]) K dX10_sets_24 (by decide) rfl ?_
      refine V_bp (v := -9) K dX10_sets_25 rfl ?_
      refine V_istore_n (lv' := [(3, .int (-9 : Int32)), (2, .int (0 : Int32)), (0, .ref (ad x 51)), (1, .int a1)]) K dX10_sets_27 (by decide) rfl ?_
      refine V_ic (v := 1) K dX10_sets_28 rfl ?_
      refine V_aload_n K 2 dX10_sets_29 rfl ?_
      refine gf_X10_120 K dX10_sets_30 ?_
      refine V_ishl K dX10_sets_33 ?_
      refine V_ic (v := 1) K dX10_sets_34 rfl ?_
      refine V_isub K dX10_sets_35 ?_
      obtain ⟨v3, e4, E⟩ := lt_inv E
      refine V_top e4 ?_
      refine V_istore (lv' := [(4, .int v3), (3, .int (-9 : Int32)), (2, .int (0 : Int32)), (0, .ref (ad x 51)), (1, .int a1)]) K dX10_sets_36 (by decide) rfl ?_
      obtain ⟨v16, v17, v18, q26, E⟩ := ob3_inv E
      refine V_sub [3, 4, 2, 1, 0] rfl (wl_X10_sets_s38 K a1 h  _ _ _ q26 ?_)
      show VV x 65 [(0, .ref (ad x 51)), (1, .int a1), (2, .int v16), (3, .int v17), (4, .int v18)] [] h
      refine V_aload_n K 0 dX10_sets_65 rfl ?_
      refine V_iload_n K 2 dX10_sets_66 rfl ?_
      refine V_i2l K dX10_sets_67 ?_
      obtain ⟨h19, e20, E⟩ := lt_inv E
      refine pf_X10_208 K dX10_sets_68 ?_
      refine V_hp e20 ?_
      refine V_aload_n K 0 dX10_sets_71 rfl ?_
      refine V_lc (v := 1) K dX10_sets_72 rfl ?_
      obtain ⟨h21, e22, E⟩ := lt_inv E
      refine pf_X10_34 K dX10_sets_73 ?_
      refine V_hp e22 ?_
      refine V_aload_n K 0 dX10_sets_76 rfl ?_
      refine V_iload_n K 3 dX10_sets_77 rfl ?_
      obtain ⟨r25, h24, q23, E⟩ := ob2_inv E
      refine iv_X10_79 K (c_X10_tell _ v17 h21 q23) dX10_sets_78 (Nat.le_of_ble_eq_true rfl) ?_
      cases E
      exact V_iret K dX10_sets_81 rfl T
theorem c_X10_sets (d : Nat) (a1 : Int32) (h : Hp)  {r : Int32} {h' : Hp} (E : X10_sets a1 h = some (r, h')) : Runs (d + 2) yX10_sets cX10_sets 5 (some .int) (fun f => [.ref (f 51), .int a1]) h (fun _ => some (.int r)) h' :=
  Runs.of (by decide +kernel) (fun _ => Nat.le_of_ble_eq_true rfl) (fun x K T => w_X10_sets K  a1 h  E T)
def X10_share (a1 : Int32) (a2 : Int32) (h : Hp) : Option (Int32 × Hp) :=
  if (X10_isOne a1 h) = (0 : Int32) then (some ((-1 : Int32), h))
  else (if (X10_in a2 (0 : Int32) (40 : Int32)) = (0 : Int32) then (some ((-1 : Int32), h))
  else (ob (X10_goOn a2 (0 : Int32) h) fun h4 =>
  gd (ib ((2794 : Int32) + a1) 2805) (
  some (h4.1 52 (ix ((2794 : Int32) + a1)), h4))))
set_option maxHeartbeats 4000000 in
set_option maxRecDepth 100000 in
theorem w_X10_share {x : Cx} {d : Nat} (K : Ok x cX10_share RX10 3 (some .int) (d + 4)) (a1 : Int32) (a2 : Int32) (h : Hp)  {z : Int32 × Hp} (E : X10_share a1 a2 h = some z) (T : x.2.2.2.2 = (some (.int (z.1)), z.2)) : VV x 0 [(0, .ref (ad x 51)), (1, .int a1), (2, .int a2)] [] h := by
  unfold X10_share at E
  refine V_aload_n K 0 dX10_share_0 rfl ?_
  refine V_iload_n K 1 dX10_share_1 rfl ?_
  refine iv_X10_152 K (c_X10_isOne _ a1 h) dX10_share_2 (Nat.le_of_ble_eq_true rfl) ?_
  rcases if_inv E with ⟨c1, E⟩ | ⟨c1, E⟩
  · refine V_if_eq_t K 18 dX10_share_5 (by decide) c1 ?_
    refine V_ic (v := -1) K dX10_share_18 rfl ?_
    cases E
    exact V_iret K dX10_share_19 rfl T
  · refine V_if_eq_f K 18 dX10_share_5 (by decide) c1 ?_
    refine V_iload_n K 2 dX10_share_8 rfl ?_
    refine V_ic (v := 0) K dX10_share_9 rfl ?_
    refine V_bp (v := 40) K dX10_share_10 rfl ?_
    refine iv_X10_63 K (c_X10_in _ a2 (0 : Int32) (40 : Int32) h) dX10_share_12 (Nat.le_of_ble_eq_true rfl) ?_
    rcases if_inv E with ⟨c2, E⟩ | ⟨c2, E⟩
    · refine V_if_ne_f K 20 dX10_share_15 (by decide) c2 ?_
      refine V_ic (v := -1) K dX10_share_18 rfl ?_
      cases E
      exact V_iret K dX10_share_19 rfl T
    · refine V_if_ne_t K 20 dX10_share_15 (by decide) c2 ?_
      refine V_aload_n K 0 dX10_share_20 rfl ?_
      refine V_iload_n K 2 dX10_share_21 rfl ?_
      refine V_ic (v := 0) K dX10_share_22 rfl ?_
      obtain ⟨h4, q3, E⟩ := ob_inv E
      refine iv_X10_180 K (c_X10_goOn _ a2 (0 : Int32) h q3) dX10_share_23 (Nat.le_of_ble_eq_true rfl) ?_
      refine V_aload_n K 0 dX10_share_26 rfl ?_
      refine gf_X10_7 K dX10_share_27 ?_
      refine V_sp (v := 2794) K dX10_share_30 rfl ?_
      refine V_iload_n K 1 dX10_share_33 rfl ?_
      refine V_iadd K dX10_share_34 ?_
      obtain ⟨g5, E⟩ := gd_inv E
      refine V_iald K k_52 n_52 g5 dX10_share_35 ?_
      cases E
      exact V_iret K dX10_share_36 rfl T
theorem c_X10_share (d : Nat) (a1 : Int32) (a2 : Int32) (h : Hp)  {r : Int32} {h' : Hp} (E : X10_share a1 a2 h = some (r, h')) : Runs (d + 4) yX10_share cX10_share 3 (some .int) (fun f => [.ref (f 51), .int a1, .int a2]) h (fun _ => some (.int r)) h' :=
  Runs.of (by decide +kernel) (fun _ => Nat.le_of_ble_eq_true rfl) (fun x K T => w_X10_share K  a1 a2 h  E T)
def X10_sizes (a1 : Int32) (a2 : Int32) (h : Hp) : Option (Int32 × Hp) :=
  if (X10_isOne a1 h) = (0 : Int32) then (some ((-1 : Int32), h))
  else (if (X10_isRow a2) = (0 : Int32) then (some ((-1 : Int32), h))
  else (ob (X10_wrongRow a2 h) fun r3 =>
  if r3 ≤ (0 : Int32) then (ob2 (X10_sizesOf a1 a2 h) fun r8 h7 =>
  some (r8, h7))
  else (ob (X10_wrongRow a2 h) fun r9 =>
  ob2 (X10_find r9 h) fun r13 h12 =>
  some (r13, h12))))
set_option maxHeartbeats 4000000 in
set_option maxRecDepth 100000 in
theorem w_X10_sizes {x : Cx} {d : Nat} (K : Ok x cX10_sizes RX10 3 (some .int) (d + 5)) (a1 : Int32) (a2 : Int32) (h : Hp)  {z : Int32 × Hp} (E : X10_sizes a1 a2 h = some z) (T : x.2.2.2.2 = (some (.int (z.1)), z.2)) : VV x 0 [(0, .ref (ad x 51)), (1, .int a1), (2, .int a2)] [] h := by
  unfold X10_sizes at E
  refine V_aload_n K 0 dX10_sizes_0 rfl ?_
  refine V_iload_n K 1 dX10_sizes_1 rfl ?_
  refine iv_X10_152 K (c_X10_isOne _ a1 h) dX10_sizes_2 (Nat.le_of_ble_eq_true rfl) ?_
  rcases if_inv E with ⟨c1, E⟩ | ⟨c1, E⟩
  · refine V_if_eq_t K 15 dX10_sizes_5 (by decide) c1 ?_
    refine V_ic (v := -1) K dX10_sizes_15 rfl ?_
    cases E
    exact V_iret K dX10_sizes_16 rfl T
  · refine V_if_eq_f K 15 dX10_sizes_5 (by decide) c1 ?_
    refine V_iload_n K 2 dX10_sizes_8 rfl ?_
    refine iv_X10_67 K (c_X10_isRow _ a2 h) dX10_sizes_9 (Nat.le_of_ble_eq_true rfl) ?_
    rcases if_inv E with ⟨c2, E⟩ | ⟨c2, E⟩
    · refine V_if_ne_f K 17 dX10_sizes_12 (by decide) c2 ?_
      refine V_ic (v := -1) K dX10_sizes_15 rfl ?_
      cases E
      exact V_iret K dX10_sizes_16 rfl T
    · refine V_if_ne_t K 17 dX10_sizes_12 (by decide) c2 ?_
      refine V_aload_n K 0 dX10_sizes_17 rfl ?_
      refine V_iload_n K 2 dX10_sizes_18 rfl ?_
      obtain ⟨r3, q4, E⟩ := ob_inv E
      refine iv_X10_196 K (c_X10_wrongRow _ a2 h q4) dX10_sizes_19 (Nat.le_of_ble_eq_true rfl) ?_
      rcases if_inv E with ⟨c5, E⟩ | ⟨c5, E⟩
      · refine V_if_le_t K 37 dX10_sizes_22 (by decide) c5 ?_
        refine V_aload_n K 0 dX10_sizes_37 rfl ?_
        refine V_iload_n K 1 dX10_sizes_38 rfl ?_
        refine V_iload_n K 2 dX10_sizes_39 rfl ?_
        obtain ⟨r8, h7, q6, E⟩ := ob2_inv E
        refine iv_X10_199 K (c_X10_sizesOf _ a1 a2 h q6) dX10_sizes_40 (Nat.le_of_ble_eq_true rfl) ?_
        cases E
        exact V_iret K dX10_sizes_43 rfl T
      · refine V_if_le_f K 37 dX10_sizes_22 (by decide) c5 ?_
        refine V_aload_n K 0 dX10_sizes_25 rfl ?_
        refine V_aload_n K 0 dX10_sizes_26 rfl ?_
        refine V_iload_n K 2 dX10_sizes_27 rfl ?_
        obtain ⟨r9, q10, E⟩ := ob_inv E
        refine iv_X10_196 K (c_X10_wrongRow _ a2 h q10) dX10_sizes_28 (Nat.le_of_ble_eq_true rfl) ?_
        obtain ⟨r13, h12, q11, E⟩ := ob2_inv E
        refine iv_X10_71 K (c_X10_find _ r9 h q11) dX10_sizes_31 (Nat.le_of_ble_eq_true rfl) ?_
        refine V_goto K 43 dX10_sizes_34 (by decide) ?_
        cases E
        exact V_iret K dX10_sizes_43 rfl T
theorem c_X10_sizes (d : Nat) (a1 : Int32) (a2 : Int32) (h : Hp)  {r : Int32} {h' : Hp} (E : X10_sizes a1 a2 h = some (r, h')) : Runs (d + 5) yX10_sizes cX10_sizes 3 (some .int) (fun f => [.ref (f 51), .int a1, .int a2]) h (fun _ => some (.int r)) h' :=
  Runs.of (by decide +kernel) (fun _ => Nat.le_of_ble_eq_true rfl) (fun x K T => w_X10_sizes K  a1 a2 h  E T)
def X10_spoon (a1 : Int32) (h : Hp) : Option (Int32 × Hp) :=
  if (X10_in a1 (1 : Int32) (9 : Int32)) = (0 : Int32) then (some ((-1 : Int32), h))
  else (if (h.1 51 2) = (0 : Int32) then (some ((-4 : Int32), h))
  else (gd (ib ((X10_now h) + (12 : Int32)) 2805) (
  if (h.1 52 (ix ((X10_now h) + (12 : Int32)))) = (60 : Int32) then (some ((-4 : Int32), h))
  else (if (h.1 51 5) = (40 : Int32) then (some ((-2 : Int32), h))
  else (ob2 (X10_begin h) fun r8 h7 =>
  ob (X10_spoonIn r8 a1 h7) fun h10 =>
  gd (ib ((X10_now h10) + (12 : Int32)) 2805) (
  some (h10.1 52 (ix ((X10_now h10) + (12 : Int32))), h10)))))))
set_option maxHeartbeats 4000000 in
set_option maxRecDepth 100000 in
theorem w_X10_spoon {x : Cx} {d : Nat} (K : Ok x cX10_spoon RX10 2 (some .int) (d + 2)) (a1 : Int32) (h : Hp)  {z : Int32 × Hp} (E : X10_spoon a1 h = some z) (T : x.2.2.2.2 = (some (.int (z.1)), z.2)) : VV x 0 [(0, .ref (ad x 51)), (1, .int a1)] [] h := by
  unfold X10_spoon at E
  refine V_iload_n K 1 dX10_spoon_0 rfl ?_
  refine V_ic (v := 1) K dX10_spoon_1 rfl ?_
  refine V_bp (v := 9) K dX10_spoon_2 rfl ?_
  refine iv_X10_63 K (c_X10_in _ a1 (1 : Int32) (9 : Int32) h) dX10_spoon_4 (Nat.le_of_ble_eq_true rfl) ?_
  rcases if_inv E with ⟨c1, E⟩ | ⟨c1, E⟩
  · refine V_if_ne_f K 12 dX10_spoon_7 (by decide) c1 ?_
    refine V_ic (v := -1) K dX10_spoon_10 rfl ?_
    cases E
    exact V_iret K dX10_spoon_11 rfl T
  · refine V_if_ne_t K 12 dX10_spoon_7 (by decide) c1 ?_
    refine V_aload_n K 0 dX10_spoon_12 rfl ?_
    refine gf_X10_120 K dX10_spoon_13 ?_
    rcases if_inv E with ⟨c2, E⟩ | ⟨c2, E⟩
    · refine V_if_eq_t K 36 dX10_spoon_16 (by decide) c2 ?_
      refine V_bp (v := -4) K dX10_spoon_36 rfl ?_
      cases E
      exact V_iret K dX10_spoon_38 rfl T
    · refine V_if_eq_f K 36 dX10_spoon_16 (by decide) c2 ?_
      refine V_aload_n K 0 dX10_spoon_19 rfl ?_
      refine gf_X10_7 K dX10_spoon_20 ?_
      refine V_aload_n K 0 dX10_spoon_23 rfl ?_
      refine iv_X10_145 K (c_X10_now _ h) dX10_spoon_24 (Nat.le_of_ble_eq_true rfl) ?_
      refine V_bp (v := 12) K dX10_spoon_27 rfl ?_
      refine V_iadd K dX10_spoon_29 ?_
      obtain ⟨g3, E⟩ := gd_inv E
      refine V_iald K k_52 n_52 g3 dX10_spoon_30 ?_
      refine V_bp (v := 60) K dX10_spoon_31 rfl ?_
      rcases if_inv E with ⟨c4, E⟩ | ⟨c4, E⟩
      · refine V_ic_ne_f K 39 dX10_spoon_33 (by decide) c4 ?_
        refine V_bp (v := -4) K dX10_spoon_36 rfl ?_
        cases E
        exact V_iret K dX10_spoon_38 rfl T
      · refine V_ic_ne_t K 39 dX10_spoon_33 (by decide) c4 ?_
        refine V_aload_n K 0 dX10_spoon_39 rfl ?_
        refine gf_X10_129 K dX10_spoon_40 ?_
        refine V_bp (v := 40) K dX10_spoon_43 rfl ?_
        rcases if_inv E with ⟨c5, E⟩ | ⟨c5, E⟩
        · refine V_ic_ne_f K 51 dX10_spoon_45 (by decide) c5 ?_
          refine V_bp (v := -2) K dX10_spoon_48 rfl ?_
          cases E
          exact V_iret K dX10_spoon_50 rfl T
        · refine V_ic_ne_t K 51 dX10_spoon_45 (by decide) c5 ?_
          refine V_aload_n K 0 dX10_spoon_51 rfl ?_
          refine V_aload_n K 0 dX10_spoon_52 rfl ?_
          obtain ⟨r8, h7, q6, E⟩ := ob2_inv E
          refine iv_X10_171 K (c_X10_begin _ h q6) dX10_spoon_53 (Nat.le_of_ble_eq_true rfl) ?_
          refine V_iload_n K 1 dX10_spoon_56 rfl ?_
          obtain ⟨h10, q9, E⟩ := ob_inv E
          refine iv_X10_177 K (c_X10_spoonIn _ r8 a1 h7 q9) dX10_spoon_57 (Nat.le_of_ble_eq_true rfl) ?_
          refine V_aload_n K 0 dX10_spoon_60 rfl ?_
          refine gf_X10_7 K dX10_spoon_61 ?_
          refine V_aload_n K 0 dX10_spoon_64 rfl ?_
          refine iv_X10_145 K (c_X10_now _ h10) dX10_spoon_65 (Nat.le_of_ble_eq_true rfl) ?_
          refine V_bp (v := 12) K dX10_spoon_68 rfl ?_
          refine V_iadd K dX10_spoon_70 ?_
          obtain ⟨g11, E⟩ := gd_inv E
          refine V_iald K k_52 n_52 g11 dX10_spoon_71 ?_
          cases E
          exact V_iret K dX10_spoon_72 rfl T
theorem c_X10_spoon (d : Nat) (a1 : Int32) (h : Hp)  {r : Int32} {h' : Hp} (E : X10_spoon a1 h = some (r, h')) : Runs (d + 2) yX10_spoon cX10_spoon 2 (some .int) (fun f => [.ref (f 51), .int a1]) h (fun _ => some (.int r)) h' :=
  Runs.of (by decide +kernel) (fun _ => Nat.le_of_ble_eq_true rfl) (fun x K T => w_X10_spoon K  a1 h  E T)
def X10_stand (a1 : Int32) (a2 : Int32) (h : Hp) : Option (Int32 × Hp) :=
  if (X10_isOne a1 h) = (0 : Int32) then (some ((-1 : Int32), h))
  else (if (X10_in a2 (0 : Int32) (9 : Int32)) = (0 : Int32) then (some ((-1 : Int32), h))
  else (gd (ib ((X10_now h) + a1) 2805) (
  if (h.1 52 (ix ((X10_now h) + a1))) = a2 then (some ((-4 : Int32), h))
  else (if (h.1 51 5) = (40 : Int32) then (some ((-2 : Int32), h))
  else (lt_ (h.1 52 (ix ((X10_now h) + a1))) fun v6 =>
  ob2 (X10_begin h) fun r10 h9 =>
  gd (ib (r10 + a1) 2805) (
  lt_ (up h9 52 (ix (r10 + a1)) a2) fun h12 =>
  some (v6, h12)))))))
set_option maxHeartbeats 4000000 in
set_option maxRecDepth 100000 in
theorem w_X10_stand {x : Cx} {d : Nat} (K : Ok x cX10_stand RX10 4 (some .int) (d + 2)) (a1 : Int32) (a2 : Int32) (h : Hp)  {z : Int32 × Hp} (E : X10_stand a1 a2 h = some z) (T : x.2.2.2.2 = (some (.int (z.1)), z.2)) : VV x 0 [(0, .ref (ad x 51)), (1, .int a1), (2, .int a2)] [] h := by
  unfold X10_stand at E
  refine V_aload_n K 0 dX10_stand_0 rfl ?_
  refine V_iload_n K 1 dX10_stand_1 rfl ?_
  refine iv_X10_152 K (c_X10_isOne _ a1 h) dX10_stand_2 (Nat.le_of_ble_eq_true rfl) ?_
  rcases if_inv E with ⟨c1, E⟩ | ⟨c1, E⟩
  · refine V_if_eq_t K 18 dX10_stand_5 (by decide) c1 ?_
    refine V_ic (v := -1) K dX10_stand_18 rfl ?_
    cases E
    exact V_iret K dX10_stand_19 rfl T
  · refine V_if_eq_f K 18 dX10_stand_5 (by decide) c1 ?_
    refine V_iload_n K 2 dX10_stand_8 rfl ?_
    refine V_ic (v := 0) K dX10_stand_9 rfl ?_
    refine V_bp (v := 9) K dX10_stand_10 rfl ?_
    refine iv_X10_63 K (c_X10_in _ a2 (0 : Int32) (9 : Int32) h) dX10_stand_12 (Nat.le_of_ble_eq_true rfl) ?_
    rcases if_inv E with ⟨c2, E⟩ | ⟨c2, E⟩
    · refine V_if_ne_f K 20 dX10_stand_15 (by decide) c2 ?_
      refine V_ic (v := -1) K dX10_stand_18 rfl ?_
      cases E
      exact V_iret K dX10_stand_19 rfl T
    · refine V_if_ne_t K 20 dX10_stand_15 (by decide) c2 ?_
      refine V_aload_n K 0 dX10_stand_20 rfl ?_
      refine gf_X10_7 K dX10_stand_21 ?_
      refine V_aload_n K 0 dX10_stand_24 rfl ?_
      refine iv_X10_145 K (c_X10_now _ h) dX10_stand_25 (Nat.le_of_ble_eq_true rfl) ?_
      refine V_iload_n K 1 dX10_stand_28 rfl ?_
      refine V_iadd K dX10_stand_29 ?_
      obtain ⟨g3, E⟩ := gd_inv E
      refine V_iald K k_52 n_52 g3 dX10_stand_30 ?_
      refine V_iload_n K 2 dX10_stand_31 rfl ?_
      rcases if_inv E with ⟨c4, E⟩ | ⟨c4, E⟩
      · refine V_ic_ne_f K 38 dX10_stand_32 (by decide) c4 ?_
        refine V_bp (v := -4) K dX10_stand_35 rfl ?_
        cases E
        exact V_iret K dX10_stand_37 rfl T
      · refine V_ic_ne_t K 38 dX10_stand_32 (by decide) c4 ?_
        refine V_aload_n K 0 dX10_stand_38 rfl ?_
        refine gf_X10_129 K dX10_stand_39 ?_
        refine V_bp (v := 40) K dX10_stand_42 rfl ?_
        rcases if_inv E with ⟨c5, E⟩ | ⟨c5, E⟩
        · refine V_ic_ne_f K 50 dX10_stand_44 (by decide) c5 ?_
          refine V_bp (v := -2) K dX10_stand_47 rfl ?_
          cases E
          exact V_iret K dX10_stand_49 rfl T
        · refine V_ic_ne_t K 50 dX10_stand_44 (by decide) c5 ?_
          refine V_aload_n K 0 dX10_stand_50 rfl ?_
          refine gf_X10_7 K dX10_stand_51 ?_
          refine V_aload_n K 0 dX10_stand_54 rfl ?_
          refine iv_X10_145 K (c_X10_now _ h) dX10_stand_55 (Nat.le_of_ble_eq_true rfl) ?_
          refine V_iload_n K 1 dX10_stand_58 rfl ?_
          refine V_iadd K dX10_stand_59 ?_
          refine V_iald K k_52 n_52 g3 dX10_stand_60 ?_
          obtain ⟨v6, e7, E⟩ := lt_inv E
          refine V_top e7 ?_
          refine V_istore_n (lv' := [(3, .int v6), (0, .ref (ad x 51)), (1, .int a1), (2, .int a2)]) K dX10_stand_61 (by decide) rfl ?_
          refine V_aload_n K 1 dX10_stand_62 rfl ?_
          refine gf_X10_7 K dX10_stand_63 ?_
          refine V_aload_n K 1 dX10_stand_66 rfl ?_
          obtain ⟨r10, h9, q8, E⟩ := ob2_inv E
          refine iv_X10_171 K (c_X10_begin _ h q8) dX10_stand_67 (Nat.le_of_ble_eq_true rfl) ?_
          refine V_iload_n K 2 dX10_stand_70 rfl ?_
          refine V_iadd K dX10_stand_71 ?_
          refine V_iload_n K 3 dX10_stand_72 rfl ?_
          obtain ⟨g11, E⟩ := gd_inv E
          obtain ⟨h12, e13, E⟩ := lt_inv E
          refine V_iast K k_52 n_52 g11 dX10_stand_73 ?_
          refine V_hp e13 ?_
          refine V_iload_n K 0 dX10_stand_74 rfl ?_
          cases E
          exact V_iret K dX10_stand_75 rfl T
theorem c_X10_stand (d : Nat) (a1 : Int32) (a2 : Int32) (h : Hp)  {r : Int32} {h' : Hp} (E : X10_stand a1 a2 h = some (r, h')) : Runs (d + 2) yX10_stand cX10_stand 4 (some .int) (fun f => [.ref (f 51), .int a1, .int a2]) h (fun _ => some (.int r)) h' :=
  Runs.of (by decide +kernel) (fun _ => Nat.le_of_ble_eq_true rfl) (fun x K T => w_X10_stand K  a1 a2 h  E T)
