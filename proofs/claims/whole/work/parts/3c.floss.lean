def X9_duelEnd_s35 (x1 : Int32) (x2 : Int32) (y5 : Int32) (h : Hp) : Option ((Int32 × Hp) ⊕ (Int32 × Hp)) :=
  if (3 : Int32) ≤ y5 then (some (.inl (y5, h)))
  else (ob2 (X4_pass 23 (0 : Int32) h) fun r12 h11 =>
  lt_ (y5 + (1 : Int32)) fun v13 =>
  some (.inr (v13, h11)))
set_option maxHeartbeats 4000000 in
set_option maxRecDepth 100000 in
theorem wl_X9_duelEnd_s35 {x : Cx} {d : Nat} (K : Ok x cX9_duelEnd RX9 6 (some .int) (d + 5)) (x1 : Int32) (x2 : Int32)  : ∀ (n : Nat) (s : Int32 × Hp) (r : (Int32 × Hp)), lp (fun s : Int32 × Hp => X9_duelEnd_s35 x1 x2 s.1 s.2) n s = some r → (fun r : (Int32 × Hp) => VV x 56 [(0, .ref (ad x 0)), (1, .int x1), (2, .int x2), (5, .int (r.1))] [] r.2) r → (fun s : Int32 × Hp => VV x 35 [(0, .ref (ad x 0)), (1, .int x1), (2, .int x2), (5, .int (s.1))] [] s.2) s := by
  refine lp_walk ?_
  intro s z E T
  obtain ⟨y5, h⟩ := s
  replace E : X9_duelEnd_s35 x1 x2 y5 h = some z := E
  unfold X9_duelEnd_s35 at E
  show VV x 35 [(0, .ref (ad x 0)), (1, .int x1), (2, .int x2), (5, .int y5)] [] h
  refine V_iload K 3 dX9_duelEnd_35 rfl ?_
  refine V_ic (v := 3) K dX9_duelEnd_37 rfl ?_
  rcases if_inv E with ⟨c9, E⟩ | ⟨c9, E⟩
  · refine V_ic_ge_t K 56 dX9_duelEnd_38 (by decide) c9 ?_
    cases E
    exact V_sub [0, 1, 2, 3] rfl T
  · refine V_ic_ge_f K 56 dX9_duelEnd_38 (by decide) c9 ?_
    refine V_aload_n K 0 dX9_duelEnd_41 rfl ?_
    refine gf_X9_74 K dX9_duelEnd_42 ?_
    refine V_ic (v := 0) K dX9_duelEnd_45 rfl ?_
    obtain ⟨r12, h11, q10, E⟩ := ob2_inv E
    refine iv_X9_203 K k_23 (c_X4_pass _ 23 (0 : Int32) h k_23 q10) dX9_duelEnd_46 (Nat.le_of_ble_eq_true rfl) ?_
    refine V_pop K dX9_duelEnd_49 rfl ?_
    obtain ⟨v13, e14, E⟩ := lt_inv E
    refine V_iinc (lv' := [(5, .int v13), (0, .ref (ad x 0)), (1, .int x1), (2, .int x2)]) K 3 dX9_duelEnd_50 rfl (by rw [e14]; rfl) (by decide) rfl ?_
    refine V_goto K 35 dX9_duelEnd_53 (by decide) ?_
    cases E
    exact V_sub [1, 2, 3, 0] rfl T
def X9_duelEnd (a1 : Int32) (a2 : Int32) (a3 : Int32) (a4 : Int32) (h : Hp) : Option (Int32 × Hp) :=
  ob (X4_become 23 19 h) fun h2 =>
  gd (ib a1 6) (
  lt_ (up h2 25 (ix a1) a3) fun h4 =>
  gd (ib a2 6) (
  lt_ (up h4 25 (ix a2) a4) fun h7 =>
  ob2 (lp (fun s : Int32 × Hp => X9_duelEnd_s35 a1 a2 s.1 s.2) FU ((0 : Int32), h7)) fun v15 h16 =>
  some (((h16.1 26 (ix a1)) - (h16.1 26 (ix a2))), h16)))
set_option maxHeartbeats 4000000 in
set_option maxRecDepth 100000 in
theorem w_X9_duelEnd {x : Cx} {d : Nat} (K : Ok x cX9_duelEnd RX9 6 (some .int) (d + 5)) (a1 : Int32) (a2 : Int32) (a3 : Int32) (a4 : Int32) (h : Hp)  {z : Int32 × Hp} (E : X9_duelEnd a1 a2 a3 a4 h = some z) (T : x.2.2.2.2 = (some (.int (z.1)), z.2)) : VV x 0 [(0, .ref (ad x 0)), (1, .int a1), (2, .int a2), (3, .int a3), (4, .int a4)] [] h := by
  unfold X9_duelEnd at E
  refine V_aload_n K 0 dX9_duelEnd_0 rfl ?_
  refine gf_X9_74 K dX9_duelEnd_1 ?_
  refine V_aload_n K 0 dX9_duelEnd_4 rfl ?_
  refine gf_X9_71 K dX9_duelEnd_5 ?_
  obtain ⟨h2, q1, E⟩ := ob_inv E
  refine iv_X9_120 K k_23 (c_X4_become _ 23 19 h k_23 k_19 q1) dX9_duelEnd_8 (Nat.le_of_ble_eq_true rfl) ?_
  refine V_aload_n K 0 dX9_duelEnd_11 rfl ?_
  refine gf_X9_74 K dX9_duelEnd_12 ?_
  refine gf_X9_182 K k_23 dX9_duelEnd_15 ?_
  refine V_iload_n K 1 dX9_duelEnd_18 rfl ?_
  refine V_iload_n K 3 dX9_duelEnd_19 rfl ?_
  obtain ⟨g3, E⟩ := gd_inv E
  obtain ⟨h4, e5, E⟩ := lt_inv E
  refine V_iast K k_25 n_25 g3 dX9_duelEnd_20 ?_
  refine V_hp e5 ?_
  refine V_aload_n K 0 dX9_duelEnd_21 rfl ?_
  refine gf_X9_74 K dX9_duelEnd_22 ?_
  refine gf_X9_182 K k_23 dX9_duelEnd_25 ?_
  refine V_iload_n K 2 dX9_duelEnd_28 rfl ?_
  refine V_iload K 4 dX9_duelEnd_29 rfl ?_
  obtain ⟨g6, E⟩ := gd_inv E
  obtain ⟨h7, e8, E⟩ := lt_inv E
  refine V_iast K k_25 n_25 g6 dX9_duelEnd_31 ?_
  refine V_hp e8 ?_
  refine V_ic (v := 0) K dX9_duelEnd_32 rfl ?_
  refine V_istore (lv' := [(5, .int (0 : Int32)), (0, .ref (ad x 0)), (1, .int a1), (2, .int a2), (3, .int a3), (4, .int a4)]) K dX9_duelEnd_33 (by decide) rfl ?_
  obtain ⟨v15, h16, q17, E⟩ := ob2_inv E
  refine V_sub [1, 2, 3, 0] rfl (wl_X9_duelEnd_s35 K a1 a2  _ _ _ q17 ?_)
  show VV x 56 [(0, .ref (ad x 0)), (1, .int a1), (2, .int a2), (5, .int v15)] [] h16
  refine V_aload_n K 0 dX9_duelEnd_56 rfl ?_
  refine gf_X9_74 K dX9_duelEnd_57 ?_
  refine gf_X9_146 K k_23 dX9_duelEnd_60 ?_
  refine V_iload_n K 1 dX9_duelEnd_63 rfl ?_
  refine V_iald K k_26 n_26 g3 dX9_duelEnd_64 ?_
  refine V_aload_n K 0 dX9_duelEnd_65 rfl ?_
  refine gf_X9_74 K dX9_duelEnd_66 ?_
  refine gf_X9_146 K k_23 dX9_duelEnd_69 ?_
  refine V_iload_n K 2 dX9_duelEnd_72 rfl ?_
  refine V_iald K k_26 n_26 g6 dX9_duelEnd_73 ?_
  refine V_isub K dX9_duelEnd_74 ?_
  cases E
  exact V_iret K dX9_duelEnd_75 rfl T
theorem c_X9_duelEnd (d : Nat) (a1 : Int32) (a2 : Int32) (a3 : Int32) (a4 : Int32) (h : Hp)  {r : Int32} {h' : Hp} (E : X9_duelEnd a1 a2 a3 a4 h = some (r, h')) : Runs (d + 5) yX9_duelEnd cX9_duelEnd 6 (some .int) (fun f => [.ref (f 0), .int a1, .int a2, .int a3, .int a4]) h (fun _ => some (.int r)) h' :=
  Runs.of (by decide +kernel) (fun _ => Nat.le_of_ble_eq_true rfl) (fun x K T => w_X9_duelEnd K  a1 a2 a3 a4 h  E T)
def X9_firstGoes_0_s22 (x1 : Int32) (x2 : Int32) (x3 : Int32) (x4 : Int32) (x5 : Int32) (y6 : Int32) (y7 : Int32) (h : Hp) : Option ((Int32 × Int32 × Hp) ⊕ (Int32 × Int32 × Hp)) :=
  if (1 : Int32) < y7 then (some (.inl (y6, y7, h)))
  else (ob (J9_floorMod_7cf53 (x3 + y7) (10 : Int32)) fun r3 =>
  none)
set_option maxHeartbeats 4000000 in
set_option maxRecDepth 100000 in
theorem wl_X9_firstGoes_0_s22 {x : Cx} {d : Nat} (K : Ok x cX9_firstGoes RX9 9 (some .int) (d + 6)) (x1 : Int32) (x2 : Int32) (x3 : Int32) (x4 : Int32) (x5 : Int32)  : ∀ (n : Nat) (s : Int32 × Int32 × Hp) (r : (Int32 × Int32 × Hp)), lp (fun s : Int32 × Int32 × Hp => X9_firstGoes_0_s22 x1 x2 x3 x4 x5 s.1 s.2.1 s.2.2) n s = some r → (fun r : (Int32 × Int32 × Hp) => VV x 64 [(0, .ref (ad x 0)), (1, .int x1), (2, .int x2), (3, .int x3), (4, .int x4), (5, .int x5), (6, .int (r.1)), (7, .int (r.2.1))] [] r.2.2) r → (fun s : Int32 × Int32 × Hp => VV x 22 [(0, .ref (ad x 0)), (1, .int x1), (2, .int x2), (3, .int x3), (4, .int x4), (5, .int x5), (6, .int (s.1)), (7, .int (s.2.1))] [] s.2.2) s := by
  refine lp_walk ?_
  intro s z E T
  obtain ⟨y6, y7, h⟩ := s
  replace E : X9_firstGoes_0_s22 x1 x2 x3 x4 x5 y6 y7 h = some z := E
  unfold X9_firstGoes_0_s22 at E
  show VV x 22 [(0, .ref (ad x 0)), (1, .int x1), (2, .int x2), (3, .int x3), (4, .int x4), (5, .int x5), (6, .int y6), (7, .int y7)] [] h
  refine V_iload K 7 dX9_firstGoes_22 rfl ?_
  refine V_ic (v := 1) K dX9_firstGoes_24 rfl ?_
  rcases if_inv E with ⟨c2, E⟩ | ⟨c2, E⟩
  · refine V_ic_gt_t K 64 dX9_firstGoes_25 (by decide) c2 ?_
    cases E
    exact V_sub [0, 1, 2, 3, 4, 5, 6, 7] rfl T
  · refine V_ic_gt_f K 64 dX9_firstGoes_25 (by decide) c2 ?_
    refine V_iload_n K 3 dX9_firstGoes_28 rfl ?_
    refine V_iload K 7 dX9_firstGoes_29 rfl ?_
    refine V_iadd K dX9_firstGoes_31 ?_
    refine V_bp (v := 10) K dX9_firstGoes_32 rfl ?_
    obtain ⟨r3, q4, E⟩ := ob_inv E
    refine iv_X9_348 K (c_J9_floorMod_7cf53 _ (x3 + y7) (10 : Int32) h q4) dX9_firstGoes_34 (Nat.le_of_ble_eq_true rfl) ?_
    refine V_istore (lv' := [(8, .int r3), (0, .ref (ad x 0)), (1, .int x1), (2, .int x2), (3, .int x3), (4, .int x4), (5, .int x5), (6, .int y6), (7, .int y7)]) K dX9_firstGoes_37 (by decide) rfl ?_
    refine V_iload K 7 dX9_firstGoes_39 rfl ?_
    refine V_aload_n K 1 dX9_firstGoes_41 rfl ?_
    refine V_iload_n K 2 dX9_firstGoes_42 rfl ?_
    refine V_iload_n K 3 dX9_firstGoes_43 rfl ?_
    refine V_iload K 0 dX9_firstGoes_44 rfl ?_
    refine V_iload K 5 dX9_firstGoes_46 rfl ?_
    refine V_iload K 6 dX9_firstGoes_48 rfl ?_
    cases E
def X9_firstGoes_0 (a1 : Int32) (a2 : Int32) (a3 : Int32) (a4 : Int32) (a5 : Int32) (h : Hp) : Option (Int32 × Hp) :=
  if (0 : Int32) < a5 then (ob3 (lp (fun s : Int32 × Int32 × Hp => X9_firstGoes_0_s22 a1 a2 a3 a4 a5 s.1 s.2.1 s.2.2) FU ((-30 : Int32), (-1 : Int32), h)) fun v5 v6 h7 =>
  some (v5, h7))
  else (ob2 (X9_duelEnd a1 a2 a3 a4 h) fun r11 h10 =>
  some (r11, h10))
set_option maxHeartbeats 4000000 in
set_option maxRecDepth 100000 in
theorem w_X9_firstGoes_0 {x : Cx} {d : Nat} (K : Ok x cX9_firstGoes RX9 9 (some .int) (d + 6)) (a1 : Int32) (a2 : Int32) (a3 : Int32) (a4 : Int32) (a5 : Int32) (h : Hp)  {z : Int32 × Hp} (E : X9_firstGoes_0 a1 a2 a3 a4 a5 h = some z) (T : x.2.2.2.2 = (some (.int (z.1)), z.2)) : VV x 0 [(0, .ref (ad x 0)), (1, .int a1), (2, .int a2), (3, .int a3), (4, .int a4), (5, .int a5)] [] h := by
  unfold X9_firstGoes_0 at E
  refine V_iload K 5 dX9_firstGoes_0 rfl ?_
  rcases if_inv E with ⟨c1, E⟩ | ⟨c1, E⟩
  · refine V_if_gt_t K 15 dX9_firstGoes_2 (by decide) c1 ?_
    refine V_bp (v := -30) K dX9_firstGoes_15 rfl ?_
    refine V_istore (lv' := [(6, .int (-30 : Int32)), (0, .ref (ad x 0)), (1, .int a1), (2, .int a2), (3, .int a3), (4, .int a4), (5, .int a5)]) K dX9_firstGoes_17 (by decide) rfl ?_
    refine V_ic (v := -1) K dX9_firstGoes_19 rfl ?_
    refine V_istore (lv' := [(7, .int (-1 : Int32)), (6, .int (-30 : Int32)), (0, .ref (ad x 0)), (1, .int a1), (2, .int a2), (3, .int a3), (4, .int a4), (5, .int a5)]) K dX9_firstGoes_20 (by decide) rfl ?_
    obtain ⟨v5, v6, h7, q8, E⟩ := ob3_inv E
    refine V_sub [2, 3, 4, 5, 6, 7, 1, 0] rfl (wl_X9_firstGoes_0_s22 K a1 a2 a3 a4 a5  _ _ _ q8 ?_)
    show VV x 64 [(0, .ref (ad x 0)), (1, .int a1), (2, .int a2), (3, .int a3), (4, .int a4), (5, .int a5), (6, .int v5), (7, .int v6)] [] h7
    refine V_iload K 6 dX9_firstGoes_64 rfl ?_
    cases E
    exact V_iret K dX9_firstGoes_66 rfl T
  · refine V_if_gt_f K 15 dX9_firstGoes_2 (by decide) c1 ?_
    refine V_aload_n K 0 dX9_firstGoes_5 rfl ?_
    refine V_iload_n K 1 dX9_firstGoes_6 rfl ?_
    refine V_iload_n K 2 dX9_firstGoes_7 rfl ?_
    refine V_iload_n K 3 dX9_firstGoes_8 rfl ?_
    refine V_iload K 4 dX9_firstGoes_9 rfl ?_
    obtain ⟨r11, h10, q9, E⟩ := ob2_inv E
    refine iv_X9_344 K (c_X9_duelEnd _ a1 a2 a3 a4 h q9) dX9_firstGoes_11 (Nat.le_of_ble_eq_true rfl) ?_
    cases E
    exact V_iret K dX9_firstGoes_14 rfl T
theorem c_X9_firstGoes_0 (d : Nat) (a1 : Int32) (a2 : Int32) (a3 : Int32) (a4 : Int32) (a5 : Int32) (h : Hp)  {r : Int32} {h' : Hp} (E : X9_firstGoes_0 a1 a2 a3 a4 a5 h = some (r, h')) : Runs (d + 6) yX9_firstGoes cX9_firstGoes 9 (some .int) (fun f => [.ref (f 0), .int a1, .int a2, .int a3, .int a4, .int a5]) h (fun _ => some (.int r)) h' :=
  Runs.of (by decide +kernel) (fun _ => Nat.le_of_ble_eq_true rfl) (fun x K T => w_X9_firstGoes_0 K  a1 a2 a3 a4 a5 h  E T)
def X9_secondGoes_1_s7 (x1 : Int32) (x2 : Int32) (x3 : Int32) (x4 : Int32) (x5 : Int32) (y6 : Int32) (y7 : Int32) (h : Hp) : Option ((Int32 × Int32 × Hp) ⊕ (Int32 × Int32 × Hp)) :=
  if (1 : Int32) < y7 then (some (.inl (y6, y7, h)))
  else (ob (J9_floorMod_7cf53 (x4 + y7) (10 : Int32)) fun r2 =>
  ob2 (X9_firstGoes_0 x1 x2 x3 r2 (x5 - (1 : Int32)) h) fun r6 h5 =>
  lt_ (mnI y6 r6) fun v7 =>
  lt_ (y7 + (1 : Int32)) fun v9 =>
  some (.inr (v7, v9, h5)))
set_option maxHeartbeats 4000000 in
set_option maxRecDepth 100000 in
theorem wl_X9_secondGoes_1_s7 {x : Cx} {d : Nat} (K : Ok x cX9_secondGoes RX9 9 (some .int) (d + 7)) (x1 : Int32) (x2 : Int32) (x3 : Int32) (x4 : Int32) (x5 : Int32)  : ∀ (n : Nat) (s : Int32 × Int32 × Hp) (r : (Int32 × Int32 × Hp)), lp (fun s : Int32 × Int32 × Hp => X9_secondGoes_1_s7 x1 x2 x3 x4 x5 s.1 s.2.1 s.2.2) n s = some r → (fun r : (Int32 × Int32 × Hp) => VV x 51 [(0, .ref (ad x 0)), (1, .int x1), (2, .int x2), (3, .int x3), (4, .int x4), (5, .int x5), (6, .int (r.1)), (7, .int (r.2.1))] [] r.2.2) r → (fun s : Int32 × Int32 × Hp => VV x 7 [(0, .ref (ad x 0)), (1, .int x1), (2, .int x2), (3, .int x3), (4, .int x4), (5, .int x5), (6, .int (s.1)), (7, .int (s.2.1))] [] s.2.2) s := by
  refine lp_walk ?_
  intro s z E T
  obtain ⟨y6, y7, h⟩ := s
  replace E : X9_secondGoes_1_s7 x1 x2 x3 x4 x5 y6 y7 h = some z := E
  unfold X9_secondGoes_1_s7 at E
  show VV x 7 [(0, .ref (ad x 0)), (1, .int x1), (2, .int x2), (3, .int x3), (4, .int x4), (5, .int x5), (6, .int y6), (7, .int y7)] [] h
  refine V_iload K 7 dX9_secondGoes_7 rfl ?_
  refine V_ic (v := 1) K dX9_secondGoes_9 rfl ?_
  rcases if_inv E with ⟨c1, E⟩ | ⟨c1, E⟩
  · refine V_ic_gt_t K 51 dX9_secondGoes_10 (by decide) c1 ?_
    cases E
    exact V_sub [0, 1, 2, 3, 4, 5, 6, 7] rfl T
  · refine V_ic_gt_f K 51 dX9_secondGoes_10 (by decide) c1 ?_
    refine V_iload K 4 dX9_secondGoes_13 rfl ?_
    refine V_iload K 7 dX9_secondGoes_15 rfl ?_
    refine V_iadd K dX9_secondGoes_17 ?_
    refine V_bp (v := 10) K dX9_secondGoes_18 rfl ?_
    obtain ⟨r2, q3, E⟩ := ob_inv E
    refine iv_X9_348 K (c_J9_floorMod_7cf53 _ (x4 + y7) (10 : Int32) h q3) dX9_secondGoes_20 (Nat.le_of_ble_eq_true rfl) ?_
    refine V_istore (lv' := [(8, .int r2), (0, .ref (ad x 0)), (1, .int x1), (2, .int x2), (3, .int x3), (4, .int x4), (5, .int x5), (6, .int y6), (7, .int y7)]) K dX9_secondGoes_23 (by decide) rfl ?_
    refine V_iload K 7 dX9_secondGoes_25 rfl ?_
    refine V_aload_n K 1 dX9_secondGoes_27 rfl ?_
    refine V_iload_n K 2 dX9_secondGoes_28 rfl ?_
    refine V_iload_n K 3 dX9_secondGoes_29 rfl ?_
    refine V_iload_n K 4 dX9_secondGoes_30 rfl ?_
    refine V_iload K 0 dX9_secondGoes_31 rfl ?_
    refine V_iload K 6 dX9_secondGoes_33 rfl ?_
    refine V_ic (v := 1) K dX9_secondGoes_35 rfl ?_
    refine V_isub K dX9_secondGoes_36 ?_
    obtain ⟨r6, h5, q4, E⟩ := ob2_inv E
    refine iv_X9_249 K (c_X9_firstGoes_0 _ x1 x2 x3 r2 (x5 - (1 : Int32)) h q4) dX9_secondGoes_37 (Nat.le_of_ble_eq_true rfl) ?_
    refine V_min K tb_445 tb_4 tb_5 tb_6 (Nat.le_of_ble_eq_true rfl) dX9_secondGoes_40 ?_
    obtain ⟨v7, e8, E⟩ := lt_inv E
    refine V_top e8 ?_
    refine V_istore (lv' := [(6, .int v7), (8, .int r2), (0, .ref (ad x 0)), (1, .int x1), (2, .int x2), (3, .int x3), (4, .int x4), (5, .int x5), (7, .int y7)]) K dX9_secondGoes_43 (by decide) rfl ?_
    obtain ⟨v9, e10, E⟩ := lt_inv E
    refine V_iinc (lv' := [(7, .int v9), (6, .int v7), (8, .int r2), (0, .ref (ad x 0)), (1, .int x1), (2, .int x2), (3, .int x3), (4, .int x4), (5, .int x5)]) K 8 dX9_secondGoes_45 rfl (by rw [e10]; rfl) (by decide) rfl ?_
    refine V_goto K 7 dX9_secondGoes_48 (by decide) ?_
    cases E
    exact V_sub [3, 4, 5, 6, 7, 8, 1, 0] rfl T
def X9_secondGoes_1 (a1 : Int32) (a2 : Int32) (a3 : Int32) (a4 : Int32) (a5 : Int32) (h : Hp) : Option (Int32 × Hp) :=
  ob3 (lp (fun s : Int32 × Int32 × Hp => X9_secondGoes_1_s7 a1 a2 a3 a4 a5 s.1 s.2.1 s.2.2) FU ((30 : Int32), (-1 : Int32), h)) fun v11 v12 h13 =>
  some (v11, h13)
set_option maxHeartbeats 4000000 in
set_option maxRecDepth 100000 in
theorem w_X9_secondGoes_1 {x : Cx} {d : Nat} (K : Ok x cX9_secondGoes RX9 9 (some .int) (d + 7)) (a1 : Int32) (a2 : Int32) (a3 : Int32) (a4 : Int32) (a5 : Int32) (h : Hp)  {z : Int32 × Hp} (E : X9_secondGoes_1 a1 a2 a3 a4 a5 h = some z) (T : x.2.2.2.2 = (some (.int (z.1)), z.2)) : VV x 0 [(0, .ref (ad x 0)), (1, .int a1), (2, .int a2), (3, .int a3), (4, .int a4), (5, .int a5)] [] h := by
  unfold X9_secondGoes_1 at E
  refine V_bp (v := 30) K dX9_secondGoes_0 rfl ?_
  refine V_istore (lv' := [(6, .int (30 : Int32)), (0, .ref (ad x 0)), (1, .int a1), (2, .int a2), (3, .int a3), (4, .int a4), (5, .int a5)]) K dX9_secondGoes_2 (by decide) rfl ?_
  refine V_ic (v := -1) K dX9_secondGoes_4 rfl ?_
  refine V_istore (lv' := [(7, .int (-1 : Int32)), (6, .int (30 : Int32)), (0, .ref (ad x 0)), (1, .int a1), (2, .int a2), (3, .int a3), (4, .int a4), (5, .int a5)]) K dX9_secondGoes_5 (by decide) rfl ?_
  obtain ⟨v11, v12, h13, q14, E⟩ := ob3_inv E
  refine V_sub [2, 3, 4, 5, 6, 7, 1, 0] rfl (wl_X9_secondGoes_1_s7 K a1 a2 a3 a4 a5  _ _ _ q14 ?_)
  show VV x 51 [(0, .ref (ad x 0)), (1, .int a1), (2, .int a2), (3, .int a3), (4, .int a4), (5, .int a5), (6, .int v11), (7, .int v12)] [] h13
  refine V_iload K 6 dX9_secondGoes_51 rfl ?_
  cases E
  exact V_iret K dX9_secondGoes_53 rfl T
theorem c_X9_secondGoes_1 (d : Nat) (a1 : Int32) (a2 : Int32) (a3 : Int32) (a4 : Int32) (a5 : Int32) (h : Hp)  {r : Int32} {h' : Hp} (E : X9_secondGoes_1 a1 a2 a3 a4 a5 h = some (r, h')) : Runs (d + 7) yX9_secondGoes cX9_secondGoes 9 (some .int) (fun f => [.ref (f 0), .int a1, .int a2, .int a3, .int a4, .int a5]) h (fun _ => some (.int r)) h' :=
  Runs.of (by decide +kernel) (fun _ => Nat.le_of_ble_eq_true rfl) (fun x K T => w_X9_secondGoes_1 K  a1 a2 a3 a4 a5 h  E T)
def X9_firstGoes_1_s22 (x1 : Int32) (x2 : Int32) (x3 : Int32) (x4 : Int32) (x5 : Int32) (y6 : Int32) (y7 : Int32) (h : Hp) : Option ((Int32 × Int32 × Hp) ⊕ (Int32 × Int32 × Hp)) :=
  if (1 : Int32) < y7 then (some (.inl (y6, y7, h)))
  else (ob (J9_floorMod_7cf53 (x3 + y7) (10 : Int32)) fun r3 =>
  ob2 (X9_secondGoes_1 x1 x2 r3 x4 x5 h) fun r7 h6 =>
  lt_ (mxI y6 r7) fun v8 =>
  lt_ (y7 + (1 : Int32)) fun v10 =>
  some (.inr (v8, v10, h6)))
set_option maxHeartbeats 4000000 in
set_option maxRecDepth 100000 in
theorem wl_X9_firstGoes_1_s22 {x : Cx} {d : Nat} (K : Ok x cX9_firstGoes RX9 9 (some .int) (d + 8)) (x1 : Int32) (x2 : Int32) (x3 : Int32) (x4 : Int32) (x5 : Int32)  : ∀ (n : Nat) (s : Int32 × Int32 × Hp) (r : (Int32 × Int32 × Hp)), lp (fun s : Int32 × Int32 × Hp => X9_firstGoes_1_s22 x1 x2 x3 x4 x5 s.1 s.2.1 s.2.2) n s = some r → (fun r : (Int32 × Int32 × Hp) => VV x 64 [(0, .ref (ad x 0)), (1, .int x1), (2, .int x2), (3, .int x3), (4, .int x4), (5, .int x5), (6, .int (r.1)), (7, .int (r.2.1))] [] r.2.2) r → (fun s : Int32 × Int32 × Hp => VV x 22 [(0, .ref (ad x 0)), (1, .int x1), (2, .int x2), (3, .int x3), (4, .int x4), (5, .int x5), (6, .int (s.1)), (7, .int (s.2.1))] [] s.2.2) s := by
  refine lp_walk ?_
  intro s z E T
  obtain ⟨y6, y7, h⟩ := s
  replace E : X9_firstGoes_1_s22 x1 x2 x3 x4 x5 y6 y7 h = some z := E
  unfold X9_firstGoes_1_s22 at E
  show VV x 22 [(0, .ref (ad x 0)), (1, .int x1), (2, .int x2), (3, .int x3), (4, .int x4), (5, .int x5), (6, .int y6), (7, .int y7)] [] h
  refine V_iload K 7 dX9_firstGoes_22 rfl ?_
  refine V_ic (v := 1) K dX9_firstGoes_24 rfl ?_
  rcases if_inv E with ⟨c2, E⟩ | ⟨c2, E⟩
  · refine V_ic_gt_t K 64 dX9_firstGoes_25 (by decide) c2 ?_
    cases E
    exact V_sub [0, 1, 2, 3, 4, 5, 6, 7] rfl T
  · refine V_ic_gt_f K 64 dX9_firstGoes_25 (by decide) c2 ?_
    refine V_iload_n K 3 dX9_firstGoes_28 rfl ?_
    refine V_iload K 7 dX9_firstGoes_29 rfl ?_
    refine V_iadd K dX9_firstGoes_31 ?_
    refine V_bp (v := 10) K dX9_firstGoes_32 rfl ?_
    obtain ⟨r3, q4, E⟩ := ob_inv E
    refine iv_X9_348 K (c_J9_floorMod_7cf53 _ (x3 + y7) (10 : Int32) h q4) dX9_firstGoes_34 (Nat.le_of_ble_eq_true rfl) ?_
    refine V_istore (lv' := [(8, .int r3), (0, .ref (ad x 0)), (1, .int x1), (2, .int x2), (3, .int x3), (4, .int x4), (5, .int x5), (6, .int y6), (7, .int y7)]) K dX9_firstGoes_37 (by decide) rfl ?_
    refine V_iload K 7 dX9_firstGoes_39 rfl ?_
    refine V_aload_n K 1 dX9_firstGoes_41 rfl ?_
    refine V_iload_n K 2 dX9_firstGoes_42 rfl ?_
    refine V_iload_n K 3 dX9_firstGoes_43 rfl ?_
    refine V_iload K 0 dX9_firstGoes_44 rfl ?_
    refine V_iload K 5 dX9_firstGoes_46 rfl ?_
    refine V_iload K 6 dX9_firstGoes_48 rfl ?_
    obtain ⟨r7, h6, q5, E⟩ := ob2_inv E
    refine iv_X9_351 K (c_X9_secondGoes_1 _ x1 x2 r3 x4 x5 h q5) dX9_firstGoes_50 (Nat.le_of_ble_eq_true rfl) ?_
    refine V_max K tb_446 tb_447 tb_5 tb_448 (Nat.le_of_ble_eq_true rfl) dX9_firstGoes_53 ?_
    obtain ⟨v8, e9, E⟩ := lt_inv E
    refine V_top e9 ?_
    refine V_istore (lv' := [(6, .int v8), (8, .int r3), (0, .ref (ad x 0)), (1, .int x1), (2, .int x2), (3, .int x3), (4, .int x4), (5, .int x5), (7, .int y7)]) K dX9_firstGoes_56 (by decide) rfl ?_
    obtain ⟨v10, e11, E⟩ := lt_inv E
    refine V_iinc (lv' := [(7, .int v10), (6, .int v8), (8, .int r3), (0, .ref (ad x 0)), (1, .int x1), (2, .int x2), (3, .int x3), (4, .int x4), (5, .int x5)]) K 8 dX9_firstGoes_58 rfl (by rw [e11]; rfl) (by decide) rfl ?_
    refine V_goto K 22 dX9_firstGoes_61 (by decide) ?_
    cases E
    exact V_sub [3, 4, 5, 6, 7, 8, 1, 0] rfl T
def X9_firstGoes_1 (a1 : Int32) (a2 : Int32) (a3 : Int32) (a4 : Int32) (a5 : Int32) (h : Hp) : Option (Int32 × Hp) :=
  if (0 : Int32) < a5 then (ob3 (lp (fun s : Int32 × Int32 × Hp => X9_firstGoes_1_s22 a1 a2 a3 a4 a5 s.1 s.2.1 s.2.2) FU ((-30 : Int32), (-1 : Int32), h)) fun v12 v13 h14 =>
  some (v12, h14))
  else (ob2 (X9_duelEnd a1 a2 a3 a4 h) fun r18 h17 =>
  some (r18, h17))
set_option maxHeartbeats 4000000 in
set_option maxRecDepth 100000 in
theorem w_X9_firstGoes_1 {x : Cx} {d : Nat} (K : Ok x cX9_firstGoes RX9 9 (some .int) (d + 8)) (a1 : Int32) (a2 : Int32) (a3 : Int32) (a4 : Int32) (a5 : Int32) (h : Hp)  {z : Int32 × Hp} (E : X9_firstGoes_1 a1 a2 a3 a4 a5 h = some z) (T : x.2.2.2.2 = (some (.int (z.1)), z.2)) : VV x 0 [(0, .ref (ad x 0)), (1, .int a1), (2, .int a2), (3, .int a3), (4, .int a4), (5, .int a5)] [] h := by
  unfold X9_firstGoes_1 at E
  refine V_iload K 5 dX9_firstGoes_0 rfl ?_
  rcases if_inv E with ⟨c1, E⟩ | ⟨c1, E⟩
  · refine V_if_gt_t K 15 dX9_firstGoes_2 (by decide) c1 ?_
    refine V_bp (v := -30) K dX9_firstGoes_15 rfl ?_
    refine V_istore (lv' := [(6, .int (-30 : Int32)), (0, .ref (ad x 0)), (1, .int a1), (2, .int a2), (3, .int a3), (4, .int a4), (5, .int a5)]) K dX9_firstGoes_17 (by decide) rfl ?_
    refine V_ic (v := -1) K dX9_firstGoes_19 rfl ?_
    refine V_istore (lv' := [(7, .int (-1 : Int32)), (6, .int (-30 : Int32)), (0, .ref (ad x 0)), (1, .int a1), (2, .int a2), (3, .int a3), (4, .int a4), (5, .int a5)]) K dX9_firstGoes_20 (by decide) rfl ?_
    obtain ⟨v12, v13, h14, q15, E⟩ := ob3_inv E
    refine V_sub [2, 3, 4, 5, 6, 7, 1, 0] rfl (wl_X9_firstGoes_1_s22 K a1 a2 a3 a4 a5  _ _ _ q15 ?_)
    show VV x 64 [(0, .ref (ad x 0)), (1, .int a1), (2, .int a2), (3, .int a3), (4, .int a4), (5, .int a5), (6, .int v12), (7, .int v13)] [] h14
    refine V_iload K 6 dX9_firstGoes_64 rfl ?_
    cases E
    exact V_iret K dX9_firstGoes_66 rfl T
  · refine V_if_gt_f K 15 dX9_firstGoes_2 (by decide) c1 ?_
    refine V_aload_n K 0 dX9_firstGoes_5 rfl ?_
    refine V_iload_n K 1 dX9_firstGoes_6 rfl ?_
    refine V_iload_n K 2 dX9_firstGoes_7 rfl ?_
    refine V_iload_n K 3 dX9_firstGoes_8 rfl ?_
    refine V_iload K 4 dX9_firstGoes_9 rfl ?_
    obtain ⟨r18, h17, q16, E⟩ := ob2_inv E
    refine iv_X9_344 K (c_X9_duelEnd _ a1 a2 a3 a4 h q16) dX9_firstGoes_11 (Nat.le_of_ble_eq_true rfl) ?_
    cases E
    exact V_iret K dX9_firstGoes_14 rfl T
theorem c_X9_firstGoes_1 (d : Nat) (a1 : Int32) (a2 : Int32) (a3 : Int32) (a4 : Int32) (a5 : Int32) (h : Hp)  {r : Int32} {h' : Hp} (E : X9_firstGoes_1 a1 a2 a3 a4 a5 h = some (r, h')) : Runs (d + 8) yX9_firstGoes cX9_firstGoes 9 (some .int) (fun f => [.ref (f 0), .int a1, .int a2, .int a3, .int a4, .int a5]) h (fun _ => some (.int r)) h' :=
  Runs.of (by decide +kernel) (fun _ => Nat.le_of_ble_eq_true rfl) (fun x K T => w_X9_firstGoes_1 K  a1 a2 a3 a4 a5 h  E T)
def X9_secondGoes_2_s7 (x1 : Int32) (x2 : Int32) (x3 : Int32) (x4 : Int32) (x5 : Int32) (y6 : Int32) (y7 : Int32) (h : Hp) : Option ((Int32 × Int32 × Hp) ⊕ (Int32 × Int32 × Hp)) :=
  if (1 : Int32) < y7 then (some (.inl (y6, y7, h)))
  else (ob (J9_floorMod_7cf53 (x4 + y7) (10 : Int32)) fun r2 =>
  ob2 (X9_firstGoes_1 x1 x2 x3 r2 (x5 - (1 : Int32)) h) fun r6 h5 =>
  lt_ (mnI y6 r6) fun v7 =>
  lt_ (y7 + (1 : Int32)) fun v9 =>
  some (.inr (v7, v9, h5)))
set_option maxHeartbeats 4000000 in
set_option maxRecDepth 100000 in
theorem wl_X9_secondGoes_2_s7 {x : Cx} {d : Nat} (K : Ok x cX9_secondGoes RX9 9 (some .int) (d + 9)) (x1 : Int32) (x2 : Int32) (x3 : Int32) (x4 : Int32) (x5 : Int32)  : ∀ (n : Nat) (s : Int32 × Int32 × Hp) (r : (Int32 × Int32 × Hp)), lp (fun s : Int32 × Int32 × Hp => X9_secondGoes_2_s7 x1 x2 x3 x4 x5 s.1 s.2.1 s.2.2) n s = some r → (fun r : (Int32 × Int32 × Hp) => VV x 51 [(0, .ref (ad x 0)), (1, .int x1), (2, .int x2), (3, .int x3), (4, .int x4), (5, .int x5), (6, .int (r.1)), (7, .int (r.2.1))] [] r.2.2) r → (fun s : Int32 × Int32 × Hp => VV x 7 [(0, .ref (ad x 0)), (1, .int x1), (2, .int x2), (3, .int x3), (4, .int x4), (5, .int x5), (6, .int (s.1)), (7, .int (s.2.1))] [] s.2.2) s := by
  refine lp_walk ?_
  intro s z E T
  obtain ⟨y6, y7, h⟩ := s
  replace E : X9_secondGoes_2_s7 x1 x2 x3 x4 x5 y6 y7 h = some z := E
  unfold X9_secondGoes_2_s7 at E
  show VV x 7 [(0, .ref (ad x 0)), (1, .int x1), (2, .int x2), (3, .int x3), (4, .int x4), (5, .int x5), (6, .int y6), (7, .int y7)] [] h
  refine V_iload K 7 dX9_secondGoes_7 rfl ?_
  refine V_ic (v := 1) K dX9_secondGoes_9 rfl ?_
  rcases if_inv E with ⟨c1, E⟩ | ⟨c1, E⟩
  · refine V_ic_gt_t K 51 dX9_secondGoes_10 (by decide) c1 ?_
    cases E
    exact V_sub [0, 1, 2, 3, 4, 5, 6, 7] rfl T
  · refine V_ic_gt_f K 51 dX9_secondGoes_10 (by decide) c1 ?_
    refine V_iload K 4 dX9_secondGoes_13 rfl ?_
    refine V_iload K 7 dX9_secondGoes_15 rfl ?_
    refine V_iadd K dX9_secondGoes_17 ?_
    refine V_bp (v := 10) K dX9_secondGoes_18 rfl ?_
    obtain ⟨r2, q3, E⟩ := ob_inv E
    refine iv_X9_348 K (c_J9_floorMod_7cf53 _ (x4 + y7) (10 : Int32) h q3) dX9_secondGoes_20 (Nat.le_of_ble_eq_true rfl) ?_
    refine V_istore (lv' := [(8, .int r2), (0, .ref (ad x 0)), (1, .int x1), (2, .int x2), (3, .int x3), (4, .int x4), (5, .int x5), (6, .int y6), (7, .int y7)]) K dX9_secondGoes_23 (by decide) rfl ?_
    refine V_iload K 7 dX9_secondGoes_25 rfl ?_
    refine V_aload_n K 1 dX9_secondGoes_27 rfl ?_
    refine V_iload_n K 2 dX9_secondGoes_28 rfl ?_
    refine V_iload_n K 3 dX9_secondGoes_29 rfl ?_
    refine V_iload_n K 4 dX9_secondGoes_30 rfl ?_
    refine V_iload K 0 dX9_secondGoes_31 rfl ?_
    refine V_iload K 6 dX9_secondGoes_33 rfl ?_
    refine V_ic (v := 1) K dX9_secondGoes_35 rfl ?_
    refine V_isub K dX9_secondGoes_36 ?_
    obtain ⟨r6, h5, q4, E⟩ := ob2_inv E
    refine iv_X9_249 K (c_X9_firstGoes_1 _ x1 x2 x3 r2 (x5 - (1 : Int32)) h q4) dX9_secondGoes_37 (Nat.le_of_ble_eq_true rfl) ?_
    refine V_min K tb_445 tb_4 tb_5 tb_6 (Nat.le_of_ble_eq_true rfl) dX9_secondGoes_40 ?_
    obtain ⟨v7, e8, E⟩ := lt_inv E
    refine V_top e8 ?_
    refine V_istore (lv' := [(6, .int v7), (8, .int r2), (0, .ref (ad x 0)), (1, .int x1), (2, .int x2), (3, .int x3), (4, .int x4), (5, .int x5), (7, .int y7)]) K dX9_secondGoes_43 (by decide) rfl ?_
    obtain ⟨v9, e10, E⟩ := lt_inv E
    refine V_iinc (lv' := [(7, .int v9), (6, .int v7), (8, .int r2), (0, .ref (ad x 0)), (1, .int x1), (2, .int x2), (3, .int x3), (4, .int x4), (5, .int x5)]) K 8 dX9_secondGoes_45 rfl (by rw [e10]; rfl) (by decide) rfl ?_
    refine V_goto K 7 dX9_secondGoes_48 (by decide) ?_
    cases E
    exact V_sub [3, 4, 5, 6, 7, 8, 1, 0] rfl T
def X9_secondGoes_2 (a1 : Int32) (a2 : Int32) (a3 : Int32) (a4 : Int32) (a5 : Int32) (h : Hp) : Option (Int32 × Hp) :=
  ob3 (lp (fun s : Int32 × Int32 × Hp => X9_secondGoes_2_s7 a1 a2 a3 a4 a5 s.1 s.2.1 s.2.2) FU ((30 : Int32), (-1 : Int32), h)) fun v11 v12 h13 =>
  some (v11, h13)
set_option maxHeartbeats 4000000 in
set_option maxRecDepth 100000 in
theorem w_X9_secondGoes_2 {x : Cx} {d : Nat} (K : Ok x cX9_secondGoes RX9 9 (some .int) (d + 9)) (a1 : Int32) (a2 : Int32) (a3 : Int32) (a4 : Int32) (a5 : Int32) (h : Hp)  {z : Int32 × Hp} (E : X9_secondGoes_2 a1 a2 a3 a4 a5 h = some z) (T : x.2.2.2.2 = (some (.int (z.1)), z.2)) : VV x 0 [(0, .ref (ad x 0)), (1, .int a1), (2, .int a2), (3, .int a3), (4, .int a4), (5, .int a5)] [] h := by
  unfold X9_secondGoes_2 at E
  refine V_bp (v := 30) K dX9_secondGoes_0 rfl ?_
  refine V_istore (lv' := [(6, .int (30 : Int32)), (0, .ref (ad x 0)), (1, .int a1), (2, .int a2), (3, .int a3), (4, .int a4), (5, .int a5)]) K dX9_secondGoes_2 (by decide) rfl ?_
  refine V_ic (v := -1) K dX9_secondGoes_4 rfl ?_
  refine V_istore (lv' := [(7, .int (-1 : Int32)), (6, .int (30 : Int32)), (0, .ref (ad x 0)), (1, .int a1), (2, .int a2), (3, .int a3), (4, .int a4), (5, .int a5)]) K dX9_secondGoes_5 (by decide) rfl ?_
  obtain ⟨v11, v12, h13, q14, E⟩ := ob3_inv E
  refine V_sub [2, 3, 4, 5, 6, 7, 1, 0] rfl (wl_X9_secondGoes_2_s7 K a1 a2 a3 a4 a5  _ _ _ q14 ?_)
  show VV x 51 [(0, .ref (ad x 0)), (1, .int a1), (2, .int a2), (3, .int a3), (4, .int a4), (5, .int a5), (6, .int v11), (7, .int v12)] [] h13
  refine V_iload K 6 dX9_secondGoes_51 rfl ?_
  cases E
  exact V_iret K dX9_secondGoes_53 rfl T
theorem c_X9_secondGoes_2 (d : Nat) (a1 : Int32) (a2 : Int32) (a3 : Int32) (a4 : Int32) (a5 : Int32) (h : Hp)  {r : Int32} {h' : Hp} (E : X9_secondGoes_2 a1 a2 a3 a4 a5 h = some (r, h')) : Runs (d + 9) yX9_secondGoes cX9_secondGoes 9 (some .int) (fun f => [.ref (f 0), .int a1, .int a2, .int a3, .int a4, .int a5]) h (fun _ => some (.int r)) h' :=
  Runs.of (by decide +kernel) (fun _ => Nat.le_of_ble_eq_true rfl) (fun x K T => w_X9_secondGoes_2 K  a1 a2 a3 a4 a5 h  E T)
def X9_firstGoes_2_s22 (x1 : Int32) (x2 : Int32) (x3 : Int32) (x4 : Int32) (x5 : Int32) (y6 : Int32) (y7 : Int32) (h : Hp) : Option ((Int32 × Int32 × Hp) ⊕ (Int32 × Int32 × Hp)) :=
  if (1 : Int32) < y7 then (some (.inl (y6, y7, h)))
  else (ob (J9_floorMod_7cf53 (x3 + y7) (10 : Int32)) fun r3 =>
  ob2 (X9_secondGoes_2 x1 x2 r3 x4 x5 h) fun r7 h6 =>
  lt_ (mxI y6 r7) fun v8 =>
  lt_ (y7 + (1 : Int32)) fun v10 =>
  some (.inr (v8, v10, h6)))
set_option maxHeartbeats 4000000 in
set_option maxRecDepth 100000 in
theorem wl_X9_firstGoes_2_s22 {x : Cx} {d : Nat} (K : Ok x cX9_firstGoes RX9 9 (some .int) (d + 10)) (x1 : Int32) (x2 : Int32) (x3 : Int32) (x4 : Int32) (x5 : Int32)  : ∀ (n : Nat) (s : Int32 × Int32 × Hp) (r : (Int32 × Int32 × Hp)), lp (fun s : Int32 × Int32 × Hp => X9_firstGoes_2_s22 x1 x2 x3 x4 x5 s.1 s.2.1 s.2.2) n s = some r → (fun r : (Int32 × Int32 × Hp) => VV x 64 [(0, .ref (ad x 0)), (1, .int x1), (2, .int x2), (3, .int x3), (4, .int x4), (5, .int x5), (6, .int (r.1)), (7, .int (r.2.1))] [] r.2.2) r → (fun s : Int32 × Int32 × Hp => VV x 22 [(0, .ref (ad x 0)), (1, .int x1), (2, .int x2), (3, .int x3), (4, .int x4), (5, .int x5), (6, .int (s.1)), (7, .int (s.2.1))] [] s.2.2) s := by
  refine lp_walk ?_
  intro s z E T
  obtain ⟨y6, y7, h⟩ := s
  replace E : X9_firstGoes_2_s22 x1 x2 x3 x4 x5 y6 y7 h = some z := E
  unfold X9_firstGoes_2_s22 at E
  show VV x 22 [(0, .ref (ad x 0)), (1, .int x1), (2, .int x2), (3, .int x3), (4, .int x4), (5, .int x5), (6, .int y6), (7, .int y7)] [] h
  refine V_iload K 7 dX9_firstGoes_22 rfl ?_
  refine V_ic (v := 1) K dX9_firstGoes_24 rfl ?_
  rcases if_inv E with ⟨c2, E⟩ | ⟨c2, E⟩
  · refine V_ic_gt_t K 64 dX9_firstGoes_25 (by decide) c2 ?_
    cases E
    exact V_sub [0, 1, 2, 3, 4, 5, 6, 7] rfl T
  · refine V_ic_gt_f K 64 dX9_firstGoes_25 (by decide) c2 ?_
    refine V_iload_n K 3 dX9_firstGoes_28 rfl ?_
    refine V_iload K 7 dX9_firstGoes_29 rfl ?_
    refine V_iadd K dX9_firstGoes_31 ?_
    refine V_bp (v := 10) K dX9_firstGoes_32 rfl ?_
    obtain ⟨r3, q4, E⟩ := ob_inv E
    refine iv_X9_348 K (c_J9_floorMod_7cf53 _ (x3 + y7) (10 : Int32) h q4) dX9_firstGoes_34 (Nat.le_of_ble_eq_true rfl) ?_
    refine V_istore (lv' := [(8, .int r3), (0, .ref (ad x 0)), (1, .int x1), (2, .int x2), (3, .int x3), (4, .int x4), (5, .int x5), (6, .int y6), (7, .int y7)]) K dX9_firstGoes_37 (by decide) rfl ?_
    refine V_iload K 7 dX9_firstGoes_39 rfl ?_
    refine V_aload_n K 1 dX9_firstGoes_41 rfl ?_
    refine V_iload_n K 2 dX9_firstGoes_42 rfl ?_
    refine V_iload_n K 3 dX9_firstGoes_43 rfl ?_
    refine V_iload K 0 dX9_firstGoes_44 rfl ?_
    refine V_iload K 5 dX9_firstGoes_46 rfl ?_
    refine V_iload K 6 dX9_firstGoes_48 rfl ?_
    obtain ⟨r7, h6, q5, E⟩ := ob2_inv E
    refine iv_X9_351 K (c_X9_secondGoes_2 _ x1 x2 r3 x4 x5 h q5) dX9_firstGoes_50 (Nat.le_of_ble_eq_true rfl) ?_
    refine V_max K tb_446 tb_447 tb_5 tb_448 (Nat.le_of_ble_eq_true rfl) dX9_firstGoes_53 ?_
    obtain ⟨v8, e9, E⟩ := lt_inv E
    refine V_top e9 ?_
    refine V_istore (lv' := [(6, .int v8), (8, .int r3), (0, .ref (ad x 0)), (1, .int x1), (2, .int x2), (3, .int x3), (4, .int x4), (5, .int x5), (7, .int y7)]) K dX9_firstGoes_56 (by decide) rfl ?_
    obtain ⟨v10, e11, E⟩ := lt_inv E
    refine V_iinc (lv' := [(7, .int v10), (6, .int v8), (8, .int r3), (0, .ref (ad x 0)), (1, .int x1), (2, .int x2), (3, .int x3), (4, .int x4), (5, .int x5)]) K 8 dX9_firstGoes_58 rfl (by rw [e11]; rfl) (by decide) rfl ?_
    refine V_goto K 22 dX9_firstGoes_61 (by decide) ?_
    cases E
    exact V_sub [3, 4, 5, 6, 7, 8, 1, 0] rfl T
def X9_firstGoes_2 (a1 : Int32) (a2 : Int32) (a3 : Int32) (a4 : Int32) (a5 : Int32) (h : Hp) : Option (Int32 × Hp) :=
  if (0 : Int32) < a5 then (ob3 (lp (fun s : Int32 × Int32 × Hp => X9_firstGoes_2_s22 a1 a2 a3 a4 a5 s.1 s.2.1 s.2.2) FU ((-30 : Int32), (-1 : Int32), h)) fun v12 v13 h14 =>
  some (v12, h14))
  else (ob2 (X9_duelEnd a1 a2 a3 a4 h) fun r18 h17 =>
  some (r18, h17))
set_option maxHeartbeats 4000000 in
set_option maxRecDepth 100000 in
theorem w_X9_firstGoes_2 {x : Cx} {d : Nat} (K : Ok x cX9_firstGoes RX9 9 (some .int) (d + 10)) (a1 : Int32) (a2 : Int32) (a3 : Int32) (a4 : Int32) (a5 : Int32) (h : Hp)  {z : Int32 × Hp} (E : X9_firstGoes_2 a1 a2 a3 a4 a5 h = some z) (T : x.2.2.2.2 = (some (.int (z.1)), z.2)) : VV x 0 [(0, .ref (ad x 0)), (1, .int a1), (2, .int a2), (3, .int a3), (4, .int a4), (5, .int a5)] [] h := by
  unfold X9_firstGoes_2 at E
  refine V_iload K 5 dX9_firstGoes_0 rfl ?_
  rcases if_inv E with ⟨c1, E⟩ | ⟨c1, E⟩
  · refine V_if_gt_t K 15 dX9_firstGoes_2 (by decide) c1 ?_
    refine V_bp (v := -30) K dX9_firstGoes_15 rfl ?_
    refine V_istore (lv' := [(6, .int (-30 : Int32)), (0, .ref (ad x 0)), (1, .int a1), (2, .int a2), (3, .int a3), (4, .int a4), (5, .int a5)]) K dX9_firstGoes_17 (by decide) rfl ?_
    refine V_ic (v := -1) K dX9_firstGoes_19 rfl ?_
    refine V_istore (lv' := [(7, .int (-1 : Int32)), (6, .int (-30 : Int32)), (0, .ref (ad x 0)), (1, .int a1), (2, .int a2), (3, .int a3), (4, .int a4), (5, .int a5)]) K dX9_firstGoes_20 (by decide) rfl ?_
    obtain ⟨v12, v13, h14, q15, E⟩ := ob3_inv E
    refine V_sub [2, 3, 4, 5, 6, 7, 1, 0] rfl (wl_X9_firstGoes_2_s22 K a1 a2 a3 a4 a5  _ _ _ q15 ?_)
    show VV x 64 [(0, .ref (ad x 0)), (1, .int a1), (2, .int a2), (3, .int a3), (4, .int a4), (5, .int a5), (6, .int v12), (7, .int v13)] [] h14
    refine V_iload K 6 dX9_firstGoes_64 rfl ?_
    cases E
    exact V_iret K dX9_firstGoes_66 rfl T
  · refine V_if_gt_f K 15 dX9_firstGoes_2 (by decide) c1 ?_
    refine V_aload_n K 0 dX9_firstGoes_5 rfl ?_
    refine V_iload_n K 1 dX9_firstGoes_6 rfl ?_
    refine V_iload_n K 2 dX9_firstGoes_7 rfl ?_
    refine V_iload_n K 3 dX9_firstGoes_8 rfl ?_
    refine V_iload K 4 dX9_firstGoes_9 rfl ?_
    obtain ⟨r18, h17, q16, E⟩ := ob2_inv E
    refine iv_X9_344 K (c_X9_duelEnd _ a1 a2 a3 a4 h q16) dX9_firstGoes_11 (Nat.le_of_ble_eq_true rfl) ?_
    cases E
    exact V_iret K dX9_firstGoes_14 rfl T
theorem c_X9_firstGoes_2 (d : Nat) (a1 : Int32) (a2 : Int32) (a3 : Int32) (a4 : Int32) (a5 : Int32) (h : Hp)  {r : Int32} {h' : Hp} (E : X9_firstGoes_2 a1 a2 a3 a4 a5 h = some (r, h')) : Runs (d + 10) yX9_firstGoes cX9_firstGoes 9 (some .int) (fun f => [.ref (f 0), .int a1, .int a2, .int a3, .int a4, .int a5]) h (fun _ => some (.int r)) h' :=
  Runs.of (by decide +kernel) (fun _ => Nat.le_of_ble_eq_true rfl) (fun x K T => w_X9_firstGoes_2 K  a1 a2 a3 a4 a5 h  E T)
def X9_duel (a1 : Int32) (a2 : Int32) (a3 : Int32) (h : Hp) : Option (Int32 × Hp) :=
  if (X4_isOne 19 a1 h) = (0 : Int32) then (some ((-1 : Int32), h))
  else (if (X4_isOne 19 a2 h) = (0 : Int32) then (some ((-1 : Int32), h))
  else (if a1 = a2 then (some ((-1 : Int32), h))
  else (if a3 < (0 : Int32) then (some ((-1 : Int32), h))
  else (if a3 ≤ (2 : Int32) then (gd (ib a1 6) (
  gd (ib a2 6) (
  ob2 (X9_firstGoes_2 a1 a2 (h.1 21 (ix a1)) (h.1 21 (ix a2)) a3 h) fun r10 h9 =>
  lt_ (up h9 0 12 r10) fun h11 =>
  some ((1 : Int32), h11))))
  else (some ((-1 : Int32), h))))))
set_option maxHeartbeats 4000000 in
set_option maxRecDepth 100000 in
theorem w_X9_duel {x : Cx} {d : Nat} (K : Ok x cX9_duel RX9 4 (some .int) (d + 11)) (a1 : Int32) (a2 : Int32) (a3 : Int32) (h : Hp)  {z : Int32 × Hp} (E : X9_duel a1 a2 a3 h = some z) (T : x.2.2.2.2 = (some (.int (z.1)), z.2)) : VV x 0 [(0, .ref (ad x 0)), (1, .int a1), (2, .int a2), (3, .int a3)] [] h := by
  unfold X9_duel at E
  refine V_aload_n K 0 dX9_duel_0 rfl ?_
  refine gf_X9_71 K dX9_duel_1 ?_
  refine V_iload_n K 1 dX9_duel_4 rfl ?_
  refine iv_X9_130 K k_19 (c_X4_isOne _ 19 a1 h k_19) dX9_duel_5 (Nat.le_of_ble_eq_true rfl) ?_
  rcases if_inv E with ⟨c1, E⟩ | ⟨c1, E⟩
  · refine V_if_eq_t K 36 dX9_duel_8 (by decide) c1 ?_
    refine V_ic (v := -1) K dX9_duel_36 rfl ?_
    cases E
    exact V_iret K dX9_duel_37 rfl T
  · refine V_if_eq_f K 36 dX9_duel_8 (by decide) c1 ?_
    refine V_aload_n K 0 dX9_duel_11 rfl ?_
    refine gf_X9_71 K dX9_duel_12 ?_
    refine V_iload_n K 2 dX9_duel_15 rfl ?_
    refine iv_X9_130 K k_19 (c_X4_isOne _ 19 a2 h k_19) dX9_duel_16 (Nat.le_of_ble_eq_true rfl) ?_
    rcases if_inv E with ⟨c2, E⟩ | ⟨c2, E⟩
    · refine V_if_eq_t K 36 dX9_duel_19 (by decide) c2 ?_
      refine V_ic (v := -1) K dX9_duel_36 rfl ?_
      cases E
      exact V_iret K dX9_duel_37 rfl T
    · refine V_if_eq_f K 36 dX9_duel_19 (by decide) c2 ?_
      refine V_iload_n K 1 dX9_duel_22 rfl ?_
      refine V_iload_n K 2 dX9_duel_23 rfl ?_
      rcases if_inv E with ⟨c3, E⟩ | ⟨c3, E⟩
      · refine V_ic_eq_t K 36 dX9_duel_24 (by decide) c3 ?_
        refine V_ic (v := -1) K dX9_duel_36 rfl ?_
        cases E
        exact V_iret K dX9_duel_37 rfl T
      · refine V_ic_eq_f K 36 dX9_duel_24 (by decide) c3 ?_
        refine V_iload_n K 3 dX9_duel_27 rfl ?_
        rcases if_inv E with ⟨c4, E⟩ | ⟨c4, E⟩
        · refine V_if_lt_t K 36 dX9_duel_28 (by decide) c4 ?_
          refine V_ic (v := -1) K dX9_duel_36 rfl ?_
          cases E
          exact V_iret K dX9_duel_37 rfl T
        · refine V_if_lt_f K 36 dX9_duel_28 (by decide) c4 ?_
          refine V_iload_n K 3 dX9_duel_31 rfl ?_
          refine V_ic (v := 2) K dX9_duel_32 rfl ?_
          rcases if_inv E with ⟨c5, E⟩ | ⟨c5, E⟩
          · refine V_ic_le_t K 38 dX9_duel_33 (by decide) c5 ?_
            refine V_aload_n K 0 dX9_duel_38 rfl ?_
            refine V_aload_n K 0 dX9_duel_39 rfl ?_
            refine V_iload_n K 1 dX9_duel_40 rfl ?_
            refine V_iload_n K 2 dX9_duel_41 rfl ?_
            refine V_aload_n K 0 dX9_duel_42 rfl ?_
            refine gf_X9_71 K dX9_duel_43 ?_
            refine gf_X9_182 K k_19 dX9_duel_46 ?_
            refine V_iload_n K 1 dX9_duel_49 rfl ?_
            obtain ⟨g6, E⟩ := gd_inv E
            refine V_iald K k_21 n_21 g6 dX9_duel_50 ?_
            refine V_aload_n K 0 dX9_duel_51 rfl ?_
            refine gf_X9_71 K dX9_duel_52 ?_
            refine gf_X9_182 K k_19 dX9_duel_55 ?_
            refine V_iload_n K 2 dX9_duel_58 rfl ?_
            obtain ⟨g7, E⟩ := gd_inv E
            refine V_iald K k_21 n_21 g7 dX9_duel_59 ?_
            refine V_iload_n K 3 dX9_duel_60 rfl ?_
            obtain ⟨r10, h9, q8, E⟩ := ob2_inv E
            refine iv_X9_249 K (c_X9_firstGoes_2 _ a1 a2 (h.1 21 (ix a1)) (h.1 21 (ix a2)) a3 h q8) dX9_duel_61 (Nat.le_of_ble_eq_true rfl) ?_
            obtain ⟨h11, e12, E⟩ := lt_inv E
            refine pf_X9_49 K dX9_duel_64 ?_
            refine V_hp e12 ?_
            refine V_ic (v := 1) K dX9_duel_67 rfl ?_
            cases E
            exact V_iret K dX9_duel_68 rfl T
          · refine V_ic_le_f K 38 dX9_duel_33 (by decide) c5 ?_
            refine V_ic (v := -1) K dX9_duel_36 rfl ?_
            cases E
            exact V_iret K dX9_duel_37 rfl T
theorem c_X9_duel (d : Nat) (a1 : Int32) (a2 : Int32) (a3 : Int32) (h : Hp)  {r : Int32} {h' : Hp} (E : X9_duel a1 a2 a3 h = some (r, h')) : Runs (d + 11) yX9_duel cX9_duel 4 (some .int) (fun f => [.ref (f 0), .int a1, .int a2, .int a3]) h (fun _ => some (.int r)) h' :=
  Runs.of (by decide +kernel) (fun _ => Nat.le_of_ble_eq_true rfl) (fun x K T => w_X9_duel K  a1 a2 a3 h  E T)
def X9_isText (a1 : Int32) : Int32 :=
  if a1 < (0 : Int32) then ((0 : Int32))
  else (if (4 : Int32) ≤ a1 then ((0 : Int32))
  else ((1 : Int32)))
set_option maxHeartbeats 4000000 in
set_option maxRecDepth 100000 in
theorem w_X9_isText {x : Cx} {d : Nat} (K : Ok x cX9_isText RX9 1 (some .boolean) (d + 0)) (a1 : Int32) (h : Hp)  {z : Int32} (E : X9_isText a1 = z) (T : x.2.2.2.2 = (some (.int z), h)) : VV x 0 [(0, .int a1)] [] h := by
  unfold X9_isText at E
  refine V_iload_n K 0 dX9_isText_0 rfl ?_
  rcases if_inv E with ⟨c1, E⟩ | ⟨c1, E⟩
  · refine V_if_lt_t K 13 dX9_isText_1 (by decide) c1 ?_
    refine V_ic (v := 0) K dX9_isText_13 rfl ?_
    cases E
    exact V_iret K dX9_isText_14 rfl T
  · refine V_if_lt_f K 13 dX9_isText_1 (by decide) c1 ?_
    refine V_iload_n K 0 dX9_isText_4 rfl ?_
    refine V_ic (v := 4) K dX9_isText_5 rfl ?_
    rcases if_inv E with ⟨c2, E⟩ | ⟨c2, E⟩
    · refine V_ic_ge_t K 13 dX9_isText_6 (by decide) c2 ?_
      refine V_ic (v := 0) K dX9_isText_13 rfl ?_
      cases E
      exact V_iret K dX9_isText_14 rfl T
    · refine V_ic_ge_f K 13 dX9_isText_6 (by decide) c2 ?_
      refine V_ic (v := 1) K dX9_isText_9 rfl ?_
      refine V_goto K 14 dX9_isText_10 (by decide) ?_
      cases E
      exact V_iret K dX9_isText_14 rfl T
theorem c_X9_isText (d : Nat) (a1 : Int32) (h : Hp)  : Runs (d + 0) yX9_isText cX9_isText 1 (some .boolean) (fun f => [.int a1]) h (fun _ => some (.int (X9_isText a1))) h :=
  Runs.of (by decide +kernel) (fun _ => Nat.le_of_ble_eq_true rfl) (fun x K T => w_X9_isText K  a1 h  rfl T)
theorem bz_X9_isText (a1 : Int32) : narrow .boolean (.int (X9_isText a1)) = .int (X9_isText a1) := by
  unfold X9_isText
  repeat' split
  all_goals first | rfl | exact bz_X10_in _ _ _
def X9_refusedText (a1 : Int32) (h : Hp) : Option (Int32 × Hp) :=
  if (X9_isText a1) = (0 : Int32) then (some ((-1 : Int32), h))
  else (gd (ib a1 4) (
  if (h.1 14 (ix a1)) = (-1 : Int32) then (ob2 (X9_answerFinding (1 : Int32) h) fun r6 h5 =>
  some (r6, h5))
  else (some ((0 : Int32), h))))
set_option maxHeartbeats 4000000 in
set_option maxRecDepth 100000 in
theorem w_X9_refusedText {x : Cx} {d : Nat} (K : Ok x cX9_refusedText RX9 2 (some .int) (d + 1)) (a1 : Int32) (h : Hp)  {z : Int32 × Hp} (E : X9_refusedText a1 h = some z) (T : x.2.2.2.2 = (some (.int (z.1)), z.2)) : VV x 0 [(0, .ref (ad x 0)), (1, .int a1)] [] h := by
  unfold X9_refusedText at E
  refine V_iload_n K 1 dX9_refusedText_0 rfl ?_
  refine iv_X9_108 K (c_X9_isText _ a1 h) dX9_refusedText_1 (Nat.le_of_ble_eq_true rfl) ?_
  rcases if_inv E with ⟨c1, E⟩ | ⟨c1, E⟩
  · refine V_if_ne_f K 9 dX9_refusedText_4 (by decide) c1 ?_
    refine V_ic (v := -1) K dX9_refusedText_7 rfl ?_
    cases E
    exact V_iret K dX9_refusedText_8 rfl T
  · refine V_if_ne_t K 9 dX9_refusedText_4 (by decide) c1 ?_
    refine V_aload_n K 0 dX9_refusedText_9 rfl ?_
    refine gf_X9_23 K dX9_refusedText_10 ?_
    refine V_iload_n K 1 dX9_refusedText_13 rfl ?_
    obtain ⟨g2, E⟩ := gd_inv E
    refine V_iald K k_14 n_14 g2 dX9_refusedText_14 ?_
    refine V_ic (v := -1) K dX9_refusedText_15 rfl ?_
    rcases if_inv E with ⟨c3, E⟩ | ⟨c3, E⟩
    · refine V_ic_ne_f K 27 dX9_refusedText_16 (by decide) c3 ?_
      refine V_aload_n K 0 dX9_refusedText_19 rfl ?_
      refine V_ic (v := 1) K dX9_refusedText_20 rfl ?_
      obtain ⟨r6, h5, q4, E⟩ := ob2_inv E
      refine iv_X9_87 K (c_X9_answerFinding _ (1 : Int32) h q4) dX9_refusedText_21 (Nat.le_of_ble_eq_true rfl) ?_
      refine V_goto K 28 dX9_refusedText_24 (by decide) ?_
      cases E
      exact V_iret K dX9_refusedText_28 rfl T
    · refine V_ic_ne_t K 27 dX9_refusedText_16 (by decide) c3 ?_
      refine V_ic (v := 0) K dX9_refusedText_27 rfl ?_
      cases E
      exact V_iret K dX9_refusedText_28 rfl T
theorem c_X9_refusedText (d : Nat) (a1 : Int32) (h : Hp)  {r : Int32} {h' : Hp} (E : X9_refusedText a1 h = some (r, h')) : Runs (d + 1) yX9_refusedText cX9_refusedText 2 (some .int) (fun f => [.ref (f 0), .int a1]) h (fun _ => some (.int r)) h' :=
  Runs.of (by decide +kernel) (fun _ => Nat.le_of_ble_eq_true rfl) (fun x K T => w_X9_refusedText K  a1 h  E T)
def X9_pastBlanks_s2 (r0 : Nat) (x1 : Int32) (h : Hp) (y3 : Int32) : Option ((Int32) ⊕ (Int32)) :=
  if x1 ≤ y3 then (some (.inl y3))
  else (gd (ib y3 (shN r0)) (
  if (h.1 r0 (ix y3)) = (32 : Int32) then (lt_ (y3 + (1 : Int32)) fun v4 =>
  some (.inr v4))
  else (some (.inl y3))))
set_option maxHeartbeats 4000000 in
set_option maxRecDepth 100000 in
theorem wl_X9_pastBlanks_s2 {x : Cx} {d : Nat} (K : Ok x cX9_pastBlanks RX9 4 (some .int) (d + 0)) (r0 : Nat) (x1 : Int32) (h : Hp) (hr0 : shK r0 = 11) : ∀ (n : Nat) (s : Int32) (r : (Int32)), lp (fun s : Int32 => X9_pastBlanks_s2 r0 x1 h s) n s = some r → (fun r : (Int32) => VV x 21 [(0, .ref (ad x r0)), (1, .int x1), (3, .int r)] [] h) r → (fun s : Int32 => VV x 2 [(0, .ref (ad x r0)), (1, .int x1), (3, .int s)] [] h) s := by
  refine lp_walk ?_
  intro s z E T
  obtain ⟨y3, e0⟩ : ∃ q, q = s := ⟨_, rfl⟩
  subst e0
  replace E : X9_pastBlanks_s2 r0 x1 h y3 = some z := E
  unfold X9_pastBlanks_s2 at E
  show VV x 2 [(0, .ref (ad x r0)), (1, .int x1), (3, .int y3)] [] h
  refine V_iload_n K 2 dX9_pastBlanks_2 rfl ?_
  refine V_iload_n K 1 dX9_pastBlanks_3 rfl ?_
  rcases if_inv E with ⟨c1, E⟩ | ⟨c1, E⟩
  · refine V_ic_ge_t K 21 dX9_pastBlanks_4 (by decide) c1 ?_
    cases E
    exact V_sub [0, 1, 2] rfl T
  · refine V_ic_ge_f K 21 dX9_pastBlanks_4 (by decide) c1 ?_
    refine V_aload_n K 0 dX9_pastBlanks_7 rfl ?_
    refine V_iload_n K 2 dX9_pastBlanks_8 rfl ?_
    obtain ⟨g2, E⟩ := gd_inv E
    refine V_bald K hr0 rfl g2 dX9_pastBlanks_9 ?_
    refine V_bp (v := 32) K dX9_pastBlanks_10 rfl ?_
    rcases if_inv E with ⟨c3, E⟩ | ⟨c3, E⟩
    · refine V_ic_ne_f K 21 dX9_pastBlanks_12 (by decide) c3 ?_
      obtain ⟨v4, e5, E⟩ := lt_inv E
      refine V_iinc (lv' := [(3, .int v4), (0, .ref (ad x r0)), (1, .int x1)]) K 2 dX9_pastBlanks_15 rfl (by rw [e5]; rfl) (by decide) rfl ?_
      refine V_goto K 2 dX9_pastBlanks_18 (by decide) ?_
      cases E
      exact V_sub [1, 2, 0] rfl T
    · refine V_ic_ne_t K 21 dX9_pastBlanks_12 (by decide) c3 ?_
      cases E
      exact V_sub [0, 1, 2] rfl T
def X9_pastBlanks (a1 : Nat) (a2 : Int32) (a3 : Int32) (h : Hp) : Option Int32 :=
  ob (lp (fun s : Int32 => X9_pastBlanks_s2 a1 a2 h s) FU a3) fun v6 =>
  some v6
set_option maxHeartbeats 4000000 in
set_option maxRecDepth 100000 in
theorem w_X9_pastBlanks {x : Cx} {d : Nat} (K : Ok x cX9_pastBlanks RX9 4 (some .int) (d + 0)) (a1 : Nat) (a2 : Int32) (a3 : Int32) (h : Hp) (ha1 : shK a1 = 11) {z : Int32} (E : X9_pastBlanks a1 a2 a3 h = some z) (T : x.2.2.2.2 = (some (.int z), h)) : VV x 0 [(0, .ref (ad x a1)), (1, .int a2), (2, .int a3)] [] h := by
  unfold X9_pastBlanks at E
  refine V_iload_n K 2 dX9_pastBlanks_0 rfl ?_
  refine V_istore_n (lv' := [(3, .int a3), (0, .ref (ad x a1)), (1, .int a2), (2, .int a3)]) K dX9_pastBlanks_1 (by decide) rfl ?_
  obtain ⟨v6, q7, E⟩ := ob_inv E
  refine V_sub [1, 2, 0] rfl (wl_X9_pastBlanks_s2 K a1 a2 h ha1 _ _ _ q7 ?_)
  show VV x 21 [(0, .ref (ad x a1)), (1, .int a2), (3, .int v6)] [] h
  refine V_iload_n K 2 dX9_pastBlanks_21 rfl ?_
  cases E
  exact V_iret K dX9_pastBlanks_22 rfl T
theorem c_X9_pastBlanks (d : Nat) (a1 : Nat) (a2 : Int32) (a3 : Int32) (h : Hp) (ha1 : shK a1 = 11) {r : Int32} (E : X9_pastBlanks a1 a2 a3 h = some r) : Runs (d + 0) yX9_pastBlanks cX9_pastBlanks 4 (some .int) (fun f => [.ref (f a1), .int a2, .int a3]) h (fun _ => some (.int r)) h :=
  Runs.of (by decide +kernel) (fun _ => Nat.le_of_ble_eq_true rfl) (fun x K T => w_X9_pastBlanks K  a1 a2 a3 h ha1 E T)
def X9_pastFigures_s3 (r0 : Nat) (x1 : Int32) (x2 : Int32) (x3 : Int32) (h : Hp) (y4 : Int32) : Option ((Int32) ⊕ (Int32)) :=
  if (x2 + x3) ≤ y4 then (some (.inl y4))
  else (if x1 ≤ y4 then (some (.inl y4))
  else (gd (ib y4 (shN r0)) (
  if (h.1 r0 (ix y4)) < (48 : Int32) then (some (.inl y4))
  else (if (57 : Int32) < (h.1 r0 (ix y4)) then (some (.inl y4))
  else (lt_ (y4 + (1 : Int32)) fun v6 =>
  some (.inr v6))))))
set_option maxHeartbeats 4000000 in
set_option maxRecDepth 100000 in
theorem wl_X9_pastFigures_s3 {x : Cx} {d : Nat} (K : Ok x cX9_pastFigures RX9 5 (some .int) (d + 0)) (r0 : Nat) (x1 : Int32) (x2 : Int32) (x3 : Int32) (h : Hp) (hr0 : shK r0 = 11) : ∀ (n : Nat) (s : Int32) (r : (Int32)), lp (fun s : Int32 => X9_pastFigures_s3 r0 x1 x2 x3 h s) n s = some r → (fun r : (Int32) => VV x 41 [(0, .ref (ad x r0)), (1, .int x1), (2, .int x2), (3, .int x3), (4, .int r)] [] h) r → (fun s : Int32 => VV x 3 [(0, .ref (ad x r0)), (1, .int x1), (2, .int x2), (3, .int x3), (4, .int s)] [] h) s := by
  refine lp_walk ?_
  intro s z E T
  obtain ⟨y4, e0⟩ : ∃ q, q = s := ⟨_, rfl⟩
  subst e0
  replace E : X9_pastFigures_s3 r0 x1 x2 x3 h y4 = some z := E
  unfold X9_pastFigures_s3 at E
  show VV x 3 [(0, .ref (ad x r0)), (1, .int x1), (2, .int x2), (3, .int x3), (4, .int y4)] [] h
  refine V_iload K 4 dX9_pastFigures_3 rfl ?_
  refine V_iload_n K 2 dX9_pastFigures_5 rfl ?_
  refine V_iload_n K 3 dX9_pastFigures_6 rfl ?_
  refine V_iadd K dX9_pastFigures_7 ?_
  rcases if_inv E with ⟨c1, E⟩ | ⟨c1, E⟩
  · refine V_ic_ge_t K 41 dX9_pastFigures_8 (by decide) c1 ?_
    cases E
    exact V_sub [0, 1, 2, 3, 4] rfl T
  · refine V_ic_ge_f K 41 dX9_pastFigures_8 (by decide) c1 ?_
    refine V_iload K 4 dX9_pastFigures_11 rfl ?_
    refine V_iload_n K 1 dX9_pastFigures_13 rfl ?_
    rcases if_inv E with ⟨c2, E⟩ | ⟨c2, E⟩
    · refine V_ic_ge_t K 41 dX9_pastFigures_14 (by decide) c2 ?_
      cases E
      exact V_sub [0, 1, 2, 3, 4] rfl T
    · refine V_ic_ge_f K 41 dX9_pastFigures_14 (by decide) c2 ?_
      refine V_aload_n K 0 dX9_pastFigures_17 rfl ?_
      refine V_iload K 4 dX9_pastFigures_18 rfl ?_
      obtain ⟨g3, E⟩ := gd_inv E
      refine V_bald K hr0 rfl g3 dX9_pastFigures_20 ?_
      refine V_bp (v := 48) K dX9_pastFigures_21 rfl ?_
      rcases if_inv E with ⟨c4, E⟩ | ⟨c4, E⟩
      · refine V_ic_lt_t K 41 dX9_pastFigures_23 (by decide) c4 ?_
        cases E
        exact V_sub [0, 1, 2, 3, 4] rfl T
      · refine V_ic_lt_f K 41 dX9_pastFigures_23 (by decide) c4 ?_
        refine V_aload_n K 0 dX9_pastFigures_26 rfl ?_
        refine V_iload K 4 dX9_pastFigures_27 rfl ?_
        refine V_bald K hr0 rfl g3 dX9_pastFigures_29 ?_
        refine V_bp (v := 57) K dX9_pastFigures_30 rfl ?_
        rcases if_inv E with ⟨c5, E⟩ | ⟨c5, E⟩
        · refine V_ic_gt_t K 41 dX9_pastFigures_32 (by decide) c5 ?_
          cases E
          exact V_sub [0, 1, 2, 3, 4] rfl T
        · refine V_ic_gt_f K 41 dX9_pastFigures_32 (by decide) c5 ?_
          obtain ⟨v6, e7, E⟩ := lt_inv E
          refine V_iinc (lv' := [(4, .int v6), (0, .ref (ad x r0)), (1, .int x1), (2, .int x2), (3, .int x3)]) K 4 dX9_pastFigures_35 rfl (by rw [e7]; rfl) (by decide) rfl ?_
          refine V_goto K 3 dX9_pastFigures_38 (by decide) ?_
          cases E
          exact V_sub [1, 2, 3, 4, 0] rfl T
def X9_pastFigures (a1 : Nat) (a2 : Int32) (a3 : Int32) (a4 : Int32) (h : Hp) : Option Int32 :=
  ob (lp (fun s : Int32 => X9_pastFigures_s3 a1 a2 a3 a4 h s) FU a3) fun v8 =>
  some v8
set_option maxHeartbeats 4000000 in
set_option maxRecDepth 100000 in
theorem w_X9_pastFigures {x : Cx} {d : Nat} (K : Ok x cX9_pastFigures RX9 5 (some .int) (d + 0)) (a1 : Nat) (a2 : Int32) (a3 : Int32) (a4 : Int32) (h : Hp) (ha1 : shK a1 = 11) {z : Int32} (E : X9_pastFigures a1 a2 a3 a4 h = some z) (T : x.2.2.2.2 = (some (.int z), h)) : VV x 0 [(0, .ref (ad x a1)), (1, .int a2), (2, .int a3), (3, .int a4)] [] h := by
  unfold X9_pastFigures at E
  refine V_iload_n K 2 dX9_pastFigures_0 rfl ?_
  refine V_istore (lv' := [(4, .int a3), (0, .ref (ad x a1)), (1, .int a2), (2, .int a3), (3, .int a4)]) K dX9_pastFigures_1 (by decide) rfl ?_
  obtain ⟨v8, q9, E⟩ := ob_inv E
  refine V_sub [1, 2, 3, 4, 0] rfl (wl_X9_pastFigures_s3 K a1 a2 a3 a4 h ha1 _ _ _ q9 ?_)
  show VV x 41 [(0, .ref (ad x a1)), (1, .int a2), (2, .int a3), (3, .int a4), (4, .int v8)] [] h
  refine V_iload K 4 dX9_pastFigures_41 rfl ?_
  cases E
  exact V_iret K dX9_pastFigures_43 rfl T
theorem c_X9_pastFigures (d : Nat) (a1 : Nat) (a2 : Int32) (a3 : Int32) (a4 : Int32) (h : Hp) (ha1 : shK a1 = 11) {r : Int32} (E : X9_pastFigures a1 a2 a3 a4 h = some r) : Runs (d + 0) yX9_pastFigures cX9_pastFigures 5 (some .int) (fun f => [.ref (f a1), .int a2, .int a3, .int a4]) h (fun _ => some (.int r)) h :=
  Runs.of (by decide +kernel) (fun _ => Nat.le_of_ble_eq_true rfl) (fun x K T => w_X9_pastFigures K  a1 a2 a3 a4 h ha1 E T)
def X9_figure (a1 : Int32) : Int32 :=
  (a1 - (48 : Int32))
set_option maxHeartbeats 4000000 in
set_option maxRecDepth 100000 in
theorem w_X9_figure {x : Cx} {d : Nat} (K : Ok x cX9_figure RX9 1 (some .int) (d + 0)) (a1 : Int32) (h : Hp)  {z : Int32} (E : X9_figure a1 = z) (T : x.2.2.2.2 = (some (.int z), h)) : VV x 0 [(0, .int a1)] [] h := by
  unfold X9_figure at E
  refine V_iload_n K 0 dX9_figure_0 rfl ?_
  refine V_bp (v := 48) K dX9_figure_1 rfl ?_
  refine V_isub K dX9_figure_3 ?_
  cases E
  exact V_iret K dX9_figure_4 rfl T
theorem c_X9_figure (d : Nat) (a1 : Int32) (h : Hp)  : Runs (d + 0) yX9_figure cX9_figure 1 (some .int) (fun f => [.int a1]) h (fun _ => some (.int (X9_figure a1))) h :=
  Runs.of (by decide +kernel) (fun _ => Nat.le_of_ble_eq_true rfl) (fun x K T => w_X9_figure K  a1 h  rfl T)
def X9_kindOfLetter_s2 (x0 : Int32) (h : Hp) (y1 : Int32) : Option ((Int32 ⊕ (Int32)) ⊕ (Int32)) :=
  if (6 : Int32) ≤ y1 then (some (.inl (.inr y1)))
  else (gd (ib y1 6) (
  if (lettersI (ix y1)) = x0 then (some (.inl (.inl y1)))
  else (lt_ (y1 + (1 : Int32)) fun v4 =>
  some (.inr v4))))
set_option maxHeartbeats 4000000 in
set_option maxRecDepth 100000 in
theorem wl_X9_kindOfLetter_s2 {x : Cx} {d : Nat} (K : Ok x cX9_kindOfLetter RX9 2 (some .int) (d + 0)) (x0 : Int32) (h : Hp)  : ∀ (n : Nat) (s : Int32) (r : (Int32 ⊕ (Int32))), lp (fun s : Int32 => X9_kindOfLetter_s2 x0 h s) n s = some r → (fun r : (Int32 ⊕ (Int32)) => match r with | .inl q => x.2.2.2.2 = (some (.int q), h) | .inr r => VV x 25 [(0, .int x0), (1, .int r)] [] h) r → (fun s : Int32 => VV x 2 [(0, .int x0), (1, .int s)] [] h) s := by
  refine lp_walk ?_
  intro s z E T
  obtain ⟨y1, e0⟩ : ∃ q, q = s := ⟨_, rfl⟩
  subst e0
  replace E : X9_kindOfLetter_s2 x0 h y1 = some z := E
  unfold X9_kindOfLetter_s2 at E
  show VV x 2 [(0, .int x0), (1, .int y1)] [] h
  refine V_iload_n K 1 dX9_kindOfLetter_2 rfl ?_
  refine V_bp (v := 6) K dX9_kindOfLetter_3 rfl ?_
  rcases if_inv E with ⟨c1, E⟩ | ⟨c1, E⟩
  · refine V_ic_ge_t K 25 dX9_kindOfLetter_5 (by decide) c1 ?_
    cases E
    exact V_sub [0, 1] rfl T
  · refine V_ic_ge_f K 25 dX9_kindOfLetter_5 (by decide) c1 ?_
    refine V_gets K tb_452 dX9_kindOfLetter_8 ?_
    refine V_iload_n K 1 dX9_kindOfLetter_11 rfl ?_
    obtain ⟨g2, E⟩ := gd_inv E
    refine V_lt K g2 dX9_kindOfLetter_12 ?_
    refine V_iload_n K 0 dX9_kindOfLetter_13 rfl ?_
    rcases if_inv E with ⟨c3, E⟩ | ⟨c3, E⟩
    · refine V_ic_ne_f K 19 dX9_kindOfLetter_14 (by decide) c3 ?_
      refine V_iload_n K 1 dX9_kindOfLetter_17 rfl ?_
      cases E
      exact V_iret K dX9_kindOfLetter_18 rfl T
    · refine V_ic_ne_t K 19 dX9_kindOfLetter_14 (by decide) c3 ?_
      obtain ⟨v4, e5, E⟩ := lt_inv E
      refine V_iinc (lv' := [(1, .int v4), (0, .int x0)]) K 1 dX9_kindOfLetter_19 rfl (by rw [e5]; rfl) (by decide) rfl ?_
      refine V_goto K 2 dX9_kindOfLetter_22 (by decide) ?_
      cases E
      exact V_sub [1, 0] rfl T
def X9_kindOfLetter (a1 : Int32) (h : Hp) : Option Int32 :=
  obS1 (lp (fun s : Int32 => X9_kindOfLetter_s2 a1 h s) FU (0 : Int32)) (fun q => some q) fun v6 =>
  some (-9 : Int32)
set_option maxHeartbeats 4000000 in
set_option maxRecDepth 100000 in
theorem w_X9_kindOfLetter {x : Cx} {d : Nat} (K : Ok x cX9_kindOfLetter RX9 2 (some .int) (d + 0)) (a1 : Int32) (h : Hp)  {z : Int32} (E : X9_kindOfLetter a1 h = some z) (T : x.2.2.2.2 = (some (.int z), h)) : VV x 0 [(0, .int a1)] [] h := by
  unfold X9_kindOfLetter at E
  refine V_ic (v := 0) K dX9_kindOfLetter_0 rfl ?_
  refine V_istore_n (lv' := [(1, .int (0 : Int32)), (0, .int a1)]) K dX9_kindOfLetter_1 (by decide) rfl ?_
  rcases obS1_inv E with ⟨q, q7, E⟩ | ⟨v6, q7, E⟩
  · cases E
    exact V_sub [1, 0] rfl (wl_X9_kindOfLetter_s2 K a1 h  _ _ _ q7 T)
  · refine V_sub [1, 0] rfl (wl_X9_kindOfLetter_s2 K a1 h  _ _ _ q7 ?_)
    show VV x 25 [(0, .int a1), (1, .int v6)] [] h
    refine V_bp (v := -9) K dX9_kindOfLetter_25 rfl ?_
    cases E
    exact V_iret K dX9_kindOfLetter_27 rfl T
theorem c_X9_kindOfLetter (d : Nat) (a1 : Int32) (h : Hp)  {r : Int32} (E : X9_kindOfLetter a1 h = some r) : Runs (d + 0) yX9_kindOfLetter cX9_kindOfLetter 2 (some .int) (fun f => [.int a1]) h (fun _ => some (.int r)) h :=
  Runs.of (by decide +kernel) (fun _ => Nat.le_of_ble_eq_true rfl) (fun x K T => w_X9_kindOfLetter K  a1 h  E T)
def X9_readOne (a1 : Nat) (a2 : Int32) (a3 : Int32) (h : Hp) : Option (Int32 × Hp) :=
  gd (ib a3 (shN a1)) (
  ob (X9_kindOfLetter (h.1 a1 (ix a3)) h) fun r2 =>
  if r2 = (-9 : Int32) then (some (a3, h))
  else (if (h.1 23 6) = (6 : Int32) then (some (a3, h))
  else (ob (X9_pastFigures a1 a2 (a3 + (1 : Int32)) (3 : Int32) h) fun r6 =>
  if (a3 + (4 : Int32)) ≤ r6 then (gd (ib (a3 + (2 : Int32)) (shN a1)) (
  gd (ib (a3 + (3 : Int32)) (shN a1)) (
  lt_ (((10 : Int32) * (X9_figure (h.1 a1 (ix (a3 + (2 : Int32)))))) + (X9_figure (h.1 a1 (ix (a3 + (3 : Int32)))))) fun v11 =>
  if v11 ≤ (30 : Int32) then (gd (ib (a3 + (1 : Int32)) (shN a1)) (
  ob (X4_join 23 r2 (X9_figure (h.1 a1 (ix (a3 + (1 : Int32))))) v11 h) fun h16 =>
  some ((-9 : Int32), h16)))
  else (some ((a3 + (2 : Int32)), h)))))
  else (some (r6, h)))))
set_option maxHeartbeats 4000000 in
set_option maxRecDepth 100000 in
theorem w_X9_readOne {x : Cx} {d : Nat} (K : Ok x cX9_readOne RX9 7 (some .int) (d + 1)) (a1 : Nat) (a2 : Int32) (a3 : Int32) (h : Hp) (ha1 : shK a1 = 11) {z : Int32 × Hp} (E : X9_readOne a1 a2 a3 h = some z) (T : x.2.2.2.2 = (some (.int (z.1)), z.2)) : VV x 0 [(0, .ref (ad x 0)), (1, .ref (ad x a1)), (2, .int a2), (3, .int a3)] [] h := by
  unfold X9_readOne at E
  refine V_aload_n K 1 dX9_readOne_0 rfl ?_
  refine V_iload_n K 3 dX9_readOne_1 rfl ?_
  obtain ⟨g1, E⟩ := gd_inv E
  refine V_bald K ha1 rfl g1 dX9_readOne_2 ?_
  obtain ⟨r2, q3, E⟩ := ob_inv E
  refine iv_X9_316 K (c_X9_kindOfLetter _ (h.1 a1 (ix a3)) h q3) dX9_readOne_3 (Nat.le_of_ble_eq_true rfl) ?_
  refine V_istore (lv' := [(4, .int r2), (0, .ref (ad x 0)), (1, .ref (ad x a1)), (2, .int a2), (3, .int a3)]) K dX9_readOne_6 (by decide) rfl ?_
  refine V_iload K 0 dX9_readOne_8 rfl ?_
  refine V_bp (v := -9) K dX9_readOne_10 rfl ?_
  rcases if_inv E with ⟨c4, E⟩ | ⟨c4, E⟩
  · refine V_ic_eq_t K 27 dX9_readOne_12 (by decide) c4 ?_
    refine V_iload_n K 4 dX9_readOne_27 rfl ?_
    cases E
    exact V_iret K dX9_readOne_28 rfl T
  · refine V_ic_eq_f K 27 dX9_readOne_12 (by decide) c4 ?_
    refine V_aload_n K 1 dX9_readOne_15 rfl ?_
    refine gf_X9_74 K dX9_readOne_16 ?_
    refine gf_X9_127 K k_23 dX9_readOne_19 ?_
    refine V_bp (v := 6) K dX9_readOne_22 rfl ?_
    rcases if_inv E with ⟨c5, E⟩ | ⟨c5, E⟩
    · refine V_ic_ne_f K 29 dX9_readOne_24 (by decide) c5 ?_
      refine V_iload_n K 4 dX9_readOne_27 rfl ?_
      cases E
      exact V_iret K dX9_readOne_28 rfl T
    · refine V_ic_ne_t K 29 dX9_readOne_24 (by decide) c5 ?_
      refine V_aload_n K 2 dX9_readOne_29 rfl ?_
      refine V_iload_n K 3 dX9_readOne_30 rfl ?_
      refine V_iload_n K 4 dX9_readOne_31 rfl ?_
      refine V_ic (v := 1) K dX9_readOne_32 rfl ?_
      refine V_iadd K dX9_readOne_33 ?_
      refine V_ic (v := 3) K dX9_readOne_34 rfl ?_
      obtain ⟨r6, q7, E⟩ := ob_inv E
      refine iv_X9_302 K (c_X9_pastFigures _ a1 a2 (a3 + (1 : Int32)) (3 : Int32) h ha1 q7) dX9_readOne_35 (Nat.le_of_ble_eq_true rfl) ?_
      refine V_istore (lv' := [(5, .int r6), (4, .int r2), (0, .ref (ad x 0)), (1, .ref (ad x a1)), (2, .int a2), (3, .int a3)]) K dX9_readOne_38 (by decide) rfl ?_
      refine V_iload K 0 dX9_readOne_40 rfl ?_
      refine V_iload_n K 5 dX9_readOne_42 rfl ?_
      refine V_ic (v := 4) K dX9_readOne_43 rfl ?_
      refine V_iadd K dX9_readOne_44 ?_
      rcases if_inv E with ⟨c8, E⟩ | ⟨c8, E⟩
      · refine V_ic_ge_t K 51 dX9_readOne_45 (by decide) c8 ?_
        refine V_bp (v := 10) K dX9_readOne_51 rfl ?_
        refine V_aload_n K 3 dX9_readOne_53 rfl ?_
        refine V_iload_n K 5 dX9_readOne_54 rfl ?_
        refine V_ic (v := 2) K dX9_readOne_55 rfl ?_
        refine V_iadd K dX9_readOne_56 ?_
        obtain ⟨g9, E⟩ := gd_inv E
        refine V_bald K ha1 rfl g9 dX9_readOne_57 ?_
        refine iv_X9_306 K (c_X9_figure _ (h.1 a1 (ix (a3 + (2 : Int32)))) h) dX9_readOne_58 (Nat.le_of_ble_eq_true rfl) ?_
        refine V_imul K dX9_readOne_61 ?_
        refine V_aload_n K 3 dX9_readOne_62 rfl ?_
        refine V_iload_n K 5 dX9_readOne_63 rfl ?_
        refine V_ic (v := 3) K dX9_readOne_64 rfl ?_
        refine V_iadd K dX9_readOne_65 ?_
        obtain ⟨g10, E⟩ := gd_inv E
        refine V_bald K ha1 rfl g10 dX9_readOne_66 ?_
        refine iv_X9_306 K (c_X9_figure _ (h.1 a1 (ix (a3 + (3 : Int32)))) h) dX9_readOne_67 (Nat.le_of_ble_eq_true rfl) ?_
        refine V_iadd K dX9_readOne_70 ?_
        obtain ⟨v11, e12, E⟩ := lt_inv E
        refine V_top e12 ?_
        refine V_istore (lv' := [(6, .int v11), (5, .int r6), (4, .int r2), (0, .ref (ad x 0)), (1, .ref (ad x a1)), (2, .int a2), (3, .int a3)]) K dX9_readOne_71 (by decide) rfl ?_
        refine V_iload K 0 dX9_readOne_73 rfl ?_
        refine V_bp (v := 30) K dX9_readOne_75 rfl ?_
        rcases if_inv E with ⟨c13, E⟩ | ⟨c13, E⟩
        · refine V_ic_le_t K 84 dX9_readOne_77 (by decide) c13 ?_
          refine V_aload_n K 3 dX9_readOne_84 rfl ?_
          refine gf_X9_74 K dX9_readOne_85 ?_
          refine V_iload K 2 dX9_readOne_88 rfl ?_
          refine V_aload_n K 4 dX9_readOne_90 rfl ?_
          refine V_iload_n K 6 dX9_readOne_91 rfl ?_
          refine V_ic (v := 1) K dX9_readOne_92 rfl ?_
          refine V_iadd K dX9_readOne_93 ?_
          obtain ⟨g14, E⟩ := gd_inv E
          refine V_bald K ha1 rfl g14 dX9_readOne_94 ?_
          refine iv_X9_306 K (c_X9_figure _ (h.1 a1 (ix (a3 + (1 : Int32)))) h) dX9_readOne_95 (Nat.le_of_ble_eq_true rfl) ?_
          refine V_iload K 0 dX9_readOne_98 rfl ?_
          obtain ⟨h16, q15, E⟩ := ob_inv E
          refine iv_X9_319 K k_23 (c_X4_join _ 23 r2 (X9_figure (h.1 a1 (ix (a3 + (1 : Int32))))) v11 h k_23 q15) dX9_readOne_100 (Nat.le_of_ble_eq_true rfl) ?_
          refine V_bp (v := -9) K dX9_readOne_103 rfl ?_
          cases E
          exact V_iret K dX9_readOne_105 rfl T
        · refine V_ic_le_f K 84 dX9_readOne_77 (by decide) c13 ?_
          refine V_iload_n K 6 dX9_readOne_80 rfl ?_
          refine V_ic (v := 2) K dX9_readOne_81 rfl ?_
          refine V_iadd K dX9_readOne_82 ?_
          cases E
          exact V_iret K dX9_readOne_83 rfl T
      · refine V_ic_ge_f K 51 dX9_readOne_45 (by decide) c8 ?_
        refine V_iload K 0 dX9_readOne_48 rfl ?_
        cases E
        exact V_iret K dX9_readOne_50 rfl T
theorem c_X9_readOne (d : Nat) (a1 : Nat) (a2 : Int32) (a3 : Int32) (h : Hp) (ha1 : shK a1 = 11) {r : Int32} {h' : Hp} (E : X9_readOne a1 a2 a3 h = some (r, h')) : Runs (d + 1) yX9_readOne cX9_readOne 7 (some .int) (fun f => [.ref (f 0), .ref (f a1), .int a2, .int a3]) h (fun _ => some (.int r)) h' :=
  Runs.of (by decide +kernel) (fun _ => Nat.le_of_ble_eq_true rfl) (fun x K T => w_X9_readOne K  a1 a2 a3 h ha1 E T)
