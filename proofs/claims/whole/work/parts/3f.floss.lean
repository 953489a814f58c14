def X9_next_s51 (h : Hp) (y5 : Int32) (y6 : Int32) (y7 : Int32) : Option ((Int32 × Int32 × Int32) ⊕ (Int32 × Int32 × Int32)) :=
  if (h.1 19 6) ≤ y7 then (some (.inl (y5, y6, y7)))
  else (gd (ib y7 6) (
  ob (X9_greatestOf (37 + ix y7) h) fun r14 =>
  ob2 (if y6 ≤ r14 then (some (y5, y6))
  else (some (y7, r14))) fun v16 v17 =>
  lt_ (y7 + (1 : Int32)) fun v19 =>
  some (.inr (v16, v17, v19))))
set_option maxHeartbeats 4000000 in
set_option maxRecDepth 100000 in
theorem wl_X9_next_s51 {x : Cx} {d : Nat} (K : Ok x cX9_next RX9 9 (some .int) (d + 7)) (h : Hp)  : ∀ (n : Nat) (s : Int32 × Int32 × Int32) (r : (Int32 × Int32 × Int32)), lp (fun s : Int32 × Int32 × Int32 => X9_next_s51 h s.1 s.2.1 s.2.2) n s = some r → (fun r : (Int32 × Int32 × Int32) => VV x 96 [(0, .ref (ad x 0)), (5, .int (r.1)), (6, .int (r.2.1)), (7, .int (r.2.2))] [] h) r → (fun s : Int32 × Int32 × Int32 => VV x 51 [(0, .ref (ad x 0)), (5, .int (s.1)), (6, .int (s.2.1)), (7, .int (s.2.2))] [] h) s := by
  refine lp_walk ?_
  intro s z E T
  obtain ⟨y5, y6, y7⟩ := s
  replace E : X9_next_s51 h y5 y6 y7 = some z := E
  unfold X9_next_s51 at E
  show VV x 51 [(0, .ref (ad x 0)), (5, .int y5), (6, .int y6), (7, .int y7)] [] h
  refine V_iload K 3 dX9_next_51 rfl ?_
  refine V_aload_n K 0 dX9_next_53 rfl ?_
  refine gf_X9_71 K dX9_next_54 ?_
  refine gf_X9_127 K k_19 dX9_next_57 ?_
  rcases if_inv E with ⟨c12, E⟩ | ⟨c12, E⟩
  · refine V_ic_ge_t K 96 dX9_next_60 (by decide) c12 ?_
    cases E
    exact V_sub [0, 1, 2, 3] rfl T
  · refine V_ic_ge_f K 96 dX9_next_60 (by decide) c12 ?_
    refine V_aload_n K 0 dX9_next_63 rfl ?_
    refine gf_X9_39 K dX9_next_64 ?_
    refine V_iload K 3 dX9_next_67 rfl ?_
    obtain ⟨g13, E⟩ := gd_inv E
    refine V_aaload15 K k_36 g13 (talR g13) dX9_next_69 ?_
    obtain ⟨r14, q15, E⟩ := ob_inv E
    refine iv_X9_238 K (c_X9_greatestOf _ (37 + ix y7) h (talK g13) q15) dX9_next_70 (Nat.le_of_ble_eq_true rfl) ?_
    refine V_istore (lv' := [(8, .int r14), (0, .ref (ad x 0)), (5, .int y5), (6, .int y6), (7, .int y7)]) K dX9_next_73 (by decide) rfl ?_
    refine V_iload K 0 dX9_next_75 rfl ?_
    refine V_iload K 3 dX9_next_77 rfl ?_
    obtain ⟨v16, v17, q21, E⟩ := ob2_inv E
    have T9 : VV x 90 [(0, .ref (ad x 0)), (5, .int v16), (6, .int v17), (7, .int y7)] [] h := by
      obtain ⟨v19, e20, E⟩ := lt_inv E
      refine V_iinc (lv' := [(7, .int v19), (0, .ref (ad x 0)), (5, .int v16), (6, .int v17)]) K 3 dX9_next_90 rfl (by rw [e20]; rfl) (by decide) rfl ?_
      refine V_goto K 51 dX9_next_93 (by decide) ?_
      cases E
      exact V_sub [1, 2, 3, 0] rfl T
    have E := q21
    have T := T9
    rcases if_inv E with ⟨c18, E⟩ | ⟨c18, E⟩
    · refine V_ic_ge_t K 90 dX9_next_79 (by decide) c18 ?_
      cases E
      exact V_sub [1, 2, 3, 4] rfl T
    · refine V_ic_ge_f K 90 dX9_next_79 (by decide) c18 ?_
      refine V_iload K 0 dX9_next_82 rfl ?_
      refine V_istore (lv' := [(6, .int r14), (8, .int r14), (0, .ref (ad x 0)), (5, .int y5), (7, .int y7)]) K dX9_next_84 (by decide) rfl ?_
      refine V_iload K 4 dX9_next_86 rfl ?_
      refine V_istore (lv' := [(5, .int y7), (6, .int r14), (8, .int r14), (0, .ref (ad x 0)), (7, .int y7)]) K dX9_next_88 (by decide) rfl ?_
      cases E
      exact V_sub [3, 0, 1, 4] rfl T
def X9_next (a1 : Int32) (a2 : Int32) (h : Hp) : Option (Int32 × Hp) :=
  ob2 (X9_refusedHad a1 a2 h) fun r3 h2 =>
  if r3 = (0 : Int32) then (ob2 (X9_fittingSizes a1 a2 h2) fun r7 h6 =>
  if r7 = (0 : Int32) then (some ((-9 : Int32), h6))
  else (gd (ib a2 6) (
  ob (X9_tallyShares r7 (h6.1 8 (ix a2)) h6) fun h11 =>
  ob3 (lp (fun s : Int32 × Int32 × Int32 => X9_next_s51 h11 s.1 s.2.1 s.2.2) FU ((0 : Int32), (32 : Int32), (0 : Int32))) fun v22 v23 v24 =>
  lt_ (up h11 0 12 v23) fun h25 =>
  some (v22, h25))))
  else (some (r3, h2))
set_option maxHeartbeats 4000000 in
set_option maxRecDepth 100000 in
theorem w_X9_next {x : Cx} {d : Nat} (K : Ok x cX9_next RX9 9 (some .int) (d + 7)) (a1 : Int32) (a2 : Int32) (h : Hp)  {z : Int32 × Hp} (E : X9_next a1 a2 h = some z) (T : x.2.2.2.2 = (some (.int (z.1)), z.2)) : VV x 0 [(0, .ref (ad x 0)), (1, .int a1), (2, .int a2)] [] h := by
  unfold X9_next at E
  refine V_aload_n K 0 dX9_next_0 rfl ?_
  refine V_iload_n K 1 dX9_next_1 rfl ?_
  refine V_iload_n K 2 dX9_next_2 rfl ?_
  obtain ⟨r3, h2, q1, E⟩ := ob2_inv E
  refine iv_X9_221 K (c_X9_refusedHad _ a1 a2 h q1) dX9_next_3 (Nat.le_of_ble_eq_true rfl) ?_
  refine V_istore_n (lv' := [(3, .int r3), (0, .ref (ad x 0)), (1, .int a1), (2, .int a2)]) K dX9_next_6 (by decide) rfl ?_
  refine V_iload_n K 0 dX9_next_7 rfl ?_
  rcases if_inv E with ⟨c4, E⟩ | ⟨c4, E⟩
  · refine V_if_eq_t K 13 dX9_next_8 (by decide) c4 ?_
    refine V_aload_n K 1 dX9_next_13 rfl ?_
    refine V_iload_n K 2 dX9_next_14 rfl ?_
    refine V_iload_n K 3 dX9_next_15 rfl ?_
    obtain ⟨r7, h6, q5, E⟩ := ob2_inv E
    refine iv_X9_224 K (c_X9_fittingSizes _ a1 a2 h2 q5) dX9_next_16 (Nat.le_of_ble_eq_true rfl) ?_
    refine V_istore (lv' := [(4, .int r7), (3, .int r3), (0, .ref (ad x 0)), (1, .int a1), (2, .int a2)]) K dX9_next_19 (by decide) rfl ?_
    refine V_iload K 0 dX9_next_21 rfl ?_
    rcases if_inv E with ⟨c8, E⟩ | ⟨c8, E⟩
    · refine V_if_ne_f K 29 dX9_next_23 (by decide) c8 ?_
      refine V_bp (v := -9) K dX9_next_26 rfl ?_
      cases E
      exact V_iret K dX9_next_28 rfl T
    · refine V_if_ne_t K 29 dX9_next_23 (by decide) c8 ?_
      refine V_aload_n K 2 dX9_next_29 rfl ?_
      refine V_iload K 0 dX9_next_30 rfl ?_
      refine V_aload_n K 2 dX9_next_32 rfl ?_
      refine gf_X9_14 K dX9_next_33 ?_
      refine V_iload_n K 4 dX9_next_36 rfl ?_
      obtain ⟨g9, E⟩ := gd_inv E
      refine V_iald K k_8 n_8 g9 dX9_next_37 ?_
      obtain ⟨h11, q10, E⟩ := ob_inv E
      refine iv_X9_234 K (c_X9_tallyShares _ r7 (h6.1 8 (ix a2)) h6 q10) dX9_next_38 (Nat.le_of_ble_eq_true rfl) ?_
      refine V_ic (v := 0) K dX9_next_41 rfl ?_
      refine V_istore (lv' := [(5, .int (0 : Int32)), (4, .int r7), (3, .int r3), (0, .ref (ad x 0)), (1, .int a1), (2, .int a2)]) K dX9_next_42 (by decide) rfl ?_
      refine V_bp (v := 32) K dX9_next_44 rfl ?_
      refine V_istore (lv' := [(6, .int (32 : Int32)), (5, .int (0 : Int32)), (4, .int r7), (3, .int r3), (0, .ref (ad x 0)), (1, .int a1), (2, .int a2)]) K dX9_next_46 (by decide) rfl ?_
      refine V_ic (v := 0) K dX9_next_48 rfl ?_
      refine V_istore (lv' := [(7, .int (0 : Int32)), (6, .int (32 : Int32)), (5, .int (0 : Int32)), (4, .int r7), (3, .int r3), (0, .ref (ad x 0)), (1, .int a1), (2, .int a2)]) K dX9_next_49 (by decide) rfl ?_
      obtain ⟨v22, v23, v24, q27, E⟩ := ob3_inv E
      refine V_sub [5, 2, 1, 0] rfl (wl_X9_next_s51 K h11  _ _ _ q27 ?_)
      show VV x 96 [(0, .ref (ad x 0)), (5, .int v22), (6, .int v23), (7, .int v24)] [] h11
      refine V_aload_n K 0 dX9_next_96 rfl ?_
      refine V_iload K 2 dX9_next_97 rfl ?_
      obtain ⟨h25, e26, E⟩ := lt_inv E
      refine pf_X9_49 K dX9_next_99 ?_
      refine V_hp e26 ?_
      refine V_iload K 1 dX9_next_102 rfl ?_
      cases E
      exact V_iret K dX9_next_104 rfl T
  · refine V_if_eq_f K 13 dX9_next_8 (by decide) c4 ?_
    refine V_iload_n K 0 dX9_next_11 rfl ?_
    cases E
    exact V_iret K dX9_next_12 rfl T
theorem c_X9_next (d : Nat) (a1 : Int32) (a2 : Int32) (h : Hp)  {r : Int32} {h' : Hp} (E : X9_next a1 a2 h = some (r, h')) : Runs (d + 7) yX9_next cX9_next 9 (some .int) (fun f => [.ref (f 0), .int a1, .int a2]) h (fun _ => some (.int r)) h' :=
  Runs.of (by decide +kernel) (fun _ => Nat.le_of_ble_eq_true rfl) (fun x K T => w_X9_next K  a1 a2 h  E T)
def X9_odds_s28 (x1 : Int32) (x2 : Int32) (y3 : Int64) (y5 : Int32) (h : Hp) : Option ((Int64 × Int32 × Hp) ⊕ (Int64 × Int32 × Hp)) :=
  if ((1 : Int32) <<< ((h.1 19 6) &&& 31)) ≤ y5 then (some (.inl (y3, y5, h)))
  else (ob (X4_become 23 19 h) fun h6 =>
  ob2 (X4_pass 23 y5 h6) fun r9 h8 =>
  ob (if ((r9 >>> (x1 &&& 31)) &&& (1 : Int32)) = (1 : Int32) then (ob (X9_weightOf y5 x2 h8) fun r12 =>
  lt_ (y3 + r12) fun v14 =>
  some v14)
  else (some y3)) fun v10 =>
  lt_ (y5 + (1 : Int32)) fun v16 =>
  some (.inr (v10, v16, h8)))
set_option maxHeartbeats 4000000 in
set_option maxRecDepth 100000 in
theorem wl_X9_odds_s28 {x : Cx} {d : Nat} (K : Ok x cX9_odds RX9 6 (some .int) (d + 5)) (x1 : Int32) (x2 : Int32)  : ∀ (n : Nat) (s : Int64 × Int32 × Hp) (r : (Int64 × Int32 × Hp)), lp (fun s : Int64 × Int32 × Hp => X9_odds_s28 x1 x2 s.1 s.2.1 s.2.2) n s = some r → (fun r : (Int64 × Int32 × Hp) => VV x 86 [(0, .ref (ad x 0)), (1, .int x1), (2, .int x2), (3, .long (r.1)), (5, .int (r.2.1))] [] r.2.2) r → (fun s : Int64 × Int32 × Hp => VV x 28 [(0, .ref (ad x 0)), (1, .int x1), (2, .int x2), (3, .long (s.1)), (5, .int (s.2.1))] [] s.2.2) s := by
  refine lp_walk ?_
  intro s z E T
  obtain ⟨y3, y5, h⟩ := s
  replace E : X9_odds_s28 x1 x2 y3 y5 h = some z := E
  unfold X9_odds_s28 at E
  show VV x 28 [(0, .ref (ad x 0)), (1, .int x1), (2, .int x2), (3, .long y3), (5, .int y5)] [] h
  refine V_iload K 4 dX9_odds_28 rfl ?_
  refine V_ic (v := 1) K dX9_odds_30 rfl ?_
  refine V_aload_n K 0 dX9_odds_31 rfl ?_
  refine gf_X9_71 K dX9_odds_32 ?_
  refine gf_X9_127 K k_19 dX9_odds_35 ?_
  refine V_ishl K dX9_odds_38 ?_
  rcases if_inv E with ⟨c4, E⟩ | ⟨c4, E⟩
  · refine V_ic_ge_t K 86 dX9_odds_39 (by decide) c4 ?_
    cases E
    exact V_sub [0, 1, 2, 3, 4] rfl T
  · refine V_ic_ge_f K 86 dX9_odds_39 (by decide) c4 ?_
    refine V_aload_n K 0 dX9_odds_42 rfl ?_
    refine gf_X9_74 K dX9_odds_43 ?_
    refine V_aload_n K 0 dX9_odds_46 rfl ?_
    refine gf_X9_71 K dX9_odds_47 ?_
    obtain ⟨h6, q5, E⟩ := ob_inv E
    refine iv_X9_120 K k_23 (c_X4_become _ 23 19 h k_23 k_19 q5) dX9_odds_50 (Nat.le_of_ble_eq_true rfl) ?_
    refine V_aload_n K 0 dX9_odds_53 rfl ?_
    refine gf_X9_74 K dX9_odds_54 ?_
    refine V_iload K 4 dX9_odds_57 rfl ?_
    obtain ⟨r9, h8, q7, E⟩ := ob2_inv E
    refine iv_X9_203 K k_23 (c_X4_pass _ 23 y5 h6 k_23 q7) dX9_odds_59 (Nat.le_of_ble_eq_true rfl) ?_
    refine V_iload_n K 1 dX9_odds_62 rfl ?_
    refine V_ishr K dX9_odds_63 ?_
    refine V_ic (v := 1) K dX9_odds_64 rfl ?_
    refine V_iand K dX9_odds_65 ?_
    refine V_ic (v := 1) K dX9_odds_66 rfl ?_
    obtain ⟨v10, q18, E⟩ := ob_inv E
    have T9 : VV x 80 [(0, .ref (ad x 0)), (1, .int x1), (2, .int x2), (3, .long v10), (5, .int y5)] [] h8 := by
      obtain ⟨v16, e17, E⟩ := lt_inv E
      refine V_iinc (lv' := [(5, .int v16), (0, .ref (ad x 0)), (1, .int x1), (2, .int x2), (3, .long v10)]) K 4 dX9_odds_80 rfl (by rw [e17]; rfl) (by decide) rfl ?_
      refine V_goto K 28 dX9_odds_83 (by decide) ?_
      cases E
      exact V_sub [1, 2, 3, 4, 0] rfl T
    have E := q18
    have T := T9
    rcases if_inv E with ⟨c11, E⟩ | ⟨c11, E⟩
    · refine V_ic_ne_f K 80 dX9_odds_67 (by decide) c11 ?_
      refine V_lload_n K 3 dX9_odds_70 rfl ?_
      refine V_aload_n K 0 dX9_odds_71 rfl ?_
      refine V_iload K 4 dX9_odds_72 rfl ?_
      refine V_iload_n K 2 dX9_odds_74 rfl ?_
      obtain ⟨r12, q13, E⟩ := ob_inv E
      refine iv_X9_253 K (c_X9_weightOf _ y5 x2 h8 q13) dX9_odds_75 (Nat.le_of_ble_eq_true rfl) ?_
      refine V_ladd K dX9_odds_78 ?_
      obtain ⟨v14, e15, E⟩ := lt_inv E
      refine V_topl e15 ?_
      refine V_lstore_n (lv' := [(3, .long v14), (0, .ref (ad x 0)), (1, .int x1), (2, .int x2), (5, .int y5)]) K dX9_odds_79 (by decide) rfl ?_
      cases E
      exact V_sub [1, 2, 3, 0, 4] rfl T
    · refine V_ic_ne_t K 80 dX9_odds_67 (by decide) c11 ?_
      cases E
      exact V_sub [0, 1, 2, 3, 4] rfl T
def X9_odds (a1 : Int32) (a2 : Int32) (h : Hp) : Option (Int32 × Hp) :=
  if (X4_isOne 19 a1 h) = (0 : Int32) then (some ((-1 : Int32), h))
  else (if a2 < (0 : Int32) then (some ((-1 : Int32), h))
  else (if a2 ≤ (12 : Int32) then (ob3 (lp (fun s : Int64 × Int32 × Hp => X9_odds_s28 a1 a2 s.1 s.2.1 s.2.2) FU ((0 : Int64), (0 : Int32), h)) fun v19 v20 h21 =>
  ob (X9_power (12 : Int64) (h21.1 19 6)) fun r22 =>
  ob (X9_tellParts v19 r22 h21) fun h25 =>
  some ((1 : Int32), h25))
  else (some ((-1 : Int32), h))))
set_option maxHeartbeats 4000000 in
set_option maxRecDepth 100000 in
theorem w_X9_odds {x : Cx} {d : Nat} (K : Ok x cX9_odds RX9 6 (some .int) (d + 5)) (a1 : Int32) (a2 : Int32) (h : Hp)  {z : Int32 × Hp} (E : X9_odds a1 a2 h = some z) (T : x.2.2.2.2 = (some (.int (z.1)), z.2)) : VV x 0 [(0, .ref (ad x 0)), (1, .int a1), (2, .int a2)] [] h := by
  unfold X9_odds at E
  refine V_aload_n K 0 dX9_odds_0 rfl ?_
  refine gf_X9_71 K dX9_odds_1 ?_
  refine V_iload_n K 1 dX9_odds_4 rfl ?_
  refine iv_X9_130 K k_19 (c_X4_isOne _ 19 a1 h k_19) dX9_odds_5 (Nat.le_of_ble_eq_true rfl) ?_
  rcases if_inv E with ⟨c1, E⟩ | ⟨c1, E⟩
  · refine V_if_eq_t K 21 dX9_odds_8 (by decide) c1 ?_
    refine V_ic (v := -1) K dX9_odds_21 rfl ?_
    cases E
    exact V_iret K dX9_odds_22 rfl T
  · refine V_if_eq_f K 21 dX9_odds_8 (by decide) c1 ?_
    refine V_iload_n K 2 dX9_odds_11 rfl ?_
    rcases if_inv E with ⟨c2, E⟩ | ⟨c2, E⟩
    · refine V_if_lt_t K 21 dX9_odds_12 (by decide) c2 ?_
      refine V_ic (v := -1) K dX9_odds_21 rfl ?_
      cases E
      exact V_iret K dX9_odds_22 rfl T
    · refine V_if_lt_f K 21 dX9_odds_12 (by decide) c2 ?_
      refine V_iload_n K 2 dX9_odds_15 rfl ?_
      refine V_bp (v := 12) K dX9_odds_16 rfl ?_
      rcases if_inv E with ⟨c3, E⟩ | ⟨c3, E⟩
      · refine V_ic_le_t K 23 dX9_odds_18 (by decide) c3 ?_
        refine V_lc (v := 0) K dX9_odds_23 rfl ?_
        refine V_lstore_n (lv' := [(3, .long (0 : Int64)), (0, .ref (ad x 0)), (1, .int a1), (2, .int a2)]) K dX9_odds_24 (by decide) rfl ?_
        refine V_ic (v := 0) K dX9_odds_25 rfl ?_
        refine V_istore (lv' := [(5, .int (0 : Int32)), (3, .long (0 : Int64)), (0, .ref (ad x 0)), (1, .int a1), (2, .int a2)]) K dX9_odds_26 (by decide) rfl ?_
        obtain ⟨v19, v20, h21, q26, E⟩ := ob3_inv E
        refine V_sub [2, 3, 4, 1, 0] rfl (wl_X9_odds_s28 K a1 a2  _ _ _ q26 ?_)
        show VV x 86 [(0, .ref (ad x 0)), (1, .int a1), (2, .int a2), (3, .long v19), (5, .int v20)] [] h21
        refine V_aload_n K 0 dX9_odds_86 rfl ?_
        refine V_lload_n K 3 dX9_odds_87 rfl ?_
        refine V_ldc2 (v := 12) K tb_535 dX9_odds_88 ?_
        refine V_aload_n K 0 dX9_odds_91 rfl ?_
        refine gf_X9_71 K dX9_odds_92 ?_
        refine gf_X9_127 K k_19 dX9_odds_95 ?_
        obtain ⟨r22, q23, E⟩ := ob_inv E
        refine iv_X9_259 K (c_X9_power _ (12 : Int64) (h21.1 19 6) h21 q23) dX9_odds_98 (Nat.le_of_ble_eq_true rfl) ?_
        obtain ⟨h25, q24, E⟩ := ob_inv E
        refine iv_X9_245 K (c_X9_tellParts _ v19 r22 h21 q24) dX9_odds_101 (Nat.le_of_ble_eq_true rfl) ?_
        refine V_ic (v := 1) K dX9_odds_104 rfl ?_
        cases E
        exact V_iret K dX9_odds_105 rfl T
      · refine V_ic_le_f K 23 dX9_odds_18 (by decide) c3 ?_
        refine V_ic (v := -1) K dX9_odds_21 rfl ?_
        cases E
        exact V_iret K dX9_odds_22 rfl T
theorem c_X9_odds (d : Nat) (a1 : Int32) (a2 : Int32) (h : Hp)  {r : Int32} {h' : Hp} (E : X9_odds a1 a2 h = some (r, h')) : Runs (d + 5) yX9_odds cX9_odds 6 (some .int) (fun f => [.ref (f 0), .int a1, .int a2]) h (fun _ => some (.int r)) h' :=
  Runs.of (by decide +kernel) (fun _ => Nat.le_of_ble_eq_true rfl) (fun x K T => w_X9_odds K  a1 a2 h  E T)
def X9_on (a1 : Int32) (h : Hp) : Option (Int32 × Hp) :=
  if (X9_isKeepingPlace a1) = (0 : Int32) then (some ((-1 : Int32), h))
  else (gd (ib a1 3) (
  if (h.1 (30 + 2 * ix a1) 1) = (-1 : Int32) then (ob2 (X9_answerFinding (1 : Int32) h) fun r6 h5 =>
  some (r6, h5))
  else (ob (X3_become 27 (30 + 2 * ix a1) h) fun h8 =>
  ob (X9_doAllAgain h8) fun h10 =>
  some (h10.1 27 1, h10))))
set_option maxHeartbeats 4000000 in
set_option maxRecDepth 100000 in
theorem w_X9_on {x : Cx} {d : Nat} (K : Ok x cX9_on RX9 2 (some .int) (d + 7)) (a1 : Int32) (h : Hp)  {z : Int32 × Hp} (E : X9_on a1 h = some z) (T : x.2.2.2.2 = (some (.int (z.1)), z.2)) : VV x 0 [(0, .ref (ad x 0)), (1, .int a1)] [] h := by
  unfold X9_on at E
  refine V_iload_n K 1 dX9_on_0 rfl ?_
  refine iv_X9_188 K (c_X9_isKeepingPlace _ a1 h) dX9_on_1 (Nat.le_of_ble_eq_true rfl) ?_
  rcases if_inv E with ⟨c1, E⟩ | ⟨c1, E⟩
  · refine V_if_ne_f K 9 dX9_on_4 (by decide) c1 ?_
    refine V_ic (v := -1) K dX9_on_7 rfl ?_
    cases E
    exact V_iret K dX9_on_8 rfl T
  · refine V_if_ne_t K 9 dX9_on_4 (by decide) c1 ?_
    refine V_aload_n K 0 dX9_on_9 rfl ?_
    refine gf_X9_35 K dX9_on_10 ?_
    refine V_iload_n K 1 dX9_on_13 rfl ?_
    obtain ⟨g2, E⟩ := gd_inv E
    refine V_aaload13 K k_29 g2 (kepR g2) dX9_on_14 ?_
    refine gf_X9_124 K (kepK g2) dX9_on_15 ?_
    refine V_ic (v := -1) K dX9_on_18 rfl ?_
    rcases if_inv E with ⟨c3, E⟩ | ⟨c3, E⟩
    · refine V_ic_ne_f K 28 dX9_on_19 (by decide) c3 ?_
      refine V_aload_n K 0 dX9_on_22 rfl ?_
      refine V_ic (v := 1) K dX9_on_23 rfl ?_
      obtain ⟨r6, h5, q4, E⟩ := ob2_inv E
      refine iv_X9_87 K (c_X9_answerFinding _ (1 : Int32) h q4) dX9_on_24 (Nat.le_of_ble_eq_true rfl) ?_
      cases E
      exact V_iret K dX9_on_27 rfl T
    · refine V_ic_ne_t K 28 dX9_on_19 (by decide) c3 ?_
      refine V_aload_n K 0 dX9_on_28 rfl ?_
      refine gf_X9_31 K dX9_on_29 ?_
      refine V_aload_n K 0 dX9_on_32 rfl ?_
      refine gf_X9_35 K dX9_on_33 ?_
      refine V_iload_n K 1 dX9_on_36 rfl ?_
      refine V_aaload13 K k_29 g2 (kepR g2) dX9_on_37 ?_
      obtain ⟨h8, q7, E⟩ := ob_inv E
      refine iv_X9_191 K k_27 (c_X3_become _ 27 (30 + 2 * ix a1) h k_27 (kepK g2) q7) dX9_on_38 (Nat.le_of_ble_eq_true rfl) ?_
      refine V_aload_n K 0 dX9_on_41 rfl ?_
      obtain ⟨h10, q9, E⟩ := ob_inv E
      refine iv_X9_185 K (c_X9_doAllAgain _ h8 q9) dX9_on_42 (Nat.le_of_ble_eq_true rfl) ?_
      refine V_aload_n K 0 dX9_on_45 rfl ?_
      refine gf_X9_31 K dX9_on_46 ?_
      refine gf_X9_124 K k_27 dX9_on_49 ?_
      cases E
      exact V_iret K dX9_on_52 rfl T
theorem c_X9_on (d : Nat) (a1 : Int32) (h : Hp)  {r : Int32} {h' : Hp} (E : X9_on a1 h = some (r, h')) : Runs (d + 7) yX9_on cX9_on 2 (some .int) (fun f => [.ref (f 0), .int a1]) h (fun _ => some (.int r)) h' :=
  Runs.of (by decide +kernel) (fun _ => Nat.le_of_ble_eq_true rfl) (fun x K T => w_X9_on K  a1 h  E T)
def X9_one (a1 : Int32) (a2 : Int32) (h : Hp) : Option (Int32 × Hp) :=
  if (X4_isOne 19 a1 h) = (0 : Int32) then (some ((-1 : Int32), h))
  else (if a2 < (0 : Int32) then (some ((-1 : Int32), h))
  else (if a2 < (5 : Int32) then (ob (X9_valueOfOne a1 a2 h) fun r4 =>
  lt_ (up h 0 12 r4) fun h6 =>
  some ((1 : Int32), h6))
  else (some ((-1 : Int32), h))))
set_option maxHeartbeats 4000000 in
set_option maxRecDepth 100000 in
theorem w_X9_one {x : Cx} {d : Nat} (K : Ok x cX9_one RX9 3 (some .int) (d + 5)) (a1 : Int32) (a2 : Int32) (h : Hp)  {z : Int32 × Hp} (E : X9_one a1 a2 h = some z) (T : x.2.2.2.2 = (some (.int (z.1)), z.2)) : VV x 0 [(0, .ref (ad x 0)), (1, .int a1), (2, .int a2)] [] h := by
  unfold X9_one at E
  refine V_aload_n K 0 dX9_one_0 rfl ?_
  refine gf_X9_71 K dX9_one_1 ?_
  refine V_iload_n K 1 dX9_one_4 rfl ?_
  refine iv_X9_130 K k_19 (c_X4_isOne _ 19 a1 h k_19) dX9_one_5 (Nat.le_of_ble_eq_true rfl) ?_
  rcases if_inv E with ⟨c1, E⟩ | ⟨c1, E⟩
  · refine V_if_eq_t K 20 dX9_one_8 (by decide) c1 ?_
    refine V_ic (v := -1) K dX9_one_20 rfl ?_
    cases E
    exact V_iret K dX9_one_21 rfl T
  · refine V_if_eq_f K 20 dX9_one_8 (by decide) c1 ?_
    refine V_iload_n K 2 dX9_one_11 rfl ?_
    rcases if_inv E with ⟨c2, E⟩ | ⟨c2, E⟩
    · refine V_if_lt_t K 20 dX9_one_12 (by decide) c2 ?_
      refine V_ic (v := -1) K dX9_one_20 rfl ?_
      cases E
      exact V_iret K dX9_one_21 rfl T
    · refine V_if_lt_f K 20 dX9_one_12 (by decide) c2 ?_
      refine V_iload_n K 2 dX9_one_15 rfl ?_
      refine V_ic (v := 5) K dX9_one_16 rfl ?_
      rcases if_inv E with ⟨c3, E⟩ | ⟨c3, E⟩
      · refine V_ic_lt_t K 22 dX9_one_17 (by decide) c3 ?_
        refine V_aload_n K 0 dX9_one_22 rfl ?_
        refine V_aload_n K 0 dX9_one_23 rfl ?_
        refine V_iload_n K 1 dX9_one_24 rfl ?_
        refine V_iload_n K 2 dX9_one_25 rfl ?_
        obtain ⟨r4, q5, E⟩ := ob_inv E
        refine iv_X9_133 K (c_X9_valueOfOne _ a1 a2 h q5) dX9_one_26 (Nat.le_of_ble_eq_true rfl) ?_
        obtain ⟨h6, e7, E⟩ := lt_inv E
        refine pf_X9_49 K dX9_one_29 ?_
        refine V_hp e7 ?_
        refine V_ic (v := 1) K dX9_one_32 rfl ?_
        cases E
        exact V_iret K dX9_one_33 rfl T
      · refine V_ic_lt_f K 22 dX9_one_17 (by decide) c3 ?_
        refine V_ic (v := -1) K dX9_one_20 rfl ?_
        cases E
        exact V_iret K dX9_one_21 rfl T
theorem c_X9_one (d : Nat) (a1 : Int32) (a2 : Int32) (h : Hp)  {r : Int32} {h' : Hp} (E : X9_one a1 a2 h = some (r, h')) : Runs (d + 5) yX9_one cX9_one 3 (some .int) (fun f => [.ref (f 0), .int a1, .int a2]) h (fun _ => some (.int r)) h' :=
  Runs.of (by decide +kernel) (fun _ => Nat.le_of_ble_eq_true rfl) (fun x K T => w_X9_one K  a1 a2 h  E T)
def X9_put (a1 : Int32) (a2 : Int32) (a3 : Int32) (h : Hp) : Option (Int32 × Hp) :=
  ob2 (X9_refusedText a1 h) fun r3 h2 =>
  if r3 = (0 : Int32) then (if a2 < (0 : Int32) then (ob2 (X9_answerFinding (2 : Int32) h2) fun r8 h7 =>
  some (r8, h7))
  else (gd (ib a1 4) (
  if a2 < (h2.1 14 (ix a1)) then (gd (ib a2 60) (
  lt_ (h2.1 (10 + ix a1) (ix a2)) fun v12 =>
  lt_ (up h2 (10 + ix a1) (ix a2) ((a3.toInt8.toInt32).toInt8.toInt32)) fun h14 =>
  some ((v12 + (1000 : Int32)), h14)))
  else (ob2 (X9_answerFinding (2 : Int32) h2) fun r18 h17 =>
  some (r18, h17)))))
  else (some (r3, h2))
set_option maxHeartbeats 4000000 in
set_option maxRecDepth 100000 in
theorem w_X9_put {x : Cx} {d : Nat} (K : Ok x cX9_put RX9 6 (some .int) (d + 2)) (a1 : Int32) (a2 : Int32) (a3 : Int32) (h : Hp)  {z : Int32 × Hp} (E : X9_put a1 a2 a3 h = some z) (T : x.2.2.2.2 = (some (.int (z.1)), z.2)) : VV x 0 [(0, .ref (ad x 0)), (1, .int a1), (2, .int a2), (3, .int a3)] [] h := by
  unfold X9_put at E
  refine V_aload_n K 0 dX9_put_0 rfl ?_
  refine V_iload_n K 1 dX9_put_1 rfl ?_
  obtain ⟨r3, h2, q1, E⟩ := ob2_inv E
  refine iv_X9_114 K (c_X9_refusedText _ a1 h q1) dX9_put_2 (Nat.le_of_ble_eq_true rfl) ?_
  refine V_istore (lv' := [(4, .int r3), (0, .ref (ad x 0)), (1, .int a1), (2, .int a2), (3, .int a3)]) K dX9_put_5 (by decide) rfl ?_
  refine V_iload K 0 dX9_put_7 rfl ?_
  rcases if_inv E with ⟨c4, E⟩ | ⟨c4, E⟩
  · refine V_if_eq_t K 15 dX9_put_9 (by decide) c4 ?_
    refine V_iload_n K 3 dX9_put_15 rfl ?_
    rcases if_inv E with ⟨c5, E⟩ | ⟨c5, E⟩
    · refine V_if_lt_t K 29 dX9_put_16 (by decide) c5 ?_
      refine V_aload_n K 1 dX9_put_29 rfl ?_
      refine V_ic (v := 2) K dX9_put_30 rfl ?_
      obtain ⟨r8, h7, q6, E⟩ := ob2_inv E
      refine iv_X9_87 K (c_X9_answerFinding _ (2 : Int32) h2 q6) dX9_put_31 (Nat.le_of_ble_eq_true rfl) ?_
      cases E
      exact V_iret K dX9_put_34 rfl T
    · refine V_if_lt_f K 29 dX9_put_16 (by decide) c5 ?_
      refine V_iload_n K 3 dX9_put_19 rfl ?_
      refine V_aload_n K 1 dX9_put_20 rfl ?_
      refine gf_X9_23 K dX9_put_21 ?_
      refine V_iload_n K 2 dX9_put_24 rfl ?_
      obtain ⟨g9, E⟩ := gd_inv E
      refine V_iald K k_14 n_14 g9 dX9_put_25 ?_
      rcases if_inv E with ⟨c10, E⟩ | ⟨c10, E⟩
      · refine V_ic_lt_t K 35 dX9_put_26 (by decide) c10 ?_
        refine V_aload_n K 1 dX9_put_35 rfl ?_
        refine gf_X9_20 K dX9_put_36 ?_
        refine V_iload_n K 2 dX9_put_39 rfl ?_
        refine V_aaload14 K k_9 g9 (txtR g9) dX9_put_40 ?_
        refine V_iload_n K 3 dX9_put_41 rfl ?_
        obtain ⟨g11, E⟩ := gd_inv E
        refine V_bald K (txtK g9) (txtN g9) g11 dX9_put_42 ?_
        obtain ⟨v12, e13, E⟩ := lt_inv E
        refine V_top e13 ?_
        refine V_istore (lv' := [(5, .int v12), (4, .int r3), (0, .ref (ad x 0)), (1, .int a1), (2, .int a2), (3, .int a3)]) K dX9_put_43 (by decide) rfl ?_
        refine V_aload_n K 2 dX9_put_45 rfl ?_
        refine gf_X9_20 K dX9_put_46 ?_
        refine V_iload_n K 3 dX9_put_49 rfl ?_
        refine V_aaload14 K k_9 g9 (txtR g9) dX9_put_50 ?_
        refine V_iload_n K 4 dX9_put_51 rfl ?_
        refine V_iload_n K 5 dX9_put_52 rfl ?_
        refine V_i2b K dX9_put_53 ?_
        obtain ⟨h14, e15, E⟩ := lt_inv E
        refine V_bast K (txtK g9) (txtN g9) g11 dX9_put_54 ?_
        refine V_hp e15 ?_
        refine V_iload K 0 dX9_put_55 rfl ?_
        refine V_sp (v := 1000) K dX9_put_57 rfl ?_
        refine V_iadd K dX9_put_60 ?_
        cases E
        exact V_iret K dX9_put_61 rfl T
      · refine V_ic_lt_f K 35 dX9_put_26 (by decide) c10 ?_
        refine V_aload_n K 1 dX9_put_29 rfl ?_
        refine V_ic (v := 2) K dX9_put_30 rfl ?_
        obtain ⟨r18, h17, q16, E⟩ := ob2_inv E
        refine iv_X9_87 K (c_X9_answerFinding _ (2 : Int32) h2 q16) dX9_put_31 (Nat.le_of_ble_eq_true rfl) ?_
        cases E
        exact V_iret K dX9_put_34 rfl T
  · refine V_if_eq_f K 15 dX9_put_9 (by decide) c4 ?_
    refine V_iload K 0 dX9_put_12 rfl ?_
    cases E
    exact V_iret K dX9_put_14 rfl T
theorem c_X9_put (d : Nat) (a1 : Int32) (a2 : Int32) (a3 : Int32) (h : Hp)  {r : Int32} {h' : Hp} (E : X9_put a1 a2 a3 h = some (r, h')) : Runs (d + 2) yX9_put cX9_put 6 (some .int) (fun f => [.ref (f 0), .int a1, .int a2, .int a3]) h (fun _ => some (.int r)) h' :=
  Runs.of (by decide +kernel) (fun _ => Nat.le_of_ble_eq_true rfl) (fun x K T => w_X9_put K  a1 a2 a3 h  E T)
def X9_rain (a1 : Int32) (h : Hp) : Option (Int32 × Hp) :=
  if a1 < (0 : Int32) then (some ((-1 : Int32), h))
  else (if a1 ≤ (1 : Int32) then (if (h.1 19 6) = (0 : Int32) then (some ((-4 : Int32), h))
  else (if (h.1 19 10) = a1 then (some ((-4 : Int32), h))
  else (if (X3_isFull 27 h) = (0 : Int32) then (ob2 (X9_doDeed (3 : Int32) a1 h) fun r8 h7 =>
  some (h7.1 19 10, h7))
  else (some ((-2 : Int32), h)))))
  else (some ((-1 : Int32), h)))
set_option maxHeartbeats 4000000 in
set_option maxRecDepth 100000 in
theorem w_X9_rain {x : Cx} {d : Nat} (K : Ok x cX9_rain RX9 2 (some .int) (d + 7)) (a1 : Int32) (h : Hp)  {z : Int32 × Hp} (E : X9_rain a1 h = some z) (T : x.2.2.2.2 = (some (.int (z.1)), z.2)) : VV x 0 [(0, .ref (ad x 0)), (1, .int a1)] [] h := by
  unfold X9_rain at E
  refine V_iload_n K 1 dX9_rain_0 rfl ?_
  rcases if_inv E with ⟨c1, E⟩ | ⟨c1, E⟩
  · refine V_if_lt_t K 9 dX9_rain_1 (by decide) c1 ?_
    refine V_ic (v := -1) K dX9_rain_9 rfl ?_
    cases E
    exact V_iret K dX9_rain_10 rfl T
  · refine V_if_lt_f K 9 dX9_rain_1 (by decide) c1 ?_
    refine V_iload_n K 1 dX9_rain_4 rfl ?_
    refine V_ic (v := 1) K dX9_rain_5 rfl ?_
    rcases if_inv E with ⟨c2, E⟩ | ⟨c2, E⟩
    · refine V_ic_le_t K 11 dX9_rain_6 (by decide) c2 ?_
      refine V_aload_n K 0 dX9_rain_11 rfl ?_
      refine gf_X9_71 K dX9_rain_12 ?_
      refine gf_X9_127 K k_19 dX9_rain_15 ?_
      rcases if_inv E with ⟨c3, E⟩ | ⟨c3, E⟩
      · refine V_if_eq_t K 32 dX9_rain_18 (by decide) c3 ?_
        refine V_bp (v := -4) K dX9_rain_32 rfl ?_
        cases E
        exact V_iret K dX9_rain_34 rfl T
      · refine V_if_eq_f K 32 dX9_rain_18 (by decide) c3 ?_
        refine V_aload_n K 0 dX9_rain_21 rfl ?_
        refine gf_X9_71 K dX9_rain_22 ?_
        refine gf_X9_179 K k_19 dX9_rain_25 ?_
        refine V_iload_n K 1 dX9_rain_28 rfl ?_
        rcases if_inv E with ⟨c4, E⟩ | ⟨c4, E⟩
        · refine V_ic_ne_f K 35 dX9_rain_29 (by decide) c4 ?_
          refine V_bp (v := -4) K dX9_rain_32 rfl ?_
          cases E
          exact V_iret K dX9_rain_34 rfl T
        · refine V_ic_ne_t K 35 dX9_rain_29 (by decide) c4 ?_
          refine V_aload_n K 0 dX9_rain_35 rfl ?_
          refine gf_X9_31 K dX9_rain_36 ?_
          refine iv_X9_169 K k_27 (c_X3_isFull _ 27 h k_27) dX9_rain_39 (Nat.le_of_ble_eq_true rfl) ?_
          rcases if_inv E with ⟨c5, E⟩ | ⟨c5, E⟩
          · refine V_if_eq_t K 48 dX9_rain_42 (by decide) c5 ?_
            refine V_aload_n K 0 dX9_rain_48 rfl ?_
            refine V_ic (v := 3) K dX9_rain_49 rfl ?_
            refine V_iload_n K 1 dX9_rain_50 rfl ?_
            obtain ⟨r8, h7, q6, E⟩ := ob2_inv E
            refine iv_X9_173 K (c_X9_doDeed _ (3 : Int32) a1 h q6) dX9_rain_51 (Nat.le_of_ble_eq_true rfl) ?_
            refine V_pop K dX9_rain_54 rfl ?_
            refine V_aload_n K 0 dX9_rain_55 rfl ?_
            refine gf_X9_71 K dX9_rain_56 ?_
            refine gf_X9_179 K k_19 dX9_rain_59 ?_
            cases E
            exact V_iret K dX9_rain_62 rfl T
          · refine V_if_eq_f K 48 dX9_rain_42 (by decide) c5 ?_
            refine V_bp (v := -2) K dX9_rain_45 rfl ?_
            cases E
            exact V_iret K dX9_rain_47 rfl T
    · refine V_ic_le_f K 11 dX9_rain_6 (by decide) c2 ?_
      refine V_ic (v := -1) K dX9_rain_9 rfl ?_
      cases E
      exact V_iret K dX9_rain_10 rfl T
theorem c_X9_rain (d : Nat) (a1 : Int32) (h : Hp)  {r : Int32} {h' : Hp} (E : X9_rain a1 h = some (r, h')) : Runs (d + 7) yX9_rain cX9_rain 2 (some .int) (fun f => [.ref (f 0), .int a1]) h (fun _ => some (.int r)) h' :=
  Runs.of (by decide +kernel) (fun _ => Nat.le_of_ble_eq_true rfl) (fun x K T => w_X9_rain K  a1 h  E T)
def X9_row (a1 : Int32) (a2 : Int32) (h : Hp) : Option (Int32 × Hp) :=
  if (X9_isRow a1) = (0 : Int32) then (some ((-1 : Int32), h))
  else (if a2 ≤ (40 : Int32) then (if (0 : Int32) ≤ a2 then (gd (ib a1 6) (
  ob (J7_fill_53178 (2 + ix a1) (0 : Int32) h) fun h6 =>
  lt_ (up h6 8 (ix a1) a2) fun h7 =>
  some (a2, h7)))
  else (ob2 (X9_answerFinding (5 : Int32) h) fun r11 h10 =>
  some (r11, h10)))
  else (some ((-1 : Int32), h)))
set_option maxHeartbeats 4000000 in
set_option maxRecDepth 100000 in
theorem w_X9_row {x : Cx} {d : Nat} (K : Ok x cX9_row RX9 3 (some .int) (d + 1)) (a1 : Int32) (a2 : Int32) (h : Hp)  {z : Int32 × Hp} (E : X9_row a1 a2 h = some z) (T : x.2.2.2.2 = (some (.int (z.1)), z.2)) : VV x 0 [(0, .ref (ad x 0)), (1, .int a1), (2, .int a2)] [] h := by
  unfold X9_row at E
  refine V_iload_n K 1 dX9_row_0 rfl ?_
  refine iv_X9_83 K (c_X9_isRow _ a1 h) dX9_row_1 (Nat.le_of_ble_eq_true rfl) ?_
  rcases if_inv E with ⟨c1, E⟩ | ⟨c1, E⟩
  · refine V_if_eq_t K 13 dX9_row_4 (by decide) c1 ?_
    refine V_ic (v := -1) K dX9_row_13 rfl ?_
    cases E
    exact V_iret K dX9_row_14 rfl T
  · refine V_if_eq_f K 13 dX9_row_4 (by decide) c1 ?_
    refine V_iload_n K 2 dX9_row_7 rfl ?_
    refine V_bp (v := 40) K dX9_row_8 rfl ?_
    rcases if_inv E with ⟨c2, E⟩ | ⟨c2, E⟩
    · refine V_ic_le_t K 15 dX9_row_10 (by decide) c2 ?_
      refine V_iload_n K 2 dX9_row_15 rfl ?_
      rcases if_inv E with ⟨c3, E⟩ | ⟨c3, E⟩
      · refine V_if_ge_t K 25 dX9_row_16 (by decide) c3 ?_
        refine V_aload_n K 0 dX9_row_25 rfl ?_
        refine gf_X9_11 K dX9_row_26 ?_
        refine V_iload_n K 1 dX9_row_29 rfl ?_
        obtain ⟨g4, E⟩ := gd_inv E
        refine V_aaload15 K k_1 g4 (rowR g4) dX9_row_30 ?_
        refine V_ic (v := 0) K dX9_row_31 rfl ?_
        obtain ⟨h6, q5, E⟩ := ob_inv E
        refine iv_X9_77 K (c_J7_fill_53178 _ (2 + ix a1) (0 : Int32) h (rowK g4) q5) dX9_row_32 (Nat.le_of_ble_eq_true rfl) ?_
        refine V_aload_n K 0 dX9_row_35 rfl ?_
        refine gf_X9_14 K dX9_row_36 ?_
        refine V_iload_n K 1 dX9_row_39 rfl ?_
        refine V_iload_n K 2 dX9_row_40 rfl ?_
        obtain ⟨h7, e8, E⟩ := lt_inv E
        refine V_iast K k_8 n_8 g4 dX9_row_41 ?_
        refine V_hp e8 ?_
        refine V_iload_n K 2 dX9_row_42 rfl ?_
        cases E
        exact V_iret K dX9_row_43 rfl T
      · refine V_if_ge_f K 25 dX9_row_16 (by decide) c3 ?_
        refine V_aload_n K 0 dX9_row_19 rfl ?_
        refine V_ic (v := 5) K dX9_row_20 rfl ?_
        obtain ⟨r11, h10, q9, E⟩ := ob2_inv E
        refine iv_X9_87 K (c_X9_answerFinding _ (5 : Int32) h q9) dX9_row_21 (Nat.le_of_ble_eq_true rfl) ?_
        cases E
        exact V_iret K dX9_row_24 rfl T
    · refine V_ic_le_f K 15 dX9_row_10 (by decide) c2 ?_
      refine V_ic (v := -1) K dX9_row_13 rfl ?_
      cases E
      exact V_iret K dX9_row_14 rfl T
theorem c_X9_row (d : Nat) (a1 : Int32) (a2 : Int32) (h : Hp)  {r : Int32} {h' : Hp} (E : X9_row a1 a2 h = some (r, h')) : Runs (d + 1) yX9_row cX9_row 3 (some .int) (fun f => [.ref (f 0), .int a1, .int a2]) h (fun _ => some (.int r)) h' :=
  Runs.of (by decide +kernel) (fun _ => Nat.le_of_ble_eq_true rfl) (fun x K T => w_X9_row K  a1 a2 h  E T)
def X9_sets_s34 (x1 : Int32) (h : Hp) (y2 : Int32) (y3 : Int32) (y4 : Int32) : Option ((Int32 × Int32 × Int32) ⊕ (Int32 × Int32 × Int32)) :=
  if ((1 : Int32) <<< ((h.1 19 6) &&& 31)) ≤ y4 then (some (.inl (y2, y3, y4)))
  else (ob (X4_inSet 19 y4 h) fun r5 =>
  ob2 (if r5 = x1 then (lt_ (y2 + (1 : Int32)) fun v10 =>
  if y3 = (-9 : Int32) then (some (v10, y4))
  else (some (v10, y3)))
  else (some (y2, y3))) fun v7 v8 =>
  lt_ (y4 + (1 : Int32)) fun v13 =>
  some (.inr (v7, v8, v13)))
set_option maxHeartbeats 4000000 in
set_option maxRecDepth 100000 in
theorem wl_X9_sets_s34 {x : Cx} {d : Nat} (K : Ok x cX9_sets RX9 5 (some .int) (d + 2)) (x1 : Int32) (h : Hp)  : ∀ (n : Nat) (s : Int32 × Int32 × Int32) (r : (Int32 × Int32 × Int32)), lp (fun s : Int32 × Int32 × Int32 => X9_sets_s34 x1 h s.1 s.2.1 s.2.2) n s = some r → (fun r : (Int32 × Int32 × Int32) => VV x 79 [(0, .ref (ad x 0)), (1, .int x1), (2, .int (r.1)), (3, .int (r.2.1)), (4, .int (r.2.2))] [] h) r → (fun s : Int32 × Int32 × Int32 => VV x 34 [(0, .ref (ad x 0)), (1, .int x1), (2, .int (s.1)), (3, .int (s.2.1)), (4, .int (s.2.2))] [] h) s := by
  refine lp_walk ?_
  intro s z E T
  obtain ⟨y2, y3, y4⟩ := s
  replace E : X9_sets_s34 x1 h y2 y3 y4 = some z := E
  unfold X9_sets_s34 at E
  show VV x 34 [(0, .ref (ad x 0)), (1, .int x1), (2, .int y2), (3, .int y3), (4, .int y4)] [] h
  refine V_iload K 4 dX9_sets_34 rfl ?_
  refine V_ic (v := 1) K dX9_sets_36 rfl ?_
  refine V_aload_n K 0 dX9_sets_37 rfl ?_
  refine gf_X9_71 K dX9_sets_38 ?_
  refine gf_X9_127 K k_19 dX9_sets_41 ?_
  refine V_ishl K dX9_sets_44 ?_
  rcases if_inv E with ⟨c4, E⟩ | ⟨c4, E⟩
  · refine V_ic_ge_t K 79 dX9_sets_45 (by decide) c4 ?_
    cases E
    exact V_sub [0, 1, 2, 3, 4] rfl T
  · refine V_ic_ge_f K 79 dX9_sets_45 (by decide) c4 ?_
    refine V_aload_n K 0 dX9_sets_48 rfl ?_
    refine gf_X9_71 K dX9_sets_49 ?_
    refine V_iload K 4 dX9_sets_52 rfl ?_
    obtain ⟨r5, q6, E⟩ := ob_inv E
    refine iv_X9_242 K k_19 (c_X4_inSet _ 19 y4 h k_19 q6) dX9_sets_54 (Nat.le_of_ble_eq_true rfl) ?_
    refine V_iload_n K 1 dX9_sets_57 rfl ?_
    obtain ⟨v7, v8, q15, E⟩ := ob2_inv E
    have T9 : VV x 73 [(0, .ref (ad x 0)), (1, .int x1), (2, .int v7), (3, .int v8), (4, .int y4)] [] h := by
      obtain ⟨v13, e14, E⟩ := lt_inv E
      refine V_iinc (lv' := [(4, .int v13), (0, .ref (ad x 0)), (1, .int x1), (2, .int v7), (3, .int v8)]) K 4 dX9_sets_73 rfl (by rw [e14]; rfl) (by decide) rfl ?_
      refine V_goto K 34 dX9_sets_76 (by decide) ?_
      cases E
      exact V_sub [1, 2, 3, 4, 0] rfl T
    have E := q15
    have T := T9
    rcases if_inv E with ⟨c9, E⟩ | ⟨c9, E⟩
    · refine V_ic_ne_f K 73 dX9_sets_58 (by decide) c9 ?_
      obtain ⟨v10, e11, E⟩ := lt_inv E
      refine V_iinc (lv' := [(2, .int v10), (0, .ref (ad x 0)), (1, .int x1), (3, .int y3), (4, .int y4)]) K 2 dX9_sets_61 rfl (by rw [e11]; rfl) (by decide) rfl ?_
      refine V_iload_n K 3 dX9_sets_64 rfl ?_
      refine V_bp (v := -9) K dX9_sets_65 rfl ?_
      rcases if_inv E with ⟨c12, E⟩ | ⟨c12, E⟩
      · refine V_ic_ne_f K 73 dX9_sets_67 (by decide) c12 ?_
        refine V_iload K 4 dX9_sets_70 rfl ?_
        refine V_istore_n (lv' := [(3, .int y4), (2, .int v10), (0, .ref (ad x 0)), (1, .int x1), (4, .int y4)]) K dX9_sets_72 (by decide) rfl ?_
        cases E
        exact V_sub [2, 3, 1, 0, 4] rfl T
      · refine V_ic_ne_t K 73 dX9_sets_67 (by decide) c12 ?_
        cases E
        exact V_sub [1, 2, 0, 3, 4] rfl T
    · refine V_ic_ne_t K 73 dX9_sets_58 (by decide) c9 ?_
      cases E
      exact V_sub [0, 1, 2, 3, 4] rfl T
def X9_sets (a1 : Int32) (h : Hp) : Option (Int32 × Hp) :=
  if a1 < (0 : Int32) then (some ((-1 : Int32), h))
  else (if a1 ≤ (180 : Int32) then (if (h.1 19 6) = (0 : Int32) then (some ((-4 : Int32), h))
  else (ob3 (lp (fun s : Int32 × Int32 × Int32 => X9_sets_s34 a1 h s.1 s.2.1 s.2.2) FU ((0 : Int32), (-9 : Int32), (0 : Int32))) fun v16 v17 v18 =>
  lt_ (up h 0 12 v17) fun h19 =>
  ob (X9_tellParts (v16.toInt64) (1 : Int64) h19) fun h22 =>
  some ((1 : Int32), h22)))
  else (some ((-1 : Int32), h)))
set_option maxHeartbeats 4000000 in
set_option maxRecDepth 100000 in
theorem w_X9_sets {x : Cx} {d : Nat} (K : Ok x cX9_sets RX9 5 (some .int) (d + 2)) (a1 : Int32) (h : Hp)  {z : Int32 × Hp} (E : X9_sets a1 h = some z) (T : x.2.2.2.2 = (some (.int (z.1)), z.2)) : VV x 0 [(0, .ref (ad x 0)), (1, .int a1)] [] h := by
  unfold X9_sets at E
  refine V_iload_n K 1 dX9_sets_0 rfl ?_
  rcases if_inv E with ⟨c1, E⟩ | ⟨c1, E⟩
  · refine V_if_lt_t K 11 dX9_sets_1 (by decide) c1 ?_
    refine V_ic (v := -1) K dX9_sets_11 rfl ?_
    cases E
    exact V_iret K dX9_sets_12 rfl T
  · refine V_if_lt_f K 11 dX9_sets_1 (by decide) c1 ?_
    refine V_iload_n K 1 dX9_sets_4 rfl ?_
    refine V_sp (v := 180) K dX9_sets_5 rfl ?_
    rcases if_inv E with ⟨c2, E⟩ | ⟨c2, E⟩
    · refine V_ic_le_t K 13 dX9_sets_8 (by decide) c2 ?_
      refine V_aload_n K 0 dX9_sets_13 rfl ?_
      refine gf_X9_71 K dX9_sets_14 ?_
      refine gf_X9_127 K k_19 dX9_sets_17 ?_
      rcases if_inv E with ⟨c3, E⟩ | ⟨c3, E⟩
      · refine V_if_ne_f K 26 dX9_sets_20 (by decide) c3 ?_
        refine V_bp (v := -4) K dX9_sets_23 rfl ?_
        cases E
        exact V_iret K dX9_sets_25 rfl T
      · refine V_if_ne_t K 26 dX9_sets_20 (by decide) c3 ?_
        refine V_ic (v := 0) K dX9_sets_26 rfl ?_
        refine V_istore_n (lv' := [(2, .int (0 : Int32)), (0, .ref (ad x 0)), (1, .int a1)]) K dX9_sets_27 (by decide) rfl ?_
        refine V_bp (v := -9) K dX9_sets_28 rfl ?_
        refine V_istore_n (lv' := [(3, .int (-9 : Int32)), (2, .int (0 : Int32)), (0, .ref (ad x 0)), (1, .int a1)]) K dX9_sets_30 (by decide) rfl ?_
        refine V_ic (v := 0) K dX9_sets_31 rfl ?_
        refine V_istore (lv' := [(4, .int (0 : Int32)), (3, .int (-9 : Int32)), (2, .int (0 : Int32)), (0, .ref (ad x 0)), (1, .int a1)]) K dX9_sets_32 (by decide) rfl ?_
        obtain ⟨v16, v17, v18, q23, E⟩ := ob3_inv E
        refine V_sub [3, 4, 2, 1, 0] rfl (wl_X9_sets_s34 K a1 h  _ _ _ q23 ?_)
        show VV x 79 [(0, .ref (ad x 0)), (1, .int a1), (2, .int v16), (3, .int v17), (4, .int v18)] [] h
        refine V_aload_n K 0 dX9_sets_79 rfl ?_
        refine V_iload_n K 3 dX9_sets_80 rfl ?_
        obtain ⟨h19, e20, E⟩ := lt_inv E
        refine pf_X9_49 K dX9_sets_81 ?_
        refine V_hp e20 ?_
        refine V_aload_n K 0 dX9_sets_84 rfl ?_
        refine V_iload_n K 2 dX9_sets_85 rfl ?_
        refine V_i2l K dX9_sets_86 ?_
        refine V_lc (v := 1) K dX9_sets_87 rfl ?_
        obtain ⟨h22, q21, E⟩ := ob_inv E
        refine iv_X9_245 K (c_X9_tellParts _ (v16.toInt64) (1 : Int64) h19 q21) dX9_sets_88 (Nat.le_of_ble_eq_true rfl) ?_
        refine V_ic (v := 1) K dX9_sets_91 rfl ?_
        cases E
        exact V_iret K dX9_sets_92 rfl T
    · refine V_ic_le_f K 13 dX9_sets_8 (by decide) c2 ?_
      refine V_ic (v := -1) K dX9_sets_11 rfl ?_
      cases E
      exact V_iret K dX9_sets_12 rfl T
theorem c_X9_sets (d : Nat) (a1 : Int32) (h : Hp)  {r : Int32} {h' : Hp} (E : X9_sets a1 h = some (r, h')) : Runs (d + 2) yX9_sets cX9_sets 5 (some .int) (fun f => [.ref (f 0), .int a1]) h (fun _ => some (.int r)) h' :=
  Runs.of (by decide +kernel) (fun _ => Nat.le_of_ble_eq_true rfl) (fun x K T => w_X9_sets K  a1 h  E T)
def X9_share (a1 : Int32) (a2 : Int32) (h : Hp) : Option (Int32 × Hp) :=
  if (X4_isOne 19 a1 h) = (0 : Int32) then (some ((-1 : Int32), h))
  else (if a2 < (0 : Int32) then (some ((-1 : Int32), h))
  else (if a2 ≤ (40 : Int32) then (ob (X4_become 23 19 h) fun h5 =>
  ob (X4_passAll 23 a2 h5) fun h7 =>
  gd (ib a1 6) (
  some (h7.1 26 (ix a1), h7)))
  else (some ((-1 : Int32), h))))
set_option maxHeartbeats 4000000 in
set_option maxRecDepth 100000 in
theorem w_X9_share {x : Cx} {d : Nat} (K : Ok x cX9_share RX9 3 (some .int) (d + 6)) (a1 : Int32) (a2 : Int32) (h : Hp)  {z : Int32 × Hp} (E : X9_share a1 a2 h = some z) (T : x.2.2.2.2 = (some (.int (z.1)), z.2)) : VV x 0 [(0, .ref (ad x 0)), (1, .int a1), (2, .int a2)] [] h := by
  unfold X9_share at E
  refine V_aload_n K 0 dX9_share_0 rfl ?_
  refine gf_X9_71 K dX9_share_1 ?_
  refine V_iload_n K 1 dX9_share_4 rfl ?_
  refine iv_X9_130 K k_19 (c_X4_isOne _ 19 a1 h k_19) dX9_share_5 (Nat.le_of_ble_eq_true rfl) ?_
  rcases if_inv E with ⟨c1, E⟩ | ⟨c1, E⟩
  · refine V_if_eq_t K 21 dX9_share_8 (by decide) c1 ?_
    refine V_ic (v := -1) K dX9_share_21 rfl ?_
    cases E
    exact V_iret K dX9_share_22 rfl T
  · refine V_if_eq_f K 21 dX9_share_8 (by decide) c1 ?_
    refine V_iload_n K 2 dX9_share_11 rfl ?_
    rcases if_inv E with ⟨c2, E⟩ | ⟨c2, E⟩
    · refine V_if_lt_t K 21 dX9_share_12 (by decide) c2 ?_
      refine V_ic (v := -1) K dX9_share_21 rfl ?_
      cases E
      exact V_iret K dX9_share_22 rfl T
    · refine V_if_lt_f K 21 dX9_share_12 (by decide) c2 ?_
      refine V_iload_n K 2 dX9_share_15 rfl ?_
      refine V_bp (v := 40) K dX9_share_16 rfl ?_
      rcases if_inv E with ⟨c3, E⟩ | ⟨c3, E⟩
      · refine V_ic_le_t K 23 dX9_share_18 (by decide) c3 ?_
        refine V_aload_n K 0 dX9_share_23 rfl ?_
        refine gf_X9_74 K dX9_share_24 ?_
        refine V_aload_n K 0 dX9_share_27 rfl ?_
        refine gf_X9_71 K dX9_share_28 ?_
        obtain ⟨h5, q4, E⟩ := ob_inv E
        refine iv_X9_120 K k_23 (c_X4_become _ 23 19 h k_23 k_19 q4) dX9_share_31 (Nat.le_of_ble_eq_true rfl) ?_
        refine V_aload_n K 0 dX9_share_34 rfl ?_
        refine gf_X9_74 K dX9_share_35 ?_
        refine V_iload_n K 2 dX9_share_38 rfl ?_
        obtain ⟨h7, q6, E⟩ := ob_inv E
        refine iv_X9_197 K k_23 (c_X4_passAll _ 23 a2 h5 k_23 q6) dX9_share_39 (Nat.le_of_ble_eq_true rfl) ?_
        refine V_aload_n K 0 dX9_share_42 rfl ?_
        refine gf_X9_74 K dX9_share_43 ?_
        refine gf_X9_146 K k_23 dX9_share_46 ?_
        refine V_iload_n K 1 dX9_share_49 rfl ?_
        obtain ⟨g8, E⟩ := gd_inv E
        refine V_iald K k_26 n_26 g8 dX9_share_50 ?_
        cases E
        exact V_iret K dX9_share_51 rfl T
      · refine V_ic_le_f K 23 dX9_share_18 (by decide) c3 ?_
        refine V_ic (v := -1) K dX9_share_21 rfl ?_
        cases E
        exact V_iret K dX9_share_22 rfl T
theorem c_X9_share (d : Nat) (a1 : Int32) (a2 : Int32) (h : Hp)  {r : Int32} {h' : Hp} (E : X9_share a1 a2 h = some (r, h')) : Runs (d + 6) yX9_share cX9_share 3 (some .int) (fun f => [.ref (f 0), .int a1, .int a2]) h (fun _ => some (.int r)) h' :=
  Runs.of (by decide +kernel) (fun _ => Nat.le_of_ble_eq_true rfl) (fun x K T => w_X9_share K  a1 a2 h  E T)
def X9_sizes (a1 : Int32) (a2 : Int32) (h : Hp) : Option (Int32 × Hp) :=
  ob2 (X9_refusedHad a1 a2 h) fun r3 h2 =>
  if r3 = (0 : Int32) then (ob2 (X9_fittingSizes a1 a2 h2) fun r7 h6 =>
  some (r7, h6))
  else (some (r3, h2))
set_option maxHeartbeats 4000000 in
set_option maxRecDepth 100000 in
theorem w_X9_sizes {x : Cx} {d : Nat} (K : Ok x cX9_sizes RX9 4 (some .int) (d + 7)) (a1 : Int32) (a2 : Int32) (h : Hp)  {z : Int32 × Hp} (E : X9_sizes a1 a2 h = some z) (T : x.2.2.2.2 = (some (.int (z.1)), z.2)) : VV x 0 [(0, .ref (ad x 0)), (1, .int a1), (2, .int a2)] [] h := by
  unfold X9_sizes at E
  refine V_aload_n K 0 dX9_sizes_0 rfl ?_
  refine V_iload_n K 1 dX9_sizes_1 rfl ?_
  refine V_iload_n K 2 dX9_sizes_2 rfl ?_
  obtain ⟨r3, h2, q1, E⟩ := ob2_inv E
  refine iv_X9_221 K (c_X9_refusedHad _ a1 a2 h q1) dX9_sizes_3 (Nat.le_of_ble_eq_true rfl) ?_
  refine V_istore_n (lv' := [(3, .int r3), (0, .ref (ad x 0)), (1, .int a1), (2, .int a2)]) K dX9_sizes_6 (by decide) rfl ?_
  refine V_iload_n K 0 dX9_sizes_7 rfl ?_
  rcases if_inv E with ⟨c4, E⟩ | ⟨c4, E⟩
  · refine V_if_eq_t K 13 dX9_sizes_8 (by decide) c4 ?_
    refine V_aload_n K 1 dX9_sizes_13 rfl ?_
    refine V_iload_n K 2 dX9_sizes_14 rfl ?_
    refine V_iload_n K 3 dX9_sizes_15 rfl ?_
    obtain ⟨r7, h6, q5, E⟩ := ob2_inv E
    refine iv_X9_224 K (c_X9_fittingSizes _ a1 a2 h2 q5) dX9_sizes_16 (Nat.le_of_ble_eq_true rfl) ?_
    cases E
    exact V_iret K dX9_sizes_19 rfl T
  · refine V_if_eq_f K 13 dX9_sizes_8 (by decide) c4 ?_
    refine V_iload_n K 0 dX9_sizes_11 rfl ?_
    cases E
    exact V_iret K dX9_sizes_12 rfl T
theorem c_X9_sizes (d : Nat) (a1 : Int32) (a2 : Int32) (h : Hp)  {r : Int32} {h' : Hp} (E : X9_sizes a1 a2 h = some (r, h')) : Runs (d + 7) yX9_sizes cX9_sizes 4 (some .int) (fun f => [.ref (f 0), .int a1, .int a2]) h (fun _ => some (.int r)) h' :=
  Runs.of (by decide +kernel) (fun _ => Nat.le_of_ble_eq_true rfl) (fun x K T => w_X9_sizes K  a1 a2 h  E T)
def X9_spoon (a1 : Int32) (h : Hp) : Option (Int32 × Hp) :=
  if a1 < (1 : Int32) then (some ((-1 : Int32), h))
  else (if a1 ≤ (9 : Int32) then (if (h.1 19 6) = (0 : Int32) then (some ((-4 : Int32), h))
  else (if (h.1 19 7) < (60 : Int32) then (if (X3_isFull 27 h) = (0 : Int32) then (ob2 (X9_doDeed (1 : Int32) a1 h) fun r8 h7 =>
  some (h7.1 19 7, h7))
  else (some ((-2 : Int32), h)))
  else (some ((-4 : Int32), h))))
  else (some ((-1 : Int32), h)))
set_option maxHeartbeats 4000000 in
set_option maxRecDepth 100000 in
theorem w_X9_spoon {x : Cx} {d : Nat} (K : Ok x cX9_spoon RX9 2 (some .int) (d + 7)) (a1 : Int32) (h : Hp)  {z : Int32 × Hp} (E : X9_spoon a1 h = some z) (T : x.2.2.2.2 = (some (.int (z.1)), z.2)) : VV x 0 [(0, .ref (ad x 0)), (1, .int a1)] [] h := by
  unfold X9_spoon at E
  refine V_iload_n K 1 dX9_spoon_0 rfl ?_
  refine V_ic (v := 1) K dX9_spoon_1 rfl ?_
  rcases if_inv E with ⟨c1, E⟩ | ⟨c1, E⟩
  · refine V_ic_lt_t K 11 dX9_spoon_2 (by decide) c1 ?_
    refine V_ic (v := -1) K dX9_spoon_11 rfl ?_
    cases E
    exact V_iret K dX9_spoon_12 rfl T
  · refine V_ic_lt_f K 11 dX9_spoon_2 (by decide) c1 ?_
    refine V_iload_n K 1 dX9_spoon_5 rfl ?_
    refine V_bp (v := 9) K dX9_spoon_6 rfl ?_
    rcases if_inv E with ⟨c2, E⟩ | ⟨c2, E⟩
    · refine V_ic_le_t K 13 dX9_spoon_8 (by decide) c2 ?_
      refine V_aload_n K 0 dX9_spoon_13 rfl ?_
      refine gf_X9_71 K dX9_spoon_14 ?_
      refine gf_X9_127 K k_19 dX9_spoon_17 ?_
      rcases if_inv E with ⟨c3, E⟩ | ⟨c3, E⟩
      · refine V_if_eq_t K 35 dX9_spoon_20 (by decide) c3 ?_
        refine V_bp (v := -4) K dX9_spoon_35 rfl ?_
        cases E
        exact V_iret K dX9_spoon_37 rfl T
      · refine V_if_eq_f K 35 dX9_spoon_20 (by decide) c3 ?_
        refine V_aload_n K 0 dX9_spoon_23 rfl ?_
        refine gf_X9_71 K dX9_spoon_24 ?_
        refine gf_X9_159 K k_19 dX9_spoon_27 ?_
        refine V_bp (v := 60) K dX9_spoon_30 rfl ?_
        rcases if_inv E with ⟨c4, E⟩ | ⟨c4, E⟩
        · refine V_ic_lt_t K 38 dX9_spoon_32 (by decide) c4 ?_
          refine V_aload_n K 0 dX9_spoon_38 rfl ?_
          refine gf_X9_31 K dX9_spoon_39 ?_
          refine iv_X9_169 K k_27 (c_X3_isFull _ 27 h k_27) dX9_spoon_42 (Nat.le_of_ble_eq_true rfl) ?_
          rcases if_inv E with ⟨c5, E⟩ | ⟨c5, E⟩
          · refine V_if_eq_t K 51 dX9_spoon_45 (by decide) c5 ?_
            refine V_aload_n K 0 dX9_spoon_51 rfl ?_
            refine V_ic (v := 1) K dX9_spoon_52 rfl ?_
            refine V_iload_n K 1 dX9_spoon_53 rfl ?_
            obtain ⟨r8, h7, q6, E⟩ := ob2_inv E
            refine iv_X9_173 K (c_X9_doDeed _ (1 : Int32) a1 h q6) dX9_spoon_54 (Nat.le_of_ble_eq_true rfl) ?_
            refine V_pop K dX9_spoon_57 rfl ?_
            refine V_aload_n K 0 dX9_spoon_58 rfl ?_
            refine gf_X9_71 K dX9_spoon_59 ?_
            refine gf_X9_159 K k_19 dX9_spoon_62 ?_
            cases E
            exact V_iret K dX9_spoon_65 rfl T
          · refine V_if_eq_f K 51 dX9_spoon_45 (by decide) c5 ?_
            refine V_bp (v := -2) K dX9_spoon_48 rfl ?_
            cases E
            exact V_iret K dX9_spoon_50 rfl T
        · refine V_ic_lt_f K 38 dX9_spoon_32 (by decide) c4 ?_
          refine V_bp (v := -4) K dX9_spoon_35 rfl ?_
          cases E
          exact V_iret K dX9_spoon_37 rfl T
    · refine V_ic_le_f K 13 dX9_spoon_8 (by decide) c2 ?_
      refine V_ic (v := -1) K dX9_spoon_11 rfl ?_
      cases E
      exact V_iret K dX9_spoon_12 rfl T
theorem c_X9_spoon (d : Nat) (a1 : Int32) (h : Hp)  {r : Int32} {h' : Hp} (E : X9_spoon a1 h = some (r, h')) : Runs (d + 7) yX9_spoon cX9_spoon 2 (some .int) (fun f => [.ref (f 0), .int a1]) h (fun _ => some (.int r)) h' :=
  Runs.of (by decide +kernel) (fun _ => Nat.le_of_ble_eq_true rfl) (fun x K T => w_X9_spoon K  a1 h  E T)
def X9_stand (a1 : Int32) (a2 : Int32) (h : Hp) : Option (Int32 × Hp) :=
  if (X4_isOne 19 a1 h) = (0 : Int32) then (some ((-1 : Int32), h))
  else (if a2 < (0 : Int32) then (some ((-1 : Int32), h))
  else (if a2 < (10 : Int32) then (gd (ib a1 6) (
  lt_ (h.1 21 (ix a1)) fun v5 =>
  if v5 = a2 then (some ((-4 : Int32), h))
  else (if (X3_isFull 27 h) = (0 : Int32) then (ob2 (X9_doDeed (4 : Int32) ((a1 * (10 : Int32)) + a2) h) fun r11 h10 =>
  some (v5, h10))
  else (some ((-2 : Int32), h)))))
  else (some ((-1 : Int32), h))))
set_option maxHeartbeats 4000000 in
set_option maxRecDepth 100000 in
theorem w_X9_stand {x : Cx} {d : Nat} (K : Ok x cX9_stand RX9 4 (some .int) (d + 7)) (a1 : Int32) (a2 : Int32) (h : Hp)  {z : Int32 × Hp} (E : X9_stand a1 a2 h = some z) (T : x.2.2.2.2 = (some (.int (z.1)), z.2)) : VV x 0 [(0, .ref (ad x 0)), (1, .int a1), (2, .int a2)] [] h := by
  unfold X9_stand at E
  refine V_aload_n K 0 dX9_stand_0 rfl ?_
  refine gf_X9_71 K dX9_stand_1 ?_
  refine V_iload_n K 1 dX9_stand_4 rfl ?_
  refine iv_X9_130 K k_19 (c_X4_isOne _ 19 a1 h k_19) dX9_stand_5 (Nat.le_of_ble_eq_true rfl) ?_
  rcases if_inv E with ⟨c1, E⟩ | ⟨c1, E⟩
  · refine V_if_eq_t K 21 dX9_stand_8 (by decide) c1 ?_
    refine V_ic (v := -1) K dX9_stand_21 rfl ?_
    cases E
    exact V_iret K dX9_stand_22 rfl T
  · refine V_if_eq_f K 21 dX9_stand_8 (by decide) c1 ?_
    refine V_iload_n K 2 dX9_stand_11 rfl ?_
    rcases if_inv E with ⟨c2, E⟩ | ⟨c2, E⟩
    · refine V_if_lt_t K 21 dX9_stand_12 (by decide) c2 ?_
      refine V_ic (v := -1) K dX9_stand_21 rfl ?_
      cases E
      exact V_iret K dX9_stand_22 rfl T
    · refine V_if_lt_f K 21 dX9_stand_12 (by decide) c2 ?_
      refine V_iload_n K 2 dX9_stand_15 rfl ?_
      refine V_bp (v := 10) K dX9_stand_16 rfl ?_
      rcases if_inv E with ⟨c3, E⟩ | ⟨c3, E⟩
      · refine V_ic_lt_t K 23 dX9_stand_18 (by decide) c3 ?_
        refine V_aload_n K 0 dX9_stand_23 rfl ?_
        refine gf_X9_71 K dX9_stand_24 ?_
        refine gf_X9_182 K k_19 dX9_stand_27 ?_
        refine V_iload_n K 1 dX9_stand_30 rfl ?_
        obtain ⟨g4, E⟩ := gd_inv E
        refine V_iald K k_21 n_21 g4 dX9_stand_31 ?_
        obtain ⟨v5, e6, E⟩ := lt_inv E
        refine V_top e6 ?_
        refine V_istore_n (lv' := [(3, .int v5), (0, .ref (ad x 0)), (1, .int a1), (2, .int a2)]) K dX9_stand_32 (by decide) rfl ?_
        refine V_iload_n K 0 dX9_stand_33 rfl ?_
        refine V_iload_n K 3 dX9_stand_34 rfl ?_
        rcases if_inv E with ⟨c7, E⟩ | ⟨c7, E⟩
        · refine V_ic_ne_f K 41 dX9_stand_35 (by decide) c7 ?_
          refine V_bp (v := -4) K dX9_stand_38 rfl ?_
          cases E
          exact V_iret K dX9_stand_40 rfl T
        · refine V_ic_ne_t K 41 dX9_stand_35 (by decide) c7 ?_
          refine V_aload_n K 1 dX9_stand_41 rfl ?_
          refine gf_X9_31 K dX9_stand_42 ?_
          refine iv_X9_169 K k_27 (c_X3_isFull _ 27 h k_27) dX9_stand_45 (Nat.le_of_ble_eq_true rfl) ?_
          rcases if_inv E with ⟨c8, E⟩ | ⟨c8, E⟩
          · refine V_if_eq_t K 54 dX9_stand_48 (by decide) c8 ?_
            refine V_aload_n K 1 dX9_stand_54 rfl ?_
            refine V_ic (v := 4) K dX9_stand_55 rfl ?_
            refine V_iload_n K 2 dX9_stand_56 rfl ?_
            refine V_bp (v := 10) K dX9_stand_57 rfl ?_
            refine V_imul K dX9_stand_59 ?_
            refine V_iload_n K 3 dX9_stand_60 rfl ?_
            refine V_iadd K dX9_stand_61 ?_
            obtain ⟨r11, h10, q9, E⟩ := ob2_inv E
            refine iv_X9_173 K (c_X9_doDeed _ (4 : Int32) ((a1 * (10 : Int32)) + a2) h q9) dX9_stand_62 (Nat.le_of_ble_eq_true rfl) ?_
            refine V_pop K dX9_stand_65 rfl ?_
            refine V_iload_n K 0 dX9_stand_66 rfl ?_
            cases E
            exact V_iret K dX9_stand_67 rfl T
          · refine V_if_eq_f K 54 dX9_stand_48 (by decide) c8 ?_
            refine V_bp (v := -2) K dX9_stand_51 rfl ?_
            cases E
            exact V_iret K dX9_stand_53 rfl T
      · refine V_ic_lt_f K 23 dX9_stand_18 (by decide) c3 ?_
        refine V_ic (v := -1) K dX9_stand_21 rfl ?_
        cases E
        exact V_iret K dX9_stand_22 rfl T
theorem c_X9_stand (d : Nat) (a1 : Int32) (a2 : Int32) (h : Hp)  {r : Int32} {h' : Hp} (E : X9_stand a1 a2 h = some (r, h')) : Runs (d + 7) yX9_stand cX9_stand 4 (some .int) (fun f => [.ref (f 0), .int a1, .int a2]) h (fun _ => some (.int r)) h' :=
  Runs.of (by decide +kernel) (fun _ => Nat.le_of_ble_eq_true rfl) (fun x K T => w_X9_stand K  a1 a2 h  E T)
def X9_sure_s49 (x1 : Int32) (x2 : Int32) (h : Hp) (y3 : Int32) (y4 : Int32) (y5 : Int32) (y6 : Int32) : Option ((Int32 × Int32 × Int32 × Int32) ⊕ (Int32 × Int32 × Int32 × Int32)) :=
  if x2 < y6 then (some (.inl (y3, y4, y5, y6)))
  else (ob (X4_inSet 19 y6 h) fun r7 =>
  ob3 (if r7 = x1 then (lt_ (y3 + (1 : Int32)) fun v13 =>
  lt_ (y4 &&& y6) fun v15 =>
  lt_ (y5 ||| y6) fun v17 =>
  some (v13, v15, v17))
  else (some (y3, y4, y5))) fun v9 v10 v11 =>
  lt_ (y6 + (1 : Int32)) fun v19 =>
  some (.inr (v9, v10, v11, v19)))
set_option maxHeartbeats 4000000 in
set_option maxRecDepth 100000 in
theorem wl_X9_sure_s49 {x : Cx} {d : Nat} (K : Ok x cX9_sure RX9 7 (some .int) (d + 1)) (x1 : Int32) (x2 : Int32) (h : Hp)  : ∀ (n : Nat) (s : Int32 × Int32 × Int32 × Int32) (r : (Int32 × Int32 × Int32 × Int32)), lp (fun s : Int32 × Int32 × Int32 × Int32 => X9_sure_s49 x1 x2 h s.1 s.2.1 s.2.2.1 s.2.2.2) n s = some r → (fun r : (Int32 × Int32 × Int32 × Int32) => VV x 91 [(0, .ref (ad x 0)), (1, .int x1), (2, .int x2), (3, .int (r.1)), (4, .int (r.2.1)), (5, .int (r.2.2.1)), (6, .int (r.2.2.2))] [] h) r → (fun s : Int32 × Int32 × Int32 × Int32 => VV x 49 [(0, .ref (ad x 0)), (1, .int x1), (2, .int x2), (3, .int (s.1)), (4, .int (s.2.1)), (5, .int (s.2.2.1)), (6, .int (s.2.2.2))] [] h) s := by
  refine lp_walk ?_
  intro s z E T
  obtain ⟨y3, y4, y5, y6⟩ := s
  replace E : X9_sure_s49 x1 x2 h y3 y4 y5 y6 = some z := E
  unfold X9_sure_s49 at E
  show VV x 49 [(0, .ref (ad x 0)), (1, .int x1), (2, .int x2), (3, .int y3), (4, .int y4), (5, .int y5), (6, .int y6)] [] h
  refine V_iload K 6 dX9_sure_49 rfl ?_
  refine V_iload_n K 2 dX9_sure_51 rfl ?_
  rcases if_inv E with ⟨c6, E⟩ | ⟨c6, E⟩
  · refine V_ic_gt_t K 91 dX9_sure_52 (by decide) c6 ?_
    cases E
    exact V_sub [0, 1, 2, 3, 4, 5, 6] rfl T
  · refine V_ic_gt_f K 91 dX9_sure_52 (by decide) c6 ?_
    refine V_aload_n K 0 dX9_sure_55 rfl ?_
    refine gf_X9_71 K dX9_sure_56 ?_
    refine V_iload K 6 dX9_sure_59 rfl ?_
    obtain ⟨r7, q8, E⟩ := ob_inv E
    refine iv_X9_242 K k_19 (c_X4_inSet _ 19 y6 h k_19 q8) dX9_sure_61 (Nat.le_of_ble_eq_true rfl) ?_
    refine V_iload_n K 1 dX9_sure_64 rfl ?_
    obtain ⟨v9, v10, v11, q21, E⟩ := ob3_inv E
    have T9 : VV x 85 [(0, .ref (ad x 0)), (1, .int x1), (2, .int x2), (3, .int v9), (4, .int v10), (5, .int v11), (6, .int y6)] [] h := by
      obtain ⟨v19, e20, E⟩ := lt_inv E
      refine V_iinc (lv' := [(6, .int v19), (0, .ref (ad x 0)), (1, .int x1), (2, .int x2), (3, .int v9), (4, .int v10), (5, .int v11)]) K 6 dX9_sure_85 rfl (by rw [e20]; rfl) (by decide) rfl ?_
      refine V_goto K 49 dX9_sure_88 (by decide) ?_
      cases E
      exact V_sub [1, 2, 3, 4, 5, 6, 0] rfl T
    have E := q21
    have T := T9
    rcases if_inv E with ⟨c12, E⟩ | ⟨c12, E⟩
    · refine V_ic_ne_f K 85 dX9_sure_65 (by decide) c12 ?_
      obtain ⟨v13, e14, E⟩ := lt_inv E
      refine V_iinc (lv' := [(3, .int v13), (0, .ref (ad x 0)), (1, .int x1), (2, .int x2), (4, .int y4), (5, .int y5), (6, .int y6)]) K 3 dX9_sure_68 rfl (by rw [e14]; rfl) (by decide) rfl ?_
      refine V_iload K 4 dX9_sure_71 rfl ?_
      refine V_iload K 6 dX9_sure_73 rfl ?_
      refine V_iand K dX9_sure_75 ?_
      obtain ⟨v15, e16, E⟩ := lt_inv E
      refine V_top e16 ?_
      refine V_istore (lv' := [(4, .int v15), (3, .int v13), (0, .ref (ad x 0)), (1, .int x1), (2, .int x2), (5, .int y5), (6, .int y6)]) K dX9_sure_76 (by decide) rfl ?_
      refine V_iload K 5 dX9_sure_78 rfl ?_
      refine V_iload K 6 dX9_sure_80 rfl ?_
      refine V_ior K dX9_sure_82 ?_
      obtain ⟨v17, e18, E⟩ := lt_inv E
      refine V_top e18 ?_
      refine V_istore (lv' := [(5, .int v17), (4, .int v15), (3, .int v13), (0, .ref (ad x 0)), (1, .int x1), (2, .int x2), (6, .int y6)]) K dX9_sure_83 (by decide) rfl ?_
      cases E
      exact V_sub [3, 4, 5, 2, 1, 0, 6] rfl T
    · refine V_ic_ne_t K 85 dX9_sure_65 (by decide) c12 ?_
      cases E
      exact V_sub [0, 1, 2, 3, 4, 5, 6] rfl T
def X9_sure (a1 : Int32) (h : Hp) : Option (Int32 × Hp) :=
  if a1 < (0 : Int32) then (some ((-1 : Int32), h))
  else (if a1 ≤ (180 : Int32) then (if (h.1 19 6) = (0 : Int32) then (some ((-4 : Int32), h))
  else (lt_ (((1 : Int32) <<< ((h.1 19 6) &&& 31)) - (1 : Int32)) fun v4 =>
  ob4 (lp (fun s : Int32 × Int32 × Int32 × Int32 => X9_sure_s49 a1 v4 h s.1 s.2.1 s.2.2.1 s.2.2.2) FU ((0 : Int32), v4, (0 : Int32), (0 : Int32))) fun v22 v23 v24 v25 =>
  if v22 = (0 : Int32) then (ob2 (X9_answerFinding (4 : Int32) h) fun r29 h28 =>
  some (r29, h28))
  else (lt_ (up h 0 12 (v4 &&& (v24 ^^^ (-1 : Int32)))) fun h30 =>
  some (v23, h30))))
  else (some ((-1 : Int32), h)))
set_option maxHeartbeats 4000000 in
set_option maxRecDepth 100000 in
theorem w_X9_sure {x : Cx} {d : Nat} (K : Ok x cX9_sure RX9 7 (some .int) (d + 1)) (a1 : Int32) (h : Hp)  {z : Int32 × Hp} (E : X9_sure a1 h = some z) (T : x.2.2.2.2 = (some (.int (z.1)), z.2)) : VV x 0 [(0, .ref (ad x 0)), (1, .int a1)] [] h := by
  unfold X9_sure at E
  refine V_iload_n K 1 dX9_sure_0 rfl ?_
  rcases if_inv E with ⟨c1, E⟩ | ⟨c1, E⟩
  · refine V_if_lt_t K 11 dX9_sure_1 (by decide) c1 ?_
    refine V_ic (v := -1) K dX9_sure_11 rfl ?_
    cases E
    exact V_iret K dX9_sure_12 rfl T
  · refine V_if_lt_f K 11 dX9_sure_1 (by decide) c1 ?_
    refine V_iload_n K 1 dX9_sure_4 rfl ?_
    refine V_sp (v := 180) K dX9_sure_5 rfl ?_
    rcases if_inv E with ⟨c2, E⟩ | ⟨c2, E⟩
    · refine V_ic_le_t K 13 dX9_sure_8 (by decide) c2 ?_
      refine V_aload_n K 0 dX9_sure_13 rfl ?_
      refine gf_X9_71 K dX9_sure_14 ?_
      refine gf_X9_127 K k_19 dX9_sure_17 ?_
      rcases if_inv E with ⟨c3, E⟩ | ⟨c3, E⟩
      · refine V_if_ne_f K 26 dX9_sure_20 (by decide) c3 ?_
        refine V_bp (v := -4) K dX9_sure_23 rfl ?_
        cases E
        exact V_iret K dX9_sure_25 rfl T
      · refine V_if_ne_t K 26 dX9_sure_20 (by decide) c3 ?_
        refine V_ic (v := 1) K dX9_sure_26 rfl ?_
        refine V_aload_n K 0 dX9_sure_27 rfl ?_
        refine gf_X9_71 K dX9_sure_28 ?_
        refine gf_X9_127 K k_19 dX9_sure_31 ?_
        refine V_ishl K dX9_sure_34 ?_
        refine V_ic (v := 1) K dX9_sure_35 rfl ?_
        refine V_isub K dX9_sure_36 ?_
        obtain ⟨v4, e5, E⟩ := lt_inv E
        refine V_top e5 ?_
        refine V_istore_n (lv' := [(2, .int v4), (0, .ref (ad x 0)), (1, .int a1)]) K dX9_sure_37 (by decide) rfl ?_
        refine V_ic (v := 0) K dX9_sure_38 rfl ?_
        refine V_istore_n (lv' := [(3, .int (0 : Int32)), (2, .int v4), (0, .ref (ad x 0)), (1, .int a1)]) K dX9_sure_39 (by decide) rfl ?_
        refine V_iload_n K 1 dX9_sure_40 rfl ?_
        refine V_istore (lv' := [(4, .int v4), (3, .int (0 : Int32)), (2, .int v4), (0, .ref (ad x 0)), (1, .int a1)]) K dX9_sure_41 (by decide) rfl ?_
        refine V_ic (v := 0) K dX9_sure_43 rfl ?_
        refine V_istore (lv' := [(5, .int (0 : Int32)), (4, .int v4), (3, .int (0 : Int32)), (2, .int v4), (0, .ref (ad x 0)), (1, .int a1)]) K dX9_sure_44 (by decide) rfl ?_
        refine V_ic (v := 0) K dX9_sure_46 rfl ?_
        refine V_istore (lv' := [(6, .int (0 : Int32)), (5, .int (0 : Int32)), (4, .int v4), (3, .int (0 : Int32)), (2, .int v4), (0, .ref (ad x 0)), (1, .int a1)]) K dX9_sure_47 (by decide) rfl ?_
        obtain ⟨v22, v23, v24, v25, q32, E⟩ := ob4_inv E
        refine V_sub [5, 6, 4, 3, 2, 1, 0] rfl (wl_X9_sure_s49 K a1 v4 h  _ _ _ q32 ?_)
        show VV x 91 [(0, .ref (ad x 0)), (1, .int a1), (2, .int v4), (3, .int v22), (4, .int v23), (5, .int v24), (6, .int v25)] [] h
        refine V_iload_n K 3 dX9_sure_91 rfl ?_
        rcases if_inv E with ⟨c26, E⟩ | ⟨c26, E⟩
        · refine V_if_ne_f K 101 dX9_sure_92 (by decide) c26 ?_
          refine V_aload_n K 0 dX9_sure_95 rfl ?_
          refine V_ic (v := 4) K dX9_sure_96 rfl ?_
          obtain ⟨r29, h28, q27, E⟩ := ob2_inv E
          refine iv_X9_87 K (c_X9_answerFinding _ (4 : Int32) h q27) dX9_sure_97 (Nat.le_of_ble_eq_true rfl) ?_
          cases E
          exact V_iret K dX9_sure_100 rfl T
        · refine V_if_ne_t K 101 dX9_sure_92 (by decide) c26 ?_
          refine V_aload_n K 0 dX9_sure_101 rfl ?_
          refine V_iload_n K 2 dX9_sure_102 rfl ?_
          refine V_iload K 5 dX9_sure_103 rfl ?_
          refine V_ic (v := -1) K dX9_sure_105 rfl ?_
          refine V_ixor K dX9_sure_106 ?_
          refine V_iand K dX9_sure_107 ?_
          obtain ⟨h30, e31, E⟩ := lt_inv E
          refine pf_X9_49 K dX9_sure_108 ?_
          refine V_hp e31 ?_
          refine V_iload K 4 dX9_sure_111 rfl ?_
          cases E
          exact V_iret K dX9_sure_113 rfl T
    · refine V_ic_le_f K 13 dX9_sure_8 (by decide) c2 ?_
      refine V_ic (v := -1) K dX9_sure_11 rfl ?_
      cases E
      exact V_iret K dX9_sure_12 rfl T
theorem c_X9_sure (d : Nat) (a1 : Int32) (h : Hp)  {r : Int32} {h' : Hp} (E : X9_sure a1 h = some (r, h')) : Runs (d + 1) yX9_sure cX9_sure 7 (some .int) (fun f => [.ref (f 0), .int a1]) h (fun _ => some (.int r)) h' :=
  Runs.of (by decide +kernel) (fun _ => Nat.le_of_ble_eq_true rfl) (fun x K T => w_X9_sure K  a1 h  E T)
