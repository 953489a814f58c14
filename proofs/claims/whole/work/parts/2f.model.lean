def X10_lay (a1 : Int32) (a2 : Int32) (a3 : Int32) (h : Hp) : Option (Int32 × Hp) :=
  if (X10_isRow a1) = (0 : Int32) then (some ((-1 : Int32), h))
  else (ob (X10_wrongPlace a1 a2 h) fun r2 =>
  if r2 ≤ (0 : Int32) then (gd (ib (((40 : Int32) * a1) + a2) 240) (
  lt_ (h.1 55 (ix (((40 : Int32) * a1) + a2))) fun v6 =>
  lt_ (up h 55 (ix (((40 : Int32) * a1) + a2)) a3) fun h8 =>
  ob2 (X10_tell v6 h8) fun r12 h11 =>
  some (r12, h11)))
  else (ob (X10_wrongPlace a1 a2 h) fun r13 =>
  ob2 (X10_find r13 h) fun r17 h16 =>
  some (r17, h16)))
set_option maxHeartbeats 4000000 in
set_option maxRecDepth 100000 in
theorem w_X10_lay {x : Cx} {d : Nat} (K : Ok x cX10_lay RX10 5 (some .int) (d + 2)) (a1 : Int32) (a2 : Int32) (a3 : Int32) (h : Hp)  {z : Int32 × Hp} (E : X10_lay a1 a2 a3 h = some z) (T : x.2.2.2.2 = (some (.int (z.1)), z.2)) : VV x 0 [(0, .ref (ad x 51)), (1, .int a1), (2, .int a2), (3, .int a3)] [] h := by
  unfold X10_lay at E
  refine V_iload_n K 1 dX10_lay_0 rfl ?_
  refine iv_X10_67 K (c_X10_isRow _ a1 h) dX10_lay_1 (Nat.le_of_ble_eq_true rfl) ?_
  rcases if_inv E with ⟨c1, E⟩ | ⟨c1, E⟩
  · refine V_if_ne_f K 9 dX10_lay_4 (by decide) c1 ?_
    refine V_ic (v := -1) K dX10_lay_7 rfl ?_
    cases E
    exact V_iret K dX10_lay_8 rfl T
  · refine V_if_ne_t K 9 dX10_lay_4 (by decide) c1 ?_
    refine V_aload_n K 0 dX10_lay_9 rfl ?_
    refine V_iload_n K 1 dX10_lay_10 rfl ?_
    refine V_iload_n K 2 dX10_lay_11 rfl ?_
    obtain ⟨r2, q3, E⟩ := ob_inv E
    refine iv_X10_75 K (c_X10_wrongPlace _ a1 a2 h q3) dX10_lay_12 (Nat.le_of_ble_eq_true rfl) ?_
    rcases if_inv E with ⟨c4, E⟩ | ⟨c4, E⟩
    · refine V_if_le_t K 29 dX10_lay_15 (by decide) c4 ?_
      refine V_aload_n K 0 dX10_lay_29 rfl ?_
      refine gf_X10_19 K dX10_lay_30 ?_
      refine V_bp (v := 40) K dX10_lay_33 rfl ?_
      refine V_iload_n K 1 dX10_lay_35 rfl ?_
      refine V_imul K dX10_lay_36 ?_
      refine V_iload_n K 2 dX10_lay_37 rfl ?_
      refine V_iadd K dX10_lay_38 ?_
      obtain ⟨g5, E⟩ := gd_inv E
      refine V_iald K k_55 n_55 g5 dX10_lay_39 ?_
      obtain ⟨v6, e7, E⟩ := lt_inv E
      refine V_top e7 ?_
      refine V_istore (lv' := [(4, .int v6), (0, .ref (ad x 51)), (1, .int a1), (2, .int a2), (3, .int a3)]) K dX10_lay_40 (by decide) rfl ?_
      refine V_aload_n K 1 dX10_lay_42 rfl ?_
      refine gf_X10_19 K dX10_lay_43 ?_
      refine V_bp (v := 40) K dX10_lay_46 rfl ?_
      refine V_iload_n K 2 dX10_lay_48 rfl ?_
      refine V_imul K dX10_lay_49 ?_
      refine V_iload_n K 3 dX10_lay_50 rfl ?_
      refine V_iadd K dX10_lay_51 ?_
      refine V_iload_n K 4 dX10_lay_52 rfl ?_
      obtain ⟨h8, e9, E⟩ := lt_inv E
      refine V_iast K k_55 n_55 g5 dX10_lay_53 ?_
      refine V_hp e9 ?_
      refine V_aload_n K 1 dX10_lay_54 rfl ?_
      refine V_iload K 0 dX10_lay_55 rfl ?_
      obtain ⟨r12, h11, q10, E⟩ := ob2_inv E
      refine iv_X10_79 K (c_X10_tell _ v6 h8 q10) dX10_lay_57 (Nat.le_of_ble_eq_true rfl) ?_
      cases E
      exact V_iret K dX10_lay_60 rfl T
    · refine V_if_le_f K 29 dX10_lay_15 (by decide) c4 ?_
      refine V_aload_n K 0 dX10_lay_18 rfl ?_
      refine V_aload_n K 0 dX10_lay_19 rfl ?_
      refine V_iload_n K 1 dX10_lay_20 rfl ?_
      refine V_iload_n K 2 dX10_lay_21 rfl ?_
      obtain ⟨r13, q14, E⟩ := ob_inv E
      refine iv_X10_75 K (c_X10_wrongPlace _ a1 a2 h q14) dX10_lay_22 (Nat.le_of_ble_eq_true rfl) ?_
      obtain ⟨r17, h16, q15, E⟩ := ob2_inv E
      refine iv_X10_71 K (c_X10_find _ r13 h q15) dX10_lay_25 (Nat.le_of_ble_eq_true rfl) ?_
      cases E
      exact V_iret K dX10_lay_28 rfl T
theorem c_X10_lay (d : Nat) (a1 : Int32) (a2 : Int32) (a3 : Int32) (h : Hp)  {r : Int32} {h' : Hp} (E : X10_lay a1 a2 a3 h = some (r, h')) : Runs (d + 2) yX10_lay cX10_lay 5 (some .int) (fun f => [.ref (f 51), .int a1, .int a2, .int a3]) h (fun _ => some (.int r)) h' :=
  Runs.of (by decide +kernel) (fun _ => Nat.le_of_ble_eq_true rfl) (fun x K T => w_X10_lay K  a1 a2 a3 h  E T)
def X10_without_s25 (x1 : Int32) (x2 : Int32) (y4 : Int32) (y5 : Int32) (h : Hp) : Option ((Int32 × Int32 × Hp) ⊕ (Int32 × Int32 × Hp)) :=
  if x2 ≤ y5 then (some (.inl (y4, y5, h)))
  else (ob2 (X10_plainTurn (2788 : Int32) h) fun r8 h7 =>
  lt_ (y4 ||| r8) fun v9 =>
  lt_ (y5 + (1 : Int32)) fun v11 =>
  some (.inr (v9, v11, h7)))
set_option maxHeartbeats 4000000 in
set_option maxRecDepth 100000 in
theorem wl_X10_without_s25 {x : Cx} {d : Nat} (K : Ok x cX10_without RX10 6 (some .int) (d + 4)) (x1 : Int32) (x2 : Int32)  : ∀ (n : Nat) (s : Int32 × Int32 × Hp) (r : (Int32 × Int32 × Hp)), lp (fun s : Int32 × Int32 × Hp => X10_without_s25 x1 x2 s.1 s.2.1 s.2.2) n s = some r → (fun r : (Int32 × Int32 × Hp) => VV x 49 [(0, .ref (ad x 51)), (1, .int x1), (2, .int x2), (4, .int (r.1)), (5, .int (r.2.1))] [] r.2.2) r → (fun s : Int32 × Int32 × Hp => VV x 25 [(0, .ref (ad x 51)), (1, .int x1), (2, .int x2), (4, .int (s.1)), (5, .int (s.2.1))] [] s.2.2) s := by
  refine lp_walk ?_
  intro s z E T
  obtain ⟨y4, y5, h⟩ := s
  replace E : X10_without_s25 x1 x2 y4 y5 h = some z := E
  unfold X10_without_s25 at E
  show VV x 25 [(0, .ref (ad x 51)), (1, .int x1), (2, .int x2), (4, .int y4), (5, .int y5)] [] h
  refine V_iload K 4 dX10_without_25 rfl ?_
  refine V_iload_n K 2 dX10_without_27 rfl ?_
  rcases if_inv E with ⟨c5, E⟩ | ⟨c5, E⟩
  · refine V_ic_ge_t K 49 dX10_without_28 (by decide) c5 ?_
    cases E
    exact V_sub [0, 1, 2, 3, 4] rfl T
  · refine V_ic_ge_f K 49 dX10_without_28 (by decide) c5 ?_
    refine V_iload K 3 dX10_without_31 rfl ?_
    refine V_aload_n K 0 dX10_without_33 rfl ?_
    refine V_sp (v := 2788) K dX10_without_34 rfl ?_
    obtain ⟨r8, h7, q6, E⟩ := ob2_inv E
    refine iv_X10_174 K (c_X10_plainTurn _ (2788 : Int32) h q6) dX10_without_37 (Nat.le_of_ble_eq_true rfl) ?_
    refine V_ior K dX10_without_40 ?_
    obtain ⟨v9, e10, E⟩ := lt_inv E
    refine V_top e10 ?_
    refine V_istore (lv' := [(4, .int v9), (0, .ref (ad x 51)), (1, .int x1), (2, .int x2), (5, .int y5)]) K dX10_without_41 (by decide) rfl ?_
    obtain ⟨v11, e12, E⟩ := lt_inv E
    refine V_iinc (lv' := [(5, .int v11), (4, .int v9), (0, .ref (ad x 51)), (1, .int x1), (2, .int x2)]) K 4 dX10_without_43 rfl (by rw [e12]; rfl) (by decide) rfl ?_
    refine V_goto K 25 dX10_without_46 (by decide) ?_
    cases E
    exact V_sub [2, 3, 4, 1, 0] rfl T
def X10_without (a1 : Int32) (a2 : Int32) (a3 : Int32) (h : Hp) : Option (Int32 × Hp) :=
  ob (X10_copyRow (X10_now h) (2788 : Int32) h) fun h2 =>
  ob (X10_spoonIn (2788 : Int32) a3 h2) fun h4 =>
  ob3 (lp (fun s : Int32 × Int32 × Hp => X10_without_s25 a1 a2 s.1 s.2.1 s.2.2) FU ((0 : Int32), (0 : Int32), h4)) fun v13 v14 h15 =>
  some ((a1 &&& (v13 ^^^ (-1 : Int32))), h15)
set_option maxHeartbeats 4000000 in
set_option maxRecDepth 100000 in
theorem w_X10_without {x : Cx} {d : Nat} (K : Ok x cX10_without RX10 6 (some .int) (d + 4)) (a1 : Int32) (a2 : Int32) (a3 : Int32) (h : Hp)  {z : Int32 × Hp} (E : X10_without a1 a2 a3 h = some z) (T : x.2.2.2.2 = (some (.int (z.1)), z.2)) : VV x 0 [(0, .ref (ad x 51)), (1, .int a1), (2, .int a2), (3, .int a3)] [] h := by
  unfold X10_without at E
  refine V_aload_n K 0 dX10_without_0 rfl ?_
  refine V_aload_n K 0 dX10_without_1 rfl ?_
  refine iv_X10_145 K (c_X10_now _ h) dX10_without_2 (Nat.le_of_ble_eq_true rfl) ?_
  refine V_sp (v := 2788) K dX10_without_5 rfl ?_
  obtain ⟨h2, q1, E⟩ := ob_inv E
  refine iv_X10_167 K (c_X10_copyRow _ (X10_now h) (2788 : Int32) h q1) dX10_without_8 (Nat.le_of_ble_eq_true rfl) ?_
  refine V_aload_n K 0 dX10_without_11 rfl ?_
  refine V_sp (v := 2788) K dX10_without_12 rfl ?_
  refine V_iload_n K 3 dX10_without_15 rfl ?_
  obtain ⟨h4, q3, E⟩ := ob_inv E
  refine iv_X10_177 K (c_X10_spoonIn _ (2788 : Int32) a3 h2 q3) dX10_without_16 (Nat.le_of_ble_eq_true rfl) ?_
  refine V_ic (v := 0) K dX10_without_19 rfl ?_
  refine V_istore (lv' := [(4, .int (0 : Int32)), (0, .ref (ad x 51)), (1, .int a1), (2, .int a2), (3, .int a3)]) K dX10_without_20 (by decide) rfl ?_
  refine V_ic (v := 0) K dX10_without_22 rfl ?_
  refine V_istore (lv' := [(5, .int (0 : Int32)), (4, .int (0 : Int32)), (0, .ref (ad x 51)), (1, .int a1), (2, .int a2), (3, .int a3)]) K dX10_without_23 (by decide) rfl ?_
  obtain ⟨v13, v14, h15, q16, E⟩ := ob3_inv E
  refine V_sub [2, 3, 4, 1, 0] rfl (wl_X10_without_s25 K a1 a2  _ _ _ q16 ?_)
  show VV x 49 [(0, .ref (ad x 51)), (1, .int a1), (2, .int a2), (4, .int v13), (5, .int v14)] [] h15
  refine V_iload_n K 1 dX10_without_49 rfl ?_
  refine V_iload K 3 dX10_without_50 rfl ?_
  refine V_ic (v := -1) K dX10_without_52 rfl ?_
  refine V_ixor K dX10_without_53 ?_
  refine V_iand K dX10_without_54 ?_
  cases E
  exact V_iret K dX10_without_55 rfl T
theorem c_X10_without (d : Nat) (a1 : Int32) (a2 : Int32) (a3 : Int32) (h : Hp)  {r : Int32} {h' : Hp} (E : X10_without a1 a2 a3 h = some (r, h')) : Runs (d + 4) yX10_without cX10_without 6 (some .int) (fun f => [.ref (f 51), .int a1, .int a2, .int a3]) h (fun _ => some (.int r)) h' :=
  Runs.of (by decide +kernel) (fun _ => Nat.le_of_ble_eq_true rfl) (fun x K T => w_X10_without K  a1 a2 a3 h  E T)
def X10_least_s40 (x1 : Int32) (x2 : Int32) (y3 : Int32) (h : Hp) : Option (((Int32 × Hp) ⊕ (Int32 × Hp)) ⊕ (Int32 × Hp)) :=
  if (30 : Int32) < y3 then (some (.inl (.inr (y3, h))))
  else (ob2 (X10_without x1 x2 y3 h) fun r7 h6 =>
  if r7 = (0 : Int32) then (some (.inl (.inl (y3, h6))))
  else (lt_ (y3 + (1 : Int32)) fun v9 =>
  some (.inr (v9, h6))))
set_option maxHeartbeats 4000000 in
set_option maxRecDepth 100000 in
theorem wl_X10_least_s40 {x : Cx} {d : Nat} (K : Ok x cX10_least RX10 4 (some .int) (d + 5)) (x1 : Int32) (x2 : Int32)  : ∀ (n : Nat) (s : Int32 × Hp) (r : ((Int32 × Hp) ⊕ (Int32 × Hp))), lp (fun s : Int32 × Hp => X10_least_s40 x1 x2 s.1 s.2) n s = some r → (fun r : ((Int32 × Hp) ⊕ (Int32 × Hp)) => match r with | .inl q => x.2.2.2.2 = (some (.int (q.1)), q.2) | .inr r => VV x 64 [(0, .ref (ad x 51)), (1, .int x1), (2, .int x2), (3, .int (r.1))] [] r.2) r → (fun s : Int32 × Hp => VV x 40 [(0, .ref (ad x 51)), (1, .int x1), (2, .int x2), (3, .int (s.1))] [] s.2) s := by
  refine lp_walk ?_
  intro s z E T
  obtain ⟨y3, h⟩ := s
  replace E : X10_least_s40 x1 x2 y3 h = some z := E
  unfold X10_least_s40 at E
  show VV x 40 [(0, .ref (ad x 51)), (1, .int x1), (2, .int x2), (3, .int y3)] [] h
  refine V_iload_n K 3 dX10_least_40 rfl ?_
  refine V_bp (v := 30) K dX10_least_41 rfl ?_
  rcases if_inv E with ⟨c4, E⟩ | ⟨c4, E⟩
  · refine V_ic_gt_t K 64 dX10_least_43 (by decide) c4 ?_
    cases E
    exact V_sub [0, 1, 2, 3] rfl T
  · refine V_ic_gt_f K 64 dX10_least_43 (by decide) c4 ?_
    refine V_aload_n K 0 dX10_least_46 rfl ?_
    refine V_iload_n K 1 dX10_least_47 rfl ?_
    refine V_iload_n K 2 dX10_least_48 rfl ?_
    refine V_iload_n K 3 dX10_least_49 rfl ?_
    obtain ⟨r7, h6, q5, E⟩ := ob2_inv E
    refine iv_X10_186 K (c_X10_without _ x1 x2 y3 h q5) dX10_least_50 (Nat.le_of_ble_eq_true rfl) ?_
    rcases if_inv E with ⟨c8, E⟩ | ⟨c8, E⟩
    · refine V_if_ne_f K 58 dX10_least_53 (by decide) c8 ?_
      refine V_iload_n K 3 dX10_least_56 rfl ?_
      cases E
      exact V_iret K dX10_least_57 rfl T
    · refine V_if_ne_t K 58 dX10_least_53 (by decide) c8 ?_
      obtain ⟨v9, e10, E⟩ := lt_inv E
      refine V_iinc (lv' := [(3, .int v9), (0, .ref (ad x 51)), (1, .int x1), (2, .int x2)]) K 3 dX10_least_58 rfl (by rw [e10]; rfl) (by decide) rfl ?_
      refine V_goto K 40 dX10_least_61 (by decide) ?_
      cases E
      exact V_sub [1, 2, 3, 0] rfl T
def X10_least (a1 : Int32) (a2 : Int32) (h : Hp) : Option (Int32 × Hp) :=
  if (X10_in a1 (0 : Int32) (((1 : Int32) <<< ((h.1 51 2) &&& 31)) - (1 : Int32))) = (0 : Int32) then (some ((-1 : Int32), h))
  else (if (X10_in a2 (1 : Int32) (20 : Int32)) = (0 : Int32) then (some ((-1 : Int32), h))
  else (if (h.1 51 2) = (0 : Int32) then (some ((-4 : Int32), h))
  else (obS2 (lp (fun s : Int32 × Hp => X10_least_s40 a1 a2 s.1 s.2) FU ((0 : Int32), h)) (fun q => some q) fun v11 h12 =>
  some ((-9 : Int32), h12))))
set_option maxHeartbeats 4000000 in
set_option maxRecDepth 100000 in
theorem w_X10_least {x : Cx} {d : Nat} (K : Ok x cX10_least RX10 4 (some .int) (d + 5)) (a1 : Int32) (a2 : Int32) (h : Hp)  {z : Int32 × Hp} (E : X10_least a1 a2 h = some z) (T : x.2.2.2.2 = (some (.int (z.1)), z.2)) : VV x 0 [(0, .ref (ad x 51)), (1, .int a1), (2, .int a2)] [] h := by
  unfold X10_least at E
  refine V_iload_n K 1 dX10_least_0 rfl ?_
  refine V_ic (v := 0) K dX10_least_1 rfl ?_
  refine V_ic (v := 1) K dX10_least_2 rfl ?_
  refine V_aload_n K 0 dX10_least_3 rfl ?_
  refine gf_X10_120 K dX10_least_4 ?_
  refine V_ishl K dX10_least_7 ?_
  refine V_ic (v := 1) K dX10_least_8 rfl ?_
  refine V_isub K dX10_least_9 ?_
  refine iv_X10_63 K (c_X10_in _ a1 (0 : Int32) (((1 : Int32) <<< ((h.1 51 2) &&& 31)) - (1 : Int32)) h) dX10_least_10 (Nat.le_of_ble_eq_true rfl) ?_
  rcases if_inv E with ⟨c1, E⟩ | ⟨c1, E⟩
  · refine V_if_eq_t K 26 dX10_least_13 (by decide) c1 ?_
    refine V_ic (v := -1) K dX10_least_26 rfl ?_
    cases E
    exact V_iret K dX10_least_27 rfl T
  · refine V_if_eq_f K 26 dX10_least_13 (by decide) c1 ?_
    refine V_iload_n K 2 dX10_least_16 rfl ?_
    refine V_ic (v := 1) K dX10_least_17 rfl ?_
    refine V_bp (v := 20) K dX10_least_18 rfl ?_
    refine iv_X10_63 K (c_X10_in _ a2 (1 : Int32) (20 : Int32) h) dX10_least_20 (Nat.le_of_ble_eq_true rfl) ?_
    rcases if_inv E with ⟨c2, E⟩ | ⟨c2, E⟩
    · refine V_if_ne_f K 28 dX10_least_23 (by decide) c2 ?_
      refine V_ic (v := -1) K dX10_least_26 rfl ?_
      cases E
      exact V_iret K dX10_least_27 rfl T
    · refine V_if_ne_t K 28 dX10_least_23 (by decide) c2 ?_
      refine V_aload_n K 0 dX10_least_28 rfl ?_
      refine gf_X10_120 K dX10_least_29 ?_
      rcases if_inv E with ⟨c3, E⟩ | ⟨c3, E⟩
      · refine V_if_ne_f K 38 dX10_least_32 (by decide) c3 ?_
        refine V_bp (v := -4) K dX10_least_35 rfl ?_
        cases E
        exact V_iret K dX10_least_37 rfl T
      · refine V_if_ne_t K 38 dX10_least_32 (by decide) c3 ?_
        refine V_ic (v := 0) K dX10_least_38 rfl ?_
        refine V_istore_n (lv' := [(3, .int (0 : Int32)), (0, .ref (ad x 51)), (1, .int a1), (2, .int a2)]) K dX10_least_39 (by decide) rfl ?_
        rcases obS2_inv E with ⟨q, q13, E⟩ | ⟨v11, h12, q13, E⟩
        · cases E
          exact V_sub [1, 2, 3, 0] rfl (wl_X10_least_s40 K a1 a2  _ _ _ q13 T)
        · refine V_sub [1, 2, 3, 0] rfl (wl_X10_least_s40 K a1 a2  _ _ _ q13 ?_)
          show VV x 64 [(0, .ref (ad x 51)), (1, .int a1), (2, .int a2), (3, .int v11)] [] h12
          refine V_bp (v := -9) K dX10_least_64 rfl ?_
          cases E
          exact V_iret K dX10_least_66 rfl T
theorem c_X10_least (d : Nat) (a1 : Int32) (a2 : Int32) (h : Hp)  {r : Int32} {h' : Hp} (E : X10_least a1 a2 h = some (r, h')) : Runs (d + 5) yX10_least cX10_least 4 (some .int) (fun f => [.ref (f 51), .int a1, .int a2]) h (fun _ => some (.int r)) h' :=
  Runs.of (by decide +kernel) (fun _ => Nat.le_of_ble_eq_true rfl) (fun x K T => w_X10_least K  a1 a2 h  E T)
def X10_leastAlike_s19 (x1 : Int32) (x2 : Int32) (h : Hp) (y3 : Int32) : Option ((Int32) ⊕ (Int32)) :=
  if (X10_gatheredBy x1 y3) = x2 then (some (.inl y3))
  else (lt_ (y3 + (1 : Int32)) fun v5 =>
  some (.inr v5))
set_option maxHeartbeats 4000000 in
set_option maxRecDepth 100000 in
theorem wl_X10_leastAlike_s19 {x : Cx} {d : Nat} (K : Ok x cX10_leastAlike RX10 4 (some .int) (d + 2)) (x1 : Int32) (x2 : Int32) (h : Hp)  : ∀ (n : Nat) (s : Int32) (r : (Int32)), lp (fun s : Int32 => X10_leastAlike_s19 x1 x2 h s) n s = some r → (fun r : (Int32) => VV x 34 [(1, .int x1), (2, .int x2), (3, .int r)] [] h) r → (fun s : Int32 => VV x 19 [(1, .int x1), (2, .int x2), (3, .int s)] [] h) s := by
  refine lp_walk ?_
  intro s z E T
  obtain ⟨y3, e0⟩ : ∃ q, q = s := ⟨_, rfl⟩
  subst e0
  replace E : X10_leastAlike_s19 x1 x2 h y3 = some z := E
  unfold X10_leastAlike_s19 at E
  show VV x 19 [(1, .int x1), (2, .int x2), (3, .int y3)] [] h
  refine V_iload_n K 0 dX10_leastAlike_19 rfl ?_
  refine V_iload_n K 2 dX10_leastAlike_20 rfl ?_
  refine iv_X10_138 K (c_X10_gatheredBy _ x1 y3 h) dX10_leastAlike_21 (Nat.le_of_ble_eq_true rfl) ?_
  refine V_iload_n K 1 dX10_leastAlike_24 rfl ?_
  rcases if_inv E with ⟨c4, E⟩ | ⟨c4, E⟩
  · refine V_ic_eq_t K 34 dX10_leastAlike_25 (by decide) c4 ?_
    cases E
    exact V_sub [0, 1, 2] rfl T
  · refine V_ic_eq_f K 34 dX10_leastAlike_25 (by decide) c4 ?_
    obtain ⟨v5, e6, E⟩ := lt_inv E
    refine V_iinc (lv' := [(3, .int v5), (1, .int x1), (2, .int x2)]) K 2 dX10_leastAlike_28 rfl (by rw [e6]; rfl) (by decide) rfl ?_
    refine V_goto K 19 dX10_leastAlike_31 (by decide) ?_
    cases E
    exact V_sub [1, 2, 0] rfl T
def X10_leastAlike (a1 : Int32) (h : Hp) : Option Int32 :=
  gd (ib ((X10_now h) + (12 : Int32)) 2805) (
  lt_ (X10_gatheredBy a1 (h.1 52 (ix ((X10_now h) + (12 : Int32))))) fun v2 =>
  ob (lp (fun s : Int32 => X10_leastAlike_s19 a1 v2 h s) FU (0 : Int32)) fun v7 =>
  some v7)
set_option maxHeartbeats 4000000 in
set_option maxRecDepth 100000 in
theorem w_X10_leastAlike {x : Cx} {d : Nat} (K : Ok x cX10_leastAlike RX10 4 (some .int) (d + 2)) (a1 : Int32) (h : Hp)  {z : Int32} (E : X10_leastAlike a1 h = some z) (T : x.2.2.2.2 = (some (.int z), h)) : VV x 0 [(0, .ref (ad x 51)), (1, .int a1)] [] h := by
  unfold X10_leastAlike at E
  refine V_iload_n K 1 dX10_leastAlike_0 rfl ?_
  refine V_aload_n K 0 dX10_leastAlike_1 rfl ?_
  refine gf_X10_7 K dX10_leastAlike_2 ?_
  refine V_aload_n K 0 dX10_leastAlike_5 rfl ?_
  refine iv_X10_145 K (c_X10_now _ h) dX10_leastAlike_6 (Nat.le_of_ble_eq_true rfl) ?_
  refine V_bp (v := 12) K dX10_leastAlike_9 rfl ?_
  refine V_iadd K dX10_leastAlike_11 ?_
  obtain ⟨g1, E⟩ := gd_inv E
  refine V_iald K k_52 n_52 g1 dX10_leastAlike_12 ?_
  refine iv_X10_138 K (c_X10_gatheredBy _ a1 (h.1 52 (ix ((X10_now h) + (12 : Int32)))) h) dX10_leastAlike_13 (Nat.le_of_ble_eq_true rfl) ?_
  obtain ⟨v2, e3, E⟩ := lt_inv E
  refine V_top e3 ?_
  refine V_istore_n (lv' := [(2, .int v2), (0, .ref (ad x 51)), (1, .int a1)]) K dX10_leastAlike_16 (by decide) rfl ?_
  refine V_ic (v := 0) K dX10_leastAlike_17 rfl ?_
  refine V_istore_n (lv' := [(3, .int (0 : Int32)), (2, .int v2), (0, .ref (ad x 51)), (1, .int a1)]) K dX10_leastAlike_18 (by decide) rfl ?_
  obtain ⟨v7, q8, E⟩ := ob_inv E
  refine V_sub [3, 1, 0] rfl (wl_X10_leastAlike_s19 K a1 v2 h  _ _ _ q8 ?_)
  show VV x 34 [(1, .int a1), (2, .int v2), (3, .int v7)] [] h
  refine V_iload_n K 2 dX10_leastAlike_34 rfl ?_
  cases E
  exact V_iret K dX10_leastAlike_35 rfl T
theorem c_X10_leastAlike (d : Nat) (a1 : Int32) (h : Hp)  {r : Int32} (E : X10_leastAlike a1 h = some r) : Runs (d + 2) yX10_leastAlike cX10_leastAlike 4 (some .int) (fun f => [.ref (f 51), .int a1]) h (fun _ => some (.int r)) h :=
  Runs.of (by decide +kernel) (fun _ => Nat.le_of_ble_eq_true rfl) (fun x K T => w_X10_leastAlike K  a1 h  E T)
def X10_lots_s52 (x1 : Int32) (y3 : Int64) (y5 : Int32) (h : Hp) : Option ((Int64 × Int32 × Hp) ⊕ (Int64 × Int32 × Hp)) :=
  if x1 ≤ y5 then (some (.inl (y3, y5, h)))
  else (lt_ (lrm (y3 * (48271 : Int64)) (2147483647 : Int64)) fun v8 =>
  ob2 (X10_begin h) fun r12 h11 =>
  ob (X10_deedBy r12 (v8.toInt32) h11) fun h14 =>
  lt_ (y5 + (1 : Int32)) fun v15 =>
  some (.inr (v8, v15, h14)))
set_option maxHeartbeats 4000000 in
set_option maxRecDepth 100000 in
theorem wl_X10_lots_s52 {x : Cx} {d : Nat} (K : Ok x cX10_lots RX10 6 (some .int) (d + 5)) (x1 : Int32)  : ∀ (n : Nat) (s : Int64 × Int32 × Hp) (r : (Int64 × Int32 × Hp)), lp (fun s : Int64 × Int32 × Hp => X10_lots_s52 x1 s.1 s.2.1 s.2.2) n s = some r → (fun r : (Int64 × Int32 × Hp) => VV x 84 [(0, .ref (ad x 51)), (1, .int x1), (3, .long (r.1)), (5, .int (r.2.1))] [] r.2.2) r → (fun s : Int64 × Int32 × Hp => VV x 52 [(0, .ref (ad x 51)), (1, .int x1), (3, .long (s.1)), (5, .int (s.2.1))] [] s.2.2) s := by
  refine lp_walk ?_
  intro s z E T
  obtain ⟨y3, y5, h⟩ := s
  replace E : X10_lots_s52 x1 y3 y5 h = some z := E
  unfold X10_lots_s52 at E
  show VV x 52 [(0, .ref (ad x 51)), (1, .int x1), (3, .long y3), (5, .int y5)] [] h
  refine V_iload K 3 dX10_lots_52 rfl ?_
  refine V_iload_n K 1 dX10_lots_54 rfl ?_
  rcases if_inv E with ⟨c7, E⟩ | ⟨c7, E⟩
  · refine V_ic_ge_t K 84 dX10_lots_55 (by decide) c7 ?_
    cases E
    exact V_sub [0, 1, 2, 3] rfl T
  · refine V_ic_ge_f K 84 dX10_lots_55 (by decide) c7 ?_
    refine V_lload_n K 2 dX10_lots_58 rfl ?_
    refine V_ldc2 (v := 48271) K tb_184 dX10_lots_59 ?_
    refine V_lmul K dX10_lots_62 ?_
    refine V_ldc2 (v := 2147483647) K tb_185 dX10_lots_63 ?_
    refine V_lrem K dX10_lots_66 (by decide) ?_
    obtain ⟨v8, e9, E⟩ := lt_inv E
    refine V_topl e9 ?_
    refine V_lstore_n (lv' := [(3, .long v8), (0, .ref (ad x 51)), (1, .int x1), (5, .int y5)]) K dX10_lots_67 (by decide) rfl ?_
    refine V_aload_n K 1 dX10_lots_68 rfl ?_
    refine V_aload_n K 1 dX10_lots_69 rfl ?_
    obtain ⟨r12, h11, q10, E⟩ := ob2_inv E
    refine iv_X10_171 K (c_X10_begin _ h q10) dX10_lots_70 (Nat.le_of_ble_eq_true rfl) ?_
    refine V_lload_n K 0 dX10_lots_73 rfl ?_
    refine V_l2i K dX10_lots_74 ?_
    obtain ⟨h14, q13, E⟩ := ob_inv E
    refine iv_X10_233 K (c_X10_deedBy _ r12 (v8.toInt32) h11 q13) dX10_lots_75 (Nat.le_of_ble_eq_true rfl) ?_
    obtain ⟨v15, e16, E⟩ := lt_inv E
    refine V_iinc (lv' := [(5, .int v15), (3, .long v8), (0, .ref (ad x 51)), (1, .int x1)]) K 3 dX10_lots_78 rfl (by rw [e16]; rfl) (by decide) rfl ?_
    refine V_goto K 52 dX10_lots_81 (by decide) ?_
    cases E
    exact V_sub [2, 3, 1, 0] rfl T
def X10_lots (a1 : Int32) (a2 : Int32) (h : Hp) : Option (Int32 × Hp) :=
  if (X10_in a1 (1 : Int32) (20 : Int32)) = (0 : Int32) then (some ((-1 : Int32), h))
  else (if (X10_in a2 (1 : Int32) (2147483646 : Int32)) = (0 : Int32) then (some ((-1 : Int32), h))
  else (if (h.1 51 2) = (0 : Int32) then (some ((-4 : Int32), h))
  else (if ((h.1 51 5) + a1) ≤ (40 : Int32) then (lt_ (a2.toInt64) fun v5 =>
  ob3 (lp (fun s : Int64 × Int32 × Hp => X10_lots_s52 a1 s.1 s.2.1 s.2.2) FU (v5, (0 : Int32), h)) fun v17 v18 h19 =>
  ob (X10_allHave (X10_now h19) h19) fun r20 =>
  some (r20, h19))
  else (some ((-2 : Int32), h)))))
set_option maxHeartbeats 4000000 in
set_option maxRecDepth 100000 in
theorem w_X10_lots {x : Cx} {d : Nat} (K : Ok x cX10_lots RX10 6 (some .int) (d + 5)) (a1 : Int32) (a2 : Int32) (h : Hp)  {z : Int32 × Hp} (E : X10_lots a1 a2 h = some z) (T : x.2.2.2.2 = (some (.int (z.1)), z.2)) : VV x 0 [(0, .ref (ad x 51)), (1, .int a1), (2, .int a2)] [] h := by
  unfold X10_lots at E
  refine V_iload_n K 1 dX10_lots_0 rfl ?_
  refine V_ic (v := 1) K dX10_lots_1 rfl ?_
  refine V_bp (v := 20) K dX10_lots_2 rfl ?_
  refine iv_X10_63 K (c_X10_in _ a1 (1 : Int32) (20 : Int32) h) dX10_lots_4 (Nat.le_of_ble_eq_true rfl) ?_
  rcases if_inv E with ⟨c1, E⟩ | ⟨c1, E⟩
  · refine V_if_eq_t K 20 dX10_lots_7 (by decide) c1 ?_
    refine V_ic (v := -1) K dX10_lots_20 rfl ?_
    cases E
    exact V_iret K dX10_lots_21 rfl T
  · refine V_if_eq_f K 20 dX10_lots_7 (by decide) c1 ?_
    refine V_iload_n K 2 dX10_lots_10 rfl ?_
    refine V_ic (v := 1) K dX10_lots_11 rfl ?_
    refine V_ldc (v := 2147483646) K tb_183 dX10_lots_12 ?_
    refine iv_X10_63 K (c_X10_in _ a2 (1 : Int32) (2147483646 : Int32) h) dX10_lots_14 (Nat.le_of_ble_eq_true rfl) ?_
    rcases if_inv E with ⟨c2, E⟩ | ⟨c2, E⟩
    · refine V_if_ne_f K 22 dX10_lots_17 (by decide) c2 ?_
      refine V_ic (v := -1) K dX10_lots_20 rfl ?_
      cases E
      exact V_iret K dX10_lots_21 rfl T
    · refine V_if_ne_t K 22 dX10_lots_17 (by decide) c2 ?_
      refine V_aload_n K 0 dX10_lots_22 rfl ?_
      refine gf_X10_120 K dX10_lots_23 ?_
      rcases if_inv E with ⟨c3, E⟩ | ⟨c3, E⟩
      · refine V_if_ne_f K 32 dX10_lots_26 (by decide) c3 ?_
        refine V_bp (v := -4) K dX10_lots_29 rfl ?_
        cases E
        exact V_iret K dX10_lots_31 rfl T
      · refine V_if_ne_t K 32 dX10_lots_26 (by decide) c3 ?_
        refine V_aload_n K 0 dX10_lots_32 rfl ?_
        refine gf_X10_129 K dX10_lots_33 ?_
        refine V_iload_n K 1 dX10_lots_36 rfl ?_
        refine V_iadd K dX10_lots_37 ?_
        refine V_bp (v := 40) K dX10_lots_38 rfl ?_
        rcases if_inv E with ⟨c4, E⟩ | ⟨c4, E⟩
        · refine V_ic_le_t K 46 dX10_lots_40 (by decide) c4 ?_
          refine V_iload_n K 2 dX10_lots_46 rfl ?_
          refine V_i2l K dX10_lots_47 ?_
          obtain ⟨v5, e6, E⟩ := lt_inv E
          refine V_topl e6 ?_
          refine V_lstore_n (lv' := [(3, .long v5), (0, .ref (ad x 51)), (1, .int a1), (2, .int a2)]) K dX10_lots_48 (by decide) rfl ?_
          refine V_ic (v := 0) K dX10_lots_49 rfl ?_
          refine V_istore (lv' := [(5, .int (0 : Int32)), (3, .long v5), (0, .ref (ad x 51)), (1, .int a1), (2, .int a2)]) K dX10_lots_50 (by decide) rfl ?_
          obtain ⟨v17, v18, h19, q22, E⟩ := ob3_inv E
          refine V_sub [2, 3, 1, 0] rfl (wl_X10_lots_s52 K a1  _ _ _ q22 ?_)
          show VV x 84 [(0, .ref (ad x 51)), (1, .int a1), (3, .long v17), (5, .int v18)] [] h19
          refine V_aload_n K 0 dX10_lots_84 rfl ?_
          refine V_aload_n K 0 dX10_lots_85 rfl ?_
          refine iv_X10_145 K (c_X10_now _ h19) dX10_lots_86 (Nat.le_of_ble_eq_true rfl) ?_
          obtain ⟨r20, q21, E⟩ := ob_inv E
          refine iv_X10_161 K (c_X10_allHave _ (X10_now h19) h19 q21) dX10_lots_89 (Nat.le_of_ble_eq_true rfl) ?_
          cases E
          exact V_iret K dX10_lots_92 rfl T
        · refine V_ic_le_f K 46 dX10_lots_40 (by decide) c4 ?_
          refine V_bp (v := -2) K dX10_lots_43 rfl ?_
          cases E
          exact V_iret K dX10_lots_45 rfl T
theorem c_X10_lots (d : Nat) (a1 : Int32) (a2 : Int32) (h : Hp)  {r : Int32} {h' : Hp} (E : X10_lots a1 a2 h = some (r, h')) : Runs (d + 5) yX10_lots cX10_lots 6 (some .int) (fun f => [.ref (f 51), .int a1, .int a2]) h (fun _ => some (.int r)) h' :=
  Runs.of (by decide +kernel) (fun _ => Nat.le_of_ble_eq_true rfl) (fun x K T => w_X10_lots K  a1 a2 h  E T)
def X10_lower  (h : Hp) : Int64 :=
  h.2 51 15
set_option maxHeartbeats 4000000 in
set_option maxRecDepth 100000 in
theorem w_X10_lower {x : Cx} {d : Nat} (K : Ok x cX10_lower RX10 1 (some .long) (d + 0))  (h : Hp)  {z : Int64} (E : X10_lower  h = z) (T : x.2.2.2.2 = (some (.long z), h)) : VV x 0 [(0, .ref (ad x 51))] [] h := by
  unfold X10_lower at E
  refine V_aload_n K 0 dX10_lower_0 rfl ?_
  refine gf_X10_34 K dX10_lower_1 ?_
  cases E
  exact V_lret K dX10_lower_4 T
theorem c_X10_lower (d : Nat)  (h : Hp)  : Runs (d + 0) yX10_lower cX10_lower 1 (some .long) (fun f => [.ref (f 51)]) h (fun _ => some (.long (X10_lower  h))) h :=
  Runs.of (by decide +kernel) (fun _ => Nat.le_of_ble_eq_true rfl) (fun x K T => w_X10_lower K   h  rfl T)
def X10_mark (a1 : Int32) (a2 : Int32) (h : Hp) : Option (Int32 × Hp) :=
  if (X10_isOne a1 h) = (0 : Int32) then (some ((-1 : Int32), h))
  else (if (X10_in a2 (1 : Int32) (5 : Int32)) = (0 : Int32) then (some ((-1 : Int32), h))
  else (gd (ib a1 6) (
  if (X10_isOf (h.1 53 (ix a1)) a2) = (0 : Int32) then (ob2 (X10_find (3 : Int32) h) fun r7 h6 =>
  some (r7, h6))
  else (gd (ib ((X10_now h) + (12 : Int32)) 2805) (
  lt_ (h.1 52 (ix ((X10_now h) + (12 : Int32)))) fun v9 =>
  if a2 = (1 : Int32) then (ob (X10_allHave (X10_now h) h) fun r12 =>
  gd (ib (((X10_now h) + (6 : Int32)) + a1) 2805) (
  some ((r12 - (h.1 52 (ix (((X10_now h) + (6 : Int32)) + a1)))), h)))
  else (if a2 = (2 : Int32) then (gd (ib (((X10_now h) + (6 : Int32)) + a1) 2805) (
  some (((30 : Int32) - (h.1 52 (ix (((X10_now h) + (6 : Int32)) + a1)))), h)))
  else (if a2 = (3 : Int32) then (ob (X10_leastAlike (h.1 53 (ix a1)) h) fun r18 =>
  some (r18, h))
  else (if a2 = (4 : Int32) then (some (((60 : Int32) - v9), h))
  else (if v9 < (20 : Int32) then (some (((20 : Int32) - v9), h))
  else (some ((0 : Int32), h)))))))))))
set_option maxHeartbeats 4000000 in
set_option maxRecDepth 100000 in
theorem w_X10_mark {x : Cx} {d : Nat} (K : Ok x cX10_mark RX10 4 (some .int) (d + 3)) (a1 : Int32) (a2 : Int32) (h : Hp)  {z : Int32 × Hp} (E : X10_mark a1 a2 h = some z) (T : x.2.2.2.2 = (some (.int (z.1)), z.2)) : VV x 0 [(0, .ref (ad x 51)), (1, .int a1), (2, .int a2)] [] h := by
  unfold X10_mark at E
  refine V_aload_n K 0 dX10_mark_0 rfl ?_
  refine V_iload_n K 1 dX10_mark_1 rfl ?_
  refine iv_X10_152 K (c_X10_isOne _ a1 h) dX10_mark_2 (Nat.le_of_ble_eq_true rfl) ?_
  rcases if_inv E with ⟨c1, E⟩ | ⟨c1, E⟩
  · refine V_if_eq_t K 17 dX10_mark_5 (by decide) c1 ?_
    refine V_ic (v := -1) K dX10_mark_17 rfl ?_
    cases E
    exact V_iret K dX10_mark_18 rfl T
  · refine V_if_eq_f K 17 dX10_mark_5 (by decide) c1 ?_
    refine V_iload_n K 2 dX10_mark_8 rfl ?_
    refine V_ic (v := 1) K dX10_mark_9 rfl ?_
    refine V_ic (v := 5) K dX10_mark_10 rfl ?_
    refine iv_X10_63 K (c_X10_in _ a2 (1 : Int32) (5 : Int32) h) dX10_mark_11 (Nat.le_of_ble_eq_true rfl) ?_
    rcases if_inv E with ⟨c2, E⟩ | ⟨c2, E⟩
    · refine V_if_ne_f K 19 dX10_mark_14 (by decide) c2 ?_
      refine V_ic (v := -1) K dX10_mark_17 rfl ?_
      cases E
      exact V_iret K dX10_mark_18 rfl T
    · refine V_if_ne_t K 19 dX10_mark_14 (by decide) c2 ?_
      refine V_aload_n K 0 dX10_mark_19 rfl ?_
      refine gf_X10_13 K dX10_mark_20 ?_
      refine V_iload_n K 1 dX10_mark_23 rfl ?_
      obtain ⟨g3, E⟩ := gd_inv E
      refine V_iald K k_53 n_53 g3 dX10_mark_24 ?_
      refine V_iload_n K 2 dX10_mark_25 rfl ?_
      refine iv_X10_158 K (c_X10_isOf _ (h.1 53 (ix a1)) a2 h) dX10_mark_26 (Nat.le_of_ble_eq_true rfl) ?_
      rcases if_inv E with ⟨c4, E⟩ | ⟨c4, E⟩
      · refine V_if_ne_f K 38 dX10_mark_29 (by decide) c4 ?_
        refine V_aload_n K 0 dX10_mark_32 rfl ?_
        refine V_ic (v := 3) K dX10_mark_33 rfl ?_
        obtain ⟨r7, h6, q5, E⟩ := ob2_inv E
        refine iv_X10_71 K (c_X10_find _ (3 : Int32) h q5) dX10_mark_34 (Nat.le_of_ble_eq_true rfl) ?_
        cases E
        exact V_iret K dX10_mark_37 rfl T
      · refine V_if_ne_t K 38 dX10_mark_29 (by decide) c4 ?_
        refine V_aload_n K 0 dX10_mark_38 rfl ?_
        refine gf_X10_7 K dX10_mark_39 ?_
        refine V_aload_n K 0 dX10_mark_42 rfl ?_
        refine iv_X10_145 K (c_X10_now _ h) dX10_mark_43 (Nat.le_of_ble_eq_true rfl) ?_
        refine V_bp (v := 12) K dX10_mark_46 rfl ?_
        refine V_iadd K dX10_mark_48 ?_
        obtain ⟨g8, E⟩ := gd_inv E
        refine V_iald K k_52 n_52 g8 dX10_mark_49 ?_
        obtain ⟨v9, e10, E⟩ := lt_inv E
        refine V_top e10 ?_
        refine V_istore_n (lv' := [(3, .int v9), (0, .ref (ad x 51)), (1, .int a1), (2, .int a2)]) K dX10_mark_50 (by decide) rfl ?_
        refine V_iload_n K 3 dX10_mark_51 rfl ?_
        rcases if_inv E with ⟨c11, E⟩ | ⟨c11, E⟩
        · refine V_tin (off := 32) K 84 dX10_mark_52 (by rw [c11]; decide) (by rw [c11]; decide) (by rw [c11]; rfl) (by decide) ?_
          refine V_aload_n K 1 dX10_mark_84 rfl ?_
          refine V_aload_n K 1 dX10_mark_85 rfl ?_
          refine iv_X10_145 K (c_X10_now _ h) dX10_mark_86 (Nat.le_of_ble_eq_true rfl) ?_
          obtain ⟨r12, q13, E⟩ := ob_inv E
          refine iv_X10_161 K (c_X10_allHave _ (X10_now h) h q13) dX10_mark_89 (Nat.le_of_ble_eq_true rfl) ?_
          refine V_aload_n K 1 dX10_mark_92 rfl ?_
          refine gf_X10_7 K dX10_mark_93 ?_
          refine V_aload_n K 1 dX10_mark_96 rfl ?_
          refine iv_X10_145 K (c_X10_now _ h) dX10_mark_97 (Nat.le_of_ble_eq_true rfl) ?_
          refine V_bp (v := 6) K dX10_mark_100 rfl ?_
          refine V_iadd K dX10_mark_102 ?_
          refine V_iload_n K 2 dX10_mark_103 rfl ?_
          refine V_iadd K dX10_mark_104 ?_
          obtain ⟨g14, E⟩ := gd_inv E
          refine V_iald K k_52 n_52 g14 dX10_mark_105 ?_
          refine V_isub K dX10_mark_106 ?_
          cases E
          exact V_iret K dX10_mark_107 rfl T
        · rcases if_inv E with ⟨c15, E⟩ | ⟨c15, E⟩
          · refine V_tin (off := 56) K 108 dX10_mark_52 (by rw [c15]; decide) (by rw [c15]; decide) (by rw [c15]; rfl) (by decide) ?_
            refine V_bp (v := 30) K dX10_mark_108 rfl ?_
            refine V_aload_n K 1 dX10_mark_110 rfl ?_
            refine gf_X10_7 K dX10_mark_111 ?_
            refine V_aload_n K 1 dX10_mark_114 rfl ?_
            refine iv_X10_145 K (c_X10_now _ h) dX10_mark_115 (Nat.le_of_ble_eq_true rfl) ?_
            refine V_bp (v := 6) K dX10_mark_118 rfl ?_
            refine V_iadd K dX10_mark_120 ?_
            refine V_iload_n K 2 dX10_mark_121 rfl ?_
            refine V_iadd K dX10_mark_122 ?_
            obtain ⟨g16, E⟩ := gd_inv E
            refine V_iald K k_52 n_52 g16 dX10_mark_123 ?_
            refine V_isub K dX10_mark_124 ?_
            cases E
            exact V_iret K dX10_mark_125 rfl T
          · rcases if_inv E with ⟨c17, E⟩ | ⟨c17, E⟩
            · refine V_tin (off := 74) K 126 dX10_mark_52 (by rw [c17]; decide) (by rw [c17]; decide) (by rw [c17]; rfl) (by decide) ?_
              refine V_aload_n K 1 dX10_mark_126 rfl ?_
              refine V_aload_n K 1 dX10_mark_127 rfl ?_
              refine gf_X10_13 K dX10_mark_128 ?_
              refine V_iload_n K 2 dX10_mark_131 rfl ?_
              refine V_iald K k_53 n_53 g3 dX10_mark_132 ?_
              obtain ⟨r18, q19, E⟩ := ob_inv E
              refine iv_X10_164 K (c_X10_leastAlike _ (h.1 53 (ix a1)) h q19) dX10_mark_133 (Nat.le_of_ble_eq_true rfl) ?_
              cases E
              exact V_iret K dX10_mark_136 rfl T
            · rcases if_inv E with ⟨c20, E⟩ | ⟨c20, E⟩
              · refine V_tin (off := 85) K 137 dX10_mark_52 (by rw [c20]; decide) (by rw [c20]; decide) (by rw [c20]; rfl) (by decide) ?_
                refine V_bp (v := 60) K dX10_mark_137 rfl ?_
                refine V_iload_n K 0 dX10_mark_139 rfl ?_
                refine V_isub K dX10_mark_140 ?_
                cases E
                exact V_iret K dX10_mark_141 rfl T
              · refine V_tout K 142 dX10_mark_52 (by have n0 := lv_neT c11 (a := 1) (by decide); have n1 := lv_neT c15 (a := 2) (by decide); have n2 := lv_neT c17 (a := 3) (by decide); have n3 := lv_neT c20 (a := 4) (by decide); omega) (by decide) ?_
                refine V_iload_n K 0 dX10_mark_142 rfl ?_
                refine V_bp (v := 20) K dX10_mark_143 rfl ?_
                rcases if_inv E with ⟨c21, E⟩ | ⟨c21, E⟩
                · refine V_ic_lt_t K 152 dX10_mark_145 (by decide) c21 ?_
                  refine V_bp (v := 20) K dX10_mark_152 rfl ?_
                  refine V_iload_n K 0 dX10_mark_154 rfl ?_
                  refine V_isub K dX10_mark_155 ?_
                  cases E
                  exact V_iret K dX10_mark_156 rfl T
                · refine V_ic_lt_f K 152 dX10_mark_145 (by decide) c21 ?_
                  refine V_ic (v := 0) K dX10_mark_148 rfl ?_
                  refine V_goto K 156 dX10_mark_149 (by decide) ?_
                  cases E
                  exact V_iret K dX10_mark_156 rfl T
theorem c_X10_mark (d : Nat) (a1 : Int32) (a2 : Int32) (h : Hp)  {r : Int32} {h' : Hp} (E : X10_mark a1 a2 h = some (r, h')) : Runs (d + 3) yX10_mark cX10_mark 4 (some .int) (fun f => [.ref (f 51), .int a1, .int a2]) h (fun _ => some (.int r)) h' :=
  Runs.of (by decide +kernel) (fun _ => Nat.le_of_ble_eq_true rfl) (fun x K T => w_X10_mark K  a1 a2 h  E T)
def X10_mean_s46 (x1 : Int32) (h : Hp) (y2 : Int64) (y4 : Int32) : Option ((Int64 × Int32) ⊕ (Int64 × Int32)) :=
  gd (ib x1 6) (
  if (h.1 56 (ix x1)) ≤ y4 then (some (.inl (y2, y4)))
  else (gd (ib (((40 : Int32) * x1) + y4) 240) (
  lt_ (y2 + ((h.1 55 (ix (((40 : Int32) * x1) + y4))).toInt64)) fun v14 =>
  lt_ (y4 + (1 : Int32)) fun v16 =>
  some (.inr (v14, v16)))))
set_option maxHeartbeats 4000000 in
set_option maxRecDepth 100000 in
theorem wl_X10_mean_s46 {x : Cx} {d : Nat} (K : Ok x cX10_mean RX10 5 (some .int) (d + 2)) (x1 : Int32) (h : Hp)  : ∀ (n : Nat) (s : Int64 × Int32) (r : (Int64 × Int32)), lp (fun s : Int64 × Int32 => X10_mean_s46 x1 h s.1 s.2) n s = some r → (fun r : (Int64 × Int32) => VV x 79 [(0, .ref (ad x 51)), (1, .int x1), (2, .long (r.1)), (4, .int (r.2))] [] h) r → (fun s : Int64 × Int32 => VV x 46 [(0, .ref (ad x 51)), (1, .int x1), (2, .long (s.1)), (4, .int (s.2))] [] h) s := by
  refine lp_walk ?_
  intro s z E T
  obtain ⟨y2, y4⟩ := s
  replace E : X10_mean_s46 x1 h y2 y4 = some z := E
  unfold X10_mean_s46 at E
  show VV x 46 [(0, .ref (ad x 51)), (1, .int x1), (2, .long y2), (4, .int y4)] [] h
  refine V_iload K 3 dX10_mean_46 rfl ?_
  refine V_aload_n K 0 dX10_mean_48 rfl ?_
  refine gf_X10_22 K dX10_mean_49 ?_
  refine V_iload_n K 1 dX10_mean_52 rfl ?_
  obtain ⟨g11, E⟩ := gd_inv E
  refine V_iald K k_56 n_56 g11 dX10_mean_53 ?_
  rcases if_inv E with ⟨c12, E⟩ | ⟨c12, E⟩
  · refine V_ic_ge_t K 79 dX10_mean_54 (by decide) c12 ?_
    cases E
    exact V_sub [0, 1, 2, 3] rfl T
  · refine V_ic_ge_f K 79 dX10_mean_54 (by decide) c12 ?_
    refine V_lload_n K 2 dX10_mean_57 rfl ?_
    refine V_aload_n K 0 dX10_mean_58 rfl ?_
    refine gf_X10_19 K dX10_mean_59 ?_
    refine V_bp (v := 40) K dX10_mean_62 rfl ?_
    refine V_iload_n K 1 dX10_mean_64 rfl ?_
    refine V_imul K dX10_mean_65 ?_
    refine V_iload K 3 dX10_mean_66 rfl ?_
    refine V_iadd K dX10_mean_68 ?_
    obtain ⟨g13, E⟩ := gd_inv E
    refine V_iald K k_55 n_55 g13 dX10_mean_69 ?_
    refine V_i2l K dX10_mean_70 ?_
    refine V_ladd K dX10_mean_71 ?_
    obtain ⟨v14, e15, E⟩ := lt_inv E
    refine V_topl e15 ?_
    refine V_lstore_n (lv' := [(2, .long v14), (0, .ref (ad x 51)), (1, .int x1), (4, .int y4)]) K dX10_mean_72 (by decide) rfl ?_
    obtain ⟨v16, e17, E⟩ := lt_inv E
    refine V_iinc (lv' := [(4, .int v16), (2, .long v14), (0, .ref (ad x 51)), (1, .int x1)]) K 3 dX10_mean_73 rfl (by rw [e17]; rfl) (by decide) rfl ?_
    refine V_goto K 46 dX10_mean_76 (by decide) ?_
    cases E
    exact V_sub [2, 3, 1, 0] rfl T
def X10_mean (a1 : Int32) (h : Hp) : Option (Int32 × Hp) :=
  if (X10_isRow a1) = (0 : Int32) then (some ((-1 : Int32), h))
  else (gd (ib a1 6) (
  if (h.1 56 (ix a1)) = (-9 : Int32) then (ob2 (X10_find (1 : Int32) h) fun r6 h5 =>
  some (r6, h5))
  else (if (h.1 56 (ix a1)) = (0 : Int32) then (ob2 (X10_find (4 : Int32) h) fun r10 h9 =>
  some (r10, h9))
  else (ob2 (lp (fun s : Int64 × Int32 => X10_mean_s46 a1 h s.1 s.2) FU ((0 : Int64), (0 : Int32))) fun v18 v19 =>
  gd (nzL ((h.1 56 (ix a1)).toInt64)) (
  ob2 (X10_tell ((v18 / ((h.1 56 (ix a1)).toInt64)).toInt32) h) fun r23 h22 =>
  some (r23, h22))))))
set_option maxHeartbeats 4000000 in
set_option maxRecDepth 100000 in
theorem w_X10_mean {x : Cx} {d : Nat} (K : Ok x cX10_mean RX10 5 (some .int) (d + 2)) (a1 : Int32) (h : Hp)  {z : Int32 × Hp} (E : X10_mean a1 h = some z) (T : x.2.2.2.2 = (some (.int (z.1)), z.2)) : VV x 0 [(0, .ref (ad x 51)), (1, .int a1)] [] h := by
  unfold X10_mean at E
  refine V_iload_n K 1 dX10_mean_0 rfl ?_
  refine iv_X10_67 K (c_X10_isRow _ a1 h) dX10_mean_1 (Nat.le_of_ble_eq_true rfl) ?_
  rcases if_inv E with ⟨c1, E⟩ | ⟨c1, E⟩
  · refine V_if_ne_f K 9 dX10_mean_4 (by decide) c1 ?_
    refine V_ic (v := -1) K dX10_mean_7 rfl ?_
    cases E
    exact V_iret K dX10_mean_8 rfl T
  · refine V_if_ne_t K 9 dX10_mean_4 (by decide) c1 ?_
    refine V_aload_n K 0 dX10_mean_9 rfl ?_
    refine gf_X10_22 K dX10_mean_10 ?_
    refine V_iload_n K 1 dX10_mean_13 rfl ?_
    obtain ⟨g2, E⟩ := gd_inv E
    refine V_iald K k_56 n_56 g2 dX10_mean_14 ?_
    refine V_bp (v := -9) K dX10_mean_15 rfl ?_
    rcases if_inv E with ⟨c3, E⟩ | ⟨c3, E⟩
    · refine V_ic_ne_f K 26 dX10_mean_17 (by decide) c3 ?_
      refine V_aload_n K 0 dX10_mean_20 rfl ?_
      refine V_ic (v := 1) K dX10_mean_21 rfl ?_
      obtain ⟨r6, h5, q4, E⟩ := ob2_inv E
      refine iv_X10_71 K (c_X10_find _ (1 : Int32) h q4) dX10_mean_22 (Nat.le_of_ble_eq_true rfl) ?_
      cases E
      exact V_iret K dX10_mean_25 rfl T
    · refine V_ic_ne_t K 26 dX10_mean_17 (by decide) c3 ?_
      refine V_aload_n K 0 dX10_mean_26 rfl ?_
      refine gf_X10_22 K dX10_mean_27 ?_
      refine V_iload_n K 1 dX10_mean_30 rfl ?_
      refine V_iald K k_56 n_56 g2 dX10_mean_31 ?_
      rcases if_inv E with ⟨c7, E⟩ | ⟨c7, E⟩
      · refine V_if_ne_f K 41 dX10_mean_32 (by decide) c7 ?_
        refine V_aload_n K 0 dX10_mean_35 rfl ?_
        refine V_ic (v := 4) K dX10_mean_36 rfl ?_
        obtain ⟨r10, h9, q8, E⟩ := ob2_inv E
        refine iv_X10_71 K (c_X10_find _ (4 : Int32) h q8) dX10_mean_37 (Nat.le_of_ble_eq_true rfl) ?_
        cases E
        exact V_iret K dX10_mean_40 rfl T
      · refine V_if_ne_t K 41 dX10_mean_32 (by decide) c7 ?_
        refine V_lc (v := 0) K dX10_mean_41 rfl ?_
        refine V_lstore_n (lv' := [(2, .long (0 : Int64)), (0, .ref (ad x 51)), (1, .int a1)]) K dX10_mean_42 (by decide) rfl ?_
        refine V_ic (v := 0) K dX10_mean_43 rfl ?_
        refine V_istore (lv' := [(4, .int (0 : Int32)), (2, .long (0 : Int64)), (0, .ref (ad x 51)), (1, .int a1)]) K dX10_mean_44 (by decide) rfl ?_
        obtain ⟨v18, v19, q24, E⟩ := ob2_inv E
        refine V_sub [2, 3, 1, 0] rfl (wl_X10_mean_s46 K a1 h  _ _ _ q24 ?_)
        show VV x 79 [(0, .ref (ad x 51)), (1, .int a1), (2, .long v18), (4, .int v19)] [] h
        refine V_aload_n K 0 dX10_mean_79 rfl ?_
        refine V_lload_n K 2 dX10_mean_80 rfl ?_
        refine V_aload_n K 0 dX10_mean_81 rfl ?_
        refine gf_X10_22 K dX10_mean_82 ?_
        refine V_iload_n K 1 dX10_mean_85 rfl ?_
        refine V_iald K k_56 n_56 g2 dX10_mean_86 ?_
        refine V_i2l K dX10_mean_87 ?_
        obtain ⟨g20, E⟩ := gd_inv E
        refine V_ldiv K dX10_mean_88 (nzL_ne g20) ?_
        refine V_l2i K dX10_mean_89 ?_
        obtain ⟨r23, h22, q21, E⟩ := ob2_inv E
        refine iv_X10_79 K (c_X10_tell _ ((v18 / ((h.1 56 (ix a1)).toInt64)).toInt32) h q21) dX10_mean_90 (Nat.le_of_ble_eq_true rfl) ?_
        cases E
        exact V_iret K dX10_mean_93 rfl T
theorem c_X10_mean (d : Nat) (a1 : Int32) (h : Hp)  {r : Int32} {h' : Hp} (E : X10_mean a1 h = some (r, h')) : Runs (d + 2) yX10_mean cX10_mean 5 (some .int) (fun f => [.ref (f 51), .int a1]) h (fun _ => some (.int r)) h' :=
  Runs.of (by decide +kernel) (fun _ => Nat.le_of_ble_eq_true rfl) (fun x K T => w_X10_mean K  a1 h  E T)
def X10_weighed_s22 (x1 : Int32) (x2 : Int32) (x3 : Int64) (x5 : Int32) (h : Hp) (y6 : Int64) (y8 : Int32) : Option ((Int64 × Int32) ⊕ (Int64 × Int32)) :=
  if (h.1 51 2) ≤ y8 then (some (.inl (y6, y8)))
  else (ob (if (X10_has x5 y8) = (0 : Int32) then (some (((12 : Int32) - x2).toInt64))
  else (some (x2.toInt64))) fun v3 =>
  lt_ (y6 * v3) fun v5 =>
  lt_ (y8 + (1 : Int32)) fun v7 =>
  some (.inr (v5, v7)))
set_option maxHeartbeats 4000000 in
set_option maxRecDepth 100000 in
theorem wl_X10_weighed_s22 {x : Cx} {d : Nat} (K : Ok x cX10_weighed RX10 9 (some .long) (d + 3)) (x1 : Int32) (x2 : Int32) (x3 : Int64) (x5 : Int32) (h : Hp)  : ∀ (n : Nat) (s : Int64 × Int32) (r : (Int64 × Int32)), lp (fun s : Int64 × Int32 => X10_weighed_s22 x1 x2 x3 x5 h s.1 s.2) n s = some r → (fun r : (Int64 × Int32) => VV x 62 [(0, .ref (ad x 51)), (1, .int x1), (2, .int x2), (3, .long x3), (5, .int x5), (6, .long (r.1)), (8, .int (r.2))] [] h) r → (fun s : Int64 × Int32 => VV x 22 [(0, .ref (ad x 51)), (1, .int x1), (2, .int x2), (3, .long x3), (5, .int x5), (6, .long (s.1)), (8, .int (s.2))] [] h) s := by
  refine lp_walk ?_
  intro s z E T
  obtain ⟨y6, y8⟩ := s
  replace E : X10_weighed_s22 x1 x2 x3 x5 h y6 y8 = some z := E
  unfold X10_weighed_s22 at E
  show VV x 22 [(0, .ref (ad x 51)), (1, .int x1), (2, .int x2), (3, .long x3), (5, .int x5), (6, .long y6), (8, .int y8)] [] h
  refine V_iload K 6 dX10_weighed_22 rfl ?_
  refine V_aload_n K 0 dX10_weighed_24 rfl ?_
  refine gf_X10_120 K dX10_weighed_25 ?_
  rcases if_inv E with ⟨c2, E⟩ | ⟨c2, E⟩
  · refine V_ic_ge_t K 62 dX10_weighed_28 (by decide) c2 ?_
    cases E
    exact V_sub [0, 1, 2, 3, 4, 5, 6] rfl T
  · refine V_ic_ge_f K 62 dX10_weighed_28 (by decide) c2 ?_
    refine V_lload K 5 dX10_weighed_31 rfl ?_
    refine V_iload K 4 dX10_weighed_33 rfl ?_
    refine V_iload K 6 dX10_weighed_35 rfl ?_
    refine iv_X10_135 K (c_X10_has _ x5 y8 h) dX10_weighed_37 (Nat.le_of_ble_eq_true rfl) ?_
    obtain ⟨v3, q9, E⟩ := ob_inv E
    have T9 : VV x 53 [(0, .ref (ad x 51)), (1, .int x1), (2, .int x2), (3, .long x3), (5, .int x5), (8, .int y8)] [.long v3, .long y6] h := by
      refine V_lmul K dX10_weighed_53 ?_
      obtain ⟨v5, e6, E⟩ := lt_inv E
      refine V_topl e6 ?_
      refine V_lstore (lv' := [(6, .long v5), (0, .ref (ad x 51)), (1, .int x1), (2, .int x2), (3, .long x3), (5, .int x5), (8, .int y8)]) K dX10_weighed_54 (by decide) rfl ?_
      obtain ⟨v7, e8, E⟩ := lt_inv E
      refine V_iinc (lv' := [(8, .int v7), (6, .long v5), (0, .ref (ad x 51)), (1, .int x1), (2, .int x2), (3, .long x3), (5, .int x5)]) K 6 dX10_weighed_56 rfl (by rw [e8]; rfl) (by decide) rfl ?_
      refine V_goto K 22 dX10_weighed_59 (by decide) ?_
      cases E
      exact V_sub [2, 3, 4, 5, 6, 1, 0] rfl T
    have E := q9
    have T := T9
    rcases if_inv E with ⟨c4, E⟩ | ⟨c4, E⟩
    · refine V_if_eq_t K 48 dX10_weighed_40 (by decide) c4 ?_
      refine V_bp (v := 12) K dX10_weighed_48 rfl ?_
      refine V_iload_n K 2 dX10_weighed_50 rfl ?_
      refine V_isub K dX10_weighed_51 ?_
      refine V_i2l K dX10_weighed_52 ?_
      cases E
      exact V_sub [0, 1, 2, 3, 4, 6] rfl T
    · refine V_if_eq_f K 48 dX10_weighed_40 (by decide) c4 ?_
      refine V_iload_n K 2 dX10_weighed_43 rfl ?_
      refine V_i2l K dX10_weighed_44 ?_
      refine V_goto K 53 dX10_weighed_45 (by decide) ?_
      cases E
      exact V_sub [0, 1, 2, 3, 4, 6] rfl T
def X10_weighed_s5 (x1 : Int32) (x2 : Int32) (y3 : Int64) (y5 : Int32) (h : Hp) : Option ((Int64 × Int32 × Hp) ⊕ (Int64 × Int32 × Hp)) :=
  if ((1 : Int32) <<< ((h.1 51 2) &&& 31)) ≤ y5 then (some (.inl (y3, y5, h)))
  else (ob2 (lp (fun s : Int64 × Int32 => X10_weighed_s22 x1 x2 y3 y5 h s.1 s.2) FU ((1 : Int64), (0 : Int32))) fun v10 v11 =>
  ob (X10_copyRow (X10_now h) (2788 : Int32) h) fun h13 =>
  ob2 (X10_turnIn (2788 : Int32) y5 (-9 : Int32) (0 : Int32) h13) fun r16 h15 =>
  ob (if x1 = (-9 : Int32) then (gd (ib (2800 : Int32) 2805) (
  some (v10 * ((h15.1 52 (ix (2800 : Int32))).toInt64))))
  else (if (X10_has r16 x1) = (0 : Int32) then (some (0 : Int64))
  else (some v10))) fun v17 =>
  lt_ (y3 + v17) fun v21 =>
  lt_ (y5 + (1 : Int32)) fun v23 =>
  some (.inr (v21, v23, h15)))
set_option maxHeartbeats 4000000 in
set_option maxRecDepth 100000 in
theorem wl_X10_weighed_s5 {x : Cx} {d : Nat} (K : Ok x cX10_weighed RX10 9 (some .long) (d + 3)) (x1 : Int32) (x2 : Int32)  : ∀ (n : Nat) (s : Int64 × Int32 × Hp) (r : (Int64 × Int32 × Hp)), lp (fun s : Int64 × Int32 × Hp => X10_weighed_s5 x1 x2 s.1 s.2.1 s.2.2) n s = some r → (fun r : (Int64 × Int32 × Hp) => VV x 132 [(0, .ref (ad x 51)), (1, .int x1), (2, .int x2), (3, .long (r.1)), (5, .int (r.2.1))] [] r.2.2) r → (fun s : Int64 × Int32 × Hp => VV x 5 [(0, .ref (ad x 51)), (1, .int x1), (2, .int x2), (3, .long (s.1)), (5, .int (s.2.1))] [] s.2.2) s := by
  refine lp_walk ?_
  intro s z E T
  obtain ⟨y3, y5, h⟩ := s
  replace E : X10_weighed_s5 x1 x2 y3 y5 h = some z := E
  unfold X10_weighed_s5 at E
  show VV x 5 [(0, .ref (ad x 51)), (1, .int x1), (2, .int x2), (3, .long y3), (5, .int y5)] [] h
  refine V_iload K 4 dX10_weighed_5 rfl ?_
  refine V_ic (v := 1) K dX10_weighed_7 rfl ?_
  refine V_aload_n K 0 dX10_weighed_8 rfl ?_
  refine gf_X10_120 K dX10_weighed_9 ?_
  refine V_ishl K dX10_weighed_12 ?_
  rcases if_inv E with ⟨c1, E⟩ | ⟨c1, E⟩
  · refine V_ic_ge_t K 132 dX10_weighed_13 (by decide) c1 ?_
    cases E
    exact V_sub [0, 1, 2, 3, 4] rfl T
  · refine V_ic_ge_f K 132 dX10_weighed_13 (by decide) c1 ?_
    refine V_lc (v := 1) K dX10_weighed_16 rfl ?_
    refine V_lstore (lv' := [(6, .long (1 : Int64)), (0, .ref (ad x 51)), (1, .int x1), (2, .int x2), (3, .long y3), (5, .int y5)]) K dX10_weighed_17 (by decide) rfl ?_
    refine V_ic (v := 0) K dX10_weighed_19 rfl ?_
    refine V_istore (lv' := [(8, .int (0 : Int32)), (6, .long (1 : Int64)), (0, .ref (ad x 51)), (1, .int x1), (2, .int x2), (3, .long y3), (5, .int y5)]) K dX10_weighed_20 (by decide) rfl ?_
    obtain ⟨v10, v11, q26, E⟩ := ob2_inv E
    refine V_sub [2, 3, 4, 5, 6, 1, 0] rfl (wl_X10_weighed_s22 K x1 x2 y3 y5 h  _ _ _ q26 ?_)
    show VV x 62 [(0, .ref (ad x 51)), (1, .int x1), (2, .int x2), (3, .long y3), (5, .int y5), (6, .long v10), (8, .int v11)] [] h
    refine V_aload_n K 0 dX10_weighed_62 rfl ?_
    refine V_aload_n K 0 dX10_weighed_63 rfl ?_
    refine iv_X10_145 K (c_X10_now _ h) dX10_weighed_64 (Nat.le_of_ble_eq_true rfl) ?_
    refine V_sp (v := 2788) K dX10_weighed_67 rfl ?_
    obtain ⟨h13, q12, E⟩ := ob_inv E
    refine iv_X10_167 K (c_X10_copyRow _ (X10_now h) (2788 : Int32) h q12) dX10_weighed_70 (Nat.le_of_ble_eq_true rfl) ?_
    refine V_aload_n K 0 dX10_weighed_73 rfl ?_
    refine V_sp (v := 2788) K dX10_weighed_74 rfl ?_
    refine V_iload K 4 dX10_weighed_77 rfl ?_
    refine V_bp (v := -9) K dX10_weighed_79 rfl ?_
    refine V_ic (v := 0) K dX10_weighed_81 rfl ?_
    obtain ⟨r16, h15, q14, E⟩ := ob2_inv E
    refine iv_X10_141 K (c_X10_turnIn _ (2788 : Int32) y5 (-9 : Int32) (0 : Int32) h13 q14) dX10_weighed_82 (Nat.le_of_ble_eq_true rfl) ?_
    refine V_istore (lv' := [(8, .int r16), (0, .ref (ad x 51)), (1, .int x1), (2, .int x2), (3, .long y3), (5, .int y5), (6, .long v10)]) K dX10_weighed_85 (by decide) rfl ?_
    refine V_lload_n K 4 dX10_weighed_87 rfl ?_
    refine V_iload_n K 2 dX10_weighed_88 rfl ?_
    refine V_bp (v := -9) K dX10_weighed_89 rfl ?_
    obtain ⟨v17, q25, E⟩ := ob_inv E
    have T9 : VV x 124 [(0, .ref (ad x 51)), (1, .int x1), (2, .int x2), (5, .int y5)] [.long v17, .long y3] h15 := by
      refine V_ladd K dX10_weighed_124 ?_
      obtain ⟨v21, e22, E⟩ := lt_inv E
      refine V_topl e22 ?_
      refine V_lstore_n (lv' := [(3, .long v21), (0, .ref (ad x 51)), (1, .int x1), (2, .int x2), (5, .int y5)]) K dX10_weighed_125 (by decide) rfl ?_
      obtain ⟨v23, e24, E⟩ := lt_inv E
      refine V_iinc (lv' := [(5, .int v23), (3, .long v21), (0, .ref (ad x 51)), (1, .int x1), (2, .int x2)]) K 4 dX10_weighed_126 rfl (by rw [e24]; rfl) (by decide) rfl ?_
      refine V_goto K 5 dX10_weighed_129 (by decide) ?_
      cases E
      exact V_sub [2, 3, 4, 1, 0] rfl T
    have E := q25
    have T := T9
    rcases if_inv E with ⟨c18, E⟩ | ⟨c18, E⟩
    · refine V_ic_ne_f K 109 dX10_weighed_91 (by decide) c18 ?_
      refine V_lload K 6 dX10_weighed_94 rfl ?_
      refine V_aload_n K 1 dX10_weighed_96 rfl ?_
      refine gf_X10_7 K dX10_weighed_97 ?_
      refine V_sp (v := 2800) K dX10_weighed_100 rfl ?_
      obtain ⟨g19, E⟩ := gd_inv E
      refine V_iald K k_52 n_52 g19 dX10_weighed_103 ?_
      refine V_i2l K dX10_weighed_104 ?_
      refine V_lmul K dX10_weighed_105 ?_
      refine V_goto K 124 dX10_weighed_106 (by decide) ?_
      cases E
      exact V_sub [1, 2, 3, 5] rfl T
    · refine V_ic_ne_t K 109 dX10_weighed_91 (by decide) c18 ?_
      refine V_iload K 0 dX10_weighed_109 rfl ?_
      refine V_iload_n K 2 dX10_weighed_111 rfl ?_
      refine iv_X10_135 K (c_X10_has _ r16 x1 h15) dX10_weighed_112 (Nat.le_of_ble_eq_true rfl) ?_
      rcases if_inv E with ⟨c20, E⟩ | ⟨c20, E⟩
      · refine V_if_eq_t K 123 dX10_weighed_115 (by decide) c20 ?_
        refine V_lc (v := 0) K dX10_weighed_123 rfl ?_
        cases E
        exact V_sub [1, 2, 3, 5] rfl T
      · refine V_if_eq_f K 123 dX10_weighed_115 (by decide) c20 ?_
        refine V_lload K 6 dX10_weighed_118 rfl ?_
        refine V_goto K 124 dX10_weighed_120 (by decide) ?_
        cases E
        exact V_sub [1, 2, 3, 5] rfl T
def X10_weighed (a1 : Int32) (a2 : Int32) (h : Hp) : Option (Int64 × Hp) :=
  ob3 (lp (fun s : Int64 × Int32 × Hp => X10_weighed_s5 a1 a2 s.1 s.2.1 s.2.2) FU ((0 : Int64), (0 : Int32), h)) fun v27 v28 h29 =>
  some (v27, h29)
set_option maxHeartbeats 4000000 in
set_option maxRecDepth 100000 in
theorem w_X10_weighed {x : Cx} {d : Nat} (K : Ok x cX10_weighed RX10 9 (some .long) (d + 3)) (a1 : Int32) (a2 : Int32) (h : Hp)  {z : Int64 × Hp} (E : X10_weighed a1 a2 h = some z) (T : x.2.2.2.2 = (some (.long (z.1)), z.2)) : VV x 0 [(0, .ref (ad x 51)), (1, .int a1), (2, .int a2)] [] h := by
  unfold X10_weighed at E
  refine V_lc (v := 0) K dX10_weighed_0 rfl ?_
  refine V_lstore_n (lv' := [(3, .long (0 : Int64)), (0, .ref (ad x 51)), (1, .int a1), (2, .int a2)]) K dX10_weighed_1 (by decide) rfl ?_
  refine V_ic (v := 0) K dX10_weighed_2 rfl ?_
  refine V_istore (lv' := [(5, .int (0 : Int32)), (3, .long (0 : Int64)), (0, .ref (ad x 51)), (1, .int a1), (2, .int a2)]) K dX10_weighed_3 (by decide) rfl ?_
  obtain ⟨v27, v28, h29, q30, E⟩ := ob3_inv E
  refine V_sub [2, 3, 4, 1, 0] rfl (wl_X10_weighed_s5 K a1 a2  _ _ _ q30 ?_)
  show VV x 132 [(0, .ref (ad x 51)), (1, .int a1), (2, .int a2), (3, .long v27), (5, .int v28)] [] h29
  refine V_lload_n K 3 dX10_weighed_132 rfl ?_
  cases E
  exact V_lret K dX10_weighed_133 T
theorem c_X10_weighed (d : Nat) (a1 : Int32) (a2 : Int32) (h : Hp)  {r : Int64} {h' : Hp} (E : X10_weighed a1 a2 h = some (r, h')) : Runs (d + 3) yX10_weighed cX10_weighed 9 (some .long) (fun f => [.ref (f 51), .int a1, .int a2]) h (fun _ => some (.long r)) h' :=
  Runs.of (by decide +kernel) (fun _ => Nat.le_of_ble_eq_true rfl) (fun x K T => w_X10_weighed K  a1 a2 h  E T)
def X10_twelves_s4 (h : Hp) (y1 : Int64) (y3 : Int32) : Option ((Int64 × Int32) ⊕ (Int64 × Int32)) :=
  if (h.1 51 2) ≤ y3 then (some (.inl (y1, y3)))
  else (lt_ (y1 * (12 : Int64)) fun v2 =>
  lt_ (y3 + (1 : Int32)) fun v4 =>
  some (.inr (v2, v4)))
set_option maxHeartbeats 4000000 in
set_option maxRecDepth 100000 in
theorem wl_X10_twelves_s4 {x : Cx} {d : Nat} (K : Ok x cX10_twelves RX10 4 (some .long) (d + 0)) (h : Hp)  : ∀ (n : Nat) (s : Int64 × Int32) (r : (Int64 × Int32)), lp (fun s : Int64 × Int32 => X10_twelves_s4 h s.1 s.2) n s = some r → (fun r : (Int64 × Int32) => VV x 24 [(0, .ref (ad x 51)), (1, .long (r.1)), (3, .int (r.2))] [] h) r → (fun s : Int64 × Int32 => VV x 4 [(0, .ref (ad x 51)), (1, .long (s.1)), (3, .int (s.2))] [] h) s := by
  refine lp_walk ?_
  intro s z E T
  obtain ⟨y1, y3⟩ := s
  replace E : X10_twelves_s4 h y1 y3 = some z := E
  unfold X10_twelves_s4 at E
  show VV x 4 [(0, .ref (ad x 51)), (1, .long y1), (3, .int y3)] [] h
  refine V_iload_n K 2 dX10_twelves_4 rfl ?_
  refine V_aload_n K 0 dX10_twelves_5 rfl ?_
  refine gf_X10_120 K dX10_twelves_6 ?_
  rcases if_inv E with ⟨c1, E⟩ | ⟨c1, E⟩
  · refine V_ic_ge_t K 24 dX10_twelves_9 (by decide) c1 ?_
    cases E
    exact V_sub [0, 1, 2] rfl T
  · refine V_ic_ge_f K 24 dX10_twelves_9 (by decide) c1 ?_
    refine V_lload_n K 1 dX10_twelves_12 rfl ?_
    refine V_ldc2 (v := 12) K tb_199 dX10_twelves_13 ?_
    refine V_lmul K dX10_twelves_16 ?_
    obtain ⟨v2, e3, E⟩ := lt_inv E
    refine V_topl e3 ?_
    refine V_lstore_n (lv' := [(1, .long v2), (0, .ref (ad x 51)), (3, .int y3)]) K dX10_twelves_17 (by decide) rfl ?_
    obtain ⟨v4, e5, E⟩ := lt_inv E
    refine V_iinc (lv' := [(3, .int v4), (1, .long v2), (0, .ref (ad x 51))]) K 2 dX10_twelves_18 rfl (by rw [e5]; rfl) (by decide) rfl ?_
    refine V_goto K 4 dX10_twelves_21 (by decide) ?_
    cases E
    exact V_sub [2, 1, 0] rfl T
def X10_twelves  (h : Hp) : Option Int64 :=
  ob2 (lp (fun s : Int64 × Int32 => X10_twelves_s4 h s.1 s.2) FU ((1 : Int64), (0 : Int32))) fun v6 v7 =>
  some v6
set_option maxHeartbeats 4000000 in
set_option maxRecDepth 100000 in
theorem w_X10_twelves {x : Cx} {d : Nat} (K : Ok x cX10_twelves RX10 4 (some .long) (d + 0))  (h : Hp)  {z : Int64} (E : X10_twelves  h = some z) (T : x.2.2.2.2 = (some (.long z), h)) : VV x 0 [(0, .ref (ad x 51))] [] h := by
  unfold X10_twelves at E
  refine V_lc (v := 1) K dX10_twelves_0 rfl ?_
  refine V_lstore_n (lv' := [(1, .long (1 : Int64)), (0, .ref (ad x 51))]) K dX10_twelves_1 (by decide) rfl ?_
  refine V_ic (v := 0) K dX10_twelves_2 rfl ?_
  refine V_istore_n (lv' := [(3, .int (0 : Int32)), (1, .long (1 : Int64)), (0, .ref (ad x 51))]) K dX10_twelves_3 (by decide) rfl ?_
  obtain ⟨v6, v7, q8, E⟩ := ob2_inv E
  refine V_sub [2, 1, 0] rfl (wl_X10_twelves_s4 K h  _ _ _ q8 ?_)
  show VV x 24 [(0, .ref (ad x 51)), (1, .long v6), (3, .int v7)] [] h
  refine V_lload_n K 1 dX10_twelves_24 rfl ?_
  cases E
  exact V_lret K dX10_twelves_25 T
theorem c_X10_twelves (d : Nat)  (h : Hp)  {r : Int64} (E : X10_twelves  h = some r) : Runs (d + 0) yX10_twelves cX10_twelves 4 (some .long) (fun f => [.ref (f 51)]) h (fun _ => some (.long r)) h :=
  Runs.of (by decide +kernel) (fun _ => Nat.le_of_ble_eq_true rfl) (fun x K T => w_X10_twelves K   h  E T)
def X10_tellPart_s6 (x1 : Int64) (x3 : Int64) (h : Hp) (y5 : Int64) (y7 : Int64) : Option ((Int64 × Int64) ⊕ (Int64 × Int64)) :=
  if (lg_cmp y7 (0 : Int64)) = (0 : Int32) then (some (.inl (y5, y7)))
  else (gd (nzL y7) (
  lt_ (lrm y5 y7) fun v3 =>
  some (.inr (y7, v3))))
set_option maxHeartbeats 4000000 in
set_option maxRecDepth 100000 in
theorem wl_X10_tellPart_s6 {x : Cx} {d : Nat} (K : Ok x cX10_tellPart RX10 11 none (d + 0)) (x1 : Int64) (x3 : Int64) (h : Hp)  : ∀ (n : Nat) (s : Int64 × Int64) (r : (Int64 × Int64)), lp (fun s : Int64 × Int64 => X10_tellPart_s6 x1 x3 h s.1 s.2) n s = some r → (fun r : (Int64 × Int64) => VV x 31 [(0, .ref (ad x 51)), (1, .long x1), (3, .long x3), (5, .long (r.1)), (7, .long (r.2))] [] h) r → (fun s : Int64 × Int64 => VV x 6 [(0, .ref (ad x 51)), (1, .long x1), (3, .long x3), (5, .long (s.1)), (7, .long (s.2))] [] h) s := by
  refine lp_walk ?_
  intro s z E T
  obtain ⟨y5, y7⟩ := s
  replace E : X10_tellPart_s6 x1 x3 h y5 y7 = some z := E
  unfold X10_tellPart_s6 at E
  show VV x 6 [(0, .ref (ad x 51)), (1, .long x1), (3, .long x3), (5, .long y5), (7, .long y7)] [] h
  refine V_lload K 4 dX10_tellPart_6 rfl ?_
  refine V_lc (v := 0) K dX10_tellPart_8 rfl ?_
  refine V_lcmp K dX10_tellPart_9 ?_
  rcases if_inv E with ⟨c1, E⟩ | ⟨c1, E⟩
  · refine V_if_eq_t K 31 dX10_tellPart_10 (by decide) c1 ?_
    cases E
    exact V_sub [0, 1, 2, 3, 4] rfl T
  · refine V_if_eq_f K 31 dX10_tellPart_10 (by decide) c1 ?_
    refine V_lload K 3 dX10_tellPart_13 rfl ?_
    refine V_lload K 4 dX10_tellPart_15 rfl ?_
    obtain ⟨g2, E⟩ := gd_inv E
    refine V_lrem K dX10_tellPart_17 (nzL_ne g2) ?_
    obtain ⟨v3, e4, E⟩ := lt_inv E
    refine V_topl e4 ?_
    refine V_lstore (lv' := [(9, .long v3), (0, .ref (ad x 51)), (1, .long x1), (3, .long x3), (5, .long y5), (7, .long y7)]) K dX10_tellPart_18 (by decide) rfl ?_
    refine V_lload K 5 dX10_tellPart_20 rfl ?_
    refine V_lstore (lv' := [(5, .long y7), (9, .long v3), (0, .ref (ad x 51)), (1, .long x1), (3, .long x3), (7, .long y7)]) K dX10_tellPart_22 (by decide) rfl ?_
    refine V_lload K 1 dX10_tellPart_24 rfl ?_
    refine V_lstore (lv' := [(7, .long v3), (5, .long y7), (9, .long v3), (0, .ref (ad x 51)), (1, .long x1), (3, .long x3)]) K dX10_tellPart_26 (by decide) rfl ?_
    refine V_goto K 6 dX10_tellPart_28 (by decide) ?_
    cases E
    exact V_sub [3, 4, 5, 1, 0] rfl T
def X10_tellPart (a1 : Int64) (a2 : Int64) (h : Hp) : Option Hp :=
  ob2 (lp (fun s : Int64 × Int64 => X10_tellPart_s6 a1 a2 h s.1 s.2) FU (a1, a2)) fun v5 v6 =>
  gd (nzL v5) (
  lt_ (upL h 51 14 (a1 / v5)) fun h8 =>
  lt_ (upL h8 51 15 (a2 / v5)) fun h10 =>
  some h10)
set_option maxHeartbeats 4000000 in
set_option maxRecDepth 100000 in
theorem w_X10_tellPart {x : Cx} {d : Nat} (K : Ok x cX10_tellPart RX10 11 none (d + 0)) (a1 : Int64) (a2 : Int64) (h : Hp)  {z : Hp} (E : X10_tellPart a1 a2 h = some z) (T : x.2.2.2.2 = (none, z)) : VV x 0 [(0, .ref (ad x 51)), (1, .long a1), (3, .long a2)] [] h := by
  unfold X10_tellPart at E
  refine V_lload_n K 1 dX10_tellPart_0 rfl ?_
  refine V_lstore (lv' := [(5, .long a1), (0, .ref (ad x 51)), (1, .long a1), (3, .long a2)]) K dX10_tellPart_1 (by decide) rfl ?_
  refine V_lload_n K 3 dX10_tellPart_3 rfl ?_
  refine V_lstore (lv' := [(7, .long a2), (5, .long a1), (0, .ref (ad x 51)), (1, .long a1), (3, .long a2)]) K dX10_tellPart_4 (by decide) rfl ?_
  obtain ⟨v5, v6, q12, E⟩ := ob2_inv E
  refine V_sub [2, 3, 4, 1, 0] rfl (wl_X10_tellPart_s6 K a1 a2 h  _ _ _ q12 ?_)
  show VV x 31 [(0, .ref (ad x 51)), (1, .long a1), (3, .long a2), (5, .long v5), (7, .long v6)] [] h
  refine V_aload_n K 0 dX10_tellPart_31 rfl ?_
  refine V_lload_n K 1 dX10_tellPart_32 rfl ?_
  refine V_lload K 3 dX10_tellPart_33 rfl ?_
  obtain ⟨g7, E⟩ := gd_inv E
  refine V_ldiv K dX10_tellPart_35 (nzL_ne g7) ?_
  obtain ⟨h8, e9, E⟩ := lt_inv E
  refine pf_X10_208 K dX10_tellPart_36 ?_
  refine V_hp e9 ?_
  refine V_aload_n K 0 dX10_tellPart_39 rfl ?_
  refine V_lload_n K 2 dX10_tellPart_40 rfl ?_
  refine V_lload K 3 dX10_tellPart_41 rfl ?_
  refine V_ldiv K dX10_tellPart_43 (nzL_ne g7) ?_
  obtain ⟨h10, e11, E⟩ := lt_inv E
  refine pf_X10_34 K dX10_tellPart_44 ?_
  refine V_hp e11 ?_
  cases E
  exact V_vret K dX10_tellPart_47 T
theorem c_X10_tellPart (d : Nat) (a1 : Int64) (a2 : Int64) (h : Hp)  {h' : Hp} (E : X10_tellPart a1 a2 h = some h') : Runs (d + 0) yX10_tellPart cX10_tellPart 11 none (fun f => [.ref (f 51), .long a1, .long a2]) h (fun _ => none) h' :=
  Runs.of (by decide +kernel) (fun _ => Nat.le_of_ble_eq_true rfl) (fun x K T => w_X10_tellPart K  a1 a2 h  E T)
