def X9_lay (a1 : Int32) (a2 : Int32) (a3 : Int32) (h : Hp) : Option (Int32 × Hp) :=
  ob2 (X9_refusedPlace a1 a2 h) fun r3 h2 =>
  if r3 = (0 : Int32) then (gd (ib a1 6) (
  gd (ib a2 40) (
  lt_ (up h2 0 12 (h2.1 (2 + ix a1) (ix a2))) fun h7 =>
  lt_ (up h7 (2 + ix a1) (ix a2) a3) fun h9 =>
  some ((1 : Int32), h9))))
  else (some (r3, h2))
set_option maxHeartbeats 4000000 in
set_option maxRecDepth 100000 in
theorem w_X9_lay {x : Cx} {d : Nat} (K : Ok x cX9_lay RX9 5 (some .int) (d + 3)) (a1 : Int32) (a2 : Int32) (a3 : Int32) (h : Hp)  {z : Int32 × Hp} (E : X9_lay a1 a2 a3 h = some z) (T : x.2.2.2.2 = (some (.int (z.1)), z.2)) : VV x 0 [(0, .ref (ad x 0)), (1, .int a1), (2, .int a2), (3, .int a3)] [] h := by
  unfold X9_lay at E
  refine V_aload_n K 0 dX9_lay_0 rfl ?_
  refine V_iload_n K 1 dX9_lay_1 rfl ?_
  refine V_iload_n K 2 dX9_lay_2 rfl ?_
  obtain ⟨r3, h2, q1, E⟩ := ob2_inv E
  refine iv_X9_91 K (c_X9_refusedPlace _ a1 a2 h q1) dX9_lay_3 (Nat.le_of_ble_eq_true rfl) ?_
  refine V_istore (lv' := [(4, .int r3), (0, .ref (ad x 0)), (1, .int a1), (2, .int a2), (3, .int a3)]) K dX9_lay_6 (by decide) rfl ?_
  refine V_iload K 0 dX9_lay_8 rfl ?_
  rcases if_inv E with ⟨c4, E⟩ | ⟨c4, E⟩
  · refine V_if_eq_t K 16 dX9_lay_10 (by decide) c4 ?_
    refine V_aload_n K 1 dX9_lay_16 rfl ?_
    refine V_aload_n K 1 dX9_lay_17 rfl ?_
    refine gf_X9_11 K dX9_lay_18 ?_
    refine V_iload_n K 2 dX9_lay_21 rfl ?_
    obtain ⟨g5, E⟩ := gd_inv E
    refine V_aaload15 K k_1 g5 (rowR g5) dX9_lay_22 ?_
    refine V_iload_n K 3 dX9_lay_23 rfl ?_
    obtain ⟨g6, E⟩ := gd_inv E
    refine V_iald K (rowK g5) (rowN g5) g6 dX9_lay_24 ?_
    obtain ⟨h7, e8, E⟩ := lt_inv E
    refine pf_X9_49 K dX9_lay_25 ?_
    refine V_hp e8 ?_
    refine V_aload_n K 1 dX9_lay_28 rfl ?_
    refine gf_X9_11 K dX9_lay_29 ?_
    refine V_iload_n K 2 dX9_lay_32 rfl ?_
    refine V_aaload15 K k_1 g5 (rowR g5) dX9_lay_33 ?_
    refine V_iload_n K 3 dX9_lay_34 rfl ?_
    refine V_iload_n K 4 dX9_lay_35 rfl ?_
    obtain ⟨h9, e10, E⟩ := lt_inv E
    refine V_iast K (rowK g5) (rowN g5) g6 dX9_lay_36 ?_
    refine V_hp e10 ?_
    refine V_ic (v := 1) K dX9_lay_37 rfl ?_
    cases E
    exact V_iret K dX9_lay_38 rfl T
  · refine V_if_eq_f K 16 dX9_lay_10 (by decide) c4 ?_
    refine V_iload K 0 dX9_lay_13 rfl ?_
    cases E
    exact V_iret K dX9_lay_15 rfl T
theorem c_X9_lay (d : Nat) (a1 : Int32) (a2 : Int32) (a3 : Int32) (h : Hp)  {r : Int32} {h' : Hp} (E : X9_lay a1 a2 a3 h = some (r, h')) : Runs (d + 3) yX9_lay cX9_lay 5 (some .int) (fun f => [.ref (f 0), .int a1, .int a2, .int a3]) h (fun _ => some (.int r)) h' :=
  Runs.of (by decide +kernel) (fun _ => Nat.le_of_ble_eq_true rfl) (fun x K T => w_X9_lay K  a1 a2 a3 h  E T)
def X9_least_s41 (x1 : Int32) (x2 : Int32) (y3 : Int32) (h : Hp) : Option (((Int32 × Hp) ⊕ (Int32 × Hp)) ⊕ (Int32 × Hp)) :=
  if (30 : Int32) < y3 then (some (.inl (.inr (y3, h))))
  else (ob2 (X9_gatherersBy y3 x2 h) fun r8 h7 =>
  if (r8 &&& x1) = x1 then (some (.inl (.inl (y3, h7))))
  else (lt_ (y3 + (1 : Int32)) fun v10 =>
  some (.inr (v10, h7))))
set_option maxHeartbeats 4000000 in
set_option maxRecDepth 100000 in
theorem wl_X9_least_s41 {x : Cx} {d : Nat} (K : Ok x cX9_least RX9 4 (some .int) (d + 6)) (x1 : Int32) (x2 : Int32)  : ∀ (n : Nat) (s : Int32 × Hp) (r : ((Int32 × Hp) ⊕ (Int32 × Hp))), lp (fun s : Int32 × Hp => X9_least_s41 x1 x2 s.1 s.2) n s = some r → (fun r : ((Int32 × Hp) ⊕ (Int32 × Hp)) => match r with | .inl q => x.2.2.2.2 = (some (.int (q.1)), q.2) | .inr r => VV x 67 [(0, .ref (ad x 0)), (1, .int x1), (2, .int x2), (3, .int (r.1))] [] r.2) r → (fun s : Int32 × Hp => VV x 41 [(0, .ref (ad x 0)), (1, .int x1), (2, .int x2), (3, .int (s.1))] [] s.2) s := by
  refine lp_walk ?_
  intro s z E T
  obtain ⟨y3, h⟩ := s
  replace E : X9_least_s41 x1 x2 y3 h = some z := E
  unfold X9_least_s41 at E
  show VV x 41 [(0, .ref (ad x 0)), (1, .int x1), (2, .int x2), (3, .int y3)] [] h
  refine V_iload_n K 3 dX9_least_41 rfl ?_
  refine V_bp (v := 30) K dX9_least_42 rfl ?_
  rcases if_inv E with ⟨c5, E⟩ | ⟨c5, E⟩
  · refine V_ic_gt_t K 67 dX9_least_44 (by decide) c5 ?_
    cases E
    exact V_sub [0, 1, 2, 3] rfl T
  · refine V_ic_gt_f K 67 dX9_least_44 (by decide) c5 ?_
    refine V_aload_n K 0 dX9_least_47 rfl ?_
    refine V_iload_n K 3 dX9_least_48 rfl ?_
    refine V_iload_n K 2 dX9_least_49 rfl ?_
    obtain ⟨r8, h7, q6, E⟩ := ob2_inv E
    refine iv_X9_218 K (c_X9_gatherersBy _ y3 x2 h q6) dX9_least_50 (Nat.le_of_ble_eq_true rfl) ?_
    refine V_iload_n K 1 dX9_least_53 rfl ?_
    refine V_iand K dX9_least_54 ?_
    refine V_iload_n K 1 dX9_least_55 rfl ?_
    rcases if_inv E with ⟨c9, E⟩ | ⟨c9, E⟩
    · refine V_ic_ne_f K 61 dX9_least_56 (by decide) c9 ?_
      refine V_iload_n K 3 dX9_least_59 rfl ?_
      cases E
      exact V_iret K dX9_least_60 rfl T
    · refine V_ic_ne_t K 61 dX9_least_56 (by decide) c9 ?_
      obtain ⟨v10, e11, E⟩ := lt_inv E
      refine V_iinc (lv' := [(3, .int v10), (0, .ref (ad x 0)), (1, .int x1), (2, .int x2)]) K 3 dX9_least_61 rfl (by rw [e11]; rfl) (by decide) rfl ?_
      refine V_goto K 41 dX9_least_64 (by decide) ?_
      cases E
      exact V_sub [1, 2, 3, 0] rfl T
def X9_least (a1 : Int32) (a2 : Int32) (h : Hp) : Option (Int32 × Hp) :=
  if a1 < (0 : Int32) then (some ((-1 : Int32), h))
  else (if ((1 : Int32) <<< ((h.1 19 6) &&& 31)) ≤ a1 then (some ((-1 : Int32), h))
  else (if (X9_isPlan a2) = (0 : Int32) then (some ((-1 : Int32), h))
  else (if (h.1 19 6) = (0 : Int32) then (some ((-4 : Int32), h))
  else (obS2 (lp (fun s : Int32 × Hp => X9_least_s41 a1 a2 s.1 s.2) FU ((0 : Int32), h)) (fun q => some q) fun v12 h13 =>
  some ((-9 : Int32), h13)))))
set_option maxHeartbeats 4000000 in
set_option maxRecDepth 100000 in
theorem w_X9_least {x : Cx} {d : Nat} (K : Ok x cX9_least RX9 4 (some .int) (d + 6)) (a1 : Int32) (a2 : Int32) (h : Hp)  {z : Int32 × Hp} (E : X9_least a1 a2 h = some z) (T : x.2.2.2.2 = (some (.int (z.1)), z.2)) : VV x 0 [(0, .ref (ad x 0)), (1, .int a1), (2, .int a2)] [] h := by
  unfold X9_least at E
  refine V_iload_n K 1 dX9_least_0 rfl ?_
  rcases if_inv E with ⟨c1, E⟩ | ⟨c1, E⟩
  · refine V_if_lt_t K 24 dX9_least_1 (by decide) c1 ?_
    refine V_ic (v := -1) K dX9_least_24 rfl ?_
    cases E
    exact V_iret K dX9_least_25 rfl T
  · refine V_if_lt_f K 24 dX9_least_1 (by decide) c1 ?_
    refine V_iload_n K 1 dX9_least_4 rfl ?_
    refine V_ic (v := 1) K dX9_least_5 rfl ?_
    refine V_aload_n K 0 dX9_least_6 rfl ?_
    refine gf_X9_71 K dX9_least_7 ?_
    refine gf_X9_127 K k_19 dX9_least_10 ?_
    refine V_ishl K dX9_least_13 ?_
    rcases if_inv E with ⟨c2, E⟩ | ⟨c2, E⟩
    · refine V_ic_ge_t K 24 dX9_least_14 (by decide) c2 ?_
      refine V_ic (v := -1) K dX9_least_24 rfl ?_
      cases E
      exact V_iret K dX9_least_25 rfl T
    · refine V_ic_ge_f K 24 dX9_least_14 (by decide) c2 ?_
      refine V_iload_n K 2 dX9_least_17 rfl ?_
      refine iv_X9_206 K (c_X9_isPlan _ a2 h) dX9_least_18 (Nat.le_of_ble_eq_true rfl) ?_
      rcases if_inv E with ⟨c3, E⟩ | ⟨c3, E⟩
      · refine V_if_ne_f K 26 dX9_least_21 (by decide) c3 ?_
        refine V_ic (v := -1) K dX9_least_24 rfl ?_
        cases E
        exact V_iret K dX9_least_25 rfl T
      · refine V_if_ne_t K 26 dX9_least_21 (by decide) c3 ?_
        refine V_aload_n K 0 dX9_least_26 rfl ?_
        refine gf_X9_71 K dX9_least_27 ?_
        refine gf_X9_127 K k_19 dX9_least_30 ?_
        rcases if_inv E with ⟨c4, E⟩ | ⟨c4, E⟩
        · refine V_if_ne_f K 39 dX9_least_33 (by decide) c4 ?_
          refine V_bp (v := -4) K dX9_least_36 rfl ?_
          cases E
          exact V_iret K dX9_least_38 rfl T
        · refine V_if_ne_t K 39 dX9_least_33 (by decide) c4 ?_
          refine V_ic (v := 0) K dX9_least_39 rfl ?_
          refine V_istore_n (lv' := [(3, .int (0 : Int32)), (0, .ref (ad x 0)), (1, .int a1), (2, .int a2)]) K dX9_least_40 (by decide) rfl ?_
          rcases obS2_inv E with ⟨q, q14, E⟩ | ⟨v12, h13, q14, E⟩
          · cases E
            exact V_sub [1, 2, 3, 0] rfl (wl_X9_least_s41 K a1 a2  _ _ _ q14 T)
          · refine V_sub [1, 2, 3, 0] rfl (wl_X9_least_s41 K a1 a2  _ _ _ q14 ?_)
            show VV x 67 [(0, .ref (ad x 0)), (1, .int a1), (2, .int a2), (3, .int v12)] [] h13
            refine V_bp (v := -9) K dX9_least_67 rfl ?_
            cases E
            exact V_iret K dX9_least_69 rfl T
theorem c_X9_least (d : Nat) (a1 : Int32) (a2 : Int32) (h : Hp)  {r : Int32} {h' : Hp} (E : X9_least a1 a2 h = some (r, h')) : Runs (d + 6) yX9_least cX9_least 4 (some .int) (fun f => [.ref (f 0), .int a1, .int a2]) h (fun _ => some (.int r)) h' :=
  Runs.of (by decide +kernel) (fun _ => Nat.le_of_ble_eq_true rfl) (fun x K T => w_X9_least K  a1 a2 h  E T)
def X9_leastCloudAlike_s14 (r1 : Nat) (x2 : Int32) (h : Hp) (y3 : Int32) : Option ((Int32 ⊕ (Int32)) ⊕ (Int32)) :=
  if (h.1 19 7) ≤ y3 then (some (.inl (.inr y3)))
  else (if (pv_partOf r1 y3) = x2 then (some (.inl (.inl y3)))
  else (lt_ (y3 + (1 : Int32)) fun v5 =>
  some (.inr v5)))
set_option maxHeartbeats 4000000 in
set_option maxRecDepth 100000 in
theorem wl_X9_leastCloudAlike_s14 {x : Cx} {d : Nat} (K : Ok x cX9_leastCloudAlike RX9 4 (some .int) (d + 3)) (r1 : Nat) (x2 : Int32) (h : Hp) (hr1 : isP r1) : ∀ (n : Nat) (s : Int32) (r : (Int32 ⊕ (Int32))), lp (fun s : Int32 => X9_leastCloudAlike_s14 r1 x2 h s) n s = some r → (fun r : (Int32 ⊕ (Int32)) => match r with | .inl q => x.2.2.2.2 = (some (.int q), h) | .inr r => VV x 42 [(0, .ref (ad x 0)), (1, .ref (ad x r1)), (2, .int x2), (3, .int r)] [] h) r → (fun s : Int32 => VV x 14 [(0, .ref (ad x 0)), (1, .ref (ad x r1)), (2, .int x2), (3, .int s)] [] h) s := by
  refine lp_walk ?_
  intro s z E T
  obtain ⟨y3, e0⟩ : ∃ q, q = s := ⟨_, rfl⟩
  subst e0
  replace E : X9_leastCloudAlike_s14 r1 x2 h y3 = some z := E
  unfold X9_leastCloudAlike_s14 at E
  show VV x 14 [(0, .ref (ad x 0)), (1, .ref (ad x r1)), (2, .int x2), (3, .int y3)] [] h
  refine V_iload_n K 3 dX9_leastCloudAlike_14 rfl ?_
  refine V_aload_n K 0 dX9_leastCloudAlike_15 rfl ?_
  refine gf_X9_71 K dX9_leastCloudAlike_16 ?_
  refine gf_X9_159 K k_19 dX9_leastCloudAlike_19 ?_
  rcases if_inv E with ⟨c3, E⟩ | ⟨c3, E⟩
  · refine V_ic_ge_t K 42 dX9_leastCloudAlike_22 (by decide) c3 ?_
    cases E
    exact V_sub [0, 1, 2, 3] rfl T
  · refine V_ic_ge_f K 42 dX9_leastCloudAlike_22 (by decide) c3 ?_
    refine V_aload_n K 1 dX9_leastCloudAlike_25 rfl ?_
    refine V_iload_n K 3 dX9_leastCloudAlike_26 rfl ?_
    refine V_pv_partOf K tb_509 hr1 dX9_leastCloudAlike_27 (Nat.le_of_ble_eq_true rfl) ?_
    refine V_iload_n K 2 dX9_leastCloudAlike_30 rfl ?_
    rcases if_inv E with ⟨c4, E⟩ | ⟨c4, E⟩
    · refine V_ic_ne_f K 36 dX9_leastCloudAlike_31 (by decide) c4 ?_
      refine V_iload_n K 3 dX9_leastCloudAlike_34 rfl ?_
      cases E
      exact V_iret K dX9_leastCloudAlike_35 rfl T
    · refine V_ic_ne_t K 36 dX9_leastCloudAlike_31 (by decide) c4 ?_
      obtain ⟨v5, e6, E⟩ := lt_inv E
      refine V_iinc (lv' := [(3, .int v5), (0, .ref (ad x 0)), (1, .ref (ad x r1)), (2, .int x2)]) K 3 dX9_leastCloudAlike_36 rfl (by rw [e6]; rfl) (by decide) rfl ?_
      refine V_goto K 14 dX9_leastCloudAlike_39 (by decide) ?_
      cases E
      exact V_sub [1, 2, 3, 0] rfl T
def X9_leastCloudAlike (a1 : Nat) (h : Hp) : Option Int32 :=
  lt_ (pv_partOf a1 (h.1 19 7)) fun v1 =>
  obS1 (lp (fun s : Int32 => X9_leastCloudAlike_s14 a1 v1 h s) FU (0 : Int32)) (fun q => some q) fun v7 =>
  some (h.1 19 7)
set_option maxHeartbeats 4000000 in
set_option maxRecDepth 100000 in
theorem w_X9_leastCloudAlike {x : Cx} {d : Nat} (K : Ok x cX9_leastCloudAlike RX9 4 (some .int) (d + 3)) (a1 : Nat) (h : Hp) (ha1 : isP a1) {z : Int32} (E : X9_leastCloudAlike a1 h = some z) (T : x.2.2.2.2 = (some (.int z), h)) : VV x 0 [(0, .ref (ad x 0)), (1, .ref (ad x a1))] [] h := by
  unfold X9_leastCloudAlike at E
  refine V_aload_n K 1 dX9_leastCloudAlike_0 rfl ?_
  refine V_aload_n K 0 dX9_leastCloudAlike_1 rfl ?_
  refine gf_X9_71 K dX9_leastCloudAlike_2 ?_
  refine gf_X9_159 K k_19 dX9_leastCloudAlike_5 ?_
  refine V_pv_partOf K tb_509 ha1 dX9_leastCloudAlike_8 (Nat.le_of_ble_eq_true rfl) ?_
  obtain ⟨v1, e2, E⟩ := lt_inv E
  refine V_top e2 ?_
  refine V_istore_n (lv' := [(2, .int v1), (0, .ref (ad x 0)), (1, .ref (ad x a1))]) K dX9_leastCloudAlike_11 (by decide) rfl ?_
  refine V_ic (v := 0) K dX9_leastCloudAlike_12 rfl ?_
  refine V_istore_n (lv' := [(3, .int (0 : Int32)), (2, .int v1), (0, .ref (ad x 0)), (1, .ref (ad x a1))]) K dX9_leastCloudAlike_13 (by decide) rfl ?_
  rcases obS1_inv E with ⟨q, q8, E⟩ | ⟨v7, q8, E⟩
  · cases E
    exact V_sub [2, 3, 1, 0] rfl (wl_X9_leastCloudAlike_s14 K a1 v1 h ha1 _ _ _ q8 T)
  · refine V_sub [2, 3, 1, 0] rfl (wl_X9_leastCloudAlike_s14 K a1 v1 h ha1 _ _ _ q8 ?_)
    show VV x 42 [(0, .ref (ad x 0)), (1, .ref (ad x a1)), (2, .int v1), (3, .int v7)] [] h
    refine V_aload_n K 0 dX9_leastCloudAlike_42 rfl ?_
    refine gf_X9_71 K dX9_leastCloudAlike_43 ?_
    refine gf_X9_159 K k_19 dX9_leastCloudAlike_46 ?_
    cases E
    exact V_iret K dX9_leastCloudAlike_49 rfl T
theorem c_X9_leastCloudAlike (d : Nat) (a1 : Nat) (h : Hp) (ha1 : isP a1) {r : Int32} (E : X9_leastCloudAlike a1 h = some r) : Runs (d + 3) yX9_leastCloudAlike cX9_leastCloudAlike 4 (some .int) (fun f => [.ref (f 0), .ref (f a1)]) h (fun _ => some (.int r)) h :=
  Runs.of (by decide +kernel) (fun _ => Nat.le_of_ble_eq_true rfl) (fun x K T => w_X9_leastCloudAlike K  a1 h ha1 E T)
def X9_lots_s63 (x1 : Int32) (y3 : Int64) (y5 : Int32) (h : Hp) : Option ((Int64 × Int32 × Hp) ⊕ (Int64 × Int32 × Hp)) :=
  if x1 ≤ y5 then (some (.inl (y3, y5, h)))
  else (lt_ (lrm (y3 * (48271 : Int64)) (2147483647 : Int64)) fun v10 =>
  ob (X9_doLot (v10.toInt32) h) fun h13 =>
  lt_ (y5 + (1 : Int32)) fun v14 =>
  some (.inr (v10, v14, h13)))
set_option maxHeartbeats 4000000 in
set_option maxRecDepth 100000 in
theorem wl_X9_lots_s63 {x : Cx} {d : Nat} (K : Ok x cX9_lots RX9 6 (some .int) (d + 8)) (x1 : Int32)  : ∀ (n : Nat) (s : Int64 × Int32 × Hp) (r : (Int64 × Int32 × Hp)), lp (fun s : Int64 × Int32 × Hp => X9_lots_s63 x1 s.1 s.2.1 s.2.2) n s = some r → (fun r : (Int64 × Int32 × Hp) => VV x 91 [(0, .ref (ad x 0)), (1, .int x1), (3, .long (r.1)), (5, .int (r.2.1))] [] r.2.2) r → (fun s : Int64 × Int32 × Hp => VV x 63 [(0, .ref (ad x 0)), (1, .int x1), (3, .long (s.1)), (5, .int (s.2.1))] [] s.2.2) s := by
  refine lp_walk ?_
  intro s z E T
  obtain ⟨y3, y5, h⟩ := s
  replace E : X9_lots_s63 x1 y3 y5 h = some z := E
  unfold X9_lots_s63 at E
  show VV x 63 [(0, .ref (ad x 0)), (1, .int x1), (3, .long y3), (5, .int y5)] [] h
  refine V_iload K 3 dX9_lots_63 rfl ?_
  refine V_iload_n K 1 dX9_lots_65 rfl ?_
  rcases if_inv E with ⟨c9, E⟩ | ⟨c9, E⟩
  · refine V_ic_ge_t K 91 dX9_lots_66 (by decide) c9 ?_
    cases E
    exact V_sub [0, 1, 2, 3] rfl T
  · refine V_ic_ge_f K 91 dX9_lots_66 (by decide) c9 ?_
    refine V_lload_n K 2 dX9_lots_69 rfl ?_
    refine V_ldc2 (v := 48271) K tb_511 dX9_lots_70 ?_
    refine V_lmul K dX9_lots_73 ?_
    refine V_ldc2 (v := 2147483647) K tb_510 dX9_lots_74 ?_
    refine V_lrem K dX9_lots_77 (by decide) ?_
    obtain ⟨v10, e11, E⟩ := lt_inv E
    refine V_topl e11 ?_
    refine V_lstore_n (lv' := [(3, .long v10), (0, .ref (ad x 0)), (1, .int x1), (5, .int y5)]) K dX9_lots_78 (by decide) rfl ?_
    refine V_aload_n K 1 dX9_lots_79 rfl ?_
    refine V_lload_n K 0 dX9_lots_80 rfl ?_
    refine V_l2i K dX9_lots_81 ?_
    obtain ⟨h13, q12, E⟩ := ob_inv E
    refine iv_X9_267 K (c_X9_doLot _ (v10.toInt32) h q12) dX9_lots_82 (Nat.le_of_ble_eq_true rfl) ?_
    obtain ⟨v14, e15, E⟩ := lt_inv E
    refine V_iinc (lv' := [(5, .int v14), (3, .long v10), (0, .ref (ad x 0)), (1, .int x1)]) K 3 dX9_lots_85 rfl (by rw [e15]; rfl) (by decide) rfl ?_
    refine V_goto K 63 dX9_lots_88 (by decide) ?_
    cases E
    exact V_sub [2, 3, 1, 0] rfl T
def X9_lots (a1 : Int32) (a2 : Int32) (h : Hp) : Option (Int32 × Hp) :=
  if a1 < (1 : Int32) then (some ((-1 : Int32), h))
  else (if (20 : Int32) < a1 then (some ((-1 : Int32), h))
  else (if a2 < (1 : Int32) then (some ((-1 : Int32), h))
  else (if (lg_cmp (a2.toInt64) (2147483647 : Int64)) < (0 : Int32) then (if (h.1 19 6) = (0 : Int32) then (some ((-4 : Int32), h))
  else (if ((h.1 27 1) + a1) ≤ (40 : Int32) then (lt_ (a2.toInt64) fun v7 =>
  ob3 (lp (fun s : Int64 × Int32 × Hp => X9_lots_s63 a1 s.1 s.2.1 s.2.2) FU (v7, (0 : Int32), h)) fun v16 v17 h18 =>
  ob (X4_inAll 19 h18) fun r19 =>
  some (r19, h18))
  else (some ((-2 : Int32), h))))
  else (some ((-1 : Int32), h)))))
set_option maxHeartbeats 4000000 in
set_option maxRecDepth 100000 in
theorem w_X9_lots {x : Cx} {d : Nat} (K : Ok x cX9_lots RX9 6 (some .int) (d + 8)) (a1 : Int32) (a2 : Int32) (h : Hp)  {z : Int32 × Hp} (E : X9_lots a1 a2 h = some z) (T : x.2.2.2.2 = (some (.int (z.1)), z.2)) : VV x 0 [(0, .ref (ad x 0)), (1, .int a1), (2, .int a2)] [] h := by
  unfold X9_lots at E
  refine V_iload_n K 1 dX9_lots_0 rfl ?_
  refine V_ic (v := 1) K dX9_lots_1 rfl ?_
  rcases if_inv E with ⟨c1, E⟩ | ⟨c1, E⟩
  · refine V_ic_lt_t K 25 dX9_lots_2 (by decide) c1 ?_
    refine V_ic (v := -1) K dX9_lots_25 rfl ?_
    cases E
    exact V_iret K dX9_lots_26 rfl T
  · refine V_ic_lt_f K 25 dX9_lots_2 (by decide) c1 ?_
    refine V_iload_n K 1 dX9_lots_5 rfl ?_
    refine V_bp (v := 20) K dX9_lots_6 rfl ?_
    rcases if_inv E with ⟨c2, E⟩ | ⟨c2, E⟩
    · refine V_ic_gt_t K 25 dX9_lots_8 (by decide) c2 ?_
      refine V_ic (v := -1) K dX9_lots_25 rfl ?_
      cases E
      exact V_iret K dX9_lots_26 rfl T
    · refine V_ic_gt_f K 25 dX9_lots_8 (by decide) c2 ?_
      refine V_iload_n K 2 dX9_lots_11 rfl ?_
      refine V_ic (v := 1) K dX9_lots_12 rfl ?_
      rcases if_inv E with ⟨c3, E⟩ | ⟨c3, E⟩
      · refine V_ic_lt_t K 25 dX9_lots_13 (by decide) c3 ?_
        refine V_ic (v := -1) K dX9_lots_25 rfl ?_
        cases E
        exact V_iret K dX9_lots_26 rfl T
      · refine V_ic_lt_f K 25 dX9_lots_13 (by decide) c3 ?_
        refine V_iload_n K 2 dX9_lots_16 rfl ?_
        refine V_i2l K dX9_lots_17 ?_
        refine V_ldc2 (v := 2147483647) K tb_510 dX9_lots_18 ?_
        refine V_lcmp K dX9_lots_21 ?_
        rcases if_inv E with ⟨c4, E⟩ | ⟨c4, E⟩
        · refine V_if_lt_t K 27 dX9_lots_22 (by decide) c4 ?_
          refine V_aload_n K 0 dX9_lots_27 rfl ?_
          refine gf_X9_71 K dX9_lots_28 ?_
          refine gf_X9_127 K k_19 dX9_lots_31 ?_
          rcases if_inv E with ⟨c5, E⟩ | ⟨c5, E⟩
          · refine V_if_ne_f K 40 dX9_lots_34 (by decide) c5 ?_
            refine V_bp (v := -4) K dX9_lots_37 rfl ?_
            cases E
            exact V_iret K dX9_lots_39 rfl T
          · refine V_if_ne_t K 40 dX9_lots_34 (by decide) c5 ?_
            refine V_aload_n K 0 dX9_lots_40 rfl ?_
            refine gf_X9_31 K dX9_lots_41 ?_
            refine gf_X9_124 K k_27 dX9_lots_44 ?_
            refine V_iload_n K 1 dX9_lots_47 rfl ?_
            refine V_iadd K dX9_lots_48 ?_
            refine V_bp (v := 40) K dX9_lots_49 rfl ?_
            rcases if_inv E with ⟨c6, E⟩ | ⟨c6, E⟩
            · refine V_ic_le_t K 57 dX9_lots_51 (by decide) c6 ?_
              refine V_iload_n K 2 dX9_lots_57 rfl ?_
              refine V_i2l K dX9_lots_58 ?_
              obtain ⟨v7, e8, E⟩ := lt_inv E
              refine V_topl e8 ?_
              refine V_lstore_n (lv' := [(3, .long v7), (0, .ref (ad x 0)), (1, .int a1), (2, .int a2)]) K dX9_lots_59 (by decide) rfl ?_
              refine V_ic (v := 0) K dX9_lots_60 rfl ?_
              refine V_istore (lv' := [(5, .int (0 : Int32)), (3, .long v7), (0, .ref (ad x 0)), (1, .int a1), (2, .int a2)]) K dX9_lots_61 (by decide) rfl ?_
              obtain ⟨v16, v17, h18, q21, E⟩ := ob3_inv E
              refine V_sub [2, 3, 1, 0] rfl (wl_X9_lots_s63 K a1  _ _ _ q21 ?_)
              show VV x 91 [(0, .ref (ad x 0)), (1, .int a1), (3, .long v16), (5, .int v17)] [] h18
              refine V_aload_n K 0 dX9_lots_91 rfl ?_
              refine gf_X9_71 K dX9_lots_92 ?_
              obtain ⟨r19, q20, E⟩ := ob_inv E
              refine iv_X9_142 K k_19 (c_X4_inAll _ 19 h18 k_19 q20) dX9_lots_95 (Nat.le_of_ble_eq_true rfl) ?_
              cases E
              exact V_iret K dX9_lots_98 rfl T
            · refine V_ic_le_f K 57 dX9_lots_51 (by decide) c6 ?_
              refine V_bp (v := -2) K dX9_lots_54 rfl ?_
              cases E
              exact V_iret K dX9_lots_56 rfl T
        · refine V_if_lt_f K 27 dX9_lots_22 (by decide) c4 ?_
          refine V_ic (v := -1) K dX9_lots_25 rfl ?_
          cases E
          exact V_iret K dX9_lots_26 rfl T
theorem c_X9_lots (d : Nat) (a1 : Int32) (a2 : Int32) (h : Hp)  {r : Int32} {h' : Hp} (E : X9_lots a1 a2 h = some (r, h')) : Runs (d + 8) yX9_lots cX9_lots 6 (some .int) (fun f => [.ref (f 0), .int a1, .int a2]) h (fun _ => some (.int r)) h' :=
  Runs.of (by decide +kernel) (fun _ => Nat.le_of_ble_eq_true rfl) (fun x K T => w_X9_lots K  a1 a2 h  E T)
def X9_lower  (h : Hp) : Int64 :=
  h.2 0 14
set_option maxHeartbeats 4000000 in
set_option maxRecDepth 100000 in
theorem w_X9_lower {x : Cx} {d : Nat} (K : Ok x cX9_lower RX9 1 (some .long) (d + 0))  (h : Hp)  {z : Int64} (E : X9_lower  h = z) (T : x.2.2.2.2 = (some (.long z), h)) : VV x 0 [(0, .ref (ad x 0))] [] h := by
  unfold X9_lower at E
  refine V_aload_n K 0 dX9_lower_0 rfl ?_
  refine gf_X9_56 K dX9_lower_1 ?_
  cases E
  exact V_lret K dX9_lower_4 T
theorem c_X9_lower (d : Nat)  (h : Hp)  : Runs (d + 0) yX9_lower cX9_lower 1 (some .long) (fun f => [.ref (f 0)]) h (fun _ => some (.long (X9_lower  h))) h :=
  Runs.of (by decide +kernel) (fun _ => Nat.le_of_ble_eq_true rfl) (fun x K T => w_X9_lower K   h  rfl T)
def X9_mark (a1 : Int32) (a2 : Int32) (h : Hp) : Option (Int32 × Hp) :=
  if (X4_isOne 19 a1 h) = (0 : Int32) then (some ((-1 : Int32), h))
  else (if a2 ≤ (0 : Int32) then (some ((-1 : Int32), h))
  else (if a2 < (6 : Int32) then (ob (X4_personOf 19 a1 h) fun r4 =>
  gd (pB r4) (
  if a2 = (1 : Int32) then (if (inBeard r4) = (0 : Int32) then (ob2 (X9_answerFinding (3 : Int32) h) fun r11 h10 =>
  some (r11, h10))
  else (ob (X4_inAll 19 h) fun r12 =>
  gd (ib a1 6) (
  some ((r12 - (h.1 22 (ix a1))), h))))
  else (if a2 = (2 : Int32) then (if (inBag r4) = (0 : Int32) then (ob2 (X9_answerFinding (3 : Int32) h) fun r19 h18 =>
  some (r19, h18))
  else (gd (ib a1 6) (
  some (((30 : Int32) - (h.1 22 (ix a1))), h))))
  else (if a2 = (3 : Int32) then (if (inWasp r4) = (0 : Int32) then (ob2 (X9_answerFinding (3 : Int32) h) fun r25 h24 =>
  some (r25, h24))
  else (ob (X9_leastCloudAlike r4 h) fun r26 =>
  some (r26, h)))
  else (if a2 = (4 : Int32) then (if (inBishop r4) = (0 : Int32) then (ob2 (X9_answerFinding (3 : Int32) h) fun r32 h31 =>
  some (r32, h31))
  else (some (((60 : Int32) - (h.1 19 7)), h)))
  else (if (inGirl r4) = (0 : Int32) then (ob2 (X9_answerFinding (3 : Int32) h) fun r36 h35 =>
  some (r36, h35))
  else (some (mxI (0 : Int32) ((20 : Int32) - (h.1 19 7)), h))))))))
  else (some ((-1 : Int32), h))))
set_option maxHeartbeats 4000000 in
set_option maxRecDepth 100000 in
theorem w_X9_mark {x : Cx} {d : Nat} (K : Ok x cX9_mark RX9 4 (some .int) (d + 4)) (a1 : Int32) (a2 : Int32) (h : Hp)  {z : Int32 × Hp} (E : X9_mark a1 a2 h = some z) (T : x.2.2.2.2 = (some (.int (z.1)), z.2)) : VV x 0 [(0, .ref (ad x 0)), (1, .int a1), (2, .int a2)] [] h := by
  unfold X9_mark at E
  refine V_aload_n K 0 dX9_mark_0 rfl ?_
  refine gf_X9_71 K dX9_mark_1 ?_
  refine V_iload_n K 1 dX9_mark_4 rfl ?_
  refine iv_X9_130 K k_19 (c_X4_isOne _ 19 a1 h k_19) dX9_mark_5 (Nat.le_of_ble_eq_true rfl) ?_
  rcases if_inv E with ⟨c1, E⟩ | ⟨c1, E⟩
  · refine V_if_eq_t K 21 dX9_mark_8 (by decide) c1 ?_
    refine V_ic (v := -1) K dX9_mark_21 rfl ?_
    cases E
    exact V_iret K dX9_mark_22 rfl T
  · refine V_if_eq_f K 21 dX9_mark_8 (by decide) c1 ?_
    refine V_iload_n K 2 dX9_mark_11 rfl ?_
    rcases if_inv E with ⟨c2, E⟩ | ⟨c2, E⟩
    · refine V_if_le_t K 21 dX9_mark_12 (by decide) c2 ?_
      refine V_ic (v := -1) K dX9_mark_21 rfl ?_
      cases E
      exact V_iret K dX9_mark_22 rfl T
    · refine V_if_le_f K 21 dX9_mark_12 (by decide) c2 ?_
      refine V_iload_n K 2 dX9_mark_15 rfl ?_
      refine V_bp (v := 6) K dX9_mark_16 rfl ?_
      rcases if_inv E with ⟨c3, E⟩ | ⟨c3, E⟩
      · refine V_ic_lt_t K 23 dX9_mark_18 (by decide) c3 ?_
        refine V_aload_n K 0 dX9_mark_23 rfl ?_
        refine gf_X9_71 K dX9_mark_24 ?_
        refine V_iload_n K 1 dX9_mark_27 rfl ?_
        obtain ⟨r4, q5, E⟩ := ob_inv E
        refine iv_X9_136 K k_19 (c_X4_personOf _ 19 a1 h k_19 q5) dX9_mark_28 (Nat.le_of_ble_eq_true rfl) ?_
        obtain ⟨g6, E⟩ := gd_inv E
        refine V_astore_n (lv' := [(3, .ref (ad x r4)), (0, .ref (ad x 0)), (1, .int a1), (2, .int a2)]) K dX9_mark_31 (by decide) rfl ?_
        refine V_iload_n K 3 dX9_mark_32 rfl ?_
        rcases if_inv E with ⟨c7, E⟩ | ⟨c7, E⟩
        · refine V_tin (off := 31) K 64 dX9_mark_33 (by rw [c7]; decide) (by rw [c7]; decide) (by rw [c7]; rfl) (by decide) ?_
          refine V_aload_n K 0 dX9_mark_64 rfl ?_
          refine V_instBeard K tb_356 (pB_P g6) dX9_mark_65 ?_
          rcases if_inv E with ⟨c8, E⟩ | ⟨c8, E⟩
          · refine V_if_eq_t K 91 dX9_mark_68 (by decide) c8 ?_
            refine V_aload_n K 1 dX9_mark_91 rfl ?_
            refine V_ic (v := 3) K dX9_mark_92 rfl ?_
            obtain ⟨r11, h10, q9, E⟩ := ob2_inv E
            refine iv_X9_87 K (c_X9_answerFinding _ (3 : Int32) h q9) dX9_mark_93 (Nat.le_of_ble_eq_true rfl) ?_
            cases E
            exact V_iret K dX9_mark_96 rfl T
          · refine V_if_eq_f K 91 dX9_mark_68 (by decide) c8 ?_
            refine V_aload_n K 1 dX9_mark_71 rfl ?_
            refine gf_X9_71 K dX9_mark_72 ?_
            obtain ⟨r12, q13, E⟩ := ob_inv E
            refine iv_X9_142 K k_19 (c_X4_inAll _ 19 h k_19 q13) dX9_mark_75 (Nat.le_of_ble_eq_true rfl) ?_
            refine V_aload_n K 1 dX9_mark_78 rfl ?_
            refine gf_X9_71 K dX9_mark_79 ?_
            refine gf_X9_146 K k_19 dX9_mark_82 ?_
            refine V_iload_n K 2 dX9_mark_85 rfl ?_
            obtain ⟨g14, E⟩ := gd_inv E
            refine V_iald K k_22 n_22 g14 dX9_mark_86 ?_
            refine V_isub K dX9_mark_87 ?_
            refine V_goto K 96 dX9_mark_88 (by decide) ?_
            cases E
            exact V_iret K dX9_mark_96 rfl T
        · rcases if_inv E with ⟨c15, E⟩ | ⟨c15, E⟩
          · refine V_tin (off := 64) K 97 dX9_mark_33 (by rw [c15]; decide) (by rw [c15]; decide) (by rw [c15]; rfl) (by decide) ?_
            refine V_aload_n K 0 dX9_mark_97 rfl ?_
            refine V_instBag K tb_517 (pB_P g6) dX9_mark_98 ?_
            rcases if_inv E with ⟨c16, E⟩ | ⟨c16, E⟩
            · refine V_if_eq_t K 119 dX9_mark_101 (by decide) c16 ?_
              refine V_aload_n K 1 dX9_mark_119 rfl ?_
              refine V_ic (v := 3) K dX9_mark_120 rfl ?_
              obtain ⟨r19, h18, q17, E⟩ := ob2_inv E
              refine iv_X9_87 K (c_X9_answerFinding _ (3 : Int32) h q17) dX9_mark_121 (Nat.le_of_ble_eq_true rfl) ?_
              cases E
              exact V_iret K dX9_mark_124 rfl T
            · refine V_if_eq_f K 119 dX9_mark_101 (by decide) c16 ?_
              refine V_bp (v := 30) K dX9_mark_104 rfl ?_
              refine V_aload_n K 1 dX9_mark_106 rfl ?_
              refine gf_X9_71 K dX9_mark_107 ?_
              refine gf_X9_146 K k_19 dX9_mark_110 ?_
              refine V_iload_n K 2 dX9_mark_113 rfl ?_
              obtain ⟨g20, E⟩ := gd_inv E
              refine V_iald K k_22 n_22 g20 dX9_mark_114 ?_
              refine V_isub K dX9_mark_115 ?_
              refine V_goto K 124 dX9_mark_116 (by decide) ?_
              cases E
              exact V_iret K dX9_mark_124 rfl T
          · rcases if_inv E with ⟨c21, E⟩ | ⟨c21, E⟩
            · refine V_tin (off := 92) K 125 dX9_mark_33 (by rw [c21]; decide) (by rw [c21]; decide) (by rw [c21]; rfl) (by decide) ?_
              refine V_aload_n K 0 dX9_mark_125 rfl ?_
              refine V_instWasp K tb_365 (pB_P g6) dX9_mark_126 ?_
              rcases if_inv E with ⟨c22, E⟩ | ⟨c22, E⟩
              · refine V_if_eq_t K 140 dX9_mark_129 (by decide) c22 ?_
                refine V_aload_n K 1 dX9_mark_140 rfl ?_
                refine V_ic (v := 3) K dX9_mark_141 rfl ?_
                obtain ⟨r25, h24, q23, E⟩ := ob2_inv E
                refine iv_X9_87 K (c_X9_answerFinding _ (3 : Int32) h q23) dX9_mark_142 (Nat.le_of_ble_eq_true rfl) ?_
                cases E
                exact V_iret K dX9_mark_145 rfl T
              · refine V_if_eq_f K 140 dX9_mark_129 (by decide) c22 ?_
                refine V_aload_n K 1 dX9_mark_132 rfl ?_
                refine V_aload_n K 0 dX9_mark_133 rfl ?_
                obtain ⟨r26, q27, E⟩ := ob_inv E
                refine iv_X9_153 K (c_X9_leastCloudAlike _ r4 h (pB_P g6) q27) dX9_mark_134 (Nat.le_of_ble_eq_true rfl) ?_
                refine V_goto K 145 dX9_mark_137 (by decide) ?_
                cases E
                exact V_iret K dX9_mark_145 rfl T
            · rcases if_inv E with ⟨c28, E⟩ | ⟨c28, E⟩
              · refine V_tin (off := 113) K 146 dX9_mark_33 (by rw [c28]; decide) (by rw [c28]; decide) (by rw [c28]; rfl) (by decide) ?_
                refine V_aload_n K 0 dX9_mark_146 rfl ?_
                refine V_instBishop K tb_522 (pB_P g6) dX9_mark_147 ?_
                rcases if_inv E with ⟨c29, E⟩ | ⟨c29, E⟩
                · refine V_if_eq_t K 166 dX9_mark_150 (by decide) c29 ?_
                  refine V_aload_n K 1 dX9_mark_166 rfl ?_
                  refine V_ic (v := 3) K dX9_mark_167 rfl ?_
                  obtain ⟨r32, h31, q30, E⟩ := ob2_inv E
                  refine iv_X9_87 K (c_X9_answerFinding _ (3 : Int32) h q30) dX9_mark_168 (Nat.le_of_ble_eq_true rfl) ?_
                  cases E
                  exact V_iret K dX9_mark_171 rfl T
                · refine V_if_eq_f K 166 dX9_mark_150 (by decide) c29 ?_
                  refine V_bp (v := 60) K dX9_mark_153 rfl ?_
                  refine V_aload_n K 1 dX9_mark_155 rfl ?_
                  refine gf_X9_71 K dX9_mark_156 ?_
                  refine gf_X9_159 K k_19 dX9_mark_159 ?_
                  refine V_isub K dX9_mark_162 ?_
                  refine V_goto K 171 dX9_mark_163 (by decide) ?_
                  cases E
                  exact V_iret K dX9_mark_171 rfl T
              · refine V_tout K 172 dX9_mark_33 (by have n0 := lv_neT c7 (a := 1) (by decide); have n1 := lv_neT c15 (a := 2) (by decide); have n2 := lv_neT c21 (a := 3) (by decide); have n3 := lv_neT c28 (a := 4) (by decide); omega) (by decide) ?_
                refine V_aload_n K 0 dX9_mark_172 rfl ?_
                refine V_instGirl K tb_523 (pB_P g6) dX9_mark_173 ?_
                rcases if_inv E with ⟨c33, E⟩ | ⟨c33, E⟩
                · refine V_if_eq_t K 196 dX9_mark_176 (by decide) c33 ?_
                  refine V_aload_n K 1 dX9_mark_196 rfl ?_
                  refine V_ic (v := 3) K dX9_mark_197 rfl ?_
                  obtain ⟨r36, h35, q34, E⟩ := ob2_inv E
                  refine iv_X9_87 K (c_X9_answerFinding _ (3 : Int32) h q34) dX9_mark_198 (Nat.le_of_ble_eq_true rfl) ?_
                  cases E
                  exact V_iret K dX9_mark_201 rfl T
                · refine V_if_eq_f K 196 dX9_mark_176 (by decide) c33 ?_
                  refine V_ic (v := 0) K dX9_mark_179 rfl ?_
                  refine V_bp (v := 20) K dX9_mark_180 rfl ?_
                  refine V_aload_n K 1 dX9_mark_182 rfl ?_
                  refine gf_X9_71 K dX9_mark_183 ?_
                  refine gf_X9_159 K k_19 dX9_mark_186 ?_
                  refine V_isub K dX9_mark_189 ?_
                  refine V_max K tb_446 tb_447 tb_5 tb_448 (Nat.le_of_ble_eq_true rfl) dX9_mark_190 ?_
                  refine V_goto K 201 dX9_mark_193 (by decide) ?_
                  cases E
                  exact V_iret K dX9_mark_201 rfl T
      · refine V_ic_lt_f K 23 dX9_mark_18 (by decide) c3 ?_
        refine V_ic (v := -1) K dX9_mark_21 rfl ?_
        cases E
        exact V_iret K dX9_mark_22 rfl T
theorem c_X9_mark (d : Nat) (a1 : Int32) (a2 : Int32) (h : Hp)  {r : Int32} {h' : Hp} (E : X9_mark a1 a2 h = some (r, h')) : Runs (d + 4) yX9_mark cX9_mark 4 (some .int) (fun f => [.ref (f 0), .int a1, .int a2]) h (fun _ => some (.int r)) h' :=
  Runs.of (by decide +kernel) (fun _ => Nat.le_of_ble_eq_true rfl) (fun x K T => w_X9_mark K  a1 a2 h  E T)
def X9_mean_s35 (x1 : Int32) (x3 : Int32) (h : Hp) (y4 : Int64) (y6 : Int32) : Option ((Int64 × Int32) ⊕ (Int64 × Int32)) :=
  if x3 ≤ y6 then (some (.inl (y4, y6)))
  else (gd (ib x1 6) (
  gd (ib y6 40) (
  lt_ (y4 + ((h.1 (2 + ix x1) (ix y6)).toInt64)) fun v15 =>
  lt_ (y6 + (1 : Int32)) fun v17 =>
  some (.inr (v15, v17)))))
set_option maxHeartbeats 4000000 in
set_option maxRecDepth 100000 in
theorem wl_X9_mean_s35 {x : Cx} {d : Nat} (K : Ok x cX9_mean RX9 7 (some .int) (d + 2)) (x1 : Int32) (x3 : Int32) (h : Hp)  : ∀ (n : Nat) (s : Int64 × Int32) (r : (Int64 × Int32)), lp (fun s : Int64 × Int32 => X9_mean_s35 x1 x3 h s.1 s.2) n s = some r → (fun r : (Int64 × Int32) => VV x 62 [(0, .ref (ad x 0)), (1, .int x1), (3, .int x3), (4, .long (r.1)), (6, .int (r.2))] [] h) r → (fun s : Int64 × Int32 => VV x 35 [(0, .ref (ad x 0)), (1, .int x1), (3, .int x3), (4, .long (s.1)), (6, .int (s.2))] [] h) s := by
  refine lp_walk ?_
  intro s z E T
  obtain ⟨y4, y6⟩ := s
  replace E : X9_mean_s35 x1 x3 h y4 y6 = some z := E
  unfold X9_mean_s35 at E
  show VV x 35 [(0, .ref (ad x 0)), (1, .int x1), (3, .int x3), (4, .long y4), (6, .int y6)] [] h
  refine V_iload K 4 dX9_mean_35 rfl ?_
  refine V_iload_n K 2 dX9_mean_37 rfl ?_
  rcases if_inv E with ⟨c12, E⟩ | ⟨c12, E⟩
  · refine V_ic_ge_t K 62 dX9_mean_38 (by decide) c12 ?_
    cases E
    exact V_sub [0, 1, 2, 3, 4] rfl T
  · refine V_ic_ge_f K 62 dX9_mean_38 (by decide) c12 ?_
    refine V_lload K 3 dX9_mean_41 rfl ?_
    refine V_aload_n K 0 dX9_mean_43 rfl ?_
    refine gf_X9_11 K dX9_mean_44 ?_
    refine V_iload_n K 1 dX9_mean_47 rfl ?_
    obtain ⟨g13, E⟩ := gd_inv E
    refine V_aaload15 K k_1 g13 (rowR g13) dX9_mean_48 ?_
    refine V_iload K 4 dX9_mean_49 rfl ?_
    obtain ⟨g14, E⟩ := gd_inv E
    refine V_iald K (rowK g13) (rowN g13) g14 dX9_mean_51 ?_
    refine V_i2l K dX9_mean_52 ?_
    refine V_ladd K dX9_mean_53 ?_
    obtain ⟨v15, e16, E⟩ := lt_inv E
    refine V_topl e16 ?_
    refine V_lstore (lv' := [(4, .long v15), (0, .ref (ad x 0)), (1, .int x1), (3, .int x3), (6, .int y6)]) K dX9_mean_54 (by decide) rfl ?_
    obtain ⟨v17, e18, E⟩ := lt_inv E
    refine V_iinc (lv' := [(6, .int v17), (4, .long v15), (0, .ref (ad x 0)), (1, .int x1), (3, .int x3)]) K 4 dX9_mean_56 rfl (by rw [e18]; rfl) (by decide) rfl ?_
    refine V_goto K 35 dX9_mean_59 (by decide) ?_
    cases E
    exact V_sub [2, 3, 4, 1, 0] rfl T
def X9_mean (a1 : Int32) (h : Hp) : Option (Int32 × Hp) :=
  ob2 (X9_refusedRow a1 h) fun r3 h2 =>
  if r3 = (0 : Int32) then (gd (ib a1 6) (
  lt_ (h2.1 8 (ix a1)) fun v6 =>
  if v6 = (0 : Int32) then (ob2 (X9_answerFinding (4 : Int32) h2) fun r11 h10 =>
  some (r11, h10))
  else (ob2 (lp (fun s : Int64 × Int32 => X9_mean_s35 a1 v6 h2 s.1 s.2) FU ((0 : Int64), (0 : Int32))) fun v19 v20 =>
  gd (nzL (v6.toInt64)) (
  lt_ (up h2 0 12 ((v19 / (v6.toInt64)).toInt32)) fun h22 =>
  some ((1 : Int32), h22)))))
  else (some (r3, h2))
set_option maxHeartbeats 4000000 in
set_option maxRecDepth 100000 in
theorem w_X9_mean {x : Cx} {d : Nat} (K : Ok x cX9_mean RX9 7 (some .int) (d + 2)) (a1 : Int32) (h : Hp)  {z : Int32 × Hp} (E : X9_mean a1 h = some z) (T : x.2.2.2.2 = (some (.int (z.1)), z.2)) : VV x 0 [(0, .ref (ad x 0)), (1, .int a1)] [] h := by
  unfold X9_mean at E
  refine V_aload_n K 0 dX9_mean_0 rfl ?_
  refine V_iload_n K 1 dX9_mean_1 rfl ?_
  obtain ⟨r3, h2, q1, E⟩ := ob2_inv E
  refine iv_X9_95 K (c_X9_refusedRow _ a1 h q1) dX9_mean_2 (Nat.le_of_ble_eq_true rfl) ?_
  refine V_istore_n (lv' := [(2, .int r3), (0, .ref (ad x 0)), (1, .int a1)]) K dX9_mean_5 (by decide) rfl ?_
  refine V_iload_n K 0 dX9_mean_6 rfl ?_
  rcases if_inv E with ⟨c4, E⟩ | ⟨c4, E⟩
  · refine V_if_eq_t K 12 dX9_mean_7 (by decide) c4 ?_
    refine V_aload_n K 1 dX9_mean_12 rfl ?_
    refine gf_X9_14 K dX9_mean_13 ?_
    refine V_iload_n K 2 dX9_mean_16 rfl ?_
    obtain ⟨g5, E⟩ := gd_inv E
    refine V_iald K k_8 n_8 g5 dX9_mean_17 ?_
    obtain ⟨v6, e7, E⟩ := lt_inv E
    refine V_top e7 ?_
    refine V_istore_n (lv' := [(3, .int v6), (2, .int r3), (0, .ref (ad x 0)), (1, .int a1)]) K dX9_mean_18 (by decide) rfl ?_
    refine V_iload_n K 0 dX9_mean_19 rfl ?_
    rcases if_inv E with ⟨c8, E⟩ | ⟨c8, E⟩
    · refine V_if_ne_f K 29 dX9_mean_20 (by decide) c8 ?_
      refine V_aload_n K 2 dX9_mean_23 rfl ?_
      refine V_ic (v := 4) K dX9_mean_24 rfl ?_
      obtain ⟨r11, h10, q9, E⟩ := ob2_inv E
      refine iv_X9_87 K (c_X9_answerFinding _ (4 : Int32) h2 q9) dX9_mean_25 (Nat.le_of_ble_eq_true rfl) ?_
      cases E
      exact V_iret K dX9_mean_28 rfl T
    · refine V_if_ne_t K 29 dX9_mean_20 (by decide) c8 ?_
      refine V_lc (v := 0) K dX9_mean_29 rfl ?_
      refine V_lstore (lv' := [(4, .long (0 : Int64)), (3, .int v6), (2, .int r3), (0, .ref (ad x 0)), (1, .int a1)]) K dX9_mean_30 (by decide) rfl ?_
      refine V_ic (v := 0) K dX9_mean_32 rfl ?_
      refine V_istore (lv' := [(6, .int (0 : Int32)), (4, .long (0 : Int64)), (3, .int v6), (2, .int r3), (0, .ref (ad x 0)), (1, .int a1)]) K dX9_mean_33 (by decide) rfl ?_
      obtain ⟨v19, v20, q24, E⟩ := ob2_inv E
      refine V_sub [4, 5, 2, 1, 0] rfl (wl_X9_mean_s35 K a1 v6 h2  _ _ _ q24 ?_)
      show VV x 62 [(0, .ref (ad x 0)), (1, .int a1), (3, .int v6), (4, .long v19), (6, .int v20)] [] h2
      refine V_aload_n K 0 dX9_mean_62 rfl ?_
      refine V_lload K 3 dX9_mean_63 rfl ?_
      refine V_iload_n K 2 dX9_mean_65 rfl ?_
      refine V_i2l K dX9_mean_66 ?_
      obtain ⟨g21, E⟩ := gd_inv E
      refine V_ldiv K dX9_mean_67 (nzL_ne g21) ?_
      refine V_l2i K dX9_mean_68 ?_
      obtain ⟨h22, e23, E⟩ := lt_inv E
      refine pf_X9_49 K dX9_mean_69 ?_
      refine V_hp e23 ?_
      refine V_ic (v := 1) K dX9_mean_72 rfl ?_
      cases E
      exact V_iret K dX9_mean_73 rfl T
  · refine V_if_eq_f K 12 dX9_mean_7 (by decide) c4 ?_
    refine V_iload_n K 0 dX9_mean_10 rfl ?_
    cases E
    exact V_iret K dX9_mean_11 rfl T
theorem c_X9_mean (d : Nat) (a1 : Int32) (h : Hp)  {r : Int32} {h' : Hp} (E : X9_mean a1 h = some (r, h')) : Runs (d + 2) yX9_mean cX9_mean 7 (some .int) (fun f => [.ref (f 0), .int a1]) h (fun _ => some (.int r)) h' :=
  Runs.of (by decide +kernel) (fun _ => Nat.le_of_ble_eq_true rfl) (fun x K T => w_X9_mean K  a1 h  E T)
def X9_power_s5 (x0 : Int64) (x2 : Int32) (y3 : Int64) (y5 : Int32) : Option ((Int64 × Int32) ⊕ (Int64 × Int32)) :=
  if x2 ≤ y5 then (some (.inl (y3, y5)))
  else (lt_ (y3 * x0) fun v2 =>
  lt_ (y5 + (1 : Int32)) fun v4 =>
  some (.inr (v2, v4)))
set_option maxHeartbeats 4000000 in
set_option maxRecDepth 100000 in
theorem wl_X9_power_s5 {x : Cx} {d : Nat} (K : Ok x cX9_power RX9 6 (some .long) (d + 0)) (x0 : Int64) (x2 : Int32) (h : Hp)  : ∀ (n : Nat) (s : Int64 × Int32) (r : (Int64 × Int32)), lp (fun s : Int64 × Int32 => X9_power_s5 x0 x2 s.1 s.2) n s = some r → (fun r : (Int64 × Int32) => VV x 21 [(0, .long x0), (2, .int x2), (3, .long (r.1)), (5, .int (r.2))] [] h) r → (fun s : Int64 × Int32 => VV x 5 [(0, .long x0), (2, .int x2), (3, .long (s.1)), (5, .int (s.2))] [] h) s := by
  refine lp_walk ?_
  intro s z E T
  obtain ⟨y3, y5⟩ := s
  replace E : X9_power_s5 x0 x2 y3 y5 = some z := E
  unfold X9_power_s5 at E
  show VV x 5 [(0, .long x0), (2, .int x2), (3, .long y3), (5, .int y5)] [] h
  refine V_iload K 3 dX9_power_5 rfl ?_
  refine V_iload_n K 1 dX9_power_7 rfl ?_
  rcases if_inv E with ⟨c1, E⟩ | ⟨c1, E⟩
  · refine V_ic_ge_t K 21 dX9_power_8 (by decide) c1 ?_
    cases E
    exact V_sub [0, 1, 2, 3] rfl T
  · refine V_ic_ge_f K 21 dX9_power_8 (by decide) c1 ?_
    refine V_lload_n K 2 dX9_power_11 rfl ?_
    refine V_lload_n K 0 dX9_power_12 rfl ?_
    refine V_lmul K dX9_power_13 ?_
    obtain ⟨v2, e3, E⟩ := lt_inv E
    refine V_topl e3 ?_
    refine V_lstore_n (lv' := [(3, .long v2), (0, .long x0), (2, .int x2), (5, .int y5)]) K dX9_power_14 (by decide) rfl ?_
    obtain ⟨v4, e5, E⟩ := lt_inv E
    refine V_iinc (lv' := [(5, .int v4), (3, .long v2), (0, .long x0), (2, .int x2)]) K 3 dX9_power_15 rfl (by rw [e5]; rfl) (by decide) rfl ?_
    refine V_goto K 5 dX9_power_18 (by decide) ?_
    cases E
    exact V_sub [2, 3, 1, 0] rfl T
def X9_power (a1 : Int64) (a2 : Int32) : Option Int64 :=
  ob2 (lp (fun s : Int64 × Int32 => X9_power_s5 a1 a2 s.1 s.2) FU ((1 : Int64), (0 : Int32))) fun v6 v7 =>
  some v6
set_option maxHeartbeats 4000000 in
set_option maxRecDepth 100000 in
theorem w_X9_power {x : Cx} {d : Nat} (K : Ok x cX9_power RX9 6 (some .long) (d + 0)) (a1 : Int64) (a2 : Int32) (h : Hp)  {z : Int64} (E : X9_power a1 a2 = some z) (T : x.2.2.2.2 = (some (.long z), h)) : VV x 0 [(0, .long a1), (2, .int a2)] [] h := by
  unfold X9_power at E
  refine V_lc (v := 1) K dX9_power_0 rfl ?_
  refine V_lstore_n (lv' := [(3, .long (1 : Int64)), (0, .long a1), (2, .int a2)]) K dX9_power_1 (by decide) rfl ?_
  refine V_ic (v := 0) K dX9_power_2 rfl ?_
  refine V_istore (lv' := [(5, .int (0 : Int32)), (3, .long (1 : Int64)), (0, .long a1), (2, .int a2)]) K dX9_power_3 (by decide) rfl ?_
  obtain ⟨v6, v7, q8, E⟩ := ob2_inv E
  refine V_sub [2, 3, 1, 0] rfl (wl_X9_power_s5 K a1 a2 h  _ _ _ q8 ?_)
  show VV x 21 [(0, .long a1), (2, .int a2), (3, .long v6), (5, .int v7)] [] h
  refine V_lload_n K 2 dX9_power_21 rfl ?_
  cases E
  exact V_lret K dX9_power_22 T
theorem c_X9_power (d : Nat) (a1 : Int64) (a2 : Int32) (h : Hp)  {r : Int64} (E : X9_power a1 a2 = some r) : Runs (d + 0) yX9_power cX9_power 6 (some .long) (fun f => [.long a1, .int a2]) h (fun _ => some (.long r)) h :=
  Runs.of (by decide +kernel) (fun _ => Nat.le_of_ble_eq_true rfl) (fun x K T => w_X9_power K  a1 a2 h  E T)
def X9_weightOf (a1 : Int32) (a2 : Int32) (h : Hp) : Option Int64 :=
  lt_ (J6_bitCount_0f7a4 a1) fun v1 =>
  ob (X9_power (a2.toInt64) v1) fun r3 =>
  ob (X9_power (((12 : Int32) - a2).toInt64) ((h.1 19 6) - v1)) fun r5 =>
  some (r3 * r5)
set_option maxHeartbeats 4000000 in
set_option maxRecDepth 100000 in
theorem w_X9_weightOf {x : Cx} {d : Nat} (K : Ok x cX9_weightOf RX9 4 (some .long) (d + 1)) (a1 : Int32) (a2 : Int32) (h : Hp)  {z : Int64} (E : X9_weightOf a1 a2 h = some z) (T : x.2.2.2.2 = (some (.long z), h)) : VV x 0 [(0, .ref (ad x 0)), (1, .int a1), (2, .int a2)] [] h := by
  unfold X9_weightOf at E
  refine V_iload_n K 1 dX9_weightOf_0 rfl ?_
  refine iv_X9_209 K (c_J6_bitCount_0f7a4 _ a1 h) dX9_weightOf_1 (Nat.le_of_ble_eq_true rfl) ?_
  obtain ⟨v1, e2, E⟩ := lt_inv E
  refine V_top e2 ?_
  refine V_istore_n (lv' := [(3, .int v1), (0, .ref (ad x 0)), (1, .int a1), (2, .int a2)]) K dX9_weightOf_4 (by decide) rfl ?_
  refine V_iload_n K 3 dX9_weightOf_5 rfl ?_
  refine V_i2l K dX9_weightOf_6 ?_
  refine V_iload_n K 0 dX9_weightOf_7 rfl ?_
  obtain ⟨r3, q4, E⟩ := ob_inv E
  refine iv_X9_259 K (c_X9_power _ (a2.toInt64) v1 h q4) dX9_weightOf_8 (Nat.le_of_ble_eq_true rfl) ?_
  refine V_bp (v := 12) K dX9_weightOf_11 rfl ?_
  refine V_iload_n K 3 dX9_weightOf_13 rfl ?_
  refine V_isub K dX9_weightOf_14 ?_
  refine V_i2l K dX9_weightOf_15 ?_
  refine V_aload_n K 1 dX9_weightOf_16 rfl ?_
  refine gf_X9_71 K dX9_weightOf_17 ?_
  refine gf_X9_127 K k_19 dX9_weightOf_20 ?_
  refine V_iload_n K 0 dX9_weightOf_23 rfl ?_
  refine V_isub K dX9_weightOf_24 ?_
  obtain ⟨r5, q6, E⟩ := ob_inv E
  refine iv_X9_259 K (c_X9_power _ (((12 : Int32) - a2).toInt64) ((h.1 19 6) - v1) h q6) dX9_weightOf_25 (Nat.le_of_ble_eq_true rfl) ?_
  refine V_lmul K dX9_weightOf_28 ?_
  cases E
  exact V_lret K dX9_weightOf_29 T
theorem c_X9_weightOf (d : Nat) (a1 : Int32) (a2 : Int32) (h : Hp)  {r : Int64} (E : X9_weightOf a1 a2 h = some r) : Runs (d + 1) yX9_weightOf cX9_weightOf 4 (some .long) (fun f => [.ref (f 0), .int a1, .int a2]) h (fun _ => some (.long r)) h :=
  Runs.of (by decide +kernel) (fun _ => Nat.le_of_ble_eq_true rfl) (fun x K T => w_X9_weightOf K  a1 a2 h  E T)
def X9_tellParts (a1 : Int64) (a2 : Int64) (h : Hp) : Option Hp :=
  ob (X9_commonDivisor a1 a2) fun r1 =>
  if (0 : Int32) < (lg_cmp r1 (0 : Int64)) then (gd (nzL r1) (
  lt_ (upL h 0 13 (a1 / r1)) fun h5 =>
  lt_ (upL h5 0 14 (a2 / r1)) fun h7 =>
  some h7))
  else (some h)
set_option maxHeartbeats 4000000 in
set_option maxRecDepth 100000 in
theorem w_X9_tellParts {x : Cx} {d : Nat} (K : Ok x cX9_tellParts RX9 7 none (d + 1)) (a1 : Int64) (a2 : Int64) (h : Hp)  {z : Hp} (E : X9_tellParts a1 a2 h = some z) (T : x.2.2.2.2 = (none, z)) : VV x 0 [(0, .ref (ad x 0)), (1, .long a1), (3, .long a2)] [] h := by
  unfold X9_tellParts at E
  refine V_lload_n K 1 dX9_tellParts_0 rfl ?_
  refine V_lload_n K 2 dX9_tellParts_1 rfl ?_
  obtain ⟨r1, q2, E⟩ := ob_inv E
  refine iv_X9_357 K (c_X9_commonDivisor _ a1 a2 h q2) dX9_tellParts_2 (Nat.le_of_ble_eq_true rfl) ?_
  refine V_lstore (lv' := [(5, .long r1), (0, .ref (ad x 0)), (1, .long a1), (3, .long a2)]) K dX9_tellParts_5 (by decide) rfl ?_
  refine V_lload K 0 dX9_tellParts_7 rfl ?_
  refine V_lc (v := 0) K dX9_tellParts_9 rfl ?_
  refine V_lcmp K dX9_tellParts_10 ?_
  rcases if_inv E with ⟨c3, E⟩ | ⟨c3, E⟩
  · refine V_if_gt_t K 15 dX9_tellParts_11 (by decide) c3 ?_
    refine V_aload_n K 1 dX9_tellParts_15 rfl ?_
    refine V_lload_n K 2 dX9_tellParts_16 rfl ?_
    refine V_lload K 0 dX9_tellParts_17 rfl ?_
    obtain ⟨g4, E⟩ := gd_inv E
    refine V_ldiv K dX9_tellParts_19 (nzL_ne g4) ?_
    obtain ⟨h5, e6, E⟩ := lt_inv E
    refine pf_X9_52 K dX9_tellParts_20 ?_
    refine V_hp e6 ?_
    refine V_aload_n K 1 dX9_tellParts_23 rfl ?_
    refine V_lload_n K 3 dX9_tellParts_24 rfl ?_
    refine V_lload K 0 dX9_tellParts_25 rfl ?_
    refine V_ldiv K dX9_tellParts_27 (nzL_ne g4) ?_
    obtain ⟨h7, e8, E⟩ := lt_inv E
    refine pf_X9_56 K dX9_tellParts_28 ?_
    refine V_hp e8 ?_
    cases E
    exact V_vret K dX9_tellParts_31 T
  · refine V_if_gt_f K 15 dX9_tellParts_11 (by decide) c3 ?_
    cases E
    exact V_vret K dX9_tellParts_14 T
theorem c_X9_tellParts (d : Nat) (a1 : Int64) (a2 : Int64) (h : Hp)  {h' : Hp} (E : X9_tellParts a1 a2 h = some h') : Runs (d + 1) yX9_tellParts cX9_tellParts 7 none (fun f => [.ref (f 0), .long a1, .long a2]) h (fun _ => none) h' :=
  Runs.of (by decide +kernel) (fun _ => Nat.le_of_ble_eq_true rfl) (fun x K T => w_X9_tellParts K  a1 a2 h  E T)
def X9_mid_s30 (x1 : Int32) (y2 : Int64) (y4 : Int32) (h : Hp) : Option ((Int64 × Int32 × Hp) ⊕ (Int64 × Int32 × Hp)) :=
  if ((1 : Int32) <<< ((h.1 19 6) &&& 31)) ≤ y4 then (some (.inl (y2, y4, h)))
  else (ob (X4_become 23 19 h) fun h6 =>
  ob2 (X4_pass 23 y4 h6) fun r9 h8 =>
  ob (X9_weightOf y4 x1 h8) fun r10 =>
  lt_ (y2 + (((h8.1 23 7).toInt64) * r10)) fun v12 =>
  lt_ (y4 + (1 : Int32)) fun v14 =>
  some (.inr (v12, v14, h8)))
set_option maxHeartbeats 4000000 in
set_option maxRecDepth 100000 in
theorem wl_X9_mid_s30 {x : Cx} {d : Nat} (K : Ok x cX9_mid RX9 5 (some .int) (d + 5)) (x1 : Int32)  : ∀ (n : Nat) (s : Int64 × Int32 × Hp) (r : (Int64 × Int32 × Hp)), lp (fun s : Int64 × Int32 × Hp => X9_mid_s30 x1 s.1 s.2.1 s.2.2) n s = some r → (fun r : (Int64 × Int32 × Hp) => VV x 90 [(0, .ref (ad x 0)), (1, .int x1), (2, .long (r.1)), (4, .int (r.2.1))] [] r.2.2) r → (fun s : Int64 × Int32 × Hp => VV x 30 [(0, .ref (ad x 0)), (1, .int x1), (2, .long (s.1)), (4, .int (s.2.1))] [] s.2.2) s := by
  refine lp_walk ?_
  intro s z E T
  obtain ⟨y2, y4, h⟩ := s
  replace E : X9_mid_s30 x1 y2 y4 h = some z := E
  unfold X9_mid_s30 at E
  show VV x 30 [(0, .ref (ad x 0)), (1, .int x1), (2, .long y2), (4, .int y4)] [] h
  refine V_iload K 3 dX9_mid_30 rfl ?_
  refine V_ic (v := 1) K dX9_mid_32 rfl ?_
  refine V_aload_n K 0 dX9_mid_33 rfl ?_
  refine gf_X9_71 K dX9_mid_34 ?_
  refine gf_X9_127 K k_19 dX9_mid_37 ?_
  refine V_ishl K dX9_mid_40 ?_
  rcases if_inv E with ⟨c4, E⟩ | ⟨c4, E⟩
  · refine V_ic_ge_t K 90 dX9_mid_41 (by decide) c4 ?_
    cases E
    exact V_sub [0, 1, 2, 3] rfl T
  · refine V_ic_ge_f K 90 dX9_mid_41 (by decide) c4 ?_
    refine V_aload_n K 0 dX9_mid_44 rfl ?_
    refine gf_X9_74 K dX9_mid_45 ?_
    refine V_aload_n K 0 dX9_mid_48 rfl ?_
    refine gf_X9_71 K dX9_mid_49 ?_
    obtain ⟨h6, q5, E⟩ := ob_inv E
    refine iv_X9_120 K k_23 (c_X4_become _ 23 19 h k_23 k_19 q5) dX9_mid_52 (Nat.le_of_ble_eq_true rfl) ?_
    refine V_aload_n K 0 dX9_mid_55 rfl ?_
    refine gf_X9_74 K dX9_mid_56 ?_
    refine V_iload K 3 dX9_mid_59 rfl ?_
    obtain ⟨r9, h8, q7, E⟩ := ob2_inv E
    refine iv_X9_203 K k_23 (c_X4_pass _ 23 y4 h6 k_23 q7) dX9_mid_61 (Nat.le_of_ble_eq_true rfl) ?_
    refine V_pop K dX9_mid_64 rfl ?_
    refine V_lload_n K 2 dX9_mid_65 rfl ?_
    refine V_aload_n K 0 dX9_mid_66 rfl ?_
    refine gf_X9_74 K dX9_mid_67 ?_
    refine gf_X9_159 K k_23 dX9_mid_70 ?_
    refine V_i2l K dX9_mid_73 ?_
    refine V_aload_n K 0 dX9_mid_74 rfl ?_
    refine V_iload K 3 dX9_mid_75 rfl ?_
    refine V_iload_n K 1 dX9_mid_77 rfl ?_
    obtain ⟨r10, q11, E⟩ := ob_inv E
    refine iv_X9_253 K (c_X9_weightOf _ y4 x1 h8 q11) dX9_mid_78 (Nat.le_of_ble_eq_true rfl) ?_
    refine V_lmul K dX9_mid_81 ?_
    refine V_ladd K dX9_mid_82 ?_
    obtain ⟨v12, e13, E⟩ := lt_inv E
    refine V_topl e13 ?_
    refine V_lstore_n (lv' := [(2, .long v12), (0, .ref (ad x 0)), (1, .int x1), (4, .int y4)]) K dX9_mid_83 (by decide) rfl ?_
    obtain ⟨v14, e15, E⟩ := lt_inv E
    refine V_iinc (lv' := [(4, .int v14), (2, .long v12), (0, .ref (ad x 0)), (1, .int x1)]) K 3 dX9_mid_84 rfl (by rw [e15]; rfl) (by decide) rfl ?_
    refine V_goto K 30 dX9_mid_87 (by decide) ?_
    cases E
    exact V_sub [2, 3, 1, 0] rfl T
def X9_mid (a1 : Int32) (h : Hp) : Option (Int32 × Hp) :=
  if a1 < (0 : Int32) then (some ((-1 : Int32), h))
  else (if a1 ≤ (12 : Int32) then (if (h.1 19 6) = (0 : Int32) then (some ((-4 : Int32), h))
  else (ob3 (lp (fun s : Int64 × Int32 × Hp => X9_mid_s30 a1 s.1 s.2.1 s.2.2) FU ((0 : Int64), (0 : Int32), h)) fun v16 v17 h18 =>
  ob (X9_power (12 : Int64) (h18.1 19 6)) fun r19 =>
  ob (X9_tellParts v16 r19 h18) fun h22 =>
  some ((1 : Int32), h22)))
  else (some ((-1 : Int32), h)))
set_option maxHeartbeats 4000000 in
set_option maxRecDepth 100000 in
theorem w_X9_mid {x : Cx} {d : Nat} (K : Ok x cX9_mid RX9 5 (some .int) (d + 5)) (a1 : Int32) (h : Hp)  {z : Int32 × Hp} (E : X9_mid a1 h = some z) (T : x.2.2.2.2 = (some (.int (z.1)), z.2)) : VV x 0 [(0, .ref (ad x 0)), (1, .int a1)] [] h := by
  unfold X9_mid at E
  refine V_iload_n K 1 dX9_mid_0 rfl ?_
  rcases if_inv E with ⟨c1, E⟩ | ⟨c1, E⟩
  · refine V_if_lt_t K 10 dX9_mid_1 (by decide) c1 ?_
    refine V_ic (v := -1) K dX9_mid_10 rfl ?_
    cases E
    exact V_iret K dX9_mid_11 rfl T
  · refine V_if_lt_f K 10 dX9_mid_1 (by decide) c1 ?_
    refine V_iload_n K 1 dX9_mid_4 rfl ?_
    refine V_bp (v := 12) K dX9_mid_5 rfl ?_
    rcases if_inv E with ⟨c2, E⟩ | ⟨c2, E⟩
    · refine V_ic_le_t K 12 dX9_mid_7 (by decide) c2 ?_
      refine V_aload_n K 0 dX9_mid_12 rfl ?_
      refine gf_X9_71 K dX9_mid_13 ?_
      refine gf_X9_127 K k_19 dX9_mid_16 ?_
      rcases if_inv E with ⟨c3, E⟩ | ⟨c3, E⟩
      · refine V_if_ne_f K 25 dX9_mid_19 (by decide) c3 ?_
        refine V_bp (v := -4) K dX9_mid_22 rfl ?_
        cases E
        exact V_iret K dX9_mid_24 rfl T
      · refine V_if_ne_t K 25 dX9_mid_19 (by decide) c3 ?_
        refine V_lc (v := 0) K dX9_mid_25 rfl ?_
        refine V_lstore_n (lv' := [(2, .long (0 : Int64)), (0, .ref (ad x 0)), (1, .int a1)]) K dX9_mid_26 (by decide) rfl ?_
        refine V_ic (v := 0) K dX9_mid_27 rfl ?_
        refine V_istore (lv' := [(4, .int (0 : Int32)), (2, .long (0 : Int64)), (0, .ref (ad x 0)), (1, .int a1)]) K dX9_mid_28 (by decide) rfl ?_
        obtain ⟨v16, v17, h18, q23, E⟩ := ob3_inv E
        refine V_sub [2, 3, 1, 0] rfl (wl_X9_mid_s30 K a1  _ _ _ q23 ?_)
        show VV x 90 [(0, .ref (ad x 0)), (1, .int a1), (2, .long v16), (4, .int v17)] [] h18
        refine V_aload_n K 0 dX9_mid_90 rfl ?_
        refine V_lload_n K 2 dX9_mid_91 rfl ?_
        refine V_ldc2 (v := 12) K tb_535 dX9_mid_92 ?_
        refine V_aload_n K 0 dX9_mid_95 rfl ?_
        refine gf_X9_71 K dX9_mid_96 ?_
        refine gf_X9_127 K k_19 dX9_mid_99 ?_
        obtain ⟨r19, q20, E⟩ := ob_inv E
        refine iv_X9_259 K (c_X9_power _ (12 : Int64) (h18.1 19 6) h18 q20) dX9_mid_102 (Nat.le_of_ble_eq_true rfl) ?_
        obtain ⟨h22, q21, E⟩ := ob_inv E
        refine iv_X9_245 K (c_X9_tellParts _ v16 r19 h18 q21) dX9_mid_105 (Nat.le_of_ble_eq_true rfl) ?_
        refine V_ic (v := 1) K dX9_mid_108 rfl ?_
        cases E
        exact V_iret K dX9_mid_109 rfl T
    · refine V_ic_le_f K 12 dX9_mid_7 (by decide) c2 ?_
      refine V_ic (v := -1) K dX9_mid_10 rfl ?_
      cases E
      exact V_iret K dX9_mid_11 rfl T
theorem c_X9_mid (d : Nat) (a1 : Int32) (h : Hp)  {r : Int32} {h' : Hp} (E : X9_mid a1 h = some (r, h')) : Runs (d + 5) yX9_mid cX9_mid 5 (some .int) (fun f => [.ref (f 0), .int a1]) h (fun _ => some (.int r)) h' :=
  Runs.of (by decide +kernel) (fun _ => Nat.le_of_ble_eq_true rfl) (fun x K T => w_X9_mid K  a1 h  E T)
def X9_tallyShares_s2 (x1 : Int32) (x2 : Int32) (y3 : Int32) (h : Hp) : Option ((Int32 × Hp) ⊕ (Int32 × Hp)) :=
  if (6 : Int32) ≤ y3 then (some (.inl (y3, h)))
  else (gd (ib y3 6) (
  ob (J7_fill_53178 (37 + ix y3) (0 : Int32) h) fun h4 =>
  lt_ (y3 + (1 : Int32)) fun v5 =>
  some (.inr (v5, h4))))
set_option maxHeartbeats 4000000 in
set_option maxRecDepth 100000 in
theorem wl_X9_tallyShares_s2 {x : Cx} {d : Nat} (K : Ok x cX9_tallyShares RX9 5 none (d + 6)) (x1 : Int32) (x2 : Int32)  : ∀ (n : Nat) (s : Int32 × Hp) (r : (Int32 × Hp)), lp (fun s : Int32 × Hp => X9_tallyShares_s2 x1 x2 s.1 s.2) n s = some r → (fun r : (Int32 × Hp) => VV x 24 [(0, .ref (ad x 0)), (1, .int x1), (2, .int x2), (3, .int (r.1))] [] r.2) r → (fun s : Int32 × Hp => VV x 2 [(0, .ref (ad x 0)), (1, .int x1), (2, .int x2), (3, .int (s.1))] [] s.2) s := by
  refine lp_walk ?_
  intro s z E T
  obtain ⟨y3, h⟩ := s
  replace E : X9_tallyShares_s2 x1 x2 y3 h = some z := E
  unfold X9_tallyShares_s2 at E
  show VV x 2 [(0, .ref (ad x 0)), (1, .int x1), (2, .int x2), (3, .int y3)] [] h
  refine V_iload_n K 3 dX9_tallyShares_2 rfl ?_
  refine V_bp (v := 6) K dX9_tallyShares_3 rfl ?_
  rcases if_inv E with ⟨c1, E⟩ | ⟨c1, E⟩
  · refine V_ic_ge_t K 24 dX9_tallyShares_5 (by decide) c1 ?_
    cases E
    exact V_sub [0, 1, 2, 3] rfl T
  · refine V_ic_ge_f K 24 dX9_tallyShares_5 (by decide) c1 ?_
    refine V_aload_n K 0 dX9_tallyShares_8 rfl ?_
    refine gf_X9_39 K dX9_tallyShares_9 ?_
    refine V_iload_n K 3 dX9_tallyShares_12 rfl ?_
    obtain ⟨g2, E⟩ := gd_inv E
    refine V_aaload15 K k_36 g2 (talR g2) dX9_tallyShares_13 ?_
    refine V_ic (v := 0) K dX9_tallyShares_14 rfl ?_
    obtain ⟨h4, q3, E⟩ := ob_inv E
    refine iv_X9_77 K (c_J7_fill_53178 _ (37 + ix y3) (0 : Int32) h (talK g2) q3) dX9_tallyShares_15 (Nat.le_of_ble_eq_true rfl) ?_
    obtain ⟨v5, e6, E⟩ := lt_inv E
    refine V_iinc (lv' := [(3, .int v5), (0, .ref (ad x 0)), (1, .int x1), (2, .int x2)]) K 3 dX9_tallyShares_18 rfl (by rw [e6]; rfl) (by decide) rfl ?_
    refine V_goto K 2 dX9_tallyShares_21 (by decide) ?_
    cases E
    exact V_sub [1, 2, 3, 0] rfl T
def X9_tallyShares_s71 (x1 : Int32) (x2 : Int32) (x3 : Int32) (y4 : Int32) (h : Hp) : Option ((Int32 × Hp) ⊕ (Int32 × Hp)) :=
  if (h.1 19 6) ≤ y4 then (some (.inl (y4, h)))
  else (gd (ib y4 6) (
  gd (ib (h.1 26 (ix y4)) 31) (
  lt_ (up h (37 + ix y4) (ix (h.1 26 (ix y4))) ((h.1 (37 + ix y4) (ix (h.1 26 (ix y4)))) + (1 : Int32))) fun h21 =>
  lt_ (y4 + (1 : Int32)) fun v23 =>
  some (.inr (v23, h21)))))
set_option maxHeartbeats 4000000 in
set_option maxRecDepth 100000 in
theorem wl_X9_tallyShares_s71 {x : Cx} {d : Nat} (K : Ok x cX9_tallyShares RX9 5 none (d + 6)) (x1 : Int32) (x2 : Int32) (x3 : Int32)  : ∀ (n : Nat) (s : Int32 × Hp) (r : (Int32 × Hp)), lp (fun s : Int32 × Hp => X9_tallyShares_s71 x1 x2 x3 s.1 s.2) n s = some r → (fun r : (Int32 × Hp) => VV x 111 [(0, .ref (ad x 0)), (1, .int x1), (2, .int x2), (3, .int x3), (4, .int (r.1))] [] r.2) r → (fun s : Int32 × Hp => VV x 71 [(0, .ref (ad x 0)), (1, .int x1), (2, .int x2), (3, .int x3), (4, .int (s.1))] [] s.2) s := by
  refine lp_walk ?_
  intro s z E T
  obtain ⟨y4, h⟩ := s
  replace E : X9_tallyShares_s71 x1 x2 x3 y4 h = some z := E
  unfold X9_tallyShares_s71 at E
  show VV x 71 [(0, .ref (ad x 0)), (1, .int x1), (2, .int x2), (3, .int x3), (4, .int y4)] [] h
  refine V_iload K 4 dX9_tallyShares_71 rfl ?_
  refine V_aload_n K 0 dX9_tallyShares_73 rfl ?_
  refine gf_X9_71 K dX9_tallyShares_74 ?_
  refine gf_X9_127 K k_19 dX9_tallyShares_77 ?_
  rcases if_inv E with ⟨c18, E⟩ | ⟨c18, E⟩
  · refine V_ic_ge_t K 111 dX9_tallyShares_80 (by decide) c18 ?_
    cases E
    exact V_sub [0, 1, 2, 3, 4] rfl T
  · refine V_ic_ge_f K 111 dX9_tallyShares_80 (by decide) c18 ?_
    refine V_aload_n K 0 dX9_tallyShares_83 rfl ?_
    refine gf_X9_39 K dX9_tallyShares_84 ?_
    refine V_iload K 4 dX9_tallyShares_87 rfl ?_
    obtain ⟨g19, E⟩ := gd_inv E
    refine V_aaload15 K k_36 g19 (talR g19) dX9_tallyShares_89 ?_
    refine V_aload_n K 0 dX9_tallyShares_90 rfl ?_
    refine gf_X9_74 K dX9_tallyShares_91 ?_
    refine gf_X9_146 K k_23 dX9_tallyShares_94 ?_
    refine V_iload K 4 dX9_tallyShares_97 rfl ?_
    refine V_iald K k_26 n_26 g19 dX9_tallyShares_99 ?_
    refine V_dup2 K dX9_tallyShares_100 rfl rfl ?_
    obtain ⟨g20, E⟩ := gd_inv E
    refine V_iald K (talK g19) (talN g19) g20 dX9_tallyShares_101 ?_
    refine V_ic (v := 1) K dX9_tallyShares_102 rfl ?_
    refine V_iadd K dX9_tallyShares_103 ?_
    obtain ⟨h21, e22, E⟩ := lt_inv E
    refine V_iast K (talK g19) (talN g19) g20 dX9_tallyShares_104 ?_
    refine V_hp e22 ?_
    obtain ⟨v23, e24, E⟩ := lt_inv E
    refine V_iinc (lv' := [(4, .int v23), (0, .ref (ad x 0)), (1, .int x1), (2, .int x2), (3, .int x3)]) K 4 dX9_tallyShares_105 rfl (by rw [e24]; rfl) (by decide) rfl ?_
    refine V_goto K 71 dX9_tallyShares_108 (by decide) ?_
    cases E
    exact V_sub [1, 2, 3, 4, 0] rfl T
def X9_tallyShares_s26 (x1 : Int32) (x2 : Int32) (y3 : Int32) (h : Hp) : Option ((Int32 × Hp) ⊕ (Int32 × Hp)) :=
  if (30 : Int32) < y3 then (some (.inl (y3, h)))
  else (ob (if ((x1 >>> (y3 &&& 31)) &&& (1 : Int32)) = (1 : Int32) then (ob (X4_become 23 19 h) fun h13 =>
  ob (X4_beOfSize 23 y3 h13) fun h15 =>
  ob (X4_passAll 23 x2 h15) fun h17 =>
  ob2 (lp (fun s : Int32 × Hp => X9_tallyShares_s71 x1 x2 y3 s.1 s.2) FU ((0 : Int32), h17)) fun v25 h26 =>
  some h26)
  else (some h)) fun h10 =>
  lt_ (y3 + (1 : Int32)) fun v28 =>
  some (.inr (v28, h10)))
set_option maxHeartbeats 4000000 in
set_option maxRecDepth 100000 in
theorem wl_X9_tallyShares_s26 {x : Cx} {d : Nat} (K : Ok x cX9_tallyShares RX9 5 none (d + 6)) (x1 : Int32) (x2 : Int32)  : ∀ (n : Nat) (s : Int32 × Hp) (r : (Int32 × Hp)), lp (fun s : Int32 × Hp => X9_tallyShares_s26 x1 x2 s.1 s.2) n s = some r → (fun r : (Int32 × Hp) => VV x 117 [(0, .ref (ad x 0)), (1, .int x1), (2, .int x2), (3, .int (r.1))] [] r.2) r → (fun s : Int32 × Hp => VV x 26 [(0, .ref (ad x 0)), (1, .int x1), (2, .int x2), (3, .int (s.1))] [] s.2) s := by
  refine lp_walk ?_
  intro s z E T
  obtain ⟨y3, h⟩ := s
  replace E : X9_tallyShares_s26 x1 x2 y3 h = some z := E
  unfold X9_tallyShares_s26 at E
  show VV x 26 [(0, .ref (ad x 0)), (1, .int x1), (2, .int x2), (3, .int y3)] [] h
  refine V_iload_n K 3 dX9_tallyShares_26 rfl ?_
  refine V_bp (v := 30) K dX9_tallyShares_27 rfl ?_
  rcases if_inv E with ⟨c9, E⟩ | ⟨c9, E⟩
  · refine V_ic_gt_t K 117 dX9_tallyShares_29 (by decide) c9 ?_
    cases E
    exact V_sub [0, 1, 2, 3] rfl T
  · refine V_ic_gt_f K 117 dX9_tallyShares_29 (by decide) c9 ?_
    refine V_iload_n K 1 dX9_tallyShares_32 rfl ?_
    refine V_iload_n K 3 dX9_tallyShares_33 rfl ?_
    refine V_ishr K dX9_tallyShares_34 ?_
    refine V_ic (v := 1) K dX9_tallyShares_35 rfl ?_
    refine V_iand K dX9_tallyShares_36 ?_
    refine V_ic (v := 1) K dX9_tallyShares_37 rfl ?_
    obtain ⟨h10, q30, E⟩ := ob_inv E
    have T9 : VV x 111 [(0, .ref (ad x 0)), (1, .int x1), (2, .int x2), (3, .int y3)] [] h10 := by
      obtain ⟨v28, e29, E⟩ := lt_inv E
      refine V_iinc (lv' := [(3, .int v28), (0, .ref (ad x 0)), (1, .int x1), (2, .int x2)]) K 3 dX9_tallyShares_111 rfl (by rw [e29]; rfl) (by decide) rfl ?_
      refine V_goto K 26 dX9_tallyShares_114 (by decide) ?_
      cases E
      exact V_sub [1, 2, 3, 0] rfl T
    have E := q30
    have T := T9
    rcases if_inv E with ⟨c11, E⟩ | ⟨c11, E⟩
    · refine V_ic_ne_f K 111 dX9_tallyShares_38 (by decide) c11 ?_
      refine V_aload_n K 0 dX9_tallyShares_41 rfl ?_
      refine gf_X9_74 K dX9_tallyShares_42 ?_
      refine V_aload_n K 0 dX9_tallyShares_45 rfl ?_
      refine gf_X9_71 K dX9_tallyShares_46 ?_
      obtain ⟨h13, q12, E⟩ := ob_inv E
      refine iv_X9_120 K k_23 (c_X4_become _ 23 19 h k_23 k_19 q12) dX9_tallyShares_49 (Nat.le_of_ble_eq_true rfl) ?_
      refine V_aload_n K 0 dX9_tallyShares_52 rfl ?_
      refine gf_X9_74 K dX9_tallyShares_53 ?_
      refine V_iload_n K 3 dX9_tallyShares_56 rfl ?_
      obtain ⟨h15, q14, E⟩ := ob_inv E
      refine iv_X9_341 K k_23 (c_X4_beOfSize _ 23 y3 h13 k_23 q14) dX9_tallyShares_57 (Nat.le_of_ble_eq_true rfl) ?_
      refine V_aload_n K 0 dX9_tallyShares_60 rfl ?_
      refine gf_X9_74 K dX9_tallyShares_61 ?_
      refine V_iload_n K 2 dX9_tallyShares_64 rfl ?_
      obtain ⟨h17, q16, E⟩ := ob_inv E
      refine iv_X9_197 K k_23 (c_X4_passAll _ 23 x2 h15 k_23 q16) dX9_tallyShares_65 (Nat.le_of_ble_eq_true rfl) ?_
      refine V_ic (v := 0) K dX9_tallyShares_68 rfl ?_
      refine V_istore (lv' := [(4, .int (0 : Int32)), (0, .ref (ad x 0)), (1, .int x1), (2, .int x2), (3, .int y3)]) K dX9_tallyShares_69 (by decide) rfl ?_
      obtain ⟨v25, h26, q27, E⟩ := ob2_inv E
      refine V_sub [1, 2, 3, 4, 0] rfl (wl_X9_tallyShares_s71 K x1 x2 y3  _ _ _ q27 ?_)
      show VV x 111 [(0, .ref (ad x 0)), (1, .int x1), (2, .int x2), (3, .int y3), (4, .int v25)] [] h26
      cases E
      exact V_sub [0, 1, 2, 3] rfl T
    · refine V_ic_ne_t K 111 dX9_tallyShares_38 (by decide) c11 ?_
      cases E
      exact V_sub [0, 1, 2, 3] rfl T
def X9_tallyShares (a1 : Int32) (a2 : Int32) (h : Hp) : Option Hp :=
  ob2 (lp (fun s : Int32 × Hp => X9_tallyShares_s2 a1 a2 s.1 s.2) FU ((0 : Int32), h)) fun v7 h8 =>
  ob2 (lp (fun s : Int32 × Hp => X9_tallyShares_s26 a1 a2 s.1 s.2) FU ((0 : Int32), h8)) fun v31 h32 =>
  some h32
set_option maxHeartbeats 4000000 in
set_option maxRecDepth 100000 in
theorem w_X9_tallyShares {x : Cx} {d : Nat} (K : Ok x cX9_tallyShares RX9 5 none (d + 6)) (a1 : Int32) (a2 : Int32) (h : Hp)  {z : Hp} (E : X9_tallyShares a1 a2 h = some z) (T : x.2.2.2.2 = (none, z)) : VV x 0 [(0, .ref (ad x 0)), (1, .int a1), (2, .int a2)] [] h := by
  unfold X9_tallyShares at E
  refine V_ic (v := 0) K dX9_tallyShares_0 rfl ?_
  refine V_istore_n (lv' := [(3, .int (0 : Int32)), (0, .ref (ad x 0)), (1, .int a1), (2, .int a2)]) K dX9_tallyShares_1 (by decide) rfl ?_
  obtain ⟨v7, h8, q34, E⟩ := ob2_inv E
  refine V_sub [1, 2, 3, 0] rfl (wl_X9_tallyShares_s2 K a1 a2  _ _ _ q34 ?_)
  show VV x 24 [(0, .ref (ad x 0)), (1, .int a1), (2, .int a2), (3, .int v7)] [] h8
  refine V_ic (v := 0) K dX9_tallyShares_24 rfl ?_
  refine V_istore_n (lv' := [(3, .int (0 : Int32)), (0, .ref (ad x 0)), (1, .int a1), (2, .int a2)]) K dX9_tallyShares_25 (by decide) rfl ?_
  obtain ⟨v31, h32, q33, E⟩ := ob2_inv E
  refine V_sub [1, 2, 3, 0] rfl (wl_X9_tallyShares_s26 K a1 a2  _ _ _ q33 ?_)
  show VV x 117 [(0, .ref (ad x 0)), (1, .int a1), (2, .int a2), (3, .int v31)] [] h32
  cases E
  exact V_vret K dX9_tallyShares_117 T
theorem c_X9_tallyShares (d : Nat) (a1 : Int32) (a2 : Int32) (h : Hp)  {h' : Hp} (E : X9_tallyShares a1 a2 h = some h') : Runs (d + 6) yX9_tallyShares cX9_tallyShares 5 none (fun f => [.ref (f 0), .int a1, .int a2]) h (fun _ => none) h' :=
  Runs.of (by decide +kernel) (fun _ => Nat.le_of_ble_eq_true rfl) (fun x K T => w_X9_tallyShares K  a1 a2 h  E T)
