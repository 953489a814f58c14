def X9_answerFinding (a1 : Int32) (h : Hp) : Option (Int32 × Hp) :=
  lt_ (up h 0 11 a1) fun h1 =>
  gd (ib a1 6) (
  lt_ (up h1 43 (ix a1) ((h1.1 43 (ix a1)) + (1 : Int32))) fun h4 =>
  some ((-3 : Int32), h4))
set_option maxHeartbeats 4000000 in
set_option maxRecDepth 100000 in
theorem w_X9_answerFinding {x : Cx} {d : Nat} (K : Ok x cX9_answerFinding RX9 2 (some .int) (d + 0)) (a1 : Int32) (h : Hp)  {z : Int32 × Hp} (E : X9_answerFinding a1 h = some z) (T : x.2.2.2.2 = (some (.int (z.1)), z.2)) : VV x 0 [(0, .ref (ad x 0)), (1, .int a1)] [] h := by
  unfold X9_answerFinding at E
  refine V_aload_n K 0 dX9_answerFinding_0 rfl ?_
  refine V_iload_n K 1 dX9_answerFinding_1 rfl ?_
  obtain ⟨h1, e2, E⟩ := lt_inv E
  refine pf_X9_45 K dX9_answerFinding_2 ?_
  refine V_hp e2 ?_
  refine V_aload_n K 0 dX9_answerFinding_5 rfl ?_
  refine gf_X9_42 K dX9_answerFinding_6 ?_
  refine V_iload_n K 1 dX9_answerFinding_9 rfl ?_
  refine V_dup2 K dX9_answerFinding_10 rfl rfl ?_
  obtain ⟨g3, E⟩ := gd_inv E
  refine V_iald K k_43 n_43 g3 dX9_answerFinding_11 ?_
  refine V_ic (v := 1) K dX9_answerFinding_12 rfl ?_
  refine V_iadd K dX9_answerFinding_13 ?_
  obtain ⟨h4, e5, E⟩ := lt_inv E
  refine V_iast K k_43 n_43 g3 dX9_answerFinding_14 ?_
  refine V_hp e5 ?_
  refine V_bp (v := -3) K dX9_answerFinding_15 rfl ?_
  cases E
  exact V_iret K dX9_answerFinding_17 rfl T
theorem c_X9_answerFinding (d : Nat) (a1 : Int32) (h : Hp)  {r : Int32} {h' : Hp} (E : X9_answerFinding a1 h = some (r, h')) : Runs (d + 0) yX9_answerFinding cX9_answerFinding 2 (some .int) (fun f => [.ref (f 0), .int a1]) h (fun _ => some (.int r)) h' :=
  Runs.of (by decide +kernel) (fun _ => Nat.le_of_ble_eq_true rfl) (fun x K T => w_X9_answerFinding K  a1 h  E T)
def X9_asideFits_s2 (x1 : Int32) (x2 : Int32) (y3 : Int32) (h : Hp) : Option (((Int32 × Hp) ⊕ (Int32 × Hp)) ⊕ (Int32 × Hp)) :=
  gd (ib x2 6) (
  if (h.1 8 (ix x2)) ≤ y3 then (some (.inl (.inr (y3, h))))
  else (ob2 (X4_pass 23 (0 : Int32) h) fun r5 h4 =>
  gd (ib x1 6) (
  gd (ib y3 40) (
  if (h4.1 26 (ix x1)) = (h4.1 (2 + ix x2) (ix y3)) then (lt_ (y3 + (1 : Int32)) fun v9 =>
  some (.inr (v9, h4)))
  else (some (.inl (.inl ((0 : Int32), h4))))))))
set_option maxHeartbeats 4000000 in
set_option maxRecDepth 100000 in
theorem wl_X9_asideFits_s2 {x : Cx} {d : Nat} (K : Ok x cX9_asideFits RX9 4 (some .boolean) (d + 5)) (x1 : Int32) (x2 : Int32)  : ∀ (n : Nat) (s : Int32 × Hp) (r : ((Int32 × Hp) ⊕ (Int32 × Hp))), lp (fun s : Int32 × Hp => X9_asideFits_s2 x1 x2 s.1 s.2) n s = some r → (fun r : ((Int32 × Hp) ⊕ (Int32 × Hp)) => match r with | .inl q => x.2.2.2.2 = (some (.int (q.1)), q.2) | .inr r => VV x 49 [(0, .ref (ad x 0)), (1, .int x1), (2, .int x2), (3, .int (r.1))] [] r.2) r → (fun s : Int32 × Hp => VV x 2 [(0, .ref (ad x 0)), (1, .int x1), (2, .int x2), (3, .int (s.1))] [] s.2) s := by
  refine lp_walk ?_
  intro s z E T
  obtain ⟨y3, h⟩ := s
  replace E : X9_asideFits_s2 x1 x2 y3 h = some z := E
  unfold X9_asideFits_s2 at E
  show VV x 2 [(0, .ref (ad x 0)), (1, .int x1), (2, .int x2), (3, .int y3)] [] h
  refine V_iload_n K 3 dX9_asideFits_2 rfl ?_
  refine V_aload_n K 0 dX9_asideFits_3 rfl ?_
  refine gf_X9_14 K dX9_asideFits_4 ?_
  refine V_iload_n K 2 dX9_asideFits_7 rfl ?_
  obtain ⟨g1, E⟩ := gd_inv E
  refine V_iald K k_8 n_8 g1 dX9_asideFits_8 ?_
  rcases if_inv E with ⟨c2, E⟩ | ⟨c2, E⟩
  · refine V_ic_ge_t K 49 dX9_asideFits_9 (by decide) c2 ?_
    cases E
    exact V_sub [0, 1, 2, 3] rfl T
  · refine V_ic_ge_f K 49 dX9_asideFits_9 (by decide) c2 ?_
    refine V_aload_n K 0 dX9_asideFits_12 rfl ?_
    refine gf_X9_74 K dX9_asideFits_13 ?_
    refine V_ic (v := 0) K dX9_asideFits_16 rfl ?_
    obtain ⟨r5, h4, q3, E⟩ := ob2_inv E
    refine iv_X9_203 K k_23 (c_X4_pass _ 23 (0 : Int32) h k_23 q3) dX9_asideFits_17 (Nat.le_of_ble_eq_true rfl) ?_
    refine V_pop K dX9_asideFits_20 rfl ?_
    refine V_aload_n K 0 dX9_asideFits_21 rfl ?_
    refine gf_X9_74 K dX9_asideFits_22 ?_
    refine gf_X9_146 K k_23 dX9_asideFits_25 ?_
    refine V_iload_n K 1 dX9_asideFits_28 rfl ?_
    obtain ⟨g6, E⟩ := gd_inv E
    refine V_iald K k_26 n_26 g6 dX9_asideFits_29 ?_
    refine V_aload_n K 0 dX9_asideFits_30 rfl ?_
    refine gf_X9_11 K dX9_asideFits_31 ?_
    refine V_iload_n K 2 dX9_asideFits_34 rfl ?_
    refine V_aaload15 K k_1 g1 (rowR g1) dX9_asideFits_35 ?_
    refine V_iload_n K 3 dX9_asideFits_36 rfl ?_
    obtain ⟨g7, E⟩ := gd_inv E
    refine V_iald K (rowK g1) (rowN g1) g7 dX9_asideFits_37 ?_
    rcases if_inv E with ⟨c8, E⟩ | ⟨c8, E⟩
    · refine V_ic_eq_t K 43 dX9_asideFits_38 (by decide) c8 ?_
      obtain ⟨v9, e10, E⟩ := lt_inv E
      refine V_iinc (lv' := [(3, .int v9), (0, .ref (ad x 0)), (1, .int x1), (2, .int x2)]) K 3 dX9_asideFits_43 rfl (by rw [e10]; rfl) (by decide) rfl ?_
      refine V_goto K 2 dX9_asideFits_46 (by decide) ?_
      cases E
      exact V_sub [1, 2, 3, 0] rfl T
    · refine V_ic_eq_f K 43 dX9_asideFits_38 (by decide) c8 ?_
      refine V_ic (v := 0) K dX9_asideFits_41 rfl ?_
      cases E
      exact V_iret K dX9_asideFits_42 rfl T
def X9_asideFits (a1 : Int32) (a2 : Int32) (h : Hp) : Option (Int32 × Hp) :=
  obS2 (lp (fun s : Int32 × Hp => X9_asideFits_s2 a1 a2 s.1 s.2) FU ((0 : Int32), h)) (fun q => some q) fun v11 h12 =>
  some ((1 : Int32), h12)
set_option maxHeartbeats 4000000 in
set_option maxRecDepth 100000 in
theorem w_X9_asideFits {x : Cx} {d : Nat} (K : Ok x cX9_asideFits RX9 4 (some .boolean) (d + 5)) (a1 : Int32) (a2 : Int32) (h : Hp)  {z : Int32 × Hp} (E : X9_asideFits a1 a2 h = some z) (T : x.2.2.2.2 = (some (.int (z.1)), z.2)) : VV x 0 [(0, .ref (ad x 0)), (1, .int a1), (2, .int a2)] [] h := by
  unfold X9_asideFits at E
  refine V_ic (v := 0) K dX9_asideFits_0 rfl ?_
  refine V_istore_n (lv' := [(3, .int (0 : Int32)), (0, .ref (ad x 0)), (1, .int a1), (2, .int a2)]) K dX9_asideFits_1 (by decide) rfl ?_
  rcases obS2_inv E with ⟨q, q13, E⟩ | ⟨v11, h12, q13, E⟩
  · cases E
    exact V_sub [1, 2, 3, 0] rfl (wl_X9_asideFits_s2 K a1 a2  _ _ _ q13 T)
  · refine V_sub [1, 2, 3, 0] rfl (wl_X9_asideFits_s2 K a1 a2  _ _ _ q13 ?_)
    show VV x 49 [(0, .ref (ad x 0)), (1, .int a1), (2, .int a2), (3, .int v11)] [] h12
    refine V_ic (v := 1) K dX9_asideFits_49 rfl ?_
    cases E
    exact V_iret K dX9_asideFits_50 rfl T
theorem c_X9_asideFits (d : Nat) (a1 : Int32) (a2 : Int32) (h : Hp)  {r : Int32} {h' : Hp} (E : X9_asideFits a1 a2 h = some (r, h')) : Runs (d + 5) yX9_asideFits cX9_asideFits 4 (some .boolean) (fun f => [.ref (f 0), .int a1, .int a2]) h (fun _ => some (.int r)) h' :=
  Runs.of (by decide +kernel) (fun _ => Nat.le_of_ble_eq_true rfl) (fun x K T => w_X9_asideFits K  a1 a2 h  E T)
def X9_asked  (h : Hp) : Int32 :=
  h.1 0 12
set_option maxHeartbeats 4000000 in
set_option maxRecDepth 100000 in
theorem w_X9_asked {x : Cx} {d : Nat} (K : Ok x cX9_asked RX9 1 (some .int) (d + 0))  (h : Hp)  {z : Int32} (E : X9_asked  h = z) (T : x.2.2.2.2 = (some (.int z), h)) : VV x 0 [(0, .ref (ad x 0))] [] h := by
  unfold X9_asked at E
  refine V_aload_n K 0 dX9_asked_0 rfl ?_
  refine gf_X9_49 K dX9_asked_1 ?_
  cases E
  exact V_iret K dX9_asked_4 rfl T
theorem c_X9_asked (d : Nat)  (h : Hp)  : Runs (d + 0) yX9_asked cX9_asked 1 (some .int) (fun f => [.ref (f 0)]) h (fun _ => some (.int (X9_asked  h))) h :=
  Runs.of (by decide +kernel) (fun _ => Nat.le_of_ble_eq_true rfl) (fun x K T => w_X9_asked K   h  rfl T)
def X9_isRow (a1 : Int32) : Int32 :=
  if a1 < (0 : Int32) then ((0 : Int32))
  else (if (6 : Int32) ≤ a1 then ((0 : Int32))
  else ((1 : Int32)))
set_option maxHeartbeats 4000000 in
set_option maxRecDepth 100000 in
theorem w_X9_isRow {x : Cx} {d : Nat} (K : Ok x cX9_isRow RX9 1 (some .boolean) (d + 0)) (a1 : Int32) (h : Hp)  {z : Int32} (E : X9_isRow a1 = z) (T : x.2.2.2.2 = (some (.int z), h)) : VV x 0 [(0, .int a1)] [] h := by
  unfold X9_isRow at E
  refine V_iload_n K 0 dX9_isRow_0 rfl ?_
  rcases if_inv E with ⟨c1, E⟩ | ⟨c1, E⟩
  · refine V_if_lt_t K 14 dX9_isRow_1 (by decide) c1 ?_
    refine V_ic (v := 0) K dX9_isRow_14 rfl ?_
    cases E
    exact V_iret K dX9_isRow_15 rfl T
  · refine V_if_lt_f K 14 dX9_isRow_1 (by decide) c1 ?_
    refine V_iload_n K 0 dX9_isRow_4 rfl ?_
    refine V_bp (v := 6) K dX9_isRow_5 rfl ?_
    rcases if_inv E with ⟨c2, E⟩ | ⟨c2, E⟩
    · refine V_ic_ge_t K 14 dX9_isRow_7 (by decide) c2 ?_
      refine V_ic (v := 0) K dX9_isRow_14 rfl ?_
      cases E
      exact V_iret K dX9_isRow_15 rfl T
    · refine V_ic_ge_f K 14 dX9_isRow_7 (by decide) c2 ?_
      refine V_ic (v := 1) K dX9_isRow_10 rfl ?_
      refine V_goto K 15 dX9_isRow_11 (by decide) ?_
      cases E
      exact V_iret K dX9_isRow_15 rfl T
theorem c_X9_isRow (d : Nat) (a1 : Int32) (h : Hp)  : Runs (d + 0) yX9_isRow cX9_isRow 1 (some .boolean) (fun f => [.int a1]) h (fun _ => some (.int (X9_isRow a1))) h :=
  Runs.of (by decide +kernel) (fun _ => Nat.le_of_ble_eq_true rfl) (fun x K T => w_X9_isRow K  a1 h  rfl T)
theorem bz_X9_isRow (a1 : Int32) : narrow .boolean (.int (X9_isRow a1)) = .int (X9_isRow a1) := by
  unfold X9_isRow
  repeat' split
  all_goals first | rfl | exact bz_X10_in _ _ _
def X9_refusedRow (a1 : Int32) (h : Hp) : Option (Int32 × Hp) :=
  if (X9_isRow a1) = (0 : Int32) then (some ((-1 : Int32), h))
  else (gd (ib a1 6) (
  if (h.1 8 (ix a1)) = (-1 : Int32) then (ob2 (X9_answerFinding (1 : Int32) h) fun r6 h5 =>
  some (r6, h5))
  else (some ((0 : Int32), h))))
set_option maxHeartbeats 4000000 in
set_option maxRecDepth 100000 in
theorem w_X9_refusedRow {x : Cx} {d : Nat} (K : Ok x cX9_refusedRow RX9 2 (some .int) (d + 1)) (a1 : Int32) (h : Hp)  {z : Int32 × Hp} (E : X9_refusedRow a1 h = some z) (T : x.2.2.2.2 = (some (.int (z.1)), z.2)) : VV x 0 [(0, .ref (ad x 0)), (1, .int a1)] [] h := by
  unfold X9_refusedRow at E
  refine V_iload_n K 1 dX9_refusedRow_0 rfl ?_
  refine iv_X9_83 K (c_X9_isRow _ a1 h) dX9_refusedRow_1 (Nat.le_of_ble_eq_true rfl) ?_
  rcases if_inv E with ⟨c1, E⟩ | ⟨c1, E⟩
  · refine V_if_ne_f K 9 dX9_refusedRow_4 (by decide) c1 ?_
    refine V_ic (v := -1) K dX9_refusedRow_7 rfl ?_
    cases E
    exact V_iret K dX9_refusedRow_8 rfl T
  · refine V_if_ne_t K 9 dX9_refusedRow_4 (by decide) c1 ?_
    refine V_aload_n K 0 dX9_refusedRow_9 rfl ?_
    refine gf_X9_14 K dX9_refusedRow_10 ?_
    refine V_iload_n K 1 dX9_refusedRow_13 rfl ?_
    obtain ⟨g2, E⟩ := gd_inv E
    refine V_iald K k_8 n_8 g2 dX9_refusedRow_14 ?_
    refine V_ic (v := -1) K dX9_refusedRow_15 rfl ?_
    rcases if_inv E with ⟨c3, E⟩ | ⟨c3, E⟩
    · refine V_ic_ne_f K 27 dX9_refusedRow_16 (by decide) c3 ?_
      refine V_aload_n K 0 dX9_refusedRow_19 rfl ?_
      refine V_ic (v := 1) K dX9_refusedRow_20 rfl ?_
      obtain ⟨r6, h5, q4, E⟩ := ob2_inv E
      refine iv_X9_87 K (c_X9_answerFinding _ (1 : Int32) h q4) dX9_refusedRow_21 (Nat.le_of_ble_eq_true rfl) ?_
      refine V_goto K 28 dX9_refusedRow_24 (by decide) ?_
      cases E
      exact V_iret K dX9_refusedRow_28 rfl T
    · refine V_ic_ne_t K 27 dX9_refusedRow_16 (by decide) c3 ?_
      refine V_ic (v := 0) K dX9_refusedRow_27 rfl ?_
      cases E
      exact V_iret K dX9_refusedRow_28 rfl T
theorem c_X9_refusedRow (d : Nat) (a1 : Int32) (h : Hp)  {r : Int32} {h' : Hp} (E : X9_refusedRow a1 h = some (r, h')) : Runs (d + 1) yX9_refusedRow cX9_refusedRow 2 (some .int) (fun f => [.ref (f 0), .int a1]) h (fun _ => some (.int r)) h' :=
  Runs.of (by decide +kernel) (fun _ => Nat.le_of_ble_eq_true rfl) (fun x K T => w_X9_refusedRow K  a1 h  E T)
def X9_hasPlaces (a1 : Int32) (a2 : Int32) (a3 : Int32) (h : Hp) : Option Int32 :=
  if a2 < (0 : Int32) then (some (0 : Int32))
  else (gd (ib a1 6) (
  if (h.1 8 (ix a1)) < a3 then (some (0 : Int32))
  else (if ((h.1 8 (ix a1)) - a3) < a2 then (some (0 : Int32))
  else (some (1 : Int32)))))
set_option maxHeartbeats 4000000 in
set_option maxRecDepth 100000 in
theorem w_X9_hasPlaces {x : Cx} {d : Nat} (K : Ok x cX9_hasPlaces RX9 4 (some .boolean) (d + 0)) (a1 : Int32) (a2 : Int32) (a3 : Int32) (h : Hp)  {z : Int32} (E : X9_hasPlaces a1 a2 a3 h = some z) (T : x.2.2.2.2 = (some (.int z), h)) : VV x 0 [(0, .ref (ad x 0)), (1, .int a1), (2, .int a2), (3, .int a3)] [] h := by
  unfold X9_hasPlaces at E
  refine V_iload_n K 2 dX9_hasPlaces_0 rfl ?_
  rcases if_inv E with ⟨c1, E⟩ | ⟨c1, E⟩
  · refine V_if_lt_t K 30 dX9_hasPlaces_1 (by decide) c1 ?_
    refine V_ic (v := 0) K dX9_hasPlaces_30 rfl ?_
    cases E
    exact V_iret K dX9_hasPlaces_31 rfl T
  · refine V_if_lt_f K 30 dX9_hasPlaces_1 (by decide) c1 ?_
    refine V_iload_n K 3 dX9_hasPlaces_4 rfl ?_
    refine V_aload_n K 0 dX9_hasPlaces_5 rfl ?_
    refine gf_X9_14 K dX9_hasPlaces_6 ?_
    refine V_iload_n K 1 dX9_hasPlaces_9 rfl ?_
    obtain ⟨g2, E⟩ := gd_inv E
    refine V_iald K k_8 n_8 g2 dX9_hasPlaces_10 ?_
    rcases if_inv E with ⟨c3, E⟩ | ⟨c3, E⟩
    · refine V_ic_gt_t K 30 dX9_hasPlaces_11 (by decide) c3 ?_
      refine V_ic (v := 0) K dX9_hasPlaces_30 rfl ?_
      cases E
      exact V_iret K dX9_hasPlaces_31 rfl T
    · refine V_ic_gt_f K 30 dX9_hasPlaces_11 (by decide) c3 ?_
      refine V_iload_n K 2 dX9_hasPlaces_14 rfl ?_
      refine V_aload_n K 0 dX9_hasPlaces_15 rfl ?_
      refine gf_X9_14 K dX9_hasPlaces_16 ?_
      refine V_iload_n K 1 dX9_hasPlaces_19 rfl ?_
      refine V_iald K k_8 n_8 g2 dX9_hasPlaces_20 ?_
      refine V_iload_n K 3 dX9_hasPlaces_21 rfl ?_
      refine V_isub K dX9_hasPlaces_22 ?_
      rcases if_inv E with ⟨c4, E⟩ | ⟨c4, E⟩
      · refine V_ic_gt_t K 30 dX9_hasPlaces_23 (by decide) c4 ?_
        refine V_ic (v := 0) K dX9_hasPlaces_30 rfl ?_
        cases E
        exact V_iret K dX9_hasPlaces_31 rfl T
      · refine V_ic_gt_f K 30 dX9_hasPlaces_23 (by decide) c4 ?_
        refine V_ic (v := 1) K dX9_hasPlaces_26 rfl ?_
        refine V_goto K 31 dX9_hasPlaces_27 (by decide) ?_
        cases E
        exact V_iret K dX9_hasPlaces_31 rfl T
theorem c_X9_hasPlaces (d : Nat) (a1 : Int32) (a2 : Int32) (a3 : Int32) (h : Hp)  {r : Int32} (E : X9_hasPlaces a1 a2 a3 h = some r) : Runs (d + 0) yX9_hasPlaces cX9_hasPlaces 4 (some .boolean) (fun f => [.ref (f 0), .int a1, .int a2, .int a3]) h (fun _ => some (.int r)) h :=
  Runs.of (by decide +kernel) (fun _ => Nat.le_of_ble_eq_true rfl) (fun x K T => w_X9_hasPlaces K  a1 a2 a3 h  E T)
def X9_refusedPlace (a1 : Int32) (a2 : Int32) (h : Hp) : Option (Int32 × Hp) :=
  ob2 (X9_refusedRow a1 h) fun r3 h2 =>
  if r3 = (0 : Int32) then (ob (X9_hasPlaces a1 a2 (1 : Int32) h2) fun r5 =>
  if r5 = (0 : Int32) then (ob2 (X9_answerFinding (2 : Int32) h2) fun r10 h9 =>
  some (r10, h9))
  else (some ((0 : Int32), h2)))
  else (some (r3, h2))
set_option maxHeartbeats 4000000 in
set_option maxRecDepth 100000 in
theorem w_X9_refusedPlace {x : Cx} {d : Nat} (K : Ok x cX9_refusedPlace RX9 4 (some .int) (d + 2)) (a1 : Int32) (a2 : Int32) (h : Hp)  {z : Int32 × Hp} (E : X9_refusedPlace a1 a2 h = some z) (T : x.2.2.2.2 = (some (.int (z.1)), z.2)) : VV x 0 [(0, .ref (ad x 0)), (1, .int a1), (2, .int a2)] [] h := by
  unfold X9_refusedPlace at E
  refine V_aload_n K 0 dX9_refusedPlace_0 rfl ?_
  refine V_iload_n K 1 dX9_refusedPlace_1 rfl ?_
  obtain ⟨r3, h2, q1, E⟩ := ob2_inv E
  refine iv_X9_95 K (c_X9_refusedRow _ a1 h q1) dX9_refusedPlace_2 (Nat.le_of_ble_eq_true rfl) ?_
  refine V_istore_n (lv' := [(3, .int r3), (0, .ref (ad x 0)), (1, .int a1), (2, .int a2)]) K dX9_refusedPlace_5 (by decide) rfl ?_
  refine V_iload_n K 0 dX9_refusedPlace_6 rfl ?_
  rcases if_inv E with ⟨c4, E⟩ | ⟨c4, E⟩
  · refine V_if_eq_t K 12 dX9_refusedPlace_7 (by decide) c4 ?_
    refine V_aload_n K 1 dX9_refusedPlace_12 rfl ?_
    refine V_iload_n K 2 dX9_refusedPlace_13 rfl ?_
    refine V_iload_n K 3 dX9_refusedPlace_14 rfl ?_
    refine V_ic (v := 1) K dX9_refusedPlace_15 rfl ?_
    obtain ⟨r5, q6, E⟩ := ob_inv E
    refine iv_X9_98 K (c_X9_hasPlaces _ a1 a2 (1 : Int32) h2 q6) dX9_refusedPlace_16 (Nat.le_of_ble_eq_true rfl) ?_
    rcases if_inv E with ⟨c7, E⟩ | ⟨c7, E⟩
    · refine V_if_eq_t K 26 dX9_refusedPlace_19 (by decide) c7 ?_
      refine V_aload_n K 1 dX9_refusedPlace_26 rfl ?_
      refine V_ic (v := 2) K dX9_refusedPlace_27 rfl ?_
      obtain ⟨r10, h9, q8, E⟩ := ob2_inv E
      refine iv_X9_87 K (c_X9_answerFinding _ (2 : Int32) h2 q8) dX9_refusedPlace_28 (Nat.le_of_ble_eq_true rfl) ?_
      cases E
      exact V_iret K dX9_refusedPlace_31 rfl T
    · refine V_if_eq_f K 26 dX9_refusedPlace_19 (by decide) c7 ?_
      refine V_ic (v := 0) K dX9_refusedPlace_22 rfl ?_
      refine V_goto K 31 dX9_refusedPlace_23 (by decide) ?_
      cases E
      exact V_iret K dX9_refusedPlace_31 rfl T
  · refine V_if_eq_f K 12 dX9_refusedPlace_7 (by decide) c4 ?_
    refine V_iload_n K 0 dX9_refusedPlace_10 rfl ?_
    cases E
    exact V_iret K dX9_refusedPlace_11 rfl T
theorem c_X9_refusedPlace (d : Nat) (a1 : Int32) (a2 : Int32) (h : Hp)  {r : Int32} {h' : Hp} (E : X9_refusedPlace a1 a2 h = some (r, h')) : Runs (d + 2) yX9_refusedPlace cX9_refusedPlace 4 (some .int) (fun f => [.ref (f 0), .int a1, .int a2]) h (fun _ => some (.int r)) h' :=
  Runs.of (by decide +kernel) (fun _ => Nat.le_of_ble_eq_true rfl) (fun x K T => w_X9_refusedPlace K  a1 a2 h  E T)
def X9_at (a1 : Int32) (a2 : Int32) (h : Hp) : Option (Int32 × Hp) :=
  ob2 (X9_refusedPlace a1 a2 h) fun r3 h2 =>
  if r3 = (0 : Int32) then (gd (ib a1 6) (
  gd (ib a2 40) (
  lt_ (up h2 0 12 (h2.1 (2 + ix a1) (ix a2))) fun h7 =>
  some ((1 : Int32), h7))))
  else (some (r3, h2))
set_option maxHeartbeats 4000000 in
set_option maxRecDepth 100000 in
theorem w_X9_at {x : Cx} {d : Nat} (K : Ok x cX9_at RX9 4 (some .int) (d + 3)) (a1 : Int32) (a2 : Int32) (h : Hp)  {z : Int32 × Hp} (E : X9_at a1 a2 h = some z) (T : x.2.2.2.2 = (some (.int (z.1)), z.2)) : VV x 0 [(0, .ref (ad x 0)), (1, .int a1), (2, .int a2)] [] h := by
  unfold X9_at at E
  refine V_aload_n K 0 dX9_at_0 rfl ?_
  refine V_iload_n K 1 dX9_at_1 rfl ?_
  refine V_iload_n K 2 dX9_at_2 rfl ?_
  obtain ⟨r3, h2, q1, E⟩ := ob2_inv E
  refine iv_X9_91 K (c_X9_refusedPlace _ a1 a2 h q1) dX9_at_3 (Nat.le_of_ble_eq_true rfl) ?_
  refine V_istore_n (lv' := [(3, .int r3), (0, .ref (ad x 0)), (1, .int a1), (2, .int a2)]) K dX9_at_6 (by decide) rfl ?_
  refine V_iload_n K 0 dX9_at_7 rfl ?_
  rcases if_inv E with ⟨c4, E⟩ | ⟨c4, E⟩
  · refine V_if_eq_t K 13 dX9_at_8 (by decide) c4 ?_
    refine V_aload_n K 1 dX9_at_13 rfl ?_
    refine V_aload_n K 1 dX9_at_14 rfl ?_
    refine gf_X9_11 K dX9_at_15 ?_
    refine V_iload_n K 2 dX9_at_18 rfl ?_
    obtain ⟨g5, E⟩ := gd_inv E
    refine V_aaload15 K k_1 g5 (rowR g5) dX9_at_19 ?_
    refine V_iload_n K 3 dX9_at_20 rfl ?_
    obtain ⟨g6, E⟩ := gd_inv E
    refine V_iald K (rowK g5) (rowN g5) g6 dX9_at_21 ?_
    obtain ⟨h7, e8, E⟩ := lt_inv E
    refine pf_X9_49 K dX9_at_22 ?_
    refine V_hp e8 ?_
    refine V_ic (v := 1) K dX9_at_25 rfl ?_
    cases E
    exact V_iret K dX9_at_26 rfl T
  · refine V_if_eq_f K 13 dX9_at_8 (by decide) c4 ?_
    refine V_iload_n K 0 dX9_at_11 rfl ?_
    cases E
    exact V_iret K dX9_at_12 rfl T
theorem c_X9_at (d : Nat) (a1 : Int32) (a2 : Int32) (h : Hp)  {r : Int32} {h' : Hp} (E : X9_at a1 a2 h = some (r, h')) : Runs (d + 3) yX9_at cX9_at 4 (some .int) (fun f => [.ref (f 0), .int a1, .int a2]) h (fun _ => some (.int r)) h' :=
  Runs.of (by decide +kernel) (fun _ => Nat.le_of_ble_eq_true rfl) (fun x K T => w_X9_at K  a1 a2 h  E T)
def X9_isPlan (a1 : Int32) : Int32 :=
  if a1 < (1 : Int32) then ((0 : Int32))
  else (if (20 : Int32) < a1 then ((0 : Int32))
  else ((1 : Int32)))
set_option maxHeartbeats 4000000 in
set_option maxRecDepth 100000 in
theorem w_X9_isPlan {x : Cx} {d : Nat} (K : Ok x cX9_isPlan RX9 1 (some .boolean) (d + 0)) (a1 : Int32) (h : Hp)  {z : Int32} (E : X9_isPlan a1 = z) (T : x.2.2.2.2 = (some (.int z), h)) : VV x 0 [(0, .int a1)] [] h := by
  unfold X9_isPlan at E
  refine V_iload_n K 0 dX9_isPlan_0 rfl ?_
  refine V_ic (v := 1) K dX9_isPlan_1 rfl ?_
  rcases if_inv E with ⟨c1, E⟩ | ⟨c1, E⟩
  · refine V_ic_lt_t K 15 dX9_isPlan_2 (by decide) c1 ?_
    refine V_ic (v := 0) K dX9_isPlan_15 rfl ?_
    cases E
    exact V_iret K dX9_isPlan_16 rfl T
  · refine V_ic_lt_f K 15 dX9_isPlan_2 (by decide) c1 ?_
    refine V_iload_n K 0 dX9_isPlan_5 rfl ?_
    refine V_bp (v := 20) K dX9_isPlan_6 rfl ?_
    rcases if_inv E with ⟨c2, E⟩ | ⟨c2, E⟩
    · refine V_ic_gt_t K 15 dX9_isPlan_8 (by decide) c2 ?_
      refine V_ic (v := 0) K dX9_isPlan_15 rfl ?_
      cases E
      exact V_iret K dX9_isPlan_16 rfl T
    · refine V_ic_gt_f K 15 dX9_isPlan_8 (by decide) c2 ?_
      refine V_ic (v := 1) K dX9_isPlan_11 rfl ?_
      refine V_goto K 16 dX9_isPlan_12 (by decide) ?_
      cases E
      exact V_iret K dX9_isPlan_16 rfl T
theorem c_X9_isPlan (d : Nat) (a1 : Int32) (h : Hp)  : Runs (d + 0) yX9_isPlan cX9_isPlan 1 (some .boolean) (fun f => [.int a1]) h (fun _ => some (.int (X9_isPlan a1))) h :=
  Runs.of (by decide +kernel) (fun _ => Nat.le_of_ble_eq_true rfl) (fun x K T => w_X9_isPlan K  a1 h  rfl T)
theorem bz_X9_isPlan (a1 : Int32) : narrow .boolean (.int (X9_isPlan a1)) = .int (X9_isPlan a1) := by
  unfold X9_isPlan
  repeat' split
  all_goals first | rfl | exact bz_X10_in _ _ _
def X9_shareWithout_s14 (x1 : Int32) (x2 : Int32) (x3 : Int32) (y4 : Int32) (h : Hp) : Option ((Int32 × Hp) ⊕ (Int32 × Hp)) :=
  if x3 ≤ y4 then (some (.inl (y4, h)))
  else (ob2 (X4_pass 23 x1 h) fun r6 h5 =>
  lt_ (y4 + (1 : Int32)) fun v7 =>
  some (.inr (v7, h5)))
set_option maxHeartbeats 4000000 in
set_option maxRecDepth 100000 in
theorem wl_X9_shareWithout_s14 {x : Cx} {d : Nat} (K : Ok x cX9_shareWithout RX9 5 (some .int) (d + 5)) (x1 : Int32) (x2 : Int32) (x3 : Int32)  : ∀ (n : Nat) (s : Int32 × Hp) (r : (Int32 × Hp)), lp (fun s : Int32 × Hp => X9_shareWithout_s14 x1 x2 x3 s.1 s.2) n s = some r → (fun r : (Int32 × Hp) => VV x 35 [(0, .ref (ad x 0)), (1, .int x1), (2, .int x2), (3, .int x3), (4, .int (r.1))] [] r.2) r → (fun s : Int32 × Hp => VV x 14 [(0, .ref (ad x 0)), (1, .int x1), (2, .int x2), (3, .int x3), (4, .int (s.1))] [] s.2) s := by
  refine lp_walk ?_
  intro s z E T
  obtain ⟨y4, h⟩ := s
  replace E : X9_shareWithout_s14 x1 x2 x3 y4 h = some z := E
  unfold X9_shareWithout_s14 at E
  show VV x 14 [(0, .ref (ad x 0)), (1, .int x1), (2, .int x2), (3, .int x3), (4, .int y4)] [] h
  refine V_iload K 4 dX9_shareWithout_14 rfl ?_
  refine V_iload_n K 3 dX9_shareWithout_16 rfl ?_
  rcases if_inv E with ⟨c3, E⟩ | ⟨c3, E⟩
  · refine V_ic_ge_t K 35 dX9_shareWithout_17 (by decide) c3 ?_
    cases E
    exact V_sub [0, 1, 2, 3, 4] rfl T
  · refine V_ic_ge_f K 35 dX9_shareWithout_17 (by decide) c3 ?_
    refine V_aload_n K 0 dX9_shareWithout_20 rfl ?_
    refine gf_X9_74 K dX9_shareWithout_21 ?_
    refine V_iload_n K 1 dX9_shareWithout_24 rfl ?_
    obtain ⟨r6, h5, q4, E⟩ := ob2_inv E
    refine iv_X9_203 K k_23 (c_X4_pass _ 23 x1 h k_23 q4) dX9_shareWithout_25 (Nat.le_of_ble_eq_true rfl) ?_
    refine V_pop K dX9_shareWithout_28 rfl ?_
    obtain ⟨v7, e8, E⟩ := lt_inv E
    refine V_iinc (lv' := [(4, .int v7), (0, .ref (ad x 0)), (1, .int x1), (2, .int x2), (3, .int x3)]) K 4 dX9_shareWithout_29 rfl (by rw [e8]; rfl) (by decide) rfl ?_
    refine V_goto K 14 dX9_shareWithout_32 (by decide) ?_
    cases E
    exact V_sub [1, 2, 3, 4, 0] rfl T
def X9_shareWithout (a1 : Int32) (a2 : Int32) (a3 : Int32) (h : Hp) : Option (Int32 × Hp) :=
  ob (X4_become 23 19 h) fun h2 =>
  ob2 (lp (fun s : Int32 × Hp => X9_shareWithout_s14 a1 a2 a3 s.1 s.2) FU ((0 : Int32), h2)) fun v9 h10 =>
  gd (ib a2 6) (
  some (h10.1 26 (ix a2), h10))
set_option maxHeartbeats 4000000 in
set_option maxRecDepth 100000 in
theorem w_X9_shareWithout {x : Cx} {d : Nat} (K : Ok x cX9_shareWithout RX9 5 (some .int) (d + 5)) (a1 : Int32) (a2 : Int32) (a3 : Int32) (h : Hp)  {z : Int32 × Hp} (E : X9_shareWithout a1 a2 a3 h = some z) (T : x.2.2.2.2 = (some (.int (z.1)), z.2)) : VV x 0 [(0, .ref (ad x 0)), (1, .int a1), (2, .int a2), (3, .int a3)] [] h := by
  unfold X9_shareWithout at E
  refine V_aload_n K 0 dX9_shareWithout_0 rfl ?_
  refine gf_X9_74 K dX9_shareWithout_1 ?_
  refine V_aload_n K 0 dX9_shareWithout_4 rfl ?_
  refine gf_X9_71 K dX9_shareWithout_5 ?_
  obtain ⟨h2, q1, E⟩ := ob_inv E
  refine iv_X9_120 K k_23 (c_X4_become _ 23 19 h k_23 k_19 q1) dX9_shareWithout_8 (Nat.le_of_ble_eq_true rfl) ?_
  refine V_ic (v := 0) K dX9_shareWithout_11 rfl ?_
  refine V_istore (lv' := [(4, .int (0 : Int32)), (0, .ref (ad x 0)), (1, .int a1), (2, .int a2), (3, .int a3)]) K dX9_shareWithout_12 (by decide) rfl ?_
  obtain ⟨v9, h10, q12, E⟩ := ob2_inv E
  refine V_sub [1, 2, 3, 4, 0] rfl (wl_X9_shareWithout_s14 K a1 a2 a3  _ _ _ q12 ?_)
  show VV x 35 [(0, .ref (ad x 0)), (1, .int a1), (2, .int a2), (3, .int a3), (4, .int v9)] [] h10
  refine V_aload_n K 0 dX9_shareWithout_35 rfl ?_
  refine gf_X9_74 K dX9_shareWithout_36 ?_
  refine gf_X9_146 K k_23 dX9_shareWithout_39 ?_
  refine V_iload_n K 2 dX9_shareWithout_42 rfl ?_
  obtain ⟨g11, E⟩ := gd_inv E
  refine V_iald K k_26 n_26 g11 dX9_shareWithout_43 ?_
  cases E
  exact V_iret K dX9_shareWithout_44 rfl T
theorem c_X9_shareWithout (d : Nat) (a1 : Int32) (a2 : Int32) (a3 : Int32) (h : Hp)  {r : Int32} {h' : Hp} (E : X9_shareWithout a1 a2 a3 h = some (r, h')) : Runs (d + 5) yX9_shareWithout cX9_shareWithout 5 (some .int) (fun f => [.ref (f 0), .int a1, .int a2, .int a3]) h (fun _ => some (.int r)) h' :=
  Runs.of (by decide +kernel) (fun _ => Nat.le_of_ble_eq_true rfl) (fun x K T => w_X9_shareWithout K  a1 a2 a3 h  E T)
def X9_away_s40 (x1 : Int32) (x2 : Int32) (x3 : Int32) (y4 : Int32) (y5 : Int32) (y6 : Int32) (h : Hp) : Option ((Int32 × Int32 × Int32 × Hp) ⊕ (Int32 × Int32 × Int32 × Hp)) :=
  if ((1 : Int32) <<< ((h.1 19 6) &&& 31)) ≤ y6 then (some (.inl (y4, y5, y6, h)))
  else (lt_ (J6_bitCount_0f7a4 y6) fun v6 =>
  ob3 (if ((y6 >>> (x1 &&& 31)) &&& (1 : Int32)) = (0 : Int32) then (if y4 ≤ v6 then (some (y4, y5, h))
  else (ob2 (X9_shareWithout y6 x1 x3 h) fun r15 h14 =>
  if r15 < x2 then (some (y4, y5, h14))
  else (some (v6, y6, h14))))
  else (some (y4, y5, h))) fun v8 v9 h10 =>
  lt_ (y6 + (1 : Int32)) fun v17 =>
  some (.inr (v8, v9, v17, h10)))
set_option maxHeartbeats 4000000 in
set_option maxRecDepth 100000 in
theorem wl_X9_away_s40 {x : Cx} {d : Nat} (K : Ok x cX9_away RX9 8 (some .int) (d + 6)) (x1 : Int32) (x2 : Int32) (x3 : Int32)  : ∀ (n : Nat) (s : Int32 × Int32 × Int32 × Hp) (r : (Int32 × Int32 × Int32 × Hp)), lp (fun s : Int32 × Int32 × Int32 × Hp => X9_away_s40 x1 x2 x3 s.1 s.2.1 s.2.2.1 s.2.2.2) n s = some r → (fun r : (Int32 × Int32 × Int32 × Hp) => VV x 103 [(0, .ref (ad x 0)), (1, .int x1), (2, .int x2), (3, .int x3), (4, .int (r.1)), (5, .int (r.2.1)), (6, .int (r.2.2.1))] [] r.2.2.2) r → (fun s : Int32 × Int32 × Int32 × Hp => VV x 40 [(0, .ref (ad x 0)), (1, .int x1), (2, .int x2), (3, .int x3), (4, .int (s.1)), (5, .int (s.2.1)), (6, .int (s.2.2.1))] [] s.2.2.2) s := by
  refine lp_walk ?_
  intro s z E T
  obtain ⟨y4, y5, y6, h⟩ := s
  replace E : X9_away_s40 x1 x2 x3 y4 y5 y6 h = some z := E
  unfold X9_away_s40 at E
  show VV x 40 [(0, .ref (ad x 0)), (1, .int x1), (2, .int x2), (3, .int x3), (4, .int y4), (5, .int y5), (6, .int y6)] [] h
  refine V_iload K 6 dX9_away_40 rfl ?_
  refine V_ic (v := 1) K dX9_away_42 rfl ?_
  refine V_aload_n K 0 dX9_away_43 rfl ?_
  refine gf_X9_71 K dX9_away_44 ?_
  refine gf_X9_127 K k_19 dX9_away_47 ?_
  refine V_ishl K dX9_away_50 ?_
  rcases if_inv E with ⟨c5, E⟩ | ⟨c5, E⟩
  · refine V_ic_ge_t K 103 dX9_away_51 (by decide) c5 ?_
    cases E
    exact V_sub [0, 1, 2, 3, 4, 5, 6] rfl T
  · refine V_ic_ge_f K 103 dX9_away_51 (by decide) c5 ?_
    refine V_iload K 6 dX9_away_54 rfl ?_
    refine iv_X9_209 K (c_J6_bitCount_0f7a4 _ y6 h) dX9_away_56 (Nat.le_of_ble_eq_true rfl) ?_
    obtain ⟨v6, e7, E⟩ := lt_inv E
    refine V_top e7 ?_
    refine V_istore (lv' := [(7, .int v6), (0, .ref (ad x 0)), (1, .int x1), (2, .int x2), (3, .int x3), (4, .int y4), (5, .int y5), (6, .int y6)]) K dX9_away_59 (by decide) rfl ?_
    refine V_iload K 7 dX9_away_61 rfl ?_
    refine V_iload_n K 2 dX9_away_63 rfl ?_
    refine V_ishr K dX9_away_64 ?_
    refine V_ic (v := 1) K dX9_away_65 rfl ?_
    refine V_iand K dX9_away_66 ?_
    obtain ⟨v8, v9, h10, q19, E⟩ := ob3_inv E
    have T9 : VV x 97 [(0, .ref (ad x 0)), (1, .int x1), (2, .int x2), (3, .int x3), (4, .int v8), (5, .int v9), (6, .int y6)] [] h10 := by
      obtain ⟨v17, e18, E⟩ := lt_inv E
      refine V_iinc (lv' := [(6, .int v17), (0, .ref (ad x 0)), (1, .int x1), (2, .int x2), (3, .int x3), (4, .int v8), (5, .int v9)]) K 6 dX9_away_97 rfl (by rw [e18]; rfl) (by decide) rfl ?_
      refine V_goto K 40 dX9_away_100 (by decide) ?_
      cases E
      exact V_sub [1, 2, 3, 4, 5, 6, 0] rfl T
    have E := q19
    have T := T9
    rcases if_inv E with ⟨c11, E⟩ | ⟨c11, E⟩
    · refine V_if_ne_f K 97 dX9_away_67 (by decide) c11 ?_
      refine V_iload K 0 dX9_away_70 rfl ?_
      refine V_iload K 5 dX9_away_72 rfl ?_
      rcases if_inv E with ⟨c12, E⟩ | ⟨c12, E⟩
      · refine V_ic_ge_t K 97 dX9_away_74 (by decide) c12 ?_
        cases E
        exact V_sub [1, 2, 3, 4, 5, 6, 7] rfl T
      · refine V_ic_ge_f K 97 dX9_away_74 (by decide) c12 ?_
        refine V_aload_n K 1 dX9_away_77 rfl ?_
        refine V_iload K 7 dX9_away_78 rfl ?_
        refine V_iload_n K 2 dX9_away_80 rfl ?_
        refine V_iload_n K 4 dX9_away_81 rfl ?_
        obtain ⟨r15, h14, q13, E⟩ := ob2_inv E
        refine iv_X9_214 K (c_X9_shareWithout _ y6 x1 x3 h q13) dX9_away_82 (Nat.le_of_ble_eq_true rfl) ?_
        refine V_iload_n K 3 dX9_away_85 rfl ?_
        rcases if_inv E with ⟨c16, E⟩ | ⟨c16, E⟩
        · refine V_ic_lt_t K 97 dX9_away_86 (by decide) c16 ?_
          cases E
          exact V_sub [1, 2, 3, 4, 5, 6, 7] rfl T
        · refine V_ic_lt_f K 97 dX9_away_86 (by decide) c16 ?_
          refine V_iload K 0 dX9_away_89 rfl ?_
          refine V_istore (lv' := [(4, .int v6), (7, .int v6), (0, .ref (ad x 0)), (1, .int x1), (2, .int x2), (3, .int x3), (5, .int y5), (6, .int y6)]) K dX9_away_91 (by decide) rfl ?_
          refine V_iload K 7 dX9_away_93 rfl ?_
          refine V_istore (lv' := [(5, .int y6), (4, .int v6), (7, .int v6), (0, .ref (ad x 0)), (1, .int x1), (2, .int x2), (3, .int x3), (6, .int y6)]) K dX9_away_95 (by decide) rfl ?_
          cases E
          exact V_sub [3, 4, 5, 6, 1, 0, 7] rfl T
    · refine V_if_ne_t K 97 dX9_away_67 (by decide) c11 ?_
      cases E
      exact V_sub [1, 2, 3, 4, 5, 6, 7] rfl T
def X9_away (a1 : Int32) (a2 : Int32) (a3 : Int32) (h : Hp) : Option (Int32 × Hp) :=
  if (X4_isOne 19 a1 h) = (0 : Int32) then (some ((-1 : Int32), h))
  else (if a2 < (0 : Int32) then (some ((-1 : Int32), h))
  else (if (30 : Int32) < a2 then (some ((-1 : Int32), h))
  else (if (X9_isPlan a3) = (0 : Int32) then (some ((-1 : Int32), h))
  else (ob4 (lp (fun s : Int32 × Int32 × Int32 × Hp => X9_away_s40 a1 a2 a3 s.1 s.2.1 s.2.2.1 s.2.2.2) FU ((6 : Int32), (0 : Int32), (0 : Int32), h)) fun v20 v21 v22 h23 =>
  if v20 = (6 : Int32) then (some ((-9 : Int32), h23))
  else (lt_ (up h23 0 12 v21) fun h25 =>
  some (v20, h25))))))
set_option maxHeartbeats 4000000 in
set_option maxRecDepth 100000 in
theorem w_X9_away {x : Cx} {d : Nat} (K : Ok x cX9_away RX9 8 (some .int) (d + 6)) (a1 : Int32) (a2 : Int32) (a3 : Int32) (h : Hp)  {z : Int32 × Hp} (E : X9_away a1 a2 a3 h = some z) (T : x.2.2.2.2 = (some (.int (z.1)), z.2)) : VV x 0 [(0, .ref (ad x 0)), (1, .int a1), (2, .int a2), (3, .int a3)] [] h := by
  unfold X9_away at E
  refine V_aload_n K 0 dX9_away_0 rfl ?_
  refine gf_X9_71 K dX9_away_1 ?_
  refine V_iload_n K 1 dX9_away_4 rfl ?_
  refine iv_X9_130 K k_19 (c_X4_isOne _ 19 a1 h k_19) dX9_away_5 (Nat.le_of_ble_eq_true rfl) ?_
  rcases if_inv E with ⟨c1, E⟩ | ⟨c1, E⟩
  · refine V_if_eq_t K 28 dX9_away_8 (by decide) c1 ?_
    refine V_ic (v := -1) K dX9_away_28 rfl ?_
    cases E
    exact V_iret K dX9_away_29 rfl T
  · refine V_if_eq_f K 28 dX9_away_8 (by decide) c1 ?_
    refine V_iload_n K 2 dX9_away_11 rfl ?_
    rcases if_inv E with ⟨c2, E⟩ | ⟨c2, E⟩
    · refine V_if_lt_t K 28 dX9_away_12 (by decide) c2 ?_
      refine V_ic (v := -1) K dX9_away_28 rfl ?_
      cases E
      exact V_iret K dX9_away_29 rfl T
    · refine V_if_lt_f K 28 dX9_away_12 (by decide) c2 ?_
      refine V_iload_n K 2 dX9_away_15 rfl ?_
      refine V_bp (v := 30) K dX9_away_16 rfl ?_
      rcases if_inv E with ⟨c3, E⟩ | ⟨c3, E⟩
      · refine V_ic_gt_t K 28 dX9_away_18 (by decide) c3 ?_
        refine V_ic (v := -1) K dX9_away_28 rfl ?_
        cases E
        exact V_iret K dX9_away_29 rfl T
      · refine V_ic_gt_f K 28 dX9_away_18 (by decide) c3 ?_
        refine V_iload_n K 3 dX9_away_21 rfl ?_
        refine iv_X9_206 K (c_X9_isPlan _ a3 h) dX9_away_22 (Nat.le_of_ble_eq_true rfl) ?_
        rcases if_inv E with ⟨c4, E⟩ | ⟨c4, E⟩
        · refine V_if_ne_f K 30 dX9_away_25 (by decide) c4 ?_
          refine V_ic (v := -1) K dX9_away_28 rfl ?_
          cases E
          exact V_iret K dX9_away_29 rfl T
        · refine V_if_ne_t K 30 dX9_away_25 (by decide) c4 ?_
          refine V_bp (v := 6) K dX9_away_30 rfl ?_
          refine V_istore (lv' := [(4, .int (6 : Int32)), (0, .ref (ad x 0)), (1, .int a1), (2, .int a2), (3, .int a3)]) K dX9_away_32 (by decide) rfl ?_
          refine V_ic (v := 0) K dX9_away_34 rfl ?_
          refine V_istore (lv' := [(5, .int (0 : Int32)), (4, .int (6 : Int32)), (0, .ref (ad x 0)), (1, .int a1), (2, .int a2), (3, .int a3)]) K dX9_away_35 (by decide) rfl ?_
          refine V_ic (v := 0) K dX9_away_37 rfl ?_
          refine V_istore (lv' := [(6, .int (0 : Int32)), (5, .int (0 : Int32)), (4, .int (6 : Int32)), (0, .ref (ad x 0)), (1, .int a1), (2, .int a2), (3, .int a3)]) K dX9_away_38 (by decide) rfl ?_
          obtain ⟨v20, v21, v22, h23, q27, E⟩ := ob4_inv E
          refine V_sub [3, 4, 5, 6, 2, 1, 0] rfl (wl_X9_away_s40 K a1 a2 a3  _ _ _ q27 ?_)
          show VV x 103 [(0, .ref (ad x 0)), (1, .int a1), (2, .int a2), (3, .int a3), (4, .int v20), (5, .int v21), (6, .int v22)] [] h23
          refine V_iload K 4 dX9_away_103 rfl ?_
          refine V_bp (v := 6) K dX9_away_105 rfl ?_
          rcases if_inv E with ⟨c24, E⟩ | ⟨c24, E⟩
          · refine V_ic_ne_f K 113 dX9_away_107 (by decide) c24 ?_
            refine V_bp (v := -9) K dX9_away_110 rfl ?_
            cases E
            exact V_iret K dX9_away_112 rfl T
          · refine V_ic_ne_t K 113 dX9_away_107 (by decide) c24 ?_
            refine V_aload_n K 0 dX9_away_113 rfl ?_
            refine V_iload K 5 dX9_away_114 rfl ?_
            obtain ⟨h25, e26, E⟩ := lt_inv E
            refine pf_X9_49 K dX9_away_116 ?_
            refine V_hp e26 ?_
            refine V_iload K 4 dX9_away_119 rfl ?_
            cases E
            exact V_iret K dX9_away_121 rfl T
theorem c_X9_away (d : Nat) (a1 : Int32) (a2 : Int32) (a3 : Int32) (h : Hp)  {r : Int32} {h' : Hp} (E : X9_away a1 a2 a3 h = some (r, h')) : Runs (d + 6) yX9_away cX9_away 8 (some .int) (fun f => [.ref (f 0), .int a1, .int a2, .int a3]) h (fun _ => some (.int r)) h' :=
  Runs.of (by decide +kernel) (fun _ => Nat.le_of_ble_eq_true rfl) (fun x K T => w_X9_away K  a1 a2 a3 h  E T)
def X9_beards_s4 (h : Hp) (y1 : Int32) (y2 : Int32) : Option ((Int32 × Int32) ⊕ (Int32 × Int32)) :=
  if (h.1 19 6) ≤ y2 then (some (.inl (y1, y2)))
  else (ob (X4_personOf 19 y2 h) fun r2 =>
  gd (pB r2) (
  ob (if (inBeard r2) = (0 : Int32) then (some y1)
  else (lt_ (y1 + (1 : Int32)) fun v7 =>
  some v7)) fun v5 =>
  lt_ (y2 + (1 : Int32)) fun v9 =>
  some (.inr (v5, v9))))
set_option maxHeartbeats 4000000 in
set_option maxRecDepth 100000 in
theorem wl_X9_beards_s4 {x : Cx} {d : Nat} (K : Ok x cX9_beards RX9 3 (some .int) (d + 2)) (h : Hp)  : ∀ (n : Nat) (s : Int32 × Int32) (r : (Int32 × Int32)), lp (fun s : Int32 × Int32 => X9_beards_s4 h s.1 s.2) n s = some r → (fun r : (Int32 × Int32) => VV x 38 [(0, .ref (ad x 0)), (1, .int (r.1)), (2, .int (r.2))] [] h) r → (fun s : Int32 × Int32 => VV x 4 [(0, .ref (ad x 0)), (1, .int (s.1)), (2, .int (s.2))] [] h) s := by
  refine lp_walk ?_
  intro s z E T
  obtain ⟨y1, y2⟩ := s
  replace E : X9_beards_s4 h y1 y2 = some z := E
  unfold X9_beards_s4 at E
  show VV x 4 [(0, .ref (ad x 0)), (1, .int y1), (2, .int y2)] [] h
  refine V_iload_n K 2 dX9_beards_4 rfl ?_
  refine V_aload_n K 0 dX9_beards_5 rfl ?_
  refine gf_X9_71 K dX9_beards_6 ?_
  refine gf_X9_127 K k_19 dX9_beards_9 ?_
  rcases if_inv E with ⟨c1, E⟩ | ⟨c1, E⟩
  · refine V_ic_ge_t K 38 dX9_beards_12 (by decide) c1 ?_
    cases E
    exact V_sub [0, 1, 2] rfl T
  · refine V_ic_ge_f K 38 dX9_beards_12 (by decide) c1 ?_
    refine V_aload_n K 0 dX9_beards_15 rfl ?_
    refine gf_X9_71 K dX9_beards_16 ?_
    refine V_iload_n K 2 dX9_beards_19 rfl ?_
    obtain ⟨r2, q3, E⟩ := ob_inv E
    refine iv_X9_136 K k_19 (c_X4_personOf _ 19 y2 h k_19 q3) dX9_beards_20 (Nat.le_of_ble_eq_true rfl) ?_
    obtain ⟨g4, E⟩ := gd_inv E
    refine V_instBeard K tb_356 (pB_P g4) dX9_beards_23 ?_
    obtain ⟨v5, q11, E⟩ := ob_inv E
    have T9 : VV x 32 [(0, .ref (ad x 0)), (1, .int v5), (2, .int y2)] [] h := by
      obtain ⟨v9, e10, E⟩ := lt_inv E
      refine V_iinc (lv' := [(2, .int v9), (0, .ref (ad x 0)), (1, .int v5)]) K 2 dX9_beards_32 rfl (by rw [e10]; rfl) (by decide) rfl ?_
      refine V_goto K 4 dX9_beards_35 (by decide) ?_
      cases E
      exact V_sub [1, 2, 0] rfl T
    have E := q11
    have T := T9
    rcases if_inv E with ⟨c6, E⟩ | ⟨c6, E⟩
    · refine V_if_eq_t K 32 dX9_beards_26 (by decide) c6 ?_
      cases E
      exact V_sub [0, 1, 2] rfl T
    · refine V_if_eq_f K 32 dX9_beards_26 (by decide) c6 ?_
      obtain ⟨v7, e8, E⟩ := lt_inv E
      refine V_iinc (lv' := [(1, .int v7), (0, .ref (ad x 0)), (2, .int y2)]) K 1 dX9_beards_29 rfl (by rw [e8]; rfl) (by decide) rfl ?_
      cases E
      exact V_sub [1, 0, 2] rfl T
def X9_beards  (h : Hp) : Option Int32 :=
  ob2 (lp (fun s : Int32 × Int32 => X9_beards_s4 h s.1 s.2) FU ((0 : Int32), (0 : Int32))) fun v12 v13 =>
  some v12
set_option maxHeartbeats 4000000 in
set_option maxRecDepth 100000 in
theorem w_X9_beards {x : Cx} {d : Nat} (K : Ok x cX9_beards RX9 3 (some .int) (d + 2))  (h : Hp)  {z : Int32} (E : X9_beards  h = some z) (T : x.2.2.2.2 = (some (.int z), h)) : VV x 0 [(0, .ref (ad x 0))] [] h := by
  unfold X9_beards at E
  refine V_ic (v := 0) K dX9_beards_0 rfl ?_
  refine V_istore_n (lv' := [(1, .int (0 : Int32)), (0, .ref (ad x 0))]) K dX9_beards_1 (by decide) rfl ?_
  refine V_ic (v := 0) K dX9_beards_2 rfl ?_
  refine V_istore_n (lv' := [(2, .int (0 : Int32)), (1, .int (0 : Int32)), (0, .ref (ad x 0))]) K dX9_beards_3 (by decide) rfl ?_
  obtain ⟨v12, v13, q14, E⟩ := ob2_inv E
  refine V_sub [2, 1, 0] rfl (wl_X9_beards_s4 K h  _ _ _ q14 ?_)
  show VV x 38 [(0, .ref (ad x 0)), (1, .int v12), (2, .int v13)] [] h
  refine V_iload_n K 1 dX9_beards_38 rfl ?_
  cases E
  exact V_iret K dX9_beards_39 rfl T
theorem c_X9_beards (d : Nat)  (h : Hp)  {r : Int32} (E : X9_beards  h = some r) : Runs (d + 2) yX9_beards cX9_beards 3 (some .int) (fun f => [.ref (f 0)]) h (fun _ => some (.int r)) h :=
  Runs.of (by decide +kernel) (fun _ => Nat.le_of_ble_eq_true rfl) (fun x K T => w_X9_beards K   h  E T)
def X9_best_s28 (x1 : Int32) (x2 : Int32) (y3 : Int32) (y4 : Int32) (y5 : Int32) (h : Hp) : Option ((Int32 × Int32 × Int32 × Hp) ⊕ (Int32 × Int32 × Int32 × Hp)) :=
  if (10 : Int32) ≤ y5 then (some (.inl (y3, y4, y5, h)))
  else (ob (X4_become 23 19 h) fun h5 =>
  gd (ib x1 6) (
  lt_ (up h5 25 (ix x1) y5) fun h7 =>
  ob (X4_passAll 23 x2 h7) fun h10 =>
  ob2 (if (h10.1 26 (ix x1)) ≤ y3 then (some (y3, y4))
  else (lt_ (h10.1 26 (ix x1)) fun v14 =>
  some (v14, y5))) fun v11 v12 =>
  lt_ (y5 + (1 : Int32)) fun v16 =>
  some (.inr (v11, v12, v16, h10))))
set_option maxHeartbeats 4000000 in
set_option maxRecDepth 100000 in
theorem wl_X9_best_s28 {x : Cx} {d : Nat} (K : Ok x cX9_best RX9 6 (some .int) (d + 6)) (x1 : Int32) (x2 : Int32)  : ∀ (n : Nat) (s : Int32 × Int32 × Int32 × Hp) (r : (Int32 × Int32 × Int32 × Hp)), lp (fun s : Int32 × Int32 × Int32 × Hp => X9_best_s28 x1 x2 s.1 s.2.1 s.2.2.1 s.2.2.2) n s = some r → (fun r : (Int32 × Int32 × Int32 × Hp) => VV x 98 [(0, .ref (ad x 0)), (1, .int x1), (2, .int x2), (3, .int (r.1)), (4, .int (r.2.1)), (5, .int (r.2.2.1))] [] r.2.2.2) r → (fun s : Int32 × Int32 × Int32 × Hp => VV x 28 [(0, .ref (ad x 0)), (1, .int x1), (2, .int x2), (3, .int (s.1)), (4, .int (s.2.1)), (5, .int (s.2.2.1))] [] s.2.2.2) s := by
  refine lp_walk ?_
  intro s z E T
  obtain ⟨y3, y4, y5, h⟩ := s
  replace E : X9_best_s28 x1 x2 y3 y4 y5 h = some z := E
  unfold X9_best_s28 at E
  show VV x 28 [(0, .ref (ad x 0)), (1, .int x1), (2, .int x2), (3, .int y3), (4, .int y4), (5, .int y5)] [] h
  refine V_iload K 5 dX9_best_28 rfl ?_
  refine V_bp (v := 10) K dX9_best_30 rfl ?_
  rcases if_inv E with ⟨c3, E⟩ | ⟨c3, E⟩
  · refine V_ic_ge_t K 98 dX9_best_32 (by decide) c3 ?_
    cases E
    exact V_sub [0, 1, 2, 3, 4, 5] rfl T
  · refine V_ic_ge_f K 98 dX9_best_32 (by decide) c3 ?_
    refine V_aload_n K 0 dX9_best_35 rfl ?_
    refine gf_X9_74 K dX9_best_36 ?_
    refine V_aload_n K 0 dX9_best_39 rfl ?_
    refine gf_X9_71 K dX9_best_40 ?_
    obtain ⟨h5, q4, E⟩ := ob_inv E
    refine iv_X9_120 K k_23 (c_X4_become _ 23 19 h k_23 k_19 q4) dX9_best_43 (Nat.le_of_ble_eq_true rfl) ?_
    refine V_aload_n K 0 dX9_best_46 rfl ?_
    refine gf_X9_74 K dX9_best_47 ?_
    refine gf_X9_182 K k_23 dX9_best_50 ?_
    refine V_iload_n K 1 dX9_best_53 rfl ?_
    refine V_iload K 5 dX9_best_54 rfl ?_
    obtain ⟨g6, E⟩ := gd_inv E
    obtain ⟨h7, e8, E⟩ := lt_inv E
    refine V_iast K k_25 n_25 g6 dX9_best_56 ?_
    refine V_hp e8 ?_
    refine V_aload_n K 0 dX9_best_57 rfl ?_
    refine gf_X9_74 K dX9_best_58 ?_
    refine V_iload_n K 2 dX9_best_61 rfl ?_
    obtain ⟨h10, q9, E⟩ := ob_inv E
    refine iv_X9_197 K k_23 (c_X4_passAll _ 23 x2 h7 k_23 q9) dX9_best_62 (Nat.le_of_ble_eq_true rfl) ?_
    refine V_aload_n K 0 dX9_best_65 rfl ?_
    refine gf_X9_74 K dX9_best_66 ?_
    refine gf_X9_146 K k_23 dX9_best_69 ?_
    refine V_iload_n K 1 dX9_best_72 rfl ?_
    refine V_iald K k_26 n_26 g6 dX9_best_73 ?_
    refine V_iload_n K 3 dX9_best_74 rfl ?_
    obtain ⟨v11, v12, q18, E⟩ := ob2_inv E
    have T9 : VV x 92 [(0, .ref (ad x 0)), (1, .int x1), (2, .int x2), (3, .int v11), (4, .int v12), (5, .int y5)] [] h10 := by
      obtain ⟨v16, e17, E⟩ := lt_inv E
      refine V_iinc (lv' := [(5, .int v16), (0, .ref (ad x 0)), (1, .int x1), (2, .int x2), (3, .int v11), (4, .int v12)]) K 5 dX9_best_92 rfl (by rw [e17]; rfl) (by decide) rfl ?_
      refine V_goto K 28 dX9_best_95 (by decide) ?_
      cases E
      exact V_sub [1, 2, 3, 4, 5, 0] rfl T
    have E := q18
    have T := T9
    rcases if_inv E with ⟨c13, E⟩ | ⟨c13, E⟩
    · refine V_ic_le_t K 92 dX9_best_75 (by decide) c13 ?_
      cases E
      exact V_sub [0, 1, 2, 3, 4, 5] rfl T
    · refine V_ic_le_f K 92 dX9_best_75 (by decide) c13 ?_
      refine V_aload_n K 0 dX9_best_78 rfl ?_
      refine gf_X9_74 K dX9_best_79 ?_
      refine gf_X9_146 K k_23 dX9_best_82 ?_
      refine V_iload_n K 1 dX9_best_85 rfl ?_
      refine V_iald K k_26 n_26 g6 dX9_best_86 ?_
      obtain ⟨v14, e15, E⟩ := lt_inv E
      refine V_top e15 ?_
      refine V_istore_n (lv' := [(3, .int v14), (0, .ref (ad x 0)), (1, .int x1), (2, .int x2), (4, .int y4), (5, .int y5)]) K dX9_best_87 (by decide) rfl ?_
      refine V_iload K 5 dX9_best_88 rfl ?_
      refine V_istore (lv' := [(4, .int y5), (3, .int v14), (0, .ref (ad x 0)), (1, .int x1), (2, .int x2), (5, .int y5)]) K dX9_best_90 (by decide) rfl ?_
      cases E
      exact V_sub [2, 3, 4, 1, 0, 5] rfl T
def X9_best (a1 : Int32) (a2 : Int32) (h : Hp) : Option (Int32 × Hp) :=
  if (X4_isOne 19 a1 h) = (0 : Int32) then (some ((-1 : Int32), h))
  else (if (X9_isPlan a2) = (0 : Int32) then (some ((-1 : Int32), h))
  else (ob4 (lp (fun s : Int32 × Int32 × Int32 × Hp => X9_best_s28 a1 a2 s.1 s.2.1 s.2.2.1 s.2.2.2) FU ((-1 : Int32), (0 : Int32), (0 : Int32), h)) fun v19 v20 v21 h22 =>
  lt_ (up h22 0 12 v19) fun h23 =>
  some (v20, h23)))
set_option maxHeartbeats 4000000 in
set_option maxRecDepth 100000 in
theorem w_X9_best {x : Cx} {d : Nat} (K : Ok x cX9_best RX9 6 (some .int) (d + 6)) (a1 : Int32) (a2 : Int32) (h : Hp)  {z : Int32 × Hp} (E : X9_best a1 a2 h = some z) (T : x.2.2.2.2 = (some (.int (z.1)), z.2)) : VV x 0 [(0, .ref (ad x 0)), (1, .int a1), (2, .int a2)] [] h := by
  unfold X9_best at E
  refine V_aload_n K 0 dX9_best_0 rfl ?_
  refine gf_X9_71 K dX9_best_1 ?_
  refine V_iload_n K 1 dX9_best_4 rfl ?_
  refine iv_X9_130 K k_19 (c_X4_isOne _ 19 a1 h k_19) dX9_best_5 (Nat.le_of_ble_eq_true rfl) ?_
  rcases if_inv E with ⟨c1, E⟩ | ⟨c1, E⟩
  · refine V_if_eq_t K 18 dX9_best_8 (by decide) c1 ?_
    refine V_ic (v := -1) K dX9_best_18 rfl ?_
    cases E
    exact V_iret K dX9_best_19 rfl T
  · refine V_if_eq_f K 18 dX9_best_8 (by decide) c1 ?_
    refine V_iload_n K 2 dX9_best_11 rfl ?_
    refine iv_X9_206 K (c_X9_isPlan _ a2 h) dX9_best_12 (Nat.le_of_ble_eq_true rfl) ?_
    rcases if_inv E with ⟨c2, E⟩ | ⟨c2, E⟩
    · refine V_if_ne_f K 20 dX9_best_15 (by decide) c2 ?_
      refine V_ic (v := -1) K dX9_best_18 rfl ?_
      cases E
      exact V_iret K dX9_best_19 rfl T
    · refine V_if_ne_t K 20 dX9_best_15 (by decide) c2 ?_
      refine V_ic (v := -1) K dX9_best_20 rfl ?_
      refine V_istore_n (lv' := [(3, .int (-1 : Int32)), (0, .ref (ad x 0)), (1, .int a1), (2, .int a2)]) K dX9_best_21 (by decide) rfl ?_
      refine V_ic (v := 0) K dX9_best_22 rfl ?_
      refine V_istore (lv' := [(4, .int (0 : Int32)), (3, .int (-1 : Int32)), (0, .ref (ad x 0)), (1, .int a1), (2, .int a2)]) K dX9_best_23 (by decide) rfl ?_
      refine V_ic (v := 0) K dX9_best_25 rfl ?_
      refine V_istore (lv' := [(5, .int (0 : Int32)), (4, .int (0 : Int32)), (3, .int (-1 : Int32)), (0, .ref (ad x 0)), (1, .int a1), (2, .int a2)]) K dX9_best_26 (by decide) rfl ?_
      obtain ⟨v19, v20, v21, h22, q25, E⟩ := ob4_inv E
      refine V_sub [3, 4, 5, 2, 1, 0] rfl (wl_X9_best_s28 K a1 a2  _ _ _ q25 ?_)
      show VV x 98 [(0, .ref (ad x 0)), (1, .int a1), (2, .int a2), (3, .int v19), (4, .int v20), (5, .int v21)] [] h22
      refine V_aload_n K 0 dX9_best_98 rfl ?_
      refine V_iload_n K 3 dX9_best_99 rfl ?_
      obtain ⟨h23, e24, E⟩ := lt_inv E
      refine pf_X9_49 K dX9_best_100 ?_
      refine V_hp e24 ?_
      refine V_iload K 4 dX9_best_103 rfl ?_
      cases E
      exact V_iret K dX9_best_105 rfl T
theorem c_X9_best (d : Nat) (a1 : Int32) (a2 : Int32) (h : Hp)  {r : Int32} {h' : Hp} (E : X9_best a1 a2 h = some (r, h')) : Runs (d + 6) yX9_best cX9_best 6 (some .int) (fun f => [.ref (f 0), .int a1, .int a2]) h (fun _ => some (.int r)) h' :=
  Runs.of (by decide +kernel) (fun _ => Nat.le_of_ble_eq_true rfl) (fun x K T => w_X9_best K  a1 a2 h  E T)
def X9_cloud (a1 : Int32) (h : Hp) : Option (Int32 × Hp) :=
  if a1 < (0 : Int32) then (some ((-1 : Int32), h))
  else (if a1 ≤ (40 : Int32) then (if (h.1 19 6) = (0 : Int32) then (some ((-4 : Int32), h))
  else (ob (X4_become 23 19 h) fun h5 =>
  ob (X4_passAll 23 a1 h5) fun h7 =>
  lt_ (up h7 0 12 (h7.1 23 8)) fun h8 =>
  some (h8.1 23 7, h8)))
  else (some ((-1 : Int32), h)))
set_option maxHeartbeats 4000000 in
set_option maxRecDepth 100000 in
theorem w_X9_cloud {x : Cx} {d : Nat} (K : Ok x cX9_cloud RX9 2 (some .int) (d + 6)) (a1 : Int32) (h : Hp)  {z : Int32 × Hp} (E : X9_cloud a1 h = some z) (T : x.2.2.2.2 = (some (.int (z.1)), z.2)) : VV x 0 [(0, .ref (ad x 0)), (1, .int a1)] [] h := by
  unfold X9_cloud at E
  refine V_iload_n K 1 dX9_cloud_0 rfl ?_
  rcases if_inv E with ⟨c1, E⟩ | ⟨c1, E⟩
  · refine V_if_lt_t K 10 dX9_cloud_1 (by decide) c1 ?_
    refine V_ic (v := -1) K dX9_cloud_10 rfl ?_
    cases E
    exact V_iret K dX9_cloud_11 rfl T
  · refine V_if_lt_f K 10 dX9_cloud_1 (by decide) c1 ?_
    refine V_iload_n K 1 dX9_cloud_4 rfl ?_
    refine V_bp (v := 40) K dX9_cloud_5 rfl ?_
    rcases if_inv E with ⟨c2, E⟩ | ⟨c2, E⟩
    · refine V_ic_le_t K 12 dX9_cloud_7 (by decide) c2 ?_
      refine V_aload_n K 0 dX9_cloud_12 rfl ?_
      refine gf_X9_71 K dX9_cloud_13 ?_
      refine gf_X9_127 K k_19 dX9_cloud_16 ?_
      rcases if_inv E with ⟨c3, E⟩ | ⟨c3, E⟩
      · refine V_if_ne_f K 25 dX9_cloud_19 (by decide) c3 ?_
        refine V_bp (v := -4) K dX9_cloud_22 rfl ?_
        cases E
        exact V_iret K dX9_cloud_24 rfl T
      · refine V_if_ne_t K 25 dX9_cloud_19 (by decide) c3 ?_
        refine V_aload_n K 0 dX9_cloud_25 rfl ?_
        refine gf_X9_74 K dX9_cloud_26 ?_
        refine V_aload_n K 0 dX9_cloud_29 rfl ?_
        refine gf_X9_71 K dX9_cloud_30 ?_
        obtain ⟨h5, q4, E⟩ := ob_inv E
        refine iv_X9_120 K k_23 (c_X4_become _ 23 19 h k_23 k_19 q4) dX9_cloud_33 (Nat.le_of_ble_eq_true rfl) ?_
        refine V_aload_n K 0 dX9_cloud_36 rfl ?_
        refine gf_X9_74 K dX9_cloud_37 ?_
        refine V_iload_n K 1 dX9_cloud_40 rfl ?_
        obtain ⟨h7, q6, E⟩ := ob_inv E
        refine iv_X9_197 K k_23 (c_X4_passAll _ 23 a1 h5 k_23 q6) dX9_cloud_41 (Nat.le_of_ble_eq_true rfl) ?_
        refine V_aload_n K 0 dX9_cloud_44 rfl ?_
        refine V_aload_n K 0 dX9_cloud_45 rfl ?_
        refine gf_X9_74 K dX9_cloud_46 ?_
        refine gf_X9_200 K k_23 dX9_cloud_49 ?_
        obtain ⟨h8, e9, E⟩ := lt_inv E
        refine pf_X9_49 K dX9_cloud_52 ?_
        refine V_hp e9 ?_
        refine V_aload_n K 0 dX9_cloud_55 rfl ?_
        refine gf_X9_74 K dX9_cloud_56 ?_
        refine gf_X9_159 K k_23 dX9_cloud_59 ?_
        cases E
        exact V_iret K dX9_cloud_62 rfl T
    · refine V_ic_le_f K 12 dX9_cloud_7 (by decide) c2 ?_
      refine V_ic (v := -1) K dX9_cloud_10 rfl ?_
      cases E
      exact V_iret K dX9_cloud_11 rfl T
theorem c_X9_cloud (d : Nat) (a1 : Int32) (h : Hp)  {r : Int32} {h' : Hp} (E : X9_cloud a1 h = some (r, h')) : Runs (d + 6) yX9_cloud cX9_cloud 2 (some .int) (fun f => [.ref (f 0), .int a1]) h (fun _ => some (.int r)) h' :=
  Runs.of (by decide +kernel) (fun _ => Nat.le_of_ble_eq_true rfl) (fun x K T => w_X9_cloud K  a1 h  E T)
def X9_commonDivisor_s9  (y4 : Int64) (y6 : Int64) (y8 : Int32) : Option ((Int64 × Int64 × Int32) ⊕ (Int64 × Int64 × Int32)) :=
  if (100 : Int32) ≤ y8 then (some (.inl (y4, y6, y8)))
  else (if (lg_cmp y6 (0 : Int64)) = (0 : Int32) then (some (.inl (y4, y6, y8)))
  else (gd (nzL y6) (
  lt_ (lrm y4 y6) fun v4 =>
  lt_ (y8 + (1 : Int32)) fun v6 =>
  some (.inr (y6, v4, v6)))))
set_option maxHeartbeats 4000000 in
set_option maxRecDepth 100000 in
theorem wl_X9_commonDivisor_s9 {x : Cx} {d : Nat} (K : Ok x cX9_commonDivisor RX9 11 (some .long) (d + 0)) (h : Hp)  : ∀ (n : Nat) (s : Int64 × Int64 × Int32) (r : (Int64 × Int64 × Int32)), lp (fun s : Int64 × Int64 × Int32 => X9_commonDivisor_s9  s.1 s.2.1 s.2.2) n s = some r → (fun r : (Int64 × Int64 × Int32) => VV x 44 [(4, .long (r.1)), (6, .long (r.2.1)), (8, .int (r.2.2))] [] h) r → (fun s : Int64 × Int64 × Int32 => VV x 9 [(4, .long (s.1)), (6, .long (s.2.1)), (8, .int (s.2.2))] [] h) s := by
  refine lp_walk ?_
  intro s z E T
  obtain ⟨y4, y6, y8⟩ := s
  replace E : X9_commonDivisor_s9  y4 y6 y8 = some z := E
  unfold X9_commonDivisor_s9 at E
  show VV x 9 [(4, .long y4), (6, .long y6), (8, .int y8)] [] h
  refine V_iload K 2 dX9_commonDivisor_9 rfl ?_
  refine V_bp (v := 100) K dX9_commonDivisor_11 rfl ?_
  rcases if_inv E with ⟨c1, E⟩ | ⟨c1, E⟩
  · refine V_ic_ge_t K 44 dX9_commonDivisor_13 (by decide) c1 ?_
    cases E
    exact V_sub [0, 1, 2] rfl T
  · refine V_ic_ge_f K 44 dX9_commonDivisor_13 (by decide) c1 ?_
    refine V_lload K 1 dX9_commonDivisor_16 rfl ?_
    refine V_lc (v := 0) K dX9_commonDivisor_18 rfl ?_
    refine V_lcmp K dX9_commonDivisor_19 ?_
    rcases if_inv E with ⟨c2, E⟩ | ⟨c2, E⟩
    · refine V_if_eq_t K 44 dX9_commonDivisor_20 (by decide) c2 ?_
      cases E
      exact V_sub [0, 1, 2] rfl T
    · refine V_if_eq_f K 44 dX9_commonDivisor_20 (by decide) c2 ?_
      refine V_lload K 0 dX9_commonDivisor_23 rfl ?_
      refine V_lload K 1 dX9_commonDivisor_25 rfl ?_
      obtain ⟨g3, E⟩ := gd_inv E
      refine V_lrem K dX9_commonDivisor_27 (nzL_ne g3) ?_
      obtain ⟨v4, e5, E⟩ := lt_inv E
      refine V_topl e5 ?_
      refine V_lstore (lv' := [(9, .long v4), (4, .long y4), (6, .long y6), (8, .int y8)]) K dX9_commonDivisor_28 (by decide) rfl ?_
      refine V_lload K 2 dX9_commonDivisor_30 rfl ?_
      refine V_lstore (lv' := [(4, .long y6), (9, .long v4), (6, .long y6), (8, .int y8)]) K dX9_commonDivisor_32 (by decide) rfl ?_
      refine V_lload K 1 dX9_commonDivisor_34 rfl ?_
      refine V_lstore (lv' := [(6, .long v4), (4, .long y6), (9, .long v4), (8, .int y8)]) K dX9_commonDivisor_36 (by decide) rfl ?_
      obtain ⟨v6, e7, E⟩ := lt_inv E
      refine V_iinc (lv' := [(8, .int v6), (6, .long v4), (4, .long y6), (9, .long v4)]) K 3 dX9_commonDivisor_38 rfl (by rw [e7]; rfl) (by decide) rfl ?_
      refine V_goto K 9 dX9_commonDivisor_41 (by decide) ?_
      cases E
      exact V_sub [2, 1, 0] rfl T
def X9_commonDivisor (a1 : Int64) (a2 : Int64) : Option Int64 :=
  ob3 (lp (fun s : Int64 × Int64 × Int32 => X9_commonDivisor_s9  s.1 s.2.1 s.2.2) FU (a1, a2, (0 : Int32))) fun v8 v9 v10 =>
  some v8
set_option maxHeartbeats 4000000 in
set_option maxRecDepth 100000 in
theorem w_X9_commonDivisor {x : Cx} {d : Nat} (K : Ok x cX9_commonDivisor RX9 11 (some .long) (d + 0)) (a1 : Int64) (a2 : Int64) (h : Hp)  {z : Int64} (E : X9_commonDivisor a1 a2 = some z) (T : x.2.2.2.2 = (some (.long z), h)) : VV x 0 [(0, .long a1), (2, .long a2)] [] h := by
  unfold X9_commonDivisor at E
  refine V_lload_n K 0 dX9_commonDivisor_0 rfl ?_
  refine V_lstore (lv' := [(4, .long a1), (0, .long a1), (2, .long a2)]) K dX9_commonDivisor_1 (by decide) rfl ?_
  refine V_lload_n K 2 dX9_commonDivisor_3 rfl ?_
  refine V_lstore (lv' := [(6, .long a2), (4, .long a1), (0, .long a1), (2, .long a2)]) K dX9_commonDivisor_4 (by decide) rfl ?_
  refine V_ic (v := 0) K dX9_commonDivisor_6 rfl ?_
  refine V_istore (lv' := [(8, .int (0 : Int32)), (6, .long a2), (4, .long a1), (0, .long a1), (2, .long a2)]) K dX9_commonDivisor_7 (by decide) rfl ?_
  obtain ⟨v8, v9, v10, q11, E⟩ := ob3_inv E
  refine V_sub [2, 1, 0] rfl (wl_X9_commonDivisor_s9 K h  _ _ _ q11 ?_)
  show VV x 44 [(4, .long v8), (6, .long v9), (8, .int v10)] [] h
  refine V_lload K 0 dX9_commonDivisor_44 rfl ?_
  cases E
  exact V_lret K dX9_commonDivisor_46 T
theorem c_X9_commonDivisor (d : Nat) (a1 : Int64) (a2 : Int64) (h : Hp)  {r : Int64} (E : X9_commonDivisor a1 a2 = some r) : Runs (d + 0) yX9_commonDivisor cX9_commonDivisor 11 (some .long) (fun f => [.long a1, .long a2]) h (fun _ => some (.long r)) h :=
  Runs.of (by decide +kernel) (fun _ => Nat.le_of_ble_eq_true rfl) (fun x K T => w_X9_commonDivisor K  a1 a2 h  E T)
def X9_copy (a1 : Int32) (a2 : Int32) (a3 : Int32) (a4 : Int32) (a5 : Int32) (h : Hp) : Option (Int32 × Hp) :=
  if (X9_isRow a1) = (0 : Int32) then (some ((-1 : Int32), h))
  else (if (X9_isRow a3) = (0 : Int32) then (some ((-1 : Int32), h))
  else (if (0 : Int32) ≤ a5 then (gd (ib a1 6) (
  if (h.1 8 (ix a1)) = (-1 : Int32) then (ob2 (X9_answerFinding (1 : Int32) h) fun r8 h7 =>
  some (r8, h7))
  else (gd (ib a3 6) (
  if (h.1 8 (ix a3)) = (-1 : Int32) then (ob2 (X9_answerFinding (1 : Int32) h) fun r13 h12 =>
  some (r13, h12))
  else (ob (X9_hasPlaces a1 a2 a5 h) fun r14 =>
  if r14 = (0 : Int32) then (ob2 (X9_answerFinding (2 : Int32) h) fun r19 h18 =>
  some (r19, h18))
  else (ob (X9_hasPlaces a3 a4 a5 h) fun r20 =>
  if r20 = (0 : Int32) then (ob2 (X9_answerFinding (2 : Int32) h) fun r25 h24 =>
  some (r25, h24))
  else (gd (cpOk a2 a4 a5 40 40) (
  lt_ (upA h (2 + ix a3) (va_cpy (h.1 (2 + ix a1)) (h.1 (2 + ix a3)) (ix a2) (ix a4) (ix a5))) fun h27 =>
  some ((1 : Int32), h27)))))))))
  else (ob2 (X9_answerFinding (5 : Int32) h) fun r31 h30 =>
  some (r31, h30))))
set_option maxHeartbeats 4000000 in
set_option maxRecDepth 100000 in
theorem w_X9_copy {x : Cx} {d : Nat} (K : Ok x cX9_copy RX9 6 (some .int) (d + 1)) (a1 : Int32) (a2 : Int32) (a3 : Int32) (a4 : Int32) (a5 : Int32) (h : Hp)  {z : Int32 × Hp} (E : X9_copy a1 a2 a3 a4 a5 h = some z) (T : x.2.2.2.2 = (some (.int (z.1)), z.2)) : VV x 0 [(0, .ref (ad x 0)), (1, .int a1), (2, .int a2), (3, .int a3), (4, .int a4), (5, .int a5)] [] h := by
  unfold X9_copy at E
  refine V_iload_n K 1 dX9_copy_0 rfl ?_
  refine iv_X9_83 K (c_X9_isRow _ a1 h) dX9_copy_1 (Nat.le_of_ble_eq_true rfl) ?_
  rcases if_inv E with ⟨c1, E⟩ | ⟨c1, E⟩
  · refine V_if_eq_t K 14 dX9_copy_4 (by decide) c1 ?_
    refine V_ic (v := -1) K dX9_copy_14 rfl ?_
    cases E
    exact V_iret K dX9_copy_15 rfl T
  · refine V_if_eq_f K 14 dX9_copy_4 (by decide) c1 ?_
    refine V_iload_n K 3 dX9_copy_7 rfl ?_
    refine iv_X9_83 K (c_X9_isRow _ a3 h) dX9_copy_8 (Nat.le_of_ble_eq_true rfl) ?_
    rcases if_inv E with ⟨c2, E⟩ | ⟨c2, E⟩
    · refine V_if_ne_f K 16 dX9_copy_11 (by decide) c2 ?_
      refine V_ic (v := -1) K dX9_copy_14 rfl ?_
      cases E
      exact V_iret K dX9_copy_15 rfl T
    · refine V_if_ne_t K 16 dX9_copy_11 (by decide) c2 ?_
      refine V_iload K 5 dX9_copy_16 rfl ?_
      rcases if_inv E with ⟨c3, E⟩ | ⟨c3, E⟩
      · refine V_if_ge_t K 27 dX9_copy_18 (by decide) c3 ?_
        refine V_aload_n K 0 dX9_copy_27 rfl ?_
        refine gf_X9_14 K dX9_copy_28 ?_
        refine V_iload_n K 1 dX9_copy_31 rfl ?_
        obtain ⟨g4, E⟩ := gd_inv E
        refine V_iald K k_8 n_8 g4 dX9_copy_32 ?_
        refine V_ic (v := -1) K dX9_copy_33 rfl ?_
        rcases if_inv E with ⟨c5, E⟩ | ⟨c5, E⟩
        · refine V_ic_eq_t K 47 dX9_copy_34 (by decide) c5 ?_
          refine V_aload_n K 0 dX9_copy_47 rfl ?_
          refine V_ic (v := 1) K dX9_copy_48 rfl ?_
          obtain ⟨r8, h7, q6, E⟩ := ob2_inv E
          refine iv_X9_87 K (c_X9_answerFinding _ (1 : Int32) h q6) dX9_copy_49 (Nat.le_of_ble_eq_true rfl) ?_
          cases E
          exact V_iret K dX9_copy_52 rfl T
        · refine V_ic_eq_f K 47 dX9_copy_34 (by decide) c5 ?_
          refine V_aload_n K 0 dX9_copy_37 rfl ?_
          refine gf_X9_14 K dX9_copy_38 ?_
          refine V_iload_n K 3 dX9_copy_41 rfl ?_
          obtain ⟨g9, E⟩ := gd_inv E
          refine V_iald K k_8 n_8 g9 dX9_copy_42 ?_
          refine V_ic (v := -1) K dX9_copy_43 rfl ?_
          rcases if_inv E with ⟨c10, E⟩ | ⟨c10, E⟩
          · refine V_ic_ne_f K 53 dX9_copy_44 (by decide) c10 ?_
            refine V_aload_n K 0 dX9_copy_47 rfl ?_
            refine V_ic (v := 1) K dX9_copy_48 rfl ?_
            obtain ⟨r13, h12, q11, E⟩ := ob2_inv E
            refine iv_X9_87 K (c_X9_answerFinding _ (1 : Int32) h q11) dX9_copy_49 (Nat.le_of_ble_eq_true rfl) ?_
            cases E
            exact V_iret K dX9_copy_52 rfl T
          · refine V_ic_ne_t K 53 dX9_copy_44 (by decide) c10 ?_
            refine V_aload_n K 0 dX9_copy_53 rfl ?_
            refine V_iload_n K 1 dX9_copy_54 rfl ?_
            refine V_iload_n K 2 dX9_copy_55 rfl ?_
            refine V_iload K 5 dX9_copy_56 rfl ?_
            obtain ⟨r14, q15, E⟩ := ob_inv E
            refine iv_X9_98 K (c_X9_hasPlaces _ a1 a2 a5 h q15) dX9_copy_58 (Nat.le_of_ble_eq_true rfl) ?_
            rcases if_inv E with ⟨c16, E⟩ | ⟨c16, E⟩
            · refine V_if_eq_t K 76 dX9_copy_61 (by decide) c16 ?_
              refine V_aload_n K 0 dX9_copy_76 rfl ?_
              refine V_ic (v := 2) K dX9_copy_77 rfl ?_
              obtain ⟨r19, h18, q17, E⟩ := ob2_inv E
              refine iv_X9_87 K (c_X9_answerFinding _ (2 : Int32) h q17) dX9_copy_78 (Nat.le_of_ble_eq_true rfl) ?_
              cases E
              exact V_iret K dX9_copy_81 rfl T
            · refine V_if_eq_f K 76 dX9_copy_61 (by decide) c16 ?_
              refine V_aload_n K 0 dX9_copy_64 rfl ?_
              refine V_iload_n K 3 dX9_copy_65 rfl ?_
              refine V_iload K 4 dX9_copy_66 rfl ?_
              refine V_iload K 5 dX9_copy_68 rfl ?_
              obtain ⟨r20, q21, E⟩ := ob_inv E
              refine iv_X9_98 K (c_X9_hasPlaces _ a3 a4 a5 h q21) dX9_copy_70 (Nat.le_of_ble_eq_true rfl) ?_
              rcases if_inv E with ⟨c22, E⟩ | ⟨c22, E⟩
              · refine V_if_ne_f K 82 dX9_copy_73 (by decide) c22 ?_
                refine V_aload_n K 0 dX9_copy_76 rfl ?_
                refine V_ic (v := 2) K dX9_copy_77 rfl ?_
                obtain ⟨r25, h24, q23, E⟩ := ob2_inv E
                refine iv_X9_87 K (c_X9_answerFinding _ (2 : Int32) h q23) dX9_copy_78 (Nat.le_of_ble_eq_true rfl) ?_
                cases E
                exact V_iret K dX9_copy_81 rfl T
              · refine V_if_ne_t K 82 dX9_copy_73 (by decide) c22 ?_
                refine V_aload_n K 0 dX9_copy_82 rfl ?_
                refine gf_X9_11 K dX9_copy_83 ?_
                refine V_iload_n K 1 dX9_copy_86 rfl ?_
                refine V_aaload15 K k_1 g4 (rowR g4) dX9_copy_87 ?_
                refine V_iload_n K 2 dX9_copy_88 rfl ?_
                refine V_aload_n K 0 dX9_copy_89 rfl ?_
                refine gf_X9_11 K dX9_copy_90 ?_
                refine V_iload_n K 3 dX9_copy_93 rfl ?_
                refine V_aaload15 K k_1 g9 (rowR g9) dX9_copy_94 ?_
                refine V_iload K 4 dX9_copy_95 rfl ?_
                refine V_iload K 5 dX9_copy_97 rfl ?_
                obtain ⟨g26, E⟩ := gd_inv E
                obtain ⟨h27, e28, E⟩ := lt_inv E
                refine V_cpy K tb_364 tb_233 tb_234 tb_235 (rowK g4) (rowK g9) (rowN g4) (rowN g9) g26 (Nat.le_of_ble_eq_true rfl) dX9_copy_99 ?_
                refine V_hp e28 ?_
                refine V_ic (v := 1) K dX9_copy_102 rfl ?_
                cases E
                exact V_iret K dX9_copy_103 rfl T
      · refine V_if_ge_f K 27 dX9_copy_18 (by decide) c3 ?_
        refine V_aload_n K 0 dX9_copy_21 rfl ?_
        refine V_ic (v := 5) K dX9_copy_22 rfl ?_
        obtain ⟨r31, h30, q29, E⟩ := ob2_inv E
        refine iv_X9_87 K (c_X9_answerFinding _ (5 : Int32) h q29) dX9_copy_23 (Nat.le_of_ble_eq_true rfl) ?_
        cases E
        exact V_iret K dX9_copy_26 rfl T
theorem c_X9_copy (d : Nat) (a1 : Int32) (a2 : Int32) (a3 : Int32) (a4 : Int32) (a5 : Int32) (h : Hp)  {r : Int32} {h' : Hp} (E : X9_copy a1 a2 a3 a4 a5 h = some (r, h')) : Runs (d + 1) yX9_copy cX9_copy 6 (some .int) (fun f => [.ref (f 0), .int a1, .int a2, .int a3, .int a4, .int a5]) h (fun _ => some (.int r)) h' :=
  Runs.of (by decide +kernel) (fun _ => Nat.le_of_ble_eq_true rfl) (fun x K T => w_X9_copy K  a1 a2 a3 a4 a5 h  E T)
