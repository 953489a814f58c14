def X9_wasps_s4 (h : Hp) (y1 : Int32) (y2 : Int32) : Option ((Int32 × Int32) ⊕ (Int32 × Int32)) :=
  if (h.1 19 6) ≤ y2 then (some (.inl (y1, y2)))
  else (ob (X4_personOf 19 y2 h) fun r2 =>
  gd (pB r2) (
  ob (if (inWasp r2) = (0 : Int32) then (some y1)
  else (lt_ (y1 + (1 : Int32)) fun v7 =>
  some v7)) fun v5 =>
  lt_ (y2 + (1 : Int32)) fun v9 =>
  some (.inr (v5, v9))))
set_option maxHeartbeats 4000000 in
set_option maxRecDepth 100000 in
theorem wl_X9_wasps_s4 {x : Cx} {d : Nat} (K : Ok x cX9_wasps RX9 3 (some .int) (d + 2)) (h : Hp)  : ∀ (n : Nat) (s : Int32 × Int32) (r : (Int32 × Int32)), lp (fun s : Int32 × Int32 => X9_wasps_s4 h s.1 s.2) n s = some r → (fun r : (Int32 × Int32) => VV x 38 [(0, .ref (ad x 0)), (1, .int (r.1)), (2, .int (r.2))] [] h) r → (fun s : Int32 × Int32 => VV x 4 [(0, .ref (ad x 0)), (1, .int (s.1)), (2, .int (s.2))] [] h) s := by
  refine lp_walk ?_
  intro s z E T
  obtain ⟨y1, y2⟩ := s
  replace E : X9_wasps_s4 h y1 y2 = some z := E
  unfold X9_wasps_s4 at E
  show VV x 4 [(0, .ref (ad x 0)), (1, .int y1), (2, .int y2)] [] h
  refine V_iload_n K 2 dX9_wasps_4 rfl ?_
  refine V_aload_n K 0 dX9_wasps_5 rfl ?_
  refine gf_X9_71 K dX9_wasps_6 ?_
  refine gf_X9_127 K k_19 dX9_wasps_9 ?_
  rcases if_inv E with ⟨c1, E⟩ | ⟨c1, E⟩
  · refine V_ic_ge_t K 38 dX9_wasps_12 (by decide) c1 ?_
    cases E
    exact V_sub [0, 1, 2] rfl T
  · refine V_ic_ge_f K 38 dX9_wasps_12 (by decide) c1 ?_
    refine V_aload_n K 0 dX9_wasps_15 rfl ?_
    refine gf_X9_71 K dX9_wasps_16 ?_
    refine V_iload_n K 2 dX9_wasps_19 rfl ?_
    obtain ⟨r2, q3, E⟩ := ob_inv E
    refine iv_X9_136 K k_19 (c_X4_personOf _ 19 y2 h k_19 q3) dX9_wasps_20 (Nat.le_of_ble_eq_true rfl) ?_
    obtain ⟨g4, E⟩ := gd_inv E
    refine V_instWasp K tb_365 (pB_P g4) dX9_wasps_23 ?_
    obtain ⟨v5, q11, E⟩ := ob_inv E
    have T9 : VV x 32 [(0, .ref (ad x 0)), (1, .int v5), (2, .int y2)] [] h := by
      obtain ⟨v9, e10, E⟩ := lt_inv E
      refine V_iinc (lv' := [(2, .int v9), (0, .ref (ad x 0)), (1, .int v5)]) K 2 dX9_wasps_32 rfl (by rw [e10]; rfl) (by decide) rfl ?_
      refine V_goto K 4 dX9_wasps_35 (by decide) ?_
      cases E
      exact V_sub [1, 2, 0] rfl T
    have E := q11
    have T := T9
    rcases if_inv E with ⟨c6, E⟩ | ⟨c6, E⟩
    · refine V_if_eq_t K 32 dX9_wasps_26 (by decide) c6 ?_
      cases E
      exact V_sub [0, 1, 2] rfl T
    · refine V_if_eq_f K 32 dX9_wasps_26 (by decide) c6 ?_
      obtain ⟨v7, e8, E⟩ := lt_inv E
      refine V_iinc (lv' := [(1, .int v7), (0, .ref (ad x 0)), (2, .int y2)]) K 1 dX9_wasps_29 rfl (by rw [e8]; rfl) (by decide) rfl ?_
      cases E
      exact V_sub [1, 0, 2] rfl T
def X9_wasps  (h : Hp) : Option Int32 :=
  ob2 (lp (fun s : Int32 × Int32 => X9_wasps_s4 h s.1 s.2) FU ((0 : Int32), (0 : Int32))) fun v12 v13 =>
  some v12
set_option maxHeartbeats 4000000 in
set_option maxRecDepth 100000 in
theorem w_X9_wasps {x : Cx} {d : Nat} (K : Ok x cX9_wasps RX9 3 (some .int) (d + 2))  (h : Hp)  {z : Int32} (E : X9_wasps  h = some z) (T : x.2.2.2.2 = (some (.int z), h)) : VV x 0 [(0, .ref (ad x 0))] [] h := by
  unfold X9_wasps at E
  refine V_ic (v := 0) K dX9_wasps_0 rfl ?_
  refine V_istore_n (lv' := [(1, .int (0 : Int32)), (0, .ref (ad x 0))]) K dX9_wasps_1 (by decide) rfl ?_
  refine V_ic (v := 0) K dX9_wasps_2 rfl ?_
  refine V_istore_n (lv' := [(2, .int (0 : Int32)), (1, .int (0 : Int32)), (0, .ref (ad x 0))]) K dX9_wasps_3 (by decide) rfl ?_
  obtain ⟨v12, v13, q14, E⟩ := ob2_inv E
  refine V_sub [2, 1, 0] rfl (wl_X9_wasps_s4 K h  _ _ _ q14 ?_)
  show VV x 38 [(0, .ref (ad x 0)), (1, .int v12), (2, .int v13)] [] h
  refine V_iload_n K 1 dX9_wasps_38 rfl ?_
  cases E
  exact V_iret K dX9_wasps_39 rfl T
theorem c_X9_wasps (d : Nat)  (h : Hp)  {r : Int32} (E : X9_wasps  h = some r) : Runs (d + 2) yX9_wasps cX9_wasps 3 (some .int) (fun f => [.ref (f 0)]) h (fun _ => some (.int r)) h :=
  Runs.of (by decide +kernel) (fun _ => Nat.le_of_ble_eq_true rfl) (fun x K T => w_X9_wasps K   h  E T)
def X9_howManyThere_s10 (r2 : Nat) (x3 : Int32) (h : Hp) (y1 : Int32) (y4 : Int32) : Option ((Int32 × Int32) ⊕ (Int32 × Int32)) :=
  if x3 ≤ y4 then (some (.inl (y1, y4)))
  else (gd (ib y4 (shN r2)) (
  lt_ (h.1 r2 (ix y4)) fun v5 =>
  ob (if v5 = (-1 : Int32) then (some y1)
  else (lt_ (y1 + (1 : Int32)) fun v9 =>
  some v9)) fun v7 =>
  lt_ (y4 + (1 : Int32)) fun v11 =>
  some (.inr (v7, v11))))
set_option maxHeartbeats 4000000 in
set_option maxRecDepth 100000 in
theorem wl_X9_howManyThere_s10 {x : Cx} {d : Nat} (K : Ok x cX9_howManyThere RX9 6 (some .int) (d + 0)) (r2 : Nat) (x3 : Int32) (h : Hp) (hr2 : shK r2 = 12) : ∀ (n : Nat) (s : Int32 × Int32) (r : (Int32 × Int32)), lp (fun s : Int32 × Int32 => X9_howManyThere_s10 r2 x3 h s.1 s.2) n s = some r → (fun r : (Int32 × Int32) => VV x 37 [(1, .int (r.1)), (2, .ref (ad x r2)), (3, .int x3), (4, .int (r.2))] [] h) r → (fun s : Int32 × Int32 => VV x 10 [(1, .int (s.1)), (2, .ref (ad x r2)), (3, .int x3), (4, .int (s.2))] [] h) s := by
  refine lp_walk ?_
  intro s z E T
  obtain ⟨y1, y4⟩ := s
  replace E : X9_howManyThere_s10 r2 x3 h y1 y4 = some z := E
  unfold X9_howManyThere_s10 at E
  show VV x 10 [(1, .int y1), (2, .ref (ad x r2)), (3, .int x3), (4, .int y4)] [] h
  refine V_iload K 3 dX9_howManyThere_10 rfl ?_
  refine V_iload_n K 2 dX9_howManyThere_12 rfl ?_
  rcases if_inv E with ⟨c3, E⟩ | ⟨c3, E⟩
  · refine V_ic_ge_t K 37 dX9_howManyThere_13 (by decide) c3 ?_
    cases E
    exact V_sub [0, 1, 2, 3] rfl T
  · refine V_ic_ge_f K 37 dX9_howManyThere_13 (by decide) c3 ?_
    refine V_aload_n K 1 dX9_howManyThere_16 rfl ?_
    refine V_iload K 3 dX9_howManyThere_17 rfl ?_
    obtain ⟨g4, E⟩ := gd_inv E
    refine V_iald K hr2 rfl g4 dX9_howManyThere_19 ?_
    obtain ⟨v5, e6, E⟩ := lt_inv E
    refine V_top e6 ?_
    refine V_istore (lv' := [(5, .int v5), (1, .int y1), (2, .ref (ad x r2)), (3, .int x3), (4, .int y4)]) K dX9_howManyThere_20 (by decide) rfl ?_
    refine V_iload K 0 dX9_howManyThere_22 rfl ?_
    refine V_ic (v := -1) K dX9_howManyThere_24 rfl ?_
    obtain ⟨v7, q13, E⟩ := ob_inv E
    have T9 : VV x 31 [(1, .int v7), (2, .ref (ad x r2)), (3, .int x3), (4, .int y4)] [] h := by
      obtain ⟨v11, e12, E⟩ := lt_inv E
      refine V_iinc (lv' := [(4, .int v11), (1, .int v7), (2, .ref (ad x r2)), (3, .int x3)]) K 3 dX9_howManyThere_31 rfl (by rw [e12]; rfl) (by decide) rfl ?_
      refine V_goto K 10 dX9_howManyThere_34 (by decide) ?_
      cases E
      exact V_sub [1, 2, 3, 0] rfl T
    have E := q13
    have T := T9
    rcases if_inv E with ⟨c8, E⟩ | ⟨c8, E⟩
    · refine V_ic_eq_t K 31 dX9_howManyThere_25 (by decide) c8 ?_
      cases E
      exact V_sub [1, 2, 3, 4] rfl T
    · refine V_ic_eq_f K 31 dX9_howManyThere_25 (by decide) c8 ?_
      obtain ⟨v9, e10, E⟩ := lt_inv E
      refine V_iinc (lv' := [(1, .int v9), (5, .int v5), (2, .ref (ad x r2)), (3, .int x3), (4, .int y4)]) K 1 dX9_howManyThere_28 rfl (by rw [e10]; rfl) (by decide) rfl ?_
      cases E
      exact V_sub [0, 2, 3, 4] rfl T
def X9_howManyThere (a1 : Nat) (h : Hp) : Option Int32 :=
  lt_ (Int32.ofNat (shN a1)) fun v1 =>
  ob2 (lp (fun s : Int32 × Int32 => X9_howManyThere_s10 a1 v1 h s.1 s.2) FU ((0 : Int32), (0 : Int32))) fun v14 v15 =>
  some v14
set_option maxHeartbeats 4000000 in
set_option maxRecDepth 100000 in
theorem w_X9_howManyThere {x : Cx} {d : Nat} (K : Ok x cX9_howManyThere RX9 6 (some .int) (d + 0)) (a1 : Nat) (h : Hp) (ha1 : shK a1 = 12) {z : Int32} (E : X9_howManyThere a1 h = some z) (T : x.2.2.2.2 = (some (.int z), h)) : VV x 0 [(0, .ref (ad x a1))] [] h := by
  unfold X9_howManyThere at E
  refine V_ic (v := 0) K dX9_howManyThere_0 rfl ?_
  refine V_istore_n (lv' := [(1, .int (0 : Int32)), (0, .ref (ad x a1))]) K dX9_howManyThere_1 (by decide) rfl ?_
  refine V_aload_n K 1 dX9_howManyThere_2 rfl ?_
  refine V_astore_n (lv' := [(2, .ref (ad x a1)), (1, .int (0 : Int32)), (0, .ref (ad x a1))]) K dX9_howManyThere_3 (by decide) rfl ?_
  refine V_aload_n K 0 dX9_howManyThere_4 rfl ?_
  refine V_alen K (Or.inl ha1) dX9_howManyThere_5 ?_
  obtain ⟨v1, e2, E⟩ := lt_inv E
  refine V_top e2 ?_
  refine V_istore_n (lv' := [(3, .int v1), (2, .ref (ad x a1)), (1, .int (0 : Int32)), (0, .ref (ad x a1))]) K dX9_howManyThere_6 (by decide) rfl ?_
  refine V_ic (v := 0) K dX9_howManyThere_7 rfl ?_
  refine V_istore (lv' := [(4, .int (0 : Int32)), (3, .int v1), (2, .ref (ad x a1)), (1, .int (0 : Int32)), (0, .ref (ad x a1))]) K dX9_howManyThere_8 (by decide) rfl ?_
  obtain ⟨v14, v15, q16, E⟩ := ob2_inv E
  refine V_sub [3, 2, 1, 0] rfl (wl_X9_howManyThere_s10 K a1 v1 h ha1 _ _ _ q16 ?_)
  show VV x 37 [(1, .int v14), (2, .ref (ad x a1)), (3, .int v1), (4, .int v15)] [] h
  refine V_iload_n K 0 dX9_howManyThere_37 rfl ?_
  cases E
  exact V_iret K dX9_howManyThere_38 rfl T
theorem c_X9_howManyThere (d : Nat) (a1 : Nat) (h : Hp) (ha1 : shK a1 = 12) {r : Int32} (E : X9_howManyThere a1 h = some r) : Runs (d + 0) yX9_howManyThere cX9_howManyThere 6 (some .int) (fun f => [.ref (f a1)]) h (fun _ => some (.int r)) h :=
  Runs.of (by decide +kernel) (fun _ => Nat.le_of_ble_eq_true rfl) (fun x K T => w_X9_howManyThere K  a1 h ha1 E T)
def X9_howManyKept_s13 (x3 : Int32) (h : Hp) (y1 : Int32) (y4 : Int32) : Option ((Int32 × Int32) ⊕ (Int32 × Int32)) :=
  if x3 ≤ y4 then (some (.inl (y1, y4)))
  else (gd (ib y4 3) (
  ob (if (h.1 (30 + 2 * ix y4) 1) = (-1 : Int32) then (some y1)
  else (lt_ (y1 + (1 : Int32)) fun v7 =>
  some v7)) fun v5 =>
  lt_ (y4 + (1 : Int32)) fun v9 =>
  some (.inr (v5, v9))))
set_option maxHeartbeats 4000000 in
set_option maxRecDepth 100000 in
theorem wl_X9_howManyKept_s13 {x : Cx} {d : Nat} (K : Ok x cX9_howManyKept RX9 6 (some .int) (d + 0)) (x3 : Int32) (h : Hp)  : ∀ (n : Nat) (s : Int32 × Int32) (r : (Int32 × Int32)), lp (fun s : Int32 × Int32 => X9_howManyKept_s13 x3 h s.1 s.2) n s = some r → (fun r : (Int32 × Int32) => VV x 43 [(1, .int (r.1)), (2, .ref (ad x 29)), (3, .int x3), (4, .int (r.2))] [] h) r → (fun s : Int32 × Int32 => VV x 13 [(1, .int (s.1)), (2, .ref (ad x 29)), (3, .int x3), (4, .int (s.2))] [] h) s := by
  refine lp_walk ?_
  intro s z E T
  obtain ⟨y1, y4⟩ := s
  replace E : X9_howManyKept_s13 x3 h y1 y4 = some z := E
  unfold X9_howManyKept_s13 at E
  show VV x 13 [(1, .int y1), (2, .ref (ad x 29)), (3, .int x3), (4, .int y4)] [] h
  refine V_iload K 3 dX9_howManyKept_13 rfl ?_
  refine V_iload_n K 2 dX9_howManyKept_15 rfl ?_
  rcases if_inv E with ⟨c3, E⟩ | ⟨c3, E⟩
  · refine V_ic_ge_t K 43 dX9_howManyKept_16 (by decide) c3 ?_
    cases E
    exact V_sub [0, 1, 2, 3] rfl T
  · refine V_ic_ge_f K 43 dX9_howManyKept_16 (by decide) c3 ?_
    refine V_aload_n K 1 dX9_howManyKept_19 rfl ?_
    refine V_iload K 3 dX9_howManyKept_20 rfl ?_
    obtain ⟨g4, E⟩ := gd_inv E
    refine V_aaload13 K k_29 g4 (kepR g4) dX9_howManyKept_22 ?_
    refine V_astore (lv' := [(5, .ref (ad x (30 + 2 * ix y4))), (1, .int y1), (2, .ref (ad x 29)), (3, .int x3), (4, .int y4)]) K dX9_howManyKept_23 (by decide) rfl ?_
    refine V_aload K 0 dX9_howManyKept_25 rfl ?_
    refine gf_X9_124 K (kepK g4) dX9_howManyKept_27 ?_
    refine V_ic (v := -1) K dX9_howManyKept_30 rfl ?_
    obtain ⟨v5, q11, E⟩ := ob_inv E
    have T9 : VV x 37 [(1, .int v5), (2, .ref (ad x 29)), (3, .int x3), (4, .int y4)] [] h := by
      obtain ⟨v9, e10, E⟩ := lt_inv E
      refine V_iinc (lv' := [(4, .int v9), (1, .int v5), (2, .ref (ad x 29)), (3, .int x3)]) K 3 dX9_howManyKept_37 rfl (by rw [e10]; rfl) (by decide) rfl ?_
      refine V_goto K 13 dX9_howManyKept_40 (by decide) ?_
      cases E
      exact V_sub [1, 2, 3, 0] rfl T
    have E := q11
    have T := T9
    rcases if_inv E with ⟨c6, E⟩ | ⟨c6, E⟩
    · refine V_ic_eq_t K 37 dX9_howManyKept_31 (by decide) c6 ?_
      cases E
      exact V_sub [1, 2, 3, 4] rfl T
    · refine V_ic_eq_f K 37 dX9_howManyKept_31 (by decide) c6 ?_
      obtain ⟨v7, e8, E⟩ := lt_inv E
      refine V_iinc (lv' := [(1, .int v7), (5, .ref (ad x (30 + 2 * ix y4))), (2, .ref (ad x 29)), (3, .int x3), (4, .int y4)]) K 1 dX9_howManyKept_34 rfl (by rw [e8]; rfl) (by decide) rfl ?_
      cases E
      exact V_sub [0, 2, 3, 4] rfl T
def X9_howManyKept  (h : Hp) : Option Int32 :=
  lt_ (Int32.ofNat (shN 29)) fun v1 =>
  ob2 (lp (fun s : Int32 × Int32 => X9_howManyKept_s13 v1 h s.1 s.2) FU ((0 : Int32), (0 : Int32))) fun v12 v13 =>
  some v12
set_option maxHeartbeats 4000000 in
set_option maxRecDepth 100000 in
theorem w_X9_howManyKept {x : Cx} {d : Nat} (K : Ok x cX9_howManyKept RX9 6 (some .int) (d + 0))  (h : Hp)  {z : Int32} (E : X9_howManyKept  h = some z) (T : x.2.2.2.2 = (some (.int z), h)) : VV x 0 [(0, .ref (ad x 0))] [] h := by
  unfold X9_howManyKept at E
  refine V_ic (v := 0) K dX9_howManyKept_0 rfl ?_
  refine V_istore_n (lv' := [(1, .int (0 : Int32)), (0, .ref (ad x 0))]) K dX9_howManyKept_1 (by decide) rfl ?_
  refine V_aload_n K 1 dX9_howManyKept_2 rfl ?_
  refine gf_X9_35 K dX9_howManyKept_3 ?_
  refine V_astore_n (lv' := [(2, .ref (ad x 29)), (1, .int (0 : Int32)), (0, .ref (ad x 0))]) K dX9_howManyKept_6 (by decide) rfl ?_
  refine V_aload_n K 0 dX9_howManyKept_7 rfl ?_
  refine V_alenq K k_29 dX9_howManyKept_8 ?_
  obtain ⟨v1, e2, E⟩ := lt_inv E
  refine V_top e2 ?_
  refine V_istore_n (lv' := [(3, .int v1), (2, .ref (ad x 29)), (1, .int (0 : Int32)), (0, .ref (ad x 0))]) K dX9_howManyKept_9 (by decide) rfl ?_
  refine V_ic (v := 0) K dX9_howManyKept_10 rfl ?_
  refine V_istore (lv' := [(4, .int (0 : Int32)), (3, .int v1), (2, .ref (ad x 29)), (1, .int (0 : Int32)), (0, .ref (ad x 0))]) K dX9_howManyKept_11 (by decide) rfl ?_
  obtain ⟨v12, v13, q14, E⟩ := ob2_inv E
  refine V_sub [3, 2, 1, 0] rfl (wl_X9_howManyKept_s13 K v1 h  _ _ _ q14 ?_)
  show VV x 43 [(1, .int v12), (2, .ref (ad x 29)), (3, .int v1), (4, .int v13)] [] h
  refine V_iload_n K 0 dX9_howManyKept_43 rfl ?_
  cases E
  exact V_iret K dX9_howManyKept_44 rfl T
theorem c_X9_howManyKept (d : Nat)  (h : Hp)  {r : Int32} (E : X9_howManyKept  h = some r) : Runs (d + 0) yX9_howManyKept cX9_howManyKept 6 (some .int) (fun f => [.ref (f 0)]) h (fun _ => some (.int r)) h :=
  Runs.of (by decide +kernel) (fun _ => Nat.le_of_ble_eq_true rfl) (fun x K T => w_X9_howManyKept K   h  E T)
def X9_count (a1 : Int32) (h : Hp) : Option Int32 :=
  if a1 = (0 : Int32) then (some (h.1 19 6))
  else (if a1 = (1 : Int32) then (some (h.1 19 7))
  else (if a1 = (2 : Int32) then (some (h.1 19 8))
  else (if a1 = (3 : Int32) then (some (h.1 19 9))
  else (if a1 = (4 : Int32) then (some (h.1 19 10))
  else (if a1 = (5 : Int32) then (some (h.1 19 11))
  else (if a1 = (6 : Int32) then (some (h.1 27 1))
  else (if a1 = (7 : Int32) then (some (h.1 19 4))
  else (if a1 = (8 : Int32) then (some (h.1 19 5))
  else (if a1 = (9 : Int32) then (ob (X4_inAll 19 h) fun r11 =>
  some r11)
  else (if a1 = (10 : Int32) then (ob (X9_beards h) fun r14 =>
  some r14)
  else (if a1 = (11 : Int32) then (ob (X9_wasps h) fun r17 =>
  some r17)
  else (if a1 = (12 : Int32) then (ob (X9_howManyThere 8 h) fun r20 =>
  some r20)
  else (if a1 = (13 : Int32) then (ob (X9_howManyThere 14 h) fun r23 =>
  some r23)
  else (if a1 = (14 : Int32) then (ob (X9_howManyKept h) fun r26 =>
  some r26)
  else (some (-1 : Int32))))))))))))))))
set_option maxHeartbeats 4000000 in
set_option maxRecDepth 100000 in
theorem w_X9_count {x : Cx} {d : Nat} (K : Ok x cX9_count RX9 2 (some .int) (d + 3)) (a1 : Int32) (h : Hp)  {z : Int32} (E : X9_count a1 h = some z) (T : x.2.2.2.2 = (some (.int z), h)) : VV x 0 [(0, .ref (ad x 0)), (1, .int a1)] [] h := by
  unfold X9_count at E
  refine V_iload_n K 1 dX9_count_0 rfl ?_
  rcases if_inv E with ⟨c1, E⟩ | ⟨c1, E⟩
  · refine V_tin (off := 75) K 76 dX9_count_1 (by rw [c1]; decide) (by rw [c1]; decide) (by rw [c1]; rfl) (by decide) ?_
    refine V_aload_n K 0 dX9_count_76 rfl ?_
    refine gf_X9_71 K dX9_count_77 ?_
    refine gf_X9_127 K k_19 dX9_count_80 ?_
    cases E
    exact V_iret K dX9_count_83 rfl T
  · rcases if_inv E with ⟨c2, E⟩ | ⟨c2, E⟩
    · refine V_tin (off := 83) K 84 dX9_count_1 (by rw [c2]; decide) (by rw [c2]; decide) (by rw [c2]; rfl) (by decide) ?_
      refine V_aload_n K 0 dX9_count_84 rfl ?_
      refine gf_X9_71 K dX9_count_85 ?_
      refine gf_X9_159 K k_19 dX9_count_88 ?_
      cases E
      exact V_iret K dX9_count_91 rfl T
    · rcases if_inv E with ⟨c3, E⟩ | ⟨c3, E⟩
      · refine V_tin (off := 91) K 92 dX9_count_1 (by rw [c3]; decide) (by rw [c3]; decide) (by rw [c3]; rfl) (by decide) ?_
        refine V_aload_n K 0 dX9_count_92 rfl ?_
        refine gf_X9_71 K dX9_count_93 ?_
        refine gf_X9_200 K k_19 dX9_count_96 ?_
        cases E
        exact V_iret K dX9_count_99 rfl T
      · rcases if_inv E with ⟨c4, E⟩ | ⟨c4, E⟩
        · refine V_tin (off := 99) K 100 dX9_count_1 (by rw [c4]; decide) (by rw [c4]; decide) (by rw [c4]; rfl) (by decide) ?_
          refine V_aload_n K 0 dX9_count_100 rfl ?_
          refine gf_X9_71 K dX9_count_101 ?_
          refine gf_X9_176 K k_19 dX9_count_104 ?_
          cases E
          exact V_iret K dX9_count_107 rfl T
        · rcases if_inv E with ⟨c5, E⟩ | ⟨c5, E⟩
          · refine V_tin (off := 107) K 108 dX9_count_1 (by rw [c5]; decide) (by rw [c5]; decide) (by rw [c5]; rfl) (by decide) ?_
            refine V_aload_n K 0 dX9_count_108 rfl ?_
            refine gf_X9_71 K dX9_count_109 ?_
            refine gf_X9_179 K k_19 dX9_count_112 ?_
            cases E
            exact V_iret K dX9_count_115 rfl T
          · rcases if_inv E with ⟨c6, E⟩ | ⟨c6, E⟩
            · refine V_tin (off := 115) K 116 dX9_count_1 (by rw [c6]; decide) (by rw [c6]; decide) (by rw [c6]; rfl) (by decide) ?_
              refine V_aload_n K 0 dX9_count_116 rfl ?_
              refine gf_X9_71 K dX9_count_117 ?_
              refine gf_X9_270 K k_19 dX9_count_120 ?_
              cases E
              exact V_iret K dX9_count_123 rfl T
            · rcases if_inv E with ⟨c7, E⟩ | ⟨c7, E⟩
              · refine V_tin (off := 123) K 124 dX9_count_1 (by rw [c7]; decide) (by rw [c7]; decide) (by rw [c7]; rfl) (by decide) ?_
                refine V_aload_n K 0 dX9_count_124 rfl ?_
                refine gf_X9_31 K dX9_count_125 ?_
                refine gf_X9_124 K k_27 dX9_count_128 ?_
                cases E
                exact V_iret K dX9_count_131 rfl T
              · rcases if_inv E with ⟨c8, E⟩ | ⟨c8, E⟩
                · refine V_tin (off := 131) K 132 dX9_count_1 (by rw [c8]; decide) (by rw [c8]; decide) (by rw [c8]; rfl) (by decide) ?_
                  refine V_aload_n K 0 dX9_count_132 rfl ?_
                  refine gf_X9_71 K dX9_count_133 ?_
                  refine gf_X9_273 K k_19 dX9_count_136 ?_
                  cases E
                  exact V_iret K dX9_count_139 rfl T
                · rcases if_inv E with ⟨c9, E⟩ | ⟨c9, E⟩
                  · refine V_tin (off := 139) K 140 dX9_count_1 (by rw [c9]; decide) (by rw [c9]; decide) (by rw [c9]; rfl) (by decide) ?_
                    refine V_aload_n K 0 dX9_count_140 rfl ?_
                    refine gf_X9_71 K dX9_count_141 ?_
                    refine gf_X9_276 K k_19 dX9_count_144 ?_
                    cases E
                    exact V_iret K dX9_count_147 rfl T
                  · rcases if_inv E with ⟨c10, E⟩ | ⟨c10, E⟩
                    · refine V_tin (off := 147) K 148 dX9_count_1 (by rw [c10]; decide) (by rw [c10]; decide) (by rw [c10]; rfl) (by decide) ?_
                      refine V_aload_n K 0 dX9_count_148 rfl ?_
                      refine gf_X9_71 K dX9_count_149 ?_
                      obtain ⟨r11, q12, E⟩ := ob_inv E
                      refine iv_X9_142 K k_19 (c_X4_inAll _ 19 h k_19 q12) dX9_count_152 (Nat.le_of_ble_eq_true rfl) ?_
                      cases E
                      exact V_iret K dX9_count_155 rfl T
                    · rcases if_inv E with ⟨c13, E⟩ | ⟨c13, E⟩
                      · refine V_tin (off := 155) K 156 dX9_count_1 (by rw [c13]; decide) (by rw [c13]; decide) (by rw [c13]; rfl) (by decide) ?_
                        refine V_aload_n K 0 dX9_count_156 rfl ?_
                        obtain ⟨r14, q15, E⟩ := ob_inv E
                        refine iv_X9_279 K (c_X9_beards _ h q15) dX9_count_157 (Nat.le_of_ble_eq_true rfl) ?_
                        cases E
                        exact V_iret K dX9_count_160 rfl T
                      · rcases if_inv E with ⟨c16, E⟩ | ⟨c16, E⟩
                        · refine V_tin (off := 160) K 161 dX9_count_1 (by rw [c16]; decide) (by rw [c16]; decide) (by rw [c16]; rfl) (by decide) ?_
                          refine V_aload_n K 0 dX9_count_161 rfl ?_
                          obtain ⟨r17, q18, E⟩ := ob_inv E
                          refine iv_X9_282 K (c_X9_wasps _ h q18) dX9_count_162 (Nat.le_of_ble_eq_true rfl) ?_
                          cases E
                          exact V_iret K dX9_count_165 rfl T
                        · rcases if_inv E with ⟨c19, E⟩ | ⟨c19, E⟩
                          · refine V_tin (off := 165) K 166 dX9_count_1 (by rw [c19]; decide) (by rw [c19]; decide) (by rw [c19]; rfl) (by decide) ?_
                            refine V_aload_n K 0 dX9_count_166 rfl ?_
                            refine gf_X9_14 K dX9_count_167 ?_
                            obtain ⟨r20, q21, E⟩ := ob_inv E
                            refine iv_X9_285 K (c_X9_howManyThere _ 8 h k_8 q21) dX9_count_170 (Nat.le_of_ble_eq_true rfl) ?_
                            cases E
                            exact V_iret K dX9_count_173 rfl T
                          · rcases if_inv E with ⟨c22, E⟩ | ⟨c22, E⟩
                            · refine V_tin (off := 173) K 174 dX9_count_1 (by rw [c22]; decide) (by rw [c22]; decide) (by rw [c22]; rfl) (by decide) ?_
                              refine V_aload_n K 0 dX9_count_174 rfl ?_
                              refine gf_X9_23 K dX9_count_175 ?_
                              obtain ⟨r23, q24, E⟩ := ob_inv E
                              refine iv_X9_285 K (c_X9_howManyThere _ 14 h k_14 q24) dX9_count_178 (Nat.le_of_ble_eq_true rfl) ?_
                              cases E
                              exact V_iret K dX9_count_181 rfl T
                            · rcases if_inv E with ⟨c25, E⟩ | ⟨c25, E⟩
                              · refine V_tin (off := 181) K 182 dX9_count_1 (by rw [c25]; decide) (by rw [c25]; decide) (by rw [c25]; rfl) (by decide) ?_
                                refine V_aload_n K 0 dX9_count_182 rfl ?_
                                obtain ⟨r26, q27, E⟩ := ob_inv E
                                refine iv_X9_288 K (c_X9_howManyKept _ h q27) dX9_count_183 (Nat.le_of_ble_eq_true rfl) ?_
                                cases E
                                exact V_iret K dX9_count_186 rfl T
                              · refine V_tout K 187 dX9_count_1 (by have n0 := lv_neT c1 (a := 0) (by decide); have n1 := lv_neT c2 (a := 1) (by decide); have n2 := lv_neT c3 (a := 2) (by decide); have n3 := lv_neT c4 (a := 3) (by decide); have n4 := lv_neT c5 (a := 4) (by decide); have n5 := lv_neT c6 (a := 5) (by decide); have n6 := lv_neT c7 (a := 6) (by decide); have n7 := lv_neT c8 (a := 7) (by decide); have n8 := lv_neT c9 (a := 8) (by decide); have n9 := lv_neT c10 (a := 9) (by decide); have n10 := lv_neT c13 (a := 10) (by decide); have n11 := lv_neT c16 (a := 11) (by decide); have n12 := lv_neT c19 (a := 12) (by decide); have n13 := lv_neT c22 (a := 13) (by decide); have n14 := lv_neT c25 (a := 14) (by decide); omega) (by decide) ?_
                                refine V_ic (v := -1) K dX9_count_187 rfl ?_
                                cases E
                                exact V_iret K dX9_count_188 rfl T
theorem c_X9_count (d : Nat) (a1 : Int32) (h : Hp)  {r : Int32} (E : X9_count a1 h = some r) : Runs (d + 3) yX9_count cX9_count 2 (some .int) (fun f => [.ref (f 0), .int a1]) h (fun _ => some (.int r)) h :=
  Runs.of (by decide +kernel) (fun _ => Nat.le_of_ble_eq_true rfl) (fun x K T => w_X9_count K  a1 h  E T)
def X9_valueOfOne (a1 : Int32) (a2 : Int32) (h : Hp) : Option Int32 :=
  if a2 = (0 : Int32) then (gd (ib a1 6) (
  some (h.1 20 (ix a1))))
  else (if a2 = (1 : Int32) then (gd (ib a1 6) (
  some (h.1 21 (ix a1))))
  else (if a2 = (2 : Int32) then (gd (ib a1 6) (
  some (h.1 22 (ix a1))))
  else (if a2 = (3 : Int32) then (ob (X4_partFor 19 a1 (h.1 19 7) h) fun r8 =>
  some r8)
  else (ob (X4_farFromCloud 19 a1 h) fun r10 =>
  some r10))))
set_option maxHeartbeats 4000000 in
set_option maxRecDepth 100000 in
theorem w_X9_valueOfOne {x : Cx} {d : Nat} (K : Ok x cX9_valueOfOne RX9 3 (some .int) (d + 4)) (a1 : Int32) (a2 : Int32) (h : Hp)  {z : Int32} (E : X9_valueOfOne a1 a2 h = some z) (T : x.2.2.2.2 = (some (.int z), h)) : VV x 0 [(0, .ref (ad x 0)), (1, .int a1), (2, .int a2)] [] h := by
  unfold X9_valueOfOne at E
  refine V_iload_n K 2 dX9_valueOfOne_0 rfl ?_
  rcases if_inv E with ⟨c1, E⟩ | ⟨c1, E⟩
  · refine V_tin (off := 31) K 32 dX9_valueOfOne_1 (by rw [c1]; decide) (by rw [c1]; decide) (by rw [c1]; rfl) (by decide) ?_
    refine V_aload_n K 0 dX9_valueOfOne_32 rfl ?_
    refine gf_X9_71 K dX9_valueOfOne_33 ?_
    refine gf_X9_231 K k_19 dX9_valueOfOne_36 ?_
    refine V_iload_n K 1 dX9_valueOfOne_39 rfl ?_
    obtain ⟨g2, E⟩ := gd_inv E
    refine V_iald K k_20 n_20 g2 dX9_valueOfOne_40 ?_
    cases E
    exact V_iret K dX9_valueOfOne_41 rfl T
  · rcases if_inv E with ⟨c3, E⟩ | ⟨c3, E⟩
    · refine V_tin (off := 41) K 42 dX9_valueOfOne_1 (by rw [c3]; decide) (by rw [c3]; decide) (by rw [c3]; rfl) (by decide) ?_
      refine V_aload_n K 0 dX9_valueOfOne_42 rfl ?_
      refine gf_X9_71 K dX9_valueOfOne_43 ?_
      refine gf_X9_182 K k_19 dX9_valueOfOne_46 ?_
      refine V_iload_n K 1 dX9_valueOfOne_49 rfl ?_
      obtain ⟨g4, E⟩ := gd_inv E
      refine V_iald K k_21 n_21 g4 dX9_valueOfOne_50 ?_
      cases E
      exact V_iret K dX9_valueOfOne_51 rfl T
    · rcases if_inv E with ⟨c5, E⟩ | ⟨c5, E⟩
      · refine V_tin (off := 51) K 52 dX9_valueOfOne_1 (by rw [c5]; decide) (by rw [c5]; decide) (by rw [c5]; rfl) (by decide) ?_
        refine V_aload_n K 0 dX9_valueOfOne_52 rfl ?_
        refine gf_X9_71 K dX9_valueOfOne_53 ?_
        refine gf_X9_146 K k_19 dX9_valueOfOne_56 ?_
        refine V_iload_n K 1 dX9_valueOfOne_59 rfl ?_
        obtain ⟨g6, E⟩ := gd_inv E
        refine V_iald K k_22 n_22 g6 dX9_valueOfOne_60 ?_
        cases E
        exact V_iret K dX9_valueOfOne_61 rfl T
      · rcases if_inv E with ⟨c7, E⟩ | ⟨c7, E⟩
        · refine V_tin (off := 61) K 62 dX9_valueOfOne_1 (by rw [c7]; decide) (by rw [c7]; decide) (by rw [c7]; rfl) (by decide) ?_
          refine V_aload_n K 0 dX9_valueOfOne_62 rfl ?_
          refine gf_X9_71 K dX9_valueOfOne_63 ?_
          refine V_iload_n K 1 dX9_valueOfOne_66 rfl ?_
          refine V_aload_n K 0 dX9_valueOfOne_67 rfl ?_
          refine gf_X9_71 K dX9_valueOfOne_68 ?_
          refine gf_X9_159 K k_19 dX9_valueOfOne_71 ?_
          obtain ⟨r8, q9, E⟩ := ob_inv E
          refine iv_X9_194 K k_19 (c_X4_partFor _ 19 a1 (h.1 19 7) h k_19 q9) dX9_valueOfOne_74 (Nat.le_of_ble_eq_true rfl) ?_
          cases E
          exact V_iret K dX9_valueOfOne_77 rfl T
        · refine V_tout K 78 dX9_valueOfOne_1 (by have n0 := lv_neT c1 (a := 0) (by decide); have n1 := lv_neT c3 (a := 1) (by decide); have n2 := lv_neT c5 (a := 2) (by decide); have n3 := lv_neT c7 (a := 3) (by decide); omega) (by decide) ?_
          refine V_aload_n K 0 dX9_valueOfOne_78 rfl ?_
          refine gf_X9_71 K dX9_valueOfOne_79 ?_
          refine V_iload_n K 1 dX9_valueOfOne_82 rfl ?_
          obtain ⟨r10, q11, E⟩ := ob_inv E
          refine iv_X9_361 K k_19 (c_X4_farFromCloud _ 19 a1 h k_19 q11) dX9_valueOfOne_83 (Nat.le_of_ble_eq_true rfl) ?_
          cases E
          exact V_iret K dX9_valueOfOne_86 rfl T
theorem c_X9_valueOfOne (d : Nat) (a1 : Int32) (a2 : Int32) (h : Hp)  {r : Int32} (E : X9_valueOfOne a1 a2 h = some r) : Runs (d + 4) yX9_valueOfOne cX9_valueOfOne 3 (some .int) (fun f => [.ref (f 0), .int a1, .int a2]) h (fun _ => some (.int r)) h :=
  Runs.of (by decide +kernel) (fun _ => Nat.le_of_ble_eq_true rfl) (fun x K T => w_X9_valueOfOne K  a1 a2 h  E T)
def X9_digest_s6 (h : Hp) (y1 : Int64) (y3 : Int32) : Option ((Int64 × Int32) ⊕ (Int64 × Int32)) :=
  if (15 : Int32) ≤ y3 then (some (.inl (y1, y3)))
  else (ob (X9_count y3 h) fun r2 =>
  lt_ (((31 : Int64) * y1) + (r2.toInt64)) fun v4 =>
  lt_ (y3 + (1 : Int32)) fun v6 =>
  some (.inr (v4, v6)))
set_option maxHeartbeats 4000000 in
set_option maxRecDepth 100000 in
theorem wl_X9_digest_s6 {x : Cx} {d : Nat} (K : Ok x cX9_digest RX9 5 (some .long) (d + 5)) (h : Hp)  : ∀ (n : Nat) (s : Int64 × Int32) (r : (Int64 × Int32)), lp (fun s : Int64 × Int32 => X9_digest_s6 h s.1 s.2) n s = some r → (fun r : (Int64 × Int32) => VV x 31 [(0, .ref (ad x 0)), (1, .long (r.1)), (3, .int (r.2))] [] h) r → (fun s : Int64 × Int32 => VV x 6 [(0, .ref (ad x 0)), (1, .long (s.1)), (3, .int (s.2))] [] h) s := by
  refine lp_walk ?_
  intro s z E T
  obtain ⟨y1, y3⟩ := s
  replace E : X9_digest_s6 h y1 y3 = some z := E
  unfold X9_digest_s6 at E
  show VV x 6 [(0, .ref (ad x 0)), (1, .long y1), (3, .int y3)] [] h
  refine V_iload_n K 2 dX9_digest_6 rfl ?_
  refine V_bp (v := 15) K dX9_digest_7 rfl ?_
  rcases if_inv E with ⟨c1, E⟩ | ⟨c1, E⟩
  · refine V_ic_ge_t K 31 dX9_digest_9 (by decide) c1 ?_
    cases E
    exact V_sub [0, 1, 2] rfl T
  · refine V_ic_ge_f K 31 dX9_digest_9 (by decide) c1 ?_
    refine V_ldc2 (v := 31) K tb_404 dX9_digest_12 ?_
    refine V_lload_n K 1 dX9_digest_15 rfl ?_
    refine V_lmul K dX9_digest_16 ?_
    refine V_aload_n K 0 dX9_digest_17 rfl ?_
    refine V_iload_n K 2 dX9_digest_18 rfl ?_
    obtain ⟨r2, q3, E⟩ := ob_inv E
    refine iv_X9_295 K (c_X9_count _ y3 h q3) dX9_digest_19 (Nat.le_of_ble_eq_true rfl) ?_
    refine V_i2l K dX9_digest_22 ?_
    refine V_ladd K dX9_digest_23 ?_
    obtain ⟨v4, e5, E⟩ := lt_inv E
    refine V_topl e5 ?_
    refine V_lstore_n (lv' := [(1, .long v4), (0, .ref (ad x 0)), (3, .int y3)]) K dX9_digest_24 (by decide) rfl ?_
    obtain ⟨v6, e7, E⟩ := lt_inv E
    refine V_iinc (lv' := [(3, .int v6), (1, .long v4), (0, .ref (ad x 0))]) K 2 dX9_digest_25 rfl (by rw [e7]; rfl) (by decide) rfl ?_
    refine V_goto K 6 dX9_digest_28 (by decide) ?_
    cases E
    exact V_sub [2, 1, 0] rfl T
def X9_digest_s47 (x3 : Int32) (h : Hp) (y1 : Int64) (y4 : Int32) : Option ((Int64 × Int32) ⊕ (Int64 × Int32)) :=
  if (5 : Int32) ≤ y4 then (some (.inl (y1, y4)))
  else (ob (X9_valueOfOne x3 y4 h) fun r12 =>
  lt_ (((31 : Int64) * y1) + (r12.toInt64)) fun v14 =>
  lt_ (y4 + (1 : Int32)) fun v16 =>
  some (.inr (v14, v16)))
set_option maxHeartbeats 4000000 in
set_option maxRecDepth 100000 in
theorem wl_X9_digest_s47 {x : Cx} {d : Nat} (K : Ok x cX9_digest RX9 5 (some .long) (d + 5)) (x3 : Int32) (h : Hp)  : ∀ (n : Nat) (s : Int64 × Int32) (r : (Int64 × Int32)), lp (fun s : Int64 × Int32 => X9_digest_s47 x3 h s.1 s.2) n s = some r → (fun r : (Int64 × Int32) => VV x 74 [(0, .ref (ad x 0)), (1, .long (r.1)), (3, .int x3), (4, .int (r.2))] [] h) r → (fun s : Int64 × Int32 => VV x 47 [(0, .ref (ad x 0)), (1, .long (s.1)), (3, .int x3), (4, .int (s.2))] [] h) s := by
  refine lp_walk ?_
  intro s z E T
  obtain ⟨y1, y4⟩ := s
  replace E : X9_digest_s47 x3 h y1 y4 = some z := E
  unfold X9_digest_s47 at E
  show VV x 47 [(0, .ref (ad x 0)), (1, .long y1), (3, .int x3), (4, .int y4)] [] h
  refine V_iload K 3 dX9_digest_47 rfl ?_
  refine V_ic (v := 5) K dX9_digest_49 rfl ?_
  rcases if_inv E with ⟨c11, E⟩ | ⟨c11, E⟩
  · refine V_ic_ge_t K 74 dX9_digest_50 (by decide) c11 ?_
    cases E
    exact V_sub [0, 1, 2, 3] rfl T
  · refine V_ic_ge_f K 74 dX9_digest_50 (by decide) c11 ?_
    refine V_ldc2 (v := 31) K tb_404 dX9_digest_53 ?_
    refine V_lload_n K 1 dX9_digest_56 rfl ?_
    refine V_lmul K dX9_digest_57 ?_
    refine V_aload_n K 0 dX9_digest_58 rfl ?_
    refine V_iload_n K 2 dX9_digest_59 rfl ?_
    refine V_iload K 3 dX9_digest_60 rfl ?_
    obtain ⟨r12, q13, E⟩ := ob_inv E
    refine iv_X9_133 K (c_X9_valueOfOne _ x3 y4 h q13) dX9_digest_62 (Nat.le_of_ble_eq_true rfl) ?_
    refine V_i2l K dX9_digest_65 ?_
    refine V_ladd K dX9_digest_66 ?_
    obtain ⟨v14, e15, E⟩ := lt_inv E
    refine V_topl e15 ?_
    refine V_lstore_n (lv' := [(1, .long v14), (0, .ref (ad x 0)), (3, .int x3), (4, .int y4)]) K dX9_digest_67 (by decide) rfl ?_
    obtain ⟨v16, e17, E⟩ := lt_inv E
    refine V_iinc (lv' := [(4, .int v16), (1, .long v14), (0, .ref (ad x 0)), (3, .int x3)]) K 3 dX9_digest_68 rfl (by rw [e17]; rfl) (by decide) rfl ?_
    refine V_goto K 47 dX9_digest_71 (by decide) ?_
    cases E
    exact V_sub [2, 1, 3, 0] rfl T
def X9_digest_s33 (h : Hp) (y1 : Int64) (y3 : Int32) : Option ((Int64 × Int32) ⊕ (Int64 × Int32)) :=
  if (h.1 19 6) ≤ y3 then (some (.inl (y1, y3)))
  else (ob2 (lp (fun s : Int64 × Int32 => X9_digest_s47 y3 h s.1 s.2) FU (y1, (0 : Int32))) fun v18 v19 =>
  lt_ (y3 + (1 : Int32)) fun v20 =>
  some (.inr (v18, v20)))
set_option maxHeartbeats 4000000 in
set_option maxRecDepth 100000 in
theorem wl_X9_digest_s33 {x : Cx} {d : Nat} (K : Ok x cX9_digest RX9 5 (some .long) (d + 5)) (h : Hp)  : ∀ (n : Nat) (s : Int64 × Int32) (r : (Int64 × Int32)), lp (fun s : Int64 × Int32 => X9_digest_s33 h s.1 s.2) n s = some r → (fun r : (Int64 × Int32) => VV x 80 [(0, .ref (ad x 0)), (1, .long (r.1)), (3, .int (r.2))] [] h) r → (fun s : Int64 × Int32 => VV x 33 [(0, .ref (ad x 0)), (1, .long (s.1)), (3, .int (s.2))] [] h) s := by
  refine lp_walk ?_
  intro s z E T
  obtain ⟨y1, y3⟩ := s
  replace E : X9_digest_s33 h y1 y3 = some z := E
  unfold X9_digest_s33 at E
  show VV x 33 [(0, .ref (ad x 0)), (1, .long y1), (3, .int y3)] [] h
  refine V_iload_n K 2 dX9_digest_33 rfl ?_
  refine V_aload_n K 0 dX9_digest_34 rfl ?_
  refine gf_X9_71 K dX9_digest_35 ?_
  refine gf_X9_127 K k_19 dX9_digest_38 ?_
  rcases if_inv E with ⟨c10, E⟩ | ⟨c10, E⟩
  · refine V_ic_ge_t K 80 dX9_digest_41 (by decide) c10 ?_
    cases E
    exact V_sub [0, 1, 2] rfl T
  · refine V_ic_ge_f K 80 dX9_digest_41 (by decide) c10 ?_
    refine V_ic (v := 0) K dX9_digest_44 rfl ?_
    refine V_istore (lv' := [(4, .int (0 : Int32)), (0, .ref (ad x 0)), (1, .long y1), (3, .int y3)]) K dX9_digest_45 (by decide) rfl ?_
    obtain ⟨v18, v19, q22, E⟩ := ob2_inv E
    refine V_sub [1, 2, 3, 0] rfl (wl_X9_digest_s47 K y3 h  _ _ _ q22 ?_)
    show VV x 74 [(0, .ref (ad x 0)), (1, .long v18), (3, .int y3), (4, .int v19)] [] h
    obtain ⟨v20, e21, E⟩ := lt_inv E
    refine V_iinc (lv' := [(3, .int v20), (0, .ref (ad x 0)), (1, .long v18), (4, .int v19)]) K 2 dX9_digest_74 rfl (by rw [e21]; rfl) (by decide) rfl ?_
    refine V_goto K 33 dX9_digest_77 (by decide) ?_
    cases E
    exact V_sub [1, 2, 0] rfl T
def X9_digest_s82 (h : Hp) (y1 : Int64) (y3 : Int32) : Option ((Int64 × Int32) ⊕ (Int64 × Int32)) :=
  if (3 : Int32) ≤ y3 then (some (.inl (y1, y3)))
  else (gd (ib y3 3) (
  lt_ (((31 : Int64) * y1) + ((h.1 (30 + 2 * ix y3) 1).toInt64)) fun v27 =>
  lt_ (y3 + (1 : Int32)) fun v29 =>
  some (.inr (v27, v29))))
set_option maxHeartbeats 4000000 in
set_option maxRecDepth 100000 in
theorem wl_X9_digest_s82 {x : Cx} {d : Nat} (K : Ok x cX9_digest RX9 5 (some .long) (d + 5)) (h : Hp)  : ∀ (n : Nat) (s : Int64 × Int32) (r : (Int64 × Int32)), lp (fun s : Int64 × Int32 => X9_digest_s82 h s.1 s.2) n s = some r → (fun r : (Int64 × Int32) => VV x 110 [(0, .ref (ad x 0)), (1, .long (r.1)), (3, .int (r.2))] [] h) r → (fun s : Int64 × Int32 => VV x 82 [(0, .ref (ad x 0)), (1, .long (s.1)), (3, .int (s.2))] [] h) s := by
  refine lp_walk ?_
  intro s z E T
  obtain ⟨y1, y3⟩ := s
  replace E : X9_digest_s82 h y1 y3 = some z := E
  unfold X9_digest_s82 at E
  show VV x 82 [(0, .ref (ad x 0)), (1, .long y1), (3, .int y3)] [] h
  refine V_iload_n K 2 dX9_digest_82 rfl ?_
  refine V_ic (v := 3) K dX9_digest_83 rfl ?_
  rcases if_inv E with ⟨c25, E⟩ | ⟨c25, E⟩
  · refine V_ic_ge_t K 110 dX9_digest_84 (by decide) c25 ?_
    cases E
    exact V_sub [0, 1, 2] rfl T
  · refine V_ic_ge_f K 110 dX9_digest_84 (by decide) c25 ?_
    refine V_ldc2 (v := 31) K tb_404 dX9_digest_87 ?_
    refine V_lload_n K 1 dX9_digest_90 rfl ?_
    refine V_lmul K dX9_digest_91 ?_
    refine V_aload_n K 0 dX9_digest_92 rfl ?_
    refine gf_X9_35 K dX9_digest_93 ?_
    refine V_iload_n K 2 dX9_digest_96 rfl ?_
    obtain ⟨g26, E⟩ := gd_inv E
    refine V_aaload13 K k_29 g26 (kepR g26) dX9_digest_97 ?_
    refine gf_X9_124 K (kepK g26) dX9_digest_98 ?_
    refine V_i2l K dX9_digest_101 ?_
    refine V_ladd K dX9_digest_102 ?_
    obtain ⟨v27, e28, E⟩ := lt_inv E
    refine V_topl e28 ?_
    refine V_lstore_n (lv' := [(1, .long v27), (0, .ref (ad x 0)), (3, .int y3)]) K dX9_digest_103 (by decide) rfl ?_
    obtain ⟨v29, e30, E⟩ := lt_inv E
    refine V_iinc (lv' := [(3, .int v29), (1, .long v27), (0, .ref (ad x 0))]) K 2 dX9_digest_104 rfl (by rw [e30]; rfl) (by decide) rfl ?_
    refine V_goto K 82 dX9_digest_107 (by decide) ?_
    cases E
    exact V_sub [2, 1, 0] rfl T
def X9_digest_s135 (x3 : Int32) (h : Hp) (y1 : Int64) (y4 : Int32) : Option ((Int64 × Int32) ⊕ (Int64 × Int32)) :=
  gd (ib x3 6) (
  if (h.1 8 (ix x3)) ≤ y4 then (some (.inl (y1, y4)))
  else (gd (ib y4 40) (
  lt_ (((31 : Int64) * y1) + ((h.1 (2 + ix x3) (ix y4)).toInt64)) fun v40 =>
  lt_ (y4 + (1 : Int32)) fun v42 =>
  some (.inr (v40, v42)))))
set_option maxHeartbeats 4000000 in
set_option maxRecDepth 100000 in
theorem wl_X9_digest_s135 {x : Cx} {d : Nat} (K : Ok x cX9_digest RX9 5 (some .long) (d + 5)) (x3 : Int32) (h : Hp)  : ∀ (n : Nat) (s : Int64 × Int32) (r : (Int64 × Int32)), lp (fun s : Int64 × Int32 => X9_digest_s135 x3 h s.1 s.2) n s = some r → (fun r : (Int64 × Int32) => VV x 169 [(0, .ref (ad x 0)), (1, .long (r.1)), (3, .int x3), (4, .int (r.2))] [] h) r → (fun s : Int64 × Int32 => VV x 135 [(0, .ref (ad x 0)), (1, .long (s.1)), (3, .int x3), (4, .int (s.2))] [] h) s := by
  refine lp_walk ?_
  intro s z E T
  obtain ⟨y1, y4⟩ := s
  replace E : X9_digest_s135 x3 h y1 y4 = some z := E
  unfold X9_digest_s135 at E
  show VV x 135 [(0, .ref (ad x 0)), (1, .long y1), (3, .int x3), (4, .int y4)] [] h
  refine V_iload K 3 dX9_digest_135 rfl ?_
  refine V_aload_n K 0 dX9_digest_137 rfl ?_
  refine gf_X9_14 K dX9_digest_138 ?_
  refine V_iload_n K 2 dX9_digest_141 rfl ?_
  obtain ⟨g37, E⟩ := gd_inv E
  refine V_iald K k_8 n_8 g37 dX9_digest_142 ?_
  rcases if_inv E with ⟨c38, E⟩ | ⟨c38, E⟩
  · refine V_ic_ge_t K 169 dX9_digest_143 (by decide) c38 ?_
    cases E
    exact V_sub [0, 1, 2, 3] rfl T
  · refine V_ic_ge_f K 169 dX9_digest_143 (by decide) c38 ?_
    refine V_ldc2 (v := 31) K tb_404 dX9_digest_146 ?_
    refine V_lload_n K 1 dX9_digest_149 rfl ?_
    refine V_lmul K dX9_digest_150 ?_
    refine V_aload_n K 0 dX9_digest_151 rfl ?_
    refine gf_X9_11 K dX9_digest_152 ?_
    refine V_iload_n K 2 dX9_digest_155 rfl ?_
    refine V_aaload15 K k_1 g37 (rowR g37) dX9_digest_156 ?_
    refine V_iload K 3 dX9_digest_157 rfl ?_
    obtain ⟨g39, E⟩ := gd_inv E
    refine V_iald K (rowK g37) (rowN g37) g39 dX9_digest_159 ?_
    refine V_i2l K dX9_digest_160 ?_
    refine V_ladd K dX9_digest_161 ?_
    obtain ⟨v40, e41, E⟩ := lt_inv E
    refine V_topl e41 ?_
    refine V_lstore_n (lv' := [(1, .long v40), (0, .ref (ad x 0)), (3, .int x3), (4, .int y4)]) K dX9_digest_162 (by decide) rfl ?_
    obtain ⟨v42, e43, E⟩ := lt_inv E
    refine V_iinc (lv' := [(4, .int v42), (1, .long v40), (0, .ref (ad x 0)), (3, .int x3)]) K 3 dX9_digest_163 rfl (by rw [e43]; rfl) (by decide) rfl ?_
    refine V_goto K 135 dX9_digest_166 (by decide) ?_
    cases E
    exact V_sub [2, 1, 3, 0] rfl T
def X9_digest_s112 (h : Hp) (y1 : Int64) (y3 : Int32) : Option ((Int64 × Int32) ⊕ (Int64 × Int32)) :=
  if (6 : Int32) ≤ y3 then (some (.inl (y1, y3)))
  else (gd (ib y3 6) (
  lt_ (((31 : Int64) * y1) + ((h.1 8 (ix y3)).toInt64)) fun v35 =>
  ob2 (lp (fun s : Int64 × Int32 => X9_digest_s135 y3 h s.1 s.2) FU (v35, (0 : Int32))) fun v44 v45 =>
  lt_ (y3 + (1 : Int32)) fun v46 =>
  some (.inr (v44, v46))))
set_option maxHeartbeats 4000000 in
set_option maxRecDepth 100000 in
theorem wl_X9_digest_s112 {x : Cx} {d : Nat} (K : Ok x cX9_digest RX9 5 (some .long) (d + 5)) (h : Hp)  : ∀ (n : Nat) (s : Int64 × Int32) (r : (Int64 × Int32)), lp (fun s : Int64 × Int32 => X9_digest_s112 h s.1 s.2) n s = some r → (fun r : (Int64 × Int32) => VV x 175 [(0, .ref (ad x 0)), (1, .long (r.1)), (3, .int (r.2))] [] h) r → (fun s : Int64 × Int32 => VV x 112 [(0, .ref (ad x 0)), (1, .long (s.1)), (3, .int (s.2))] [] h) s := by
  refine lp_walk ?_
  intro s z E T
  obtain ⟨y1, y3⟩ := s
  replace E : X9_digest_s112 h y1 y3 = some z := E
  unfold X9_digest_s112 at E
  show VV x 112 [(0, .ref (ad x 0)), (1, .long y1), (3, .int y3)] [] h
  refine V_iload_n K 2 dX9_digest_112 rfl ?_
  refine V_bp (v := 6) K dX9_digest_113 rfl ?_
  rcases if_inv E with ⟨c33, E⟩ | ⟨c33, E⟩
  · refine V_ic_ge_t K 175 dX9_digest_115 (by decide) c33 ?_
    cases E
    exact V_sub [0, 1, 2] rfl T
  · refine V_ic_ge_f K 175 dX9_digest_115 (by decide) c33 ?_
    refine V_ldc2 (v := 31) K tb_404 dX9_digest_118 ?_
    refine V_lload_n K 1 dX9_digest_121 rfl ?_
    refine V_lmul K dX9_digest_122 ?_
    refine V_aload_n K 0 dX9_digest_123 rfl ?_
    refine gf_X9_14 K dX9_digest_124 ?_
    refine V_iload_n K 2 dX9_digest_127 rfl ?_
    obtain ⟨g34, E⟩ := gd_inv E
    refine V_iald K k_8 n_8 g34 dX9_digest_128 ?_
    refine V_i2l K dX9_digest_129 ?_
    refine V_ladd K dX9_digest_130 ?_
    obtain ⟨v35, e36, E⟩ := lt_inv E
    refine V_topl e36 ?_
    refine V_lstore_n (lv' := [(1, .long v35), (0, .ref (ad x 0)), (3, .int y3)]) K dX9_digest_131 (by decide) rfl ?_
    refine V_ic (v := 0) K dX9_digest_132 rfl ?_
    refine V_istore (lv' := [(4, .int (0 : Int32)), (1, .long v35), (0, .ref (ad x 0)), (3, .int y3)]) K dX9_digest_133 (by decide) rfl ?_
    obtain ⟨v44, v45, q48, E⟩ := ob2_inv E
    refine V_sub [2, 1, 3, 0] rfl (wl_X9_digest_s135 K y3 h  _ _ _ q48 ?_)
    show VV x 169 [(0, .ref (ad x 0)), (1, .long v44), (3, .int y3), (4, .int v45)] [] h
    obtain ⟨v46, e47, E⟩ := lt_inv E
    refine V_iinc (lv' := [(3, .int v46), (0, .ref (ad x 0)), (1, .long v44), (4, .int v45)]) K 2 dX9_digest_169 rfl (by rw [e47]; rfl) (by decide) rfl ?_
    refine V_goto K 112 dX9_digest_172 (by decide) ?_
    cases E
    exact V_sub [1, 2, 0] rfl T
def X9_digest_s199 (x3 : Int32) (h : Hp) (y1 : Int64) (y4 : Int32) : Option ((Int64 × Int32) ⊕ (Int64 × Int32)) :=
  gd (ib x3 4) (
  if (h.1 14 (ix x3)) ≤ y4 then (some (.inl (y1, y4)))
  else (gd (ib y4 60) (
  lt_ (((31 : Int64) * y1) + ((h.1 (10 + ix x3) (ix y4)).toInt64)) fun v58 =>
  lt_ (y4 + (1 : Int32)) fun v60 =>
  some (.inr (v58, v60)))))
set_option maxHeartbeats 4000000 in
set_option maxRecDepth 100000 in
theorem wl_X9_digest_s199 {x : Cx} {d : Nat} (K : Ok x cX9_digest RX9 5 (some .long) (d + 5)) (x3 : Int32) (h : Hp)  : ∀ (n : Nat) (s : Int64 × Int32) (r : (Int64 × Int32)), lp (fun s : Int64 × Int32 => X9_digest_s199 x3 h s.1 s.2) n s = some r → (fun r : (Int64 × Int32) => VV x 233 [(0, .ref (ad x 0)), (1, .long (r.1)), (3, .int x3), (4, .int (r.2))] [] h) r → (fun s : Int64 × Int32 => VV x 199 [(0, .ref (ad x 0)), (1, .long (s.1)), (3, .int x3), (4, .int (s.2))] [] h) s := by
  refine lp_walk ?_
  intro s z E T
  obtain ⟨y1, y4⟩ := s
  replace E : X9_digest_s199 x3 h y1 y4 = some z := E
  unfold X9_digest_s199 at E
  show VV x 199 [(0, .ref (ad x 0)), (1, .long y1), (3, .int x3), (4, .int y4)] [] h
  refine V_iload K 3 dX9_digest_199 rfl ?_
  refine V_aload_n K 0 dX9_digest_201 rfl ?_
  refine gf_X9_23 K dX9_digest_202 ?_
  refine V_iload_n K 2 dX9_digest_205 rfl ?_
  obtain ⟨g55, E⟩ := gd_inv E
  refine V_iald K k_14 n_14 g55 dX9_digest_206 ?_
  rcases if_inv E with ⟨c56, E⟩ | ⟨c56, E⟩
  · refine V_ic_ge_t K 233 dX9_digest_207 (by decide) c56 ?_
    cases E
    exact V_sub [0, 1, 2, 3] rfl T
  · refine V_ic_ge_f K 233 dX9_digest_207 (by decide) c56 ?_
    refine V_ldc2 (v := 31) K tb_404 dX9_digest_210 ?_
    refine V_lload_n K 1 dX9_digest_213 rfl ?_
    refine V_lmul K dX9_digest_214 ?_
    refine V_aload_n K 0 dX9_digest_215 rfl ?_
    refine gf_X9_20 K dX9_digest_216 ?_
    refine V_iload_n K 2 dX9_digest_219 rfl ?_
    refine V_aaload14 K k_9 g55 (txtR g55) dX9_digest_220 ?_
    refine V_iload K 3 dX9_digest_221 rfl ?_
    obtain ⟨g57, E⟩ := gd_inv E
    refine V_bald K (txtK g55) (txtN g55) g57 dX9_digest_223 ?_
    refine V_i2l K dX9_digest_224 ?_
    refine V_ladd K dX9_digest_225 ?_
    obtain ⟨v58, e59, E⟩ := lt_inv E
    refine V_topl e59 ?_
    refine V_lstore_n (lv' := [(1, .long v58), (0, .ref (ad x 0)), (3, .int x3), (4, .int y4)]) K dX9_digest_226 (by decide) rfl ?_
    obtain ⟨v60, e61, E⟩ := lt_inv E
    refine V_iinc (lv' := [(4, .int v60), (1, .long v58), (0, .ref (ad x 0)), (3, .int x3)]) K 3 dX9_digest_227 rfl (by rw [e61]; rfl) (by decide) rfl ?_
    refine V_goto K 199 dX9_digest_230 (by decide) ?_
    cases E
    exact V_sub [2, 1, 3, 0] rfl T
def X9_digest_s177 (h : Hp) (y1 : Int64) (y3 : Int32) : Option ((Int64 × Int32) ⊕ (Int64 × Int32)) :=
  if (4 : Int32) ≤ y3 then (some (.inl (y1, y3)))
  else (gd (ib y3 4) (
  lt_ (((31 : Int64) * y1) + ((h.1 14 (ix y3)).toInt64)) fun v53 =>
  ob2 (lp (fun s : Int64 × Int32 => X9_digest_s199 y3 h s.1 s.2) FU (v53, (0 : Int32))) fun v62 v63 =>
  lt_ (y3 + (1 : Int32)) fun v64 =>
  some (.inr (v62, v64))))
set_option maxHeartbeats 4000000 in
set_option maxRecDepth 100000 in
theorem wl_X9_digest_s177 {x : Cx} {d : Nat} (K : Ok x cX9_digest RX9 5 (some .long) (d + 5)) (h : Hp)  : ∀ (n : Nat) (s : Int64 × Int32) (r : (Int64 × Int32)), lp (fun s : Int64 × Int32 => X9_digest_s177 h s.1 s.2) n s = some r → (fun r : (Int64 × Int32) => VV x 239 [(0, .ref (ad x 0)), (1, .long (r.1)), (3, .int (r.2))] [] h) r → (fun s : Int64 × Int32 => VV x 177 [(0, .ref (ad x 0)), (1, .long (s.1)), (3, .int (s.2))] [] h) s := by
  refine lp_walk ?_
  intro s z E T
  obtain ⟨y1, y3⟩ := s
  replace E : X9_digest_s177 h y1 y3 = some z := E
  unfold X9_digest_s177 at E
  show VV x 177 [(0, .ref (ad x 0)), (1, .long y1), (3, .int y3)] [] h
  refine V_iload_n K 2 dX9_digest_177 rfl ?_
  refine V_ic (v := 4) K dX9_digest_178 rfl ?_
  rcases if_inv E with ⟨c51, E⟩ | ⟨c51, E⟩
  · refine V_ic_ge_t K 239 dX9_digest_179 (by decide) c51 ?_
    cases E
    exact V_sub [0, 1, 2] rfl T
  · refine V_ic_ge_f K 239 dX9_digest_179 (by decide) c51 ?_
    refine V_ldc2 (v := 31) K tb_404 dX9_digest_182 ?_
    refine V_lload_n K 1 dX9_digest_185 rfl ?_
    refine V_lmul K dX9_digest_186 ?_
    refine V_aload_n K 0 dX9_digest_187 rfl ?_
    refine gf_X9_23 K dX9_digest_188 ?_
    refine V_iload_n K 2 dX9_digest_191 rfl ?_
    obtain ⟨g52, E⟩ := gd_inv E
    refine V_iald K k_14 n_14 g52 dX9_digest_192 ?_
    refine V_i2l K dX9_digest_193 ?_
    refine V_ladd K dX9_digest_194 ?_
    obtain ⟨v53, e54, E⟩ := lt_inv E
    refine V_topl e54 ?_
    refine V_lstore_n (lv' := [(1, .long v53), (0, .ref (ad x 0)), (3, .int y3)]) K dX9_digest_195 (by decide) rfl ?_
    refine V_ic (v := 0) K dX9_digest_196 rfl ?_
    refine V_istore (lv' := [(4, .int (0 : Int32)), (1, .long v53), (0, .ref (ad x 0)), (3, .int y3)]) K dX9_digest_197 (by decide) rfl ?_
    obtain ⟨v62, v63, q66, E⟩ := ob2_inv E
    refine V_sub [2, 1, 3, 0] rfl (wl_X9_digest_s199 K y3 h  _ _ _ q66 ?_)
    show VV x 233 [(0, .ref (ad x 0)), (1, .long v62), (3, .int y3), (4, .int v63)] [] h
    obtain ⟨v64, e65, E⟩ := lt_inv E
    refine V_iinc (lv' := [(3, .int v64), (0, .ref (ad x 0)), (1, .long v62), (4, .int v63)]) K 2 dX9_digest_233 rfl (by rw [e65]; rfl) (by decide) rfl ?_
    refine V_goto K 177 dX9_digest_236 (by decide) ?_
    cases E
    exact V_sub [1, 2, 0] rfl T
def X9_digest  (h : Hp) : Option Int64 :=
  ob2 (lp (fun s : Int64 × Int32 => X9_digest_s6 h s.1 s.2) FU ((17 : Int64), (0 : Int32))) fun v8 v9 =>
  ob2 (lp (fun s : Int64 × Int32 => X9_digest_s33 h s.1 s.2) FU (v8, (0 : Int32))) fun v23 v24 =>
  ob2 (lp (fun s : Int64 × Int32 => X9_digest_s82 h s.1 s.2) FU (v23, (0 : Int32))) fun v31 v32 =>
  ob2 (lp (fun s : Int64 × Int32 => X9_digest_s112 h s.1 s.2) FU (v31, (0 : Int32))) fun v49 v50 =>
  ob2 (lp (fun s : Int64 × Int32 => X9_digest_s177 h s.1 s.2) FU (v49, (0 : Int32))) fun v67 v68 =>
  some v67
set_option maxHeartbeats 4000000 in
set_option maxRecDepth 100000 in
theorem w_X9_digest {x : Cx} {d : Nat} (K : Ok x cX9_digest RX9 5 (some .long) (d + 5))  (h : Hp)  {z : Int64} (E : X9_digest  h = some z) (T : x.2.2.2.2 = (some (.long z), h)) : VV x 0 [(0, .ref (ad x 0))] [] h := by
  unfold X9_digest at E
  refine V_ldc2 (v := 17) K tb_403 dX9_digest_0 ?_
  refine V_lstore_n (lv' := [(1, .long (17 : Int64)), (0, .ref (ad x 0))]) K dX9_digest_3 (by decide) rfl ?_
  refine V_ic (v := 0) K dX9_digest_4 rfl ?_
  refine V_istore_n (lv' := [(3, .int (0 : Int32)), (1, .long (17 : Int64)), (0, .ref (ad x 0))]) K dX9_digest_5 (by decide) rfl ?_
  obtain ⟨v8, v9, q73, E⟩ := ob2_inv E
  refine V_sub [2, 1, 0] rfl (wl_X9_digest_s6 K h  _ _ _ q73 ?_)
  show VV x 31 [(0, .ref (ad x 0)), (1, .long v8), (3, .int v9)] [] h
  refine V_ic (v := 0) K dX9_digest_31 rfl ?_
  refine V_istore_n (lv' := [(3, .int (0 : Int32)), (0, .ref (ad x 0)), (1, .long v8)]) K dX9_digest_32 (by decide) rfl ?_
  obtain ⟨v23, v24, q72, E⟩ := ob2_inv E
  refine V_sub [1, 2, 0] rfl (wl_X9_digest_s33 K h  _ _ _ q72 ?_)
  show VV x 80 [(0, .ref (ad x 0)), (1, .long v23), (3, .int v24)] [] h
  refine V_ic (v := 0) K dX9_digest_80 rfl ?_
  refine V_istore_n (lv' := [(3, .int (0 : Int32)), (0, .ref (ad x 0)), (1, .long v23)]) K dX9_digest_81 (by decide) rfl ?_
  obtain ⟨v31, v32, q71, E⟩ := ob2_inv E
  refine V_sub [1, 2, 0] rfl (wl_X9_digest_s82 K h  _ _ _ q71 ?_)
  show VV x 110 [(0, .ref (ad x 0)), (1, .long v31), (3, .int v32)] [] h
  refine V_ic (v := 0) K dX9_digest_110 rfl ?_
  refine V_istore_n (lv' := [(3, .int (0 : Int32)), (0, .ref (ad x 0)), (1, .long v31)]) K dX9_digest_111 (by decide) rfl ?_
  obtain ⟨v49, v50, q70, E⟩ := ob2_inv E
  refine V_sub [1, 2, 0] rfl (wl_X9_digest_s112 K h  _ _ _ q70 ?_)
  show VV x 175 [(0, .ref (ad x 0)), (1, .long v49), (3, .int v50)] [] h
  refine V_ic (v := 0) K dX9_digest_175 rfl ?_
  refine V_istore_n (lv' := [(3, .int (0 : Int32)), (0, .ref (ad x 0)), (1, .long v49)]) K dX9_digest_176 (by decide) rfl ?_
  obtain ⟨v67, v68, q69, E⟩ := ob2_inv E
  refine V_sub [1, 2, 0] rfl (wl_X9_digest_s177 K h  _ _ _ q69 ?_)
  show VV x 239 [(0, .ref (ad x 0)), (1, .long v67), (3, .int v68)] [] h
  refine V_lload_n K 1 dX9_digest_239 rfl ?_
  cases E
  exact V_lret K dX9_digest_240 T
theorem c_X9_digest (d : Nat)  (h : Hp)  {r : Int64} (E : X9_digest  h = some r) : Runs (d + 5) yX9_digest cX9_digest 5 (some .long) (fun f => [.ref (f 0)]) h (fun _ => some (.long r)) h :=
  Runs.of (by decide +kernel) (fun _ => Nat.le_of_ble_eq_true rfl) (fun x K T => w_X9_digest K   h  E T)
def X9_doAllAgain_s13  (y1 : Int32) (h : Hp) : Option ((Int32 × Hp) ⊕ (Int32 × Hp)) :=
  if (h.1 27 1) ≤ y1 then (some (.inl (y1, h)))
  else (gd (ib y1 40) (
  ob2 (X4_undergo 19 (h.1 28 (ix y1)) h) fun r7 h6 =>
  lt_ (y1 + (1 : Int32)) fun v8 =>
  some (.inr (v8, h6))))
set_option maxHeartbeats 4000000 in
set_option maxRecDepth 100000 in
theorem wl_X9_doAllAgain_s13 {x : Cx} {d : Nat} (K : Ok x cX9_doAllAgain RX9 2 none (d + 6))   : ∀ (n : Nat) (s : Int32 × Hp) (r : (Int32 × Hp)), lp (fun s : Int32 × Hp => X9_doAllAgain_s13  s.1 s.2) n s = some r → (fun r : (Int32 × Hp) => VV x 47 [(0, .ref (ad x 0)), (1, .int (r.1))] [] r.2) r → (fun s : Int32 × Hp => VV x 13 [(0, .ref (ad x 0)), (1, .int (s.1))] [] s.2) s := by
  refine lp_walk ?_
  intro s z E T
  obtain ⟨y1, h⟩ := s
  replace E : X9_doAllAgain_s13  y1 h = some z := E
  unfold X9_doAllAgain_s13 at E
  show VV x 13 [(0, .ref (ad x 0)), (1, .int y1)] [] h
  refine V_iload_n K 1 dX9_doAllAgain_13 rfl ?_
  refine V_aload_n K 0 dX9_doAllAgain_14 rfl ?_
  refine gf_X9_31 K dX9_doAllAgain_15 ?_
  refine gf_X9_124 K k_27 dX9_doAllAgain_18 ?_
  rcases if_inv E with ⟨c3, E⟩ | ⟨c3, E⟩
  · refine V_ic_ge_t K 47 dX9_doAllAgain_21 (by decide) c3 ?_
    cases E
    exact V_sub [0, 1] rfl T
  · refine V_ic_ge_f K 47 dX9_doAllAgain_21 (by decide) c3 ?_
    refine V_aload_n K 0 dX9_doAllAgain_24 rfl ?_
    refine gf_X9_71 K dX9_doAllAgain_25 ?_
    refine V_aload_n K 0 dX9_doAllAgain_28 rfl ?_
    refine gf_X9_31 K dX9_doAllAgain_29 ?_
    refine gf_X9_332 K k_27 dX9_doAllAgain_32 ?_
    refine V_iload_n K 1 dX9_doAllAgain_35 rfl ?_
    obtain ⟨g4, E⟩ := gd_inv E
    refine V_iald K k_28 n_28 g4 dX9_doAllAgain_36 ?_
    obtain ⟨r7, h6, q5, E⟩ := ob2_inv E
    refine iv_X9_329 K k_19 (c_X4_undergo _ 19 (h.1 28 (ix y1)) h k_19 q5) dX9_doAllAgain_37 (Nat.le_of_ble_eq_true rfl) ?_
    refine V_pop K dX9_doAllAgain_40 rfl ?_
    obtain ⟨v8, e9, E⟩ := lt_inv E
    refine V_iinc (lv' := [(1, .int v8), (0, .ref (ad x 0))]) K 1 dX9_doAllAgain_41 rfl (by rw [e9]; rfl) (by decide) rfl ?_
    refine V_goto K 13 dX9_doAllAgain_44 (by decide) ?_
    cases E
    exact V_sub [1, 0] rfl T
def X9_doAllAgain  (h : Hp) : Option Hp :=
  ob (X4_become 19 15 h) fun h2 =>
  ob2 (lp (fun s : Int32 × Hp => X9_doAllAgain_s13  s.1 s.2) FU ((0 : Int32), h2)) fun v10 h11 =>
  some h11
set_option maxHeartbeats 4000000 in
set_option maxRecDepth 100000 in
theorem w_X9_doAllAgain {x : Cx} {d : Nat} (K : Ok x cX9_doAllAgain RX9 2 none (d + 6))  (h : Hp)  {z : Hp} (E : X9_doAllAgain  h = some z) (T : x.2.2.2.2 = (none, z)) : VV x 0 [(0, .ref (ad x 0))] [] h := by
  unfold X9_doAllAgain at E
  refine V_aload_n K 0 dX9_doAllAgain_0 rfl ?_
  refine gf_X9_71 K dX9_doAllAgain_1 ?_
  refine V_aload_n K 0 dX9_doAllAgain_4 rfl ?_
  refine gf_X9_67 K dX9_doAllAgain_5 ?_
  obtain ⟨h2, q1, E⟩ := ob_inv E
  refine iv_X9_120 K k_19 (c_X4_become _ 19 15 h k_19 k_15 q1) dX9_doAllAgain_8 (Nat.le_of_ble_eq_true rfl) ?_
  refine V_ic (v := 0) K dX9_doAllAgain_11 rfl ?_
  refine V_istore_n (lv' := [(1, .int (0 : Int32)), (0, .ref (ad x 0))]) K dX9_doAllAgain_12 (by decide) rfl ?_
  obtain ⟨v10, h11, q12, E⟩ := ob2_inv E
  refine V_sub [1, 0] rfl (wl_X9_doAllAgain_s13 K   _ _ _ q12 ?_)
  show VV x 47 [(0, .ref (ad x 0)), (1, .int v10)] [] h11
  cases E
  exact V_vret K dX9_doAllAgain_47 T
theorem c_X9_doAllAgain (d : Nat)  (h : Hp)  {h' : Hp} (E : X9_doAllAgain  h = some h') : Runs (d + 6) yX9_doAllAgain cX9_doAllAgain 2 none (fun f => [.ref (f 0)]) h (fun _ => none) h' :=
  Runs.of (by decide +kernel) (fun _ => Nat.le_of_ble_eq_true rfl) (fun x K T => w_X9_doAllAgain K   h  E T)
def X9_doDeed (a1 : Int32) (a2 : Int32) (h : Hp) : Option (Int32 × Hp) :=
  lt_ ((a1 * (100 : Int32)) + a2) fun v1 =>
  ob (X3_add 27 v1 h) fun h4 =>
  ob2 (X4_undergo 19 v1 h4) fun r7 h6 =>
  some (r7, h6)
set_option maxHeartbeats 4000000 in
set_option maxRecDepth 100000 in
theorem w_X9_doDeed {x : Cx} {d : Nat} (K : Ok x cX9_doDeed RX9 4 (some .int) (d + 6)) (a1 : Int32) (a2 : Int32) (h : Hp)  {z : Int32 × Hp} (E : X9_doDeed a1 a2 h = some z) (T : x.2.2.2.2 = (some (.int (z.1)), z.2)) : VV x 0 [(0, .ref (ad x 0)), (1, .int a1), (2, .int a2)] [] h := by
  unfold X9_doDeed at E
  refine V_iload_n K 1 dX9_doDeed_0 rfl ?_
  refine V_bp (v := 100) K dX9_doDeed_1 rfl ?_
  refine V_imul K dX9_doDeed_3 ?_
  refine V_iload_n K 2 dX9_doDeed_4 rfl ?_
  refine V_iadd K dX9_doDeed_5 ?_
  obtain ⟨v1, e2, E⟩ := lt_inv E
  refine V_top e2 ?_
  refine V_istore_n (lv' := [(3, .int v1), (0, .ref (ad x 0)), (1, .int a1), (2, .int a2)]) K dX9_doDeed_6 (by decide) rfl ?_
  refine V_aload_n K 1 dX9_doDeed_7 rfl ?_
  refine gf_X9_31 K dX9_doDeed_8 ?_
  refine V_iload_n K 0 dX9_doDeed_11 rfl ?_
  obtain ⟨h4, q3, E⟩ := ob_inv E
  refine iv_X9_326 K k_27 (c_X3_add _ 27 v1 h k_27 q3) dX9_doDeed_12 (Nat.le_of_ble_eq_true rfl) ?_
  refine V_aload_n K 1 dX9_doDeed_15 rfl ?_
  refine gf_X9_71 K dX9_doDeed_16 ?_
  refine V_iload_n K 0 dX9_doDeed_19 rfl ?_
  obtain ⟨r7, h6, q5, E⟩ := ob2_inv E
  refine iv_X9_329 K k_19 (c_X4_undergo _ 19 v1 h4 k_19 q5) dX9_doDeed_20 (Nat.le_of_ble_eq_true rfl) ?_
  cases E
  exact V_iret K dX9_doDeed_23 rfl T
theorem c_X9_doDeed (d : Nat) (a1 : Int32) (a2 : Int32) (h : Hp)  {r : Int32} {h' : Hp} (E : X9_doDeed a1 a2 h = some (r, h')) : Runs (d + 6) yX9_doDeed cX9_doDeed 4 (some .int) (fun f => [.ref (f 0), .int a1, .int a2]) h (fun _ => some (.int r)) h' :=
  Runs.of (by decide +kernel) (fun _ => Nat.le_of_ble_eq_true rfl) (fun x K T => w_X9_doDeed K  a1 a2 h  E T)
def X9_oneOfLot (a1 : Int32) (h : Hp) : Option Int32 :=
  if (h.1 19 6) = (0 : Int32) then (some (0 : Int32))
  else (gd (nz (h.1 19 6)) (
  some (irm a1 (h.1 19 6))))
set_option maxHeartbeats 4000000 in
set_option maxRecDepth 100000 in
theorem w_X9_oneOfLot {x : Cx} {d : Nat} (K : Ok x cX9_oneOfLot RX9 2 (some .int) (d + 0)) (a1 : Int32) (h : Hp)  {z : Int32} (E : X9_oneOfLot a1 h = some z) (T : x.2.2.2.2 = (some (.int z), h)) : VV x 0 [(0, .ref (ad x 0)), (1, .int a1)] [] h := by
  unfold X9_oneOfLot at E
  refine V_aload_n K 0 dX9_oneOfLot_0 rfl ?_
  refine gf_X9_71 K dX9_oneOfLot_1 ?_
  refine gf_X9_127 K k_19 dX9_oneOfLot_4 ?_
  rcases if_inv E with ⟨c1, E⟩ | ⟨c1, E⟩
  · refine V_if_ne_f K 14 dX9_oneOfLot_7 (by decide) c1 ?_
    refine V_ic (v := 0) K dX9_oneOfLot_10 rfl ?_
    refine V_goto K 23 dX9_oneOfLot_11 (by decide) ?_
    cases E
    exact V_iret K dX9_oneOfLot_23 rfl T
  · refine V_if_ne_t K 14 dX9_oneOfLot_7 (by decide) c1 ?_
    refine V_iload_n K 1 dX9_oneOfLot_14 rfl ?_
    refine V_aload_n K 0 dX9_oneOfLot_15 rfl ?_
    refine gf_X9_71 K dX9_oneOfLot_16 ?_
    refine gf_X9_127 K k_19 dX9_oneOfLot_19 ?_
    obtain ⟨g2, E⟩ := gd_inv E
    refine V_irem K dX9_oneOfLot_22 (nz_ne g2) ?_
    cases E
    exact V_iret K dX9_oneOfLot_23 rfl T
theorem c_X9_oneOfLot (d : Nat) (a1 : Int32) (h : Hp)  {r : Int32} (E : X9_oneOfLot a1 h = some r) : Runs (d + 0) yX9_oneOfLot cX9_oneOfLot 2 (some .int) (fun f => [.ref (f 0), .int a1]) h (fun _ => some (.int r)) h :=
  Runs.of (by decide +kernel) (fun _ => Nat.le_of_ble_eq_true rfl) (fun x K T => w_X9_oneOfLot K  a1 h  E T)
def X9_doLot (a1 : Int32) (h : Hp) : Option Hp :=
  lt_ (a1 / (64 : Int32)) fun v1 =>
  lt_ (irm (a1 / (8 : Int32)) (8 : Int32)) fun v3 =>
  if v3 = (4 : Int32) then (ob2 (X9_doDeed (1 : Int32) ((1 : Int32) + (irm v1 (9 : Int32))) h) fun r8 h7 =>
  some h7)
  else (if v3 = (5 : Int32) then (ob2 (X9_doDeed (2 : Int32) (irm v1 (3 : Int32)) h) fun r12 h11 =>
  some h11)
  else (if v3 = (6 : Int32) then (ob2 (X9_doDeed (3 : Int32) ((1 : Int32) - (h.1 19 10)) h) fun r16 h15 =>
  some h15)
  else (if v3 = (7 : Int32) then (ob (X9_oneOfLot a1 h) fun r18 =>
  ob2 (X9_doDeed (4 : Int32) ((r18 * (10 : Int32)) + (irm v1 (10 : Int32))) h) fun r22 h21 =>
  some h21)
  else (ob2 (X9_doDeed (0 : Int32) (0 : Int32) h) fun r25 h24 =>
  some h24))))
set_option maxHeartbeats 4000000 in
set_option maxRecDepth 100000 in
theorem w_X9_doLot {x : Cx} {d : Nat} (K : Ok x cX9_doLot RX9 3 none (d + 7)) (a1 : Int32) (h : Hp)  {z : Hp} (E : X9_doLot a1 h = some z) (T : x.2.2.2.2 = (none, z)) : VV x 0 [(0, .ref (ad x 0)), (1, .int a1)] [] h := by
  unfold X9_doLot at E
  refine V_iload_n K 1 dX9_doLot_0 rfl ?_
  refine V_bp (v := 64) K dX9_doLot_1 rfl ?_
  refine V_idiv K dX9_doLot_3 (by decide) ?_
  obtain ⟨v1, e2, E⟩ := lt_inv E
  refine V_top e2 ?_
  refine V_istore_n (lv' := [(2, .int v1), (0, .ref (ad x 0)), (1, .int a1)]) K dX9_doLot_4 (by decide) rfl ?_
  refine V_iload_n K 2 dX9_doLot_5 rfl ?_
  refine V_bp (v := 8) K dX9_doLot_6 rfl ?_
  refine V_idiv K dX9_doLot_8 (by decide) ?_
  refine V_bp (v := 8) K dX9_doLot_9 rfl ?_
  refine V_irem K dX9_doLot_11 (by decide) ?_
  obtain ⟨v3, e4, E⟩ := lt_inv E
  refine V_top e4 ?_
  rcases if_inv E with ⟨c5, E⟩ | ⟨c5, E⟩
  · refine V_tin (off := 32) K 44 dX9_doLot_12 (by rw [c5]; decide) (by rw [c5]; decide) (by rw [c5]; rfl) (by decide) ?_
    refine V_aload_n K 1 dX9_doLot_44 rfl ?_
    refine V_ic (v := 1) K dX9_doLot_45 rfl ?_
    refine V_ic (v := 1) K dX9_doLot_46 rfl ?_
    refine V_iload_n K 0 dX9_doLot_47 rfl ?_
    refine V_bp (v := 9) K dX9_doLot_48 rfl ?_
    refine V_irem K dX9_doLot_50 (by decide) ?_
    refine V_iadd K dX9_doLot_51 ?_
    obtain ⟨r8, h7, q6, E⟩ := ob2_inv E
    refine iv_X9_173 K (c_X9_doDeed _ (1 : Int32) ((1 : Int32) + (irm v1 (9 : Int32))) h q6) dX9_doLot_52 (Nat.le_of_ble_eq_true rfl) ?_
    refine V_pop K dX9_doLot_55 rfl ?_
    refine V_goto K 118 dX9_doLot_56 (by decide) ?_
    cases E
    exact V_vret K dX9_doLot_118 T
  · rcases if_inv E with ⟨c9, E⟩ | ⟨c9, E⟩
    · refine V_tin (off := 47) K 59 dX9_doLot_12 (by rw [c9]; decide) (by rw [c9]; decide) (by rw [c9]; rfl) (by decide) ?_
      refine V_aload_n K 1 dX9_doLot_59 rfl ?_
      refine V_ic (v := 2) K dX9_doLot_60 rfl ?_
      refine V_iload_n K 0 dX9_doLot_61 rfl ?_
      refine V_ic (v := 3) K dX9_doLot_62 rfl ?_
      refine V_irem K dX9_doLot_63 (by decide) ?_
      obtain ⟨r12, h11, q10, E⟩ := ob2_inv E
      refine iv_X9_173 K (c_X9_doDeed _ (2 : Int32) (irm v1 (3 : Int32)) h q10) dX9_doLot_64 (Nat.le_of_ble_eq_true rfl) ?_
      refine V_pop K dX9_doLot_67 rfl ?_
      refine V_goto K 118 dX9_doLot_68 (by decide) ?_
      cases E
      exact V_vret K dX9_doLot_118 T
    · rcases if_inv E with ⟨c13, E⟩ | ⟨c13, E⟩
      · refine V_tin (off := 59) K 71 dX9_doLot_12 (by rw [c13]; decide) (by rw [c13]; decide) (by rw [c13]; rfl) (by decide) ?_
        refine V_aload_n K 1 dX9_doLot_71 rfl ?_
        refine V_ic (v := 3) K dX9_doLot_72 rfl ?_
        refine V_ic (v := 1) K dX9_doLot_73 rfl ?_
        refine V_aload_n K 1 dX9_doLot_74 rfl ?_
        refine gf_X9_71 K dX9_doLot_75 ?_
        refine gf_X9_179 K k_19 dX9_doLot_78 ?_
        refine V_isub K dX9_doLot_81 ?_
        obtain ⟨r16, h15, q14, E⟩ := ob2_inv E
        refine iv_X9_173 K (c_X9_doDeed _ (3 : Int32) ((1 : Int32) - (h.1 19 10)) h q14) dX9_doLot_82 (Nat.le_of_ble_eq_true rfl) ?_
        refine V_pop K dX9_doLot_85 rfl ?_
        refine V_goto K 118 dX9_doLot_86 (by decide) ?_
        cases E
        exact V_vret K dX9_doLot_118 T
      · rcases if_inv E with ⟨c17, E⟩ | ⟨c17, E⟩
        · refine V_tin (off := 77) K 89 dX9_doLot_12 (by rw [c17]; decide) (by rw [c17]; decide) (by rw [c17]; rfl) (by decide) ?_
          refine V_aload_n K 1 dX9_doLot_89 rfl ?_
          refine V_ic (v := 4) K dX9_doLot_90 rfl ?_
          refine V_aload_n K 1 dX9_doLot_91 rfl ?_
          refine V_iload_n K 2 dX9_doLot_92 rfl ?_
          obtain ⟨r18, q19, E⟩ := ob_inv E
          refine iv_X9_335 K (c_X9_oneOfLot _ a1 h q19) dX9_doLot_93 (Nat.le_of_ble_eq_true rfl) ?_
          refine V_bp (v := 10) K dX9_doLot_96 rfl ?_
          refine V_imul K dX9_doLot_98 ?_
          refine V_iload_n K 0 dX9_doLot_99 rfl ?_
          refine V_bp (v := 10) K dX9_doLot_100 rfl ?_
          refine V_irem K dX9_doLot_102 (by decide) ?_
          refine V_iadd K dX9_doLot_103 ?_
          obtain ⟨r22, h21, q20, E⟩ := ob2_inv E
          refine iv_X9_173 K (c_X9_doDeed _ (4 : Int32) ((r18 * (10 : Int32)) + (irm v1 (10 : Int32))) h q20) dX9_doLot_104 (Nat.le_of_ble_eq_true rfl) ?_
          refine V_pop K dX9_doLot_107 rfl ?_
          refine V_goto K 118 dX9_doLot_108 (by decide) ?_
          cases E
          exact V_vret K dX9_doLot_118 T
        · refine V_tout K 111 dX9_doLot_12 (by have n0 := lv_neT c5 (a := 4) (by decide); have n1 := lv_neT c9 (a := 5) (by decide); have n2 := lv_neT c13 (a := 6) (by decide); have n3 := lv_neT c17 (a := 7) (by decide); omega) (by decide) ?_
          refine V_aload_n K 1 dX9_doLot_111 rfl ?_
          refine V_ic (v := 0) K dX9_doLot_112 rfl ?_
          refine V_ic (v := 0) K dX9_doLot_113 rfl ?_
          obtain ⟨r25, h24, q23, E⟩ := ob2_inv E
          refine iv_X9_173 K (c_X9_doDeed _ (0 : Int32) (0 : Int32) h q23) dX9_doLot_114 (Nat.le_of_ble_eq_true rfl) ?_
          refine V_pop K dX9_doLot_117 rfl ?_
          cases E
          exact V_vret K dX9_doLot_118 T
theorem c_X9_doLot (d : Nat) (a1 : Int32) (h : Hp)  {h' : Hp} (E : X9_doLot a1 h = some h') : Runs (d + 7) yX9_doLot cX9_doLot 3 none (fun f => [.ref (f 0), .int a1]) h (fun _ => none) h' :=
  Runs.of (by decide +kernel) (fun _ => Nat.le_of_ble_eq_true rfl) (fun x K T => w_X9_doLot K  a1 h  E T)
