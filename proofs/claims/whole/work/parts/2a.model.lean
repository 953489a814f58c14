def X10_allHave_s4 (x1 : Int32) (h : Hp) (y2 : Int32) (y3 : Int32) : Option ((Int32 × Int32) ⊕ (Int32 × Int32)) :=
  if (h.1 51 2) ≤ y3 then (some (.inl (y2, y3)))
  else (gd (ib ((x1 + (6 : Int32)) + y3) 2805) (
  lt_ (y2 + (h.1 52 (ix ((x1 + (6 : Int32)) + y3)))) fun v3 =>
  lt_ (y3 + (1 : Int32)) fun v5 =>
  some (.inr (v3, v5))))
set_option maxHeartbeats 4000000 in
set_option maxRecDepth 100000 in
theorem wl_X10_allHave_s4 {x : Cx} {d : Nat} (K : Ok x cX10_allHave RX10 4 (some .int) (d + 0)) (x1 : Int32) (h : Hp)  : ∀ (n : Nat) (s : Int32 × Int32) (r : (Int32 × Int32)), lp (fun s : Int32 × Int32 => X10_allHave_s4 x1 h s.1 s.2) n s = some r → (fun r : (Int32 × Int32) => VV x 32 [(0, .ref (ad x 51)), (1, .int x1), (2, .int (r.1)), (3, .int (r.2))] [] h) r → (fun s : Int32 × Int32 => VV x 4 [(0, .ref (ad x 51)), (1, .int x1), (2, .int (s.1)), (3, .int (s.2))] [] h) s := by
  refine lp_walk ?_
  intro s z E T
  obtain ⟨y2, y3⟩ := s
  replace E : X10_allHave_s4 x1 h y2 y3 = some z := E
  unfold X10_allHave_s4 at E
  show VV x 4 [(0, .ref (ad x 51)), (1, .int x1), (2, .int y2), (3, .int y3)] [] h
  refine V_iload_n K 3 dX10_allHave_4 rfl ?_
  refine V_aload_n K 0 dX10_allHave_5 rfl ?_
  refine gf_X10_120 K dX10_allHave_6 ?_
  rcases if_inv E with ⟨c1, E⟩ | ⟨c1, E⟩
  · refine V_ic_ge_t K 32 dX10_allHave_9 (by decide) c1 ?_
    cases E
    exact V_sub [0, 1, 2, 3] rfl T
  · refine V_ic_ge_f K 32 dX10_allHave_9 (by decide) c1 ?_
    refine V_iload_n K 2 dX10_allHave_12 rfl ?_
    refine V_aload_n K 0 dX10_allHave_13 rfl ?_
    refine gf_X10_7 K dX10_allHave_14 ?_
    refine V_iload_n K 1 dX10_allHave_17 rfl ?_
    refine V_bp (v := 6) K dX10_allHave_18 rfl ?_
    refine V_iadd K dX10_allHave_20 ?_
    refine V_iload_n K 3 dX10_allHave_21 rfl ?_
    refine V_iadd K dX10_allHave_22 ?_
    obtain ⟨g2, E⟩ := gd_inv E
    refine V_iald K k_52 n_52 g2 dX10_allHave_23 ?_
    refine V_iadd K dX10_allHave_24 ?_
    obtain ⟨v3, e4, E⟩ := lt_inv E
    refine V_top e4 ?_
    refine V_istore_n (lv' := [(2, .int v3), (0, .ref (ad x 51)), (1, .int x1), (3, .int y3)]) K dX10_allHave_25 (by decide) rfl ?_
    obtain ⟨v5, e6, E⟩ := lt_inv E
    refine V_iinc (lv' := [(3, .int v5), (2, .int v3), (0, .ref (ad x 51)), (1, .int x1)]) K 3 dX10_allHave_26 rfl (by rw [e6]; rfl) (by decide) rfl ?_
    refine V_goto K 4 dX10_allHave_29 (by decide) ?_
    cases E
    exact V_sub [2, 3, 1, 0] rfl T
def X10_allHave (a1 : Int32) (h : Hp) : Option Int32 :=
  ob2 (lp (fun s : Int32 × Int32 => X10_allHave_s4 a1 h s.1 s.2) FU ((0 : Int32), (0 : Int32))) fun v7 v8 =>
  some v7
set_option maxHeartbeats 4000000 in
set_option maxRecDepth 100000 in
theorem w_X10_allHave {x : Cx} {d : Nat} (K : Ok x cX10_allHave RX10 4 (some .int) (d + 0)) (a1 : Int32) (h : Hp)  {z : Int32} (E : X10_allHave a1 h = some z) (T : x.2.2.2.2 = (some (.int z), h)) : VV x 0 [(0, .ref (ad x 51)), (1, .int a1)] [] h := by
  unfold X10_allHave at E
  refine V_ic (v := 0) K dX10_allHave_0 rfl ?_
  refine V_istore_n (lv' := [(2, .int (0 : Int32)), (0, .ref (ad x 51)), (1, .int a1)]) K dX10_allHave_1 (by decide) rfl ?_
  refine V_ic (v := 0) K dX10_allHave_2 rfl ?_
  refine V_istore_n (lv' := [(3, .int (0 : Int32)), (2, .int (0 : Int32)), (0, .ref (ad x 51)), (1, .int a1)]) K dX10_allHave_3 (by decide) rfl ?_
  obtain ⟨v7, v8, q9, E⟩ := ob2_inv E
  refine V_sub [2, 3, 1, 0] rfl (wl_X10_allHave_s4 K a1 h  _ _ _ q9 ?_)
  show VV x 32 [(0, .ref (ad x 51)), (1, .int a1), (2, .int v7), (3, .int v8)] [] h
  refine V_iload_n K 2 dX10_allHave_32 rfl ?_
  cases E
  exact V_iret K dX10_allHave_33 rfl T
theorem c_X10_allHave (d : Nat) (a1 : Int32) (h : Hp)  {r : Int32} (E : X10_allHave a1 h = some r) : Runs (d + 0) yX10_allHave cX10_allHave 4 (some .int) (fun f => [.ref (f 51), .int a1]) h (fun _ => some (.int r)) h :=
  Runs.of (by decide +kernel) (fun _ => Nat.le_of_ble_eq_true rfl) (fun x K T => w_X10_allHave K  a1 h  E T)
def X10_asked  (h : Hp) : Int32 :=
  h.1 51 13
set_option maxHeartbeats 4000000 in
set_option maxRecDepth 100000 in
theorem w_X10_asked {x : Cx} {d : Nat} (K : Ok x cX10_asked RX10 1 (some .int) (d + 0))  (h : Hp)  {z : Int32} (E : X10_asked  h = z) (T : x.2.2.2.2 = (some (.int z), h)) : VV x 0 [(0, .ref (ad x 51))] [] h := by
  unfold X10_asked at E
  refine V_aload_n K 0 dX10_asked_0 rfl ?_
  refine gf_X10_60 K dX10_asked_1 ?_
  cases E
  exact V_iret K dX10_asked_4 rfl T
theorem c_X10_asked (d : Nat)  (h : Hp)  : Runs (d + 0) yX10_asked cX10_asked 1 (some .int) (fun f => [.ref (f 51)]) h (fun _ => some (.int (X10_asked  h))) h :=
  Runs.of (by decide +kernel) (fun _ => Nat.le_of_ble_eq_true rfl) (fun x K T => w_X10_asked K   h  rfl T)
def X10_in (a1 : Int32) (a2 : Int32) (a3 : Int32) : Int32 :=
  if a1 < a2 then ((0 : Int32))
  else (if a3 < a1 then ((0 : Int32))
  else ((1 : Int32)))
set_option maxHeartbeats 4000000 in
set_option maxRecDepth 100000 in
theorem w_X10_in {x : Cx} {d : Nat} (K : Ok x cX10_in RX10 3 (some .boolean) (d + 0)) (a1 : Int32) (a2 : Int32) (a3 : Int32) (h : Hp)  {z : Int32} (E : X10_in a1 a2 a3 = z) (T : x.2.2.2.2 = (some (.int z), h)) : VV x 0 [(0, .int a1), (1, .int a2), (2, .int a3)] [] h := by
  unfold X10_in at E
  refine V_iload_n K 0 dX10_in_0 rfl ?_
  refine V_iload_n K 1 dX10_in_1 rfl ?_
  rcases if_inv E with ⟨c1, E⟩ | ⟨c1, E⟩
  · refine V_ic_lt_t K 14 dX10_in_2 (by decide) c1 ?_
    refine V_ic (v := 0) K dX10_in_14 rfl ?_
    cases E
    exact V_iret K dX10_in_15 rfl T
  · refine V_ic_lt_f K 14 dX10_in_2 (by decide) c1 ?_
    refine V_iload_n K 0 dX10_in_5 rfl ?_
    refine V_iload_n K 2 dX10_in_6 rfl ?_
    rcases if_inv E with ⟨c2, E⟩ | ⟨c2, E⟩
    · refine V_ic_gt_t K 14 dX10_in_7 (by decide) c2 ?_
      refine V_ic (v := 0) K dX10_in_14 rfl ?_
      cases E
      exact V_iret K dX10_in_15 rfl T
    · refine V_ic_gt_f K 14 dX10_in_7 (by decide) c2 ?_
      refine V_ic (v := 1) K dX10_in_10 rfl ?_
      refine V_goto K 15 dX10_in_11 (by decide) ?_
      cases E
      exact V_iret K dX10_in_15 rfl T
theorem c_X10_in (d : Nat) (a1 : Int32) (a2 : Int32) (a3 : Int32) (h : Hp)  : Runs (d + 0) yX10_in cX10_in 3 (some .boolean) (fun f => [.int a1, .int a2, .int a3]) h (fun _ => some (.int (X10_in a1 a2 a3))) h :=
  Runs.of (by decide +kernel) (fun _ => Nat.le_of_ble_eq_true rfl) (fun x K T => w_X10_in K  a1 a2 a3 h  rfl T)
theorem bz_X10_in (a1 : Int32) (a2 : Int32) (a3 : Int32) : narrow .boolean (.int (X10_in a1 a2 a3)) = .int (X10_in a1 a2 a3) := by
  unfold X10_in
  repeat' split
  all_goals first | rfl | exact bz_X10_in _ _ _
def X10_isRow (a1 : Int32) : Int32 :=
  (X10_in a1 (0 : Int32) (5 : Int32))
set_option maxHeartbeats 4000000 in
set_option maxRecDepth 100000 in
theorem w_X10_isRow {x : Cx} {d : Nat} (K : Ok x cX10_isRow RX10 1 (some .boolean) (d + 1)) (a1 : Int32) (h : Hp)  {z : Int32} (E : X10_isRow a1 = z) (T : x.2.2.2.2 = (some (.int z), h)) : VV x 0 [(0, .int a1)] [] h := by
  unfold X10_isRow at E
  refine V_iload_n K 0 dX10_isRow_0 rfl ?_
  refine V_ic (v := 0) K dX10_isRow_1 rfl ?_
  refine V_ic (v := 5) K dX10_isRow_2 rfl ?_
  refine iv_X10_63 K (c_X10_in _ a1 (0 : Int32) (5 : Int32) h) dX10_isRow_3 (Nat.le_of_ble_eq_true rfl) ?_
  cases E
  exact V_iret K dX10_isRow_6 (bz_X10_in a1 (0 : Int32) (5 : Int32)) T
theorem c_X10_isRow (d : Nat) (a1 : Int32) (h : Hp)  : Runs (d + 1) yX10_isRow cX10_isRow 1 (some .boolean) (fun f => [.int a1]) h (fun _ => some (.int (X10_isRow a1))) h :=
  Runs.of (by decide +kernel) (fun _ => Nat.le_of_ble_eq_true rfl) (fun x K T => w_X10_isRow K  a1 h  rfl T)
theorem bz_X10_isRow (a1 : Int32) : narrow .boolean (.int (X10_isRow a1)) = .int (X10_isRow a1) := by
  unfold X10_isRow
  repeat' split
  all_goals first | rfl | exact bz_X10_in _ _ _
def X10_wrongPlace (a1 : Int32) (a2 : Int32) (h : Hp) : Option Int32 :=
  gd (ib a1 6) (
  if (h.1 56 (ix a1)) = (-9 : Int32) then (some (1 : Int32))
  else (if (X10_in a2 (0 : Int32) ((h.1 56 (ix a1)) - (1 : Int32))) = (0 : Int32) then (some (2 : Int32))
  else (some (0 : Int32))))
set_option maxHeartbeats 4000000 in
set_option maxRecDepth 100000 in
theorem w_X10_wrongPlace {x : Cx} {d : Nat} (K : Ok x cX10_wrongPlace RX10 3 (some .int) (d + 1)) (a1 : Int32) (a2 : Int32) (h : Hp)  {z : Int32} (E : X10_wrongPlace a1 a2 h = some z) (T : x.2.2.2.2 = (some (.int z), h)) : VV x 0 [(0, .ref (ad x 51)), (1, .int a1), (2, .int a2)] [] h := by
  unfold X10_wrongPlace at E
  refine V_aload_n K 0 dX10_wrongPlace_0 rfl ?_
  refine gf_X10_22 K dX10_wrongPlace_1 ?_
  refine V_iload_n K 1 dX10_wrongPlace_4 rfl ?_
  obtain ⟨g1, E⟩ := gd_inv E
  refine V_iald K k_56 n_56 g1 dX10_wrongPlace_5 ?_
  refine V_bp (v := -9) K dX10_wrongPlace_6 rfl ?_
  rcases if_inv E with ⟨c2, E⟩ | ⟨c2, E⟩
  · refine V_ic_ne_f K 15 dX10_wrongPlace_8 (by decide) c2 ?_
    refine V_ic (v := 1) K dX10_wrongPlace_11 rfl ?_
    refine V_goto K 36 dX10_wrongPlace_12 (by decide) ?_
    cases E
    exact V_iret K dX10_wrongPlace_36 rfl T
  · refine V_ic_ne_t K 15 dX10_wrongPlace_8 (by decide) c2 ?_
    refine V_iload_n K 2 dX10_wrongPlace_15 rfl ?_
    refine V_ic (v := 0) K dX10_wrongPlace_16 rfl ?_
    refine V_aload_n K 0 dX10_wrongPlace_17 rfl ?_
    refine gf_X10_22 K dX10_wrongPlace_18 ?_
    refine V_iload_n K 1 dX10_wrongPlace_21 rfl ?_
    refine V_iald K k_56 n_56 g1 dX10_wrongPlace_22 ?_
    refine V_ic (v := 1) K dX10_wrongPlace_23 rfl ?_
    refine V_isub K dX10_wrongPlace_24 ?_
    refine iv_X10_63 K (c_X10_in _ a2 (0 : Int32) ((h.1 56 (ix a1)) - (1 : Int32)) h) dX10_wrongPlace_25 (Nat.le_of_ble_eq_true rfl) ?_
    rcases if_inv E with ⟨c3, E⟩ | ⟨c3, E⟩
    · refine V_if_eq_t K 35 dX10_wrongPlace_28 (by decide) c3 ?_
      refine V_ic (v := 2) K dX10_wrongPlace_35 rfl ?_
      cases E
      exact V_iret K dX10_wrongPlace_36 rfl T
    · refine V_if_eq_f K 35 dX10_wrongPlace_28 (by decide) c3 ?_
      refine V_ic (v := 0) K dX10_wrongPlace_31 rfl ?_
      refine V_goto K 36 dX10_wrongPlace_32 (by decide) ?_
      cases E
      exact V_iret K dX10_wrongPlace_36 rfl T
theorem c_X10_wrongPlace (d : Nat) (a1 : Int32) (a2 : Int32) (h : Hp)  {r : Int32} (E : X10_wrongPlace a1 a2 h = some r) : Runs (d + 1) yX10_wrongPlace cX10_wrongPlace 3 (some .int) (fun f => [.ref (f 51), .int a1, .int a2]) h (fun _ => some (.int r)) h :=
  Runs.of (by decide +kernel) (fun _ => Nat.le_of_ble_eq_true rfl) (fun x K T => w_X10_wrongPlace K  a1 a2 h  E T)
def X10_find (a1 : Int32) (h : Hp) : Option (Int32 × Hp) :=
  lt_ (up h 51 12 a1) fun h1 =>
  gd (ib a1 6) (
  lt_ (up h1 59 (ix a1) ((h1.1 59 (ix a1)) + (1 : Int32))) fun h4 =>
  some ((-3 : Int32), h4))
set_option maxHeartbeats 4000000 in
set_option maxRecDepth 100000 in
theorem w_X10_find {x : Cx} {d : Nat} (K : Ok x cX10_find RX10 2 (some .int) (d + 0)) (a1 : Int32) (h : Hp)  {z : Int32 × Hp} (E : X10_find a1 h = some z) (T : x.2.2.2.2 = (some (.int (z.1)), z.2)) : VV x 0 [(0, .ref (ad x 51)), (1, .int a1)] [] h := by
  unfold X10_find at E
  refine V_aload_n K 0 dX10_find_0 rfl ?_
  refine V_iload_n K 1 dX10_find_1 rfl ?_
  obtain ⟨h1, e2, E⟩ := lt_inv E
  refine pf_X10_56 K dX10_find_2 ?_
  refine V_hp e2 ?_
  refine V_aload_n K 0 dX10_find_5 rfl ?_
  refine gf_X10_31 K dX10_find_6 ?_
  refine V_iload_n K 1 dX10_find_9 rfl ?_
  refine V_dup2 K dX10_find_10 rfl rfl ?_
  obtain ⟨g3, E⟩ := gd_inv E
  refine V_iald K k_59 n_59 g3 dX10_find_11 ?_
  refine V_ic (v := 1) K dX10_find_12 rfl ?_
  refine V_iadd K dX10_find_13 ?_
  obtain ⟨h4, e5, E⟩ := lt_inv E
  refine V_iast K k_59 n_59 g3 dX10_find_14 ?_
  refine V_hp e5 ?_
  refine V_bp (v := -3) K dX10_find_15 rfl ?_
  cases E
  exact V_iret K dX10_find_17 rfl T
theorem c_X10_find (d : Nat) (a1 : Int32) (h : Hp)  {r : Int32} {h' : Hp} (E : X10_find a1 h = some (r, h')) : Runs (d + 0) yX10_find cX10_find 2 (some .int) (fun f => [.ref (f 51), .int a1]) h (fun _ => some (.int r)) h' :=
  Runs.of (by decide +kernel) (fun _ => Nat.le_of_ble_eq_true rfl) (fun x K T => w_X10_find K  a1 h  E T)
def X10_tell (a1 : Int32) (h : Hp) : Option (Int32 × Hp) :=
  lt_ (up h 51 13 a1) fun h1 =>
  some ((1 : Int32), h1)
set_option maxHeartbeats 4000000 in
set_option maxRecDepth 100000 in
theorem w_X10_tell {x : Cx} {d : Nat} (K : Ok x cX10_tell RX10 2 (some .int) (d + 0)) (a1 : Int32) (h : Hp)  {z : Int32 × Hp} (E : X10_tell a1 h = some z) (T : x.2.2.2.2 = (some (.int (z.1)), z.2)) : VV x 0 [(0, .ref (ad x 51)), (1, .int a1)] [] h := by
  unfold X10_tell at E
  refine V_aload_n K 0 dX10_tell_0 rfl ?_
  refine V_iload_n K 1 dX10_tell_1 rfl ?_
  obtain ⟨h1, e2, E⟩ := lt_inv E
  refine pf_X10_60 K dX10_tell_2 ?_
  refine V_hp e2 ?_
  refine V_ic (v := 1) K dX10_tell_5 rfl ?_
  cases E
  exact V_iret K dX10_tell_6 rfl T
theorem c_X10_tell (d : Nat) (a1 : Int32) (h : Hp)  {r : Int32} {h' : Hp} (E : X10_tell a1 h = some (r, h')) : Runs (d + 0) yX10_tell cX10_tell 2 (some .int) (fun f => [.ref (f 51), .int a1]) h (fun _ => some (.int r)) h' :=
  Runs.of (by decide +kernel) (fun _ => Nat.le_of_ble_eq_true rfl) (fun x K T => w_X10_tell K  a1 h  E T)
def X10_at (a1 : Int32) (a2 : Int32) (h : Hp) : Option (Int32 × Hp) :=
  if (X10_isRow a1) = (0 : Int32) then (some ((-1 : Int32), h))
  else (ob (X10_wrongPlace a1 a2 h) fun r2 =>
  if r2 ≤ (0 : Int32) then (gd (ib (((40 : Int32) * a1) + a2) 240) (
  ob2 (X10_tell (h.1 55 (ix (((40 : Int32) * a1) + a2))) h) fun r8 h7 =>
  some (r8, h7)))
  else (ob (X10_wrongPlace a1 a2 h) fun r9 =>
  ob2 (X10_find r9 h) fun r13 h12 =>
  some (r13, h12)))
set_option maxHeartbeats 4000000 in
set_option maxRecDepth 100000 in
theorem w_X10_at {x : Cx} {d : Nat} (K : Ok x cX10_at RX10 3 (some .int) (d + 2)) (a1 : Int32) (a2 : Int32) (h : Hp)  {z : Int32 × Hp} (E : X10_at a1 a2 h = some z) (T : x.2.2.2.2 = (some (.int (z.1)), z.2)) : VV x 0 [(0, .ref (ad x 51)), (1, .int a1), (2, .int a2)] [] h := by
  unfold X10_at at E
  refine V_iload_n K 1 dX10_at_0 rfl ?_
  refine iv_X10_67 K (c_X10_isRow _ a1 h) dX10_at_1 (Nat.le_of_ble_eq_true rfl) ?_
  rcases if_inv E with ⟨c1, E⟩ | ⟨c1, E⟩
  · refine V_if_ne_f K 9 dX10_at_4 (by decide) c1 ?_
    refine V_ic (v := -1) K dX10_at_7 rfl ?_
    cases E
    exact V_iret K dX10_at_8 rfl T
  · refine V_if_ne_t K 9 dX10_at_4 (by decide) c1 ?_
    refine V_aload_n K 0 dX10_at_9 rfl ?_
    refine V_iload_n K 1 dX10_at_10 rfl ?_
    refine V_iload_n K 2 dX10_at_11 rfl ?_
    obtain ⟨r2, q3, E⟩ := ob_inv E
    refine iv_X10_75 K (c_X10_wrongPlace _ a1 a2 h q3) dX10_at_12 (Nat.le_of_ble_eq_true rfl) ?_
    rcases if_inv E with ⟨c4, E⟩ | ⟨c4, E⟩
    · refine V_if_le_t K 31 dX10_at_15 (by decide) c4 ?_
      refine V_aload_n K 0 dX10_at_31 rfl ?_
      refine V_aload_n K 0 dX10_at_32 rfl ?_
      refine gf_X10_19 K dX10_at_33 ?_
      refine V_bp (v := 40) K dX10_at_36 rfl ?_
      refine V_iload_n K 1 dX10_at_38 rfl ?_
      refine V_imul K dX10_at_39 ?_
      refine V_iload_n K 2 dX10_at_40 rfl ?_
      refine V_iadd K dX10_at_41 ?_
      obtain ⟨g5, E⟩ := gd_inv E
      refine V_iald K k_55 n_55 g5 dX10_at_42 ?_
      obtain ⟨r8, h7, q6, E⟩ := ob2_inv E
      refine iv_X10_79 K (c_X10_tell _ (h.1 55 (ix (((40 : Int32) * a1) + a2))) h q6) dX10_at_43 (Nat.le_of_ble_eq_true rfl) ?_
      cases E
      exact V_iret K dX10_at_46 rfl T
    · refine V_if_le_f K 31 dX10_at_15 (by decide) c4 ?_
      refine V_aload_n K 0 dX10_at_18 rfl ?_
      refine V_aload_n K 0 dX10_at_19 rfl ?_
      refine V_iload_n K 1 dX10_at_20 rfl ?_
      refine V_iload_n K 2 dX10_at_21 rfl ?_
      obtain ⟨r9, q10, E⟩ := ob_inv E
      refine iv_X10_75 K (c_X10_wrongPlace _ a1 a2 h q10) dX10_at_22 (Nat.le_of_ble_eq_true rfl) ?_
      obtain ⟨r13, h12, q11, E⟩ := ob2_inv E
      refine iv_X10_71 K (c_X10_find _ r9 h q11) dX10_at_25 (Nat.le_of_ble_eq_true rfl) ?_
      refine V_goto K 46 dX10_at_28 (by decide) ?_
      cases E
      exact V_iret K dX10_at_46 rfl T
theorem c_X10_at (d : Nat) (a1 : Int32) (a2 : Int32) (h : Hp)  {r : Int32} {h' : Hp} (E : X10_at a1 a2 h = some (r, h')) : Runs (d + 2) yX10_at cX10_at 3 (some .int) (fun f => [.ref (f 51), .int a1, .int a2]) h (fun _ => some (.int r)) h' :=
  Runs.of (by decide +kernel) (fun _ => Nat.le_of_ble_eq_true rfl) (fun x K T => w_X10_at K  a1 a2 h  E T)
def X10_isOne (a1 : Int32) (h : Hp) : Int32 :=
  (X10_in a1 (0 : Int32) ((h.1 51 2) - (1 : Int32)))
set_option maxHeartbeats 4000000 in
set_option maxRecDepth 100000 in
theorem w_X10_isOne {x : Cx} {d : Nat} (K : Ok x cX10_isOne RX10 2 (some .boolean) (d + 1)) (a1 : Int32) (h : Hp)  {z : Int32} (E : X10_isOne a1 h = z) (T : x.2.2.2.2 = (some (.int z), h)) : VV x 0 [(0, .ref (ad x 51)), (1, .int a1)] [] h := by
  unfold X10_isOne at E
  refine V_iload_n K 1 dX10_isOne_0 rfl ?_
  refine V_ic (v := 0) K dX10_isOne_1 rfl ?_
  refine V_aload_n K 0 dX10_isOne_2 rfl ?_
  refine gf_X10_120 K dX10_isOne_3 ?_
  refine V_ic (v := 1) K dX10_isOne_6 rfl ?_
  refine V_isub K dX10_isOne_7 ?_
  refine iv_X10_63 K (c_X10_in _ a1 (0 : Int32) ((h.1 51 2) - (1 : Int32)) h) dX10_isOne_8 (Nat.le_of_ble_eq_true rfl) ?_
  cases E
  exact V_iret K dX10_isOne_11 (bz_X10_in a1 (0 : Int32) ((h.1 51 2) - (1 : Int32))) T
theorem c_X10_isOne (d : Nat) (a1 : Int32) (h : Hp)  : Runs (d + 1) yX10_isOne cX10_isOne 2 (some .boolean) (fun f => [.ref (f 51), .int a1]) h (fun _ => some (.int (X10_isOne a1 h))) h :=
  Runs.of (by decide +kernel) (fun _ => Nat.le_of_ble_eq_true rfl) (fun x K T => w_X10_isOne K  a1 h  rfl T)
theorem bz_X10_isOne (a1 : Int32) (h : Hp) : narrow .boolean (.int (X10_isOne a1 h)) = .int (X10_isOne a1 h) := by
  unfold X10_isOne
  repeat' split
  all_goals first | rfl | exact bz_X10_in _ _ _
def X10_has (a1 : Int32) (a2 : Int32) : Int32 :=
  if ((a1 >>> (a2 &&& 31)) &&& (1 : Int32)) = (1 : Int32) then ((1 : Int32))
  else ((0 : Int32))
set_option maxHeartbeats 4000000 in
set_option maxRecDepth 100000 in
theorem w_X10_has {x : Cx} {d : Nat} (K : Ok x cX10_has RX10 2 (some .boolean) (d + 0)) (a1 : Int32) (a2 : Int32) (h : Hp)  {z : Int32} (E : X10_has a1 a2 = z) (T : x.2.2.2.2 = (some (.int z), h)) : VV x 0 [(0, .int a1), (1, .int a2)] [] h := by
  unfold X10_has at E
  refine V_iload_n K 0 dX10_has_0 rfl ?_
  refine V_iload_n K 1 dX10_has_1 rfl ?_
  refine V_ishr K dX10_has_2 ?_
  refine V_ic (v := 1) K dX10_has_3 rfl ?_
  refine V_iand K dX10_has_4 ?_
  refine V_ic (v := 1) K dX10_has_5 rfl ?_
  rcases if_inv E with ⟨c1, E⟩ | ⟨c1, E⟩
  · refine V_ic_ne_f K 13 dX10_has_6 (by decide) c1 ?_
    refine V_ic (v := 1) K dX10_has_9 rfl ?_
    refine V_goto K 14 dX10_has_10 (by decide) ?_
    cases E
    exact V_iret K dX10_has_14 rfl T
  · refine V_ic_ne_t K 13 dX10_has_6 (by decide) c1 ?_
    refine V_ic (v := 0) K dX10_has_13 rfl ?_
    cases E
    exact V_iret K dX10_has_14 rfl T
theorem c_X10_has (d : Nat) (a1 : Int32) (a2 : Int32) (h : Hp)  : Runs (d + 0) yX10_has cX10_has 2 (some .boolean) (fun f => [.int a1, .int a2]) h (fun _ => some (.int (X10_has a1 a2))) h :=
  Runs.of (by decide +kernel) (fun _ => Nat.le_of_ble_eq_true rfl) (fun x K T => w_X10_has K  a1 a2 h  rfl T)
theorem bz_X10_has (a1 : Int32) (a2 : Int32) : narrow .boolean (.int (X10_has a1 a2)) = .int (X10_has a1 a2) := by
  unfold X10_has
  repeat' split
  all_goals first | rfl | exact bz_X10_in _ _ _
def X10_bits_s4 (x0 : Int32) (y1 : Int32) (y2 : Int32) : Option ((Int32 × Int32) ⊕ (Int32 × Int32)) :=
  if (31 : Int32) ≤ y2 then (some (.inl (y1, y2)))
  else (lt_ (y1 + ((x0 >>> (y2 &&& 31)) &&& (1 : Int32))) fun v2 =>
  lt_ (y2 + (1 : Int32)) fun v4 =>
  some (.inr (v2, v4)))
set_option maxHeartbeats 4000000 in
set_option maxRecDepth 100000 in
theorem wl_X10_bits_s4 {x : Cx} {d : Nat} (K : Ok x cX10_bits RX10 3 (some .int) (d + 0)) (x0 : Int32) (h : Hp)  : ∀ (n : Nat) (s : Int32 × Int32) (r : (Int32 × Int32)), lp (fun s : Int32 × Int32 => X10_bits_s4 x0 s.1 s.2) n s = some r → (fun r : (Int32 × Int32) => VV x 24 [(0, .int x0), (1, .int (r.1)), (2, .int (r.2))] [] h) r → (fun s : Int32 × Int32 => VV x 4 [(0, .int x0), (1, .int (s.1)), (2, .int (s.2))] [] h) s := by
  refine lp_walk ?_
  intro s z E T
  obtain ⟨y1, y2⟩ := s
  replace E : X10_bits_s4 x0 y1 y2 = some z := E
  unfold X10_bits_s4 at E
  show VV x 4 [(0, .int x0), (1, .int y1), (2, .int y2)] [] h
  refine V_iload_n K 2 dX10_bits_4 rfl ?_
  refine V_bp (v := 31) K dX10_bits_5 rfl ?_
  rcases if_inv E with ⟨c1, E⟩ | ⟨c1, E⟩
  · refine V_ic_ge_t K 24 dX10_bits_7 (by decide) c1 ?_
    cases E
    exact V_sub [0, 1, 2] rfl T
  · refine V_ic_ge_f K 24 dX10_bits_7 (by decide) c1 ?_
    refine V_iload_n K 1 dX10_bits_10 rfl ?_
    refine V_iload_n K 0 dX10_bits_11 rfl ?_
    refine V_iload_n K 2 dX10_bits_12 rfl ?_
    refine V_ishr K dX10_bits_13 ?_
    refine V_ic (v := 1) K dX10_bits_14 rfl ?_
    refine V_iand K dX10_bits_15 ?_
    refine V_iadd K dX10_bits_16 ?_
    obtain ⟨v2, e3, E⟩ := lt_inv E
    refine V_top e3 ?_
    refine V_istore_n (lv' := [(1, .int v2), (0, .int x0), (2, .int y2)]) K dX10_bits_17 (by decide) rfl ?_
    obtain ⟨v4, e5, E⟩ := lt_inv E
    refine V_iinc (lv' := [(2, .int v4), (1, .int v2), (0, .int x0)]) K 2 dX10_bits_18 rfl (by rw [e5]; rfl) (by decide) rfl ?_
    refine V_goto K 4 dX10_bits_21 (by decide) ?_
    cases E
    exact V_sub [2, 1, 0] rfl T
def X10_bits (a1 : Int32) : Option Int32 :=
  ob2 (lp (fun s : Int32 × Int32 => X10_bits_s4 a1 s.1 s.2) FU ((0 : Int32), (0 : Int32))) fun v6 v7 =>
  some v6
set_option maxHeartbeats 4000000 in
set_option maxRecDepth 100000 in
theorem w_X10_bits {x : Cx} {d : Nat} (K : Ok x cX10_bits RX10 3 (some .int) (d + 0)) (a1 : Int32) (h : Hp)  {z : Int32} (E : X10_bits a1 = some z) (T : x.2.2.2.2 = (some (.int z), h)) : VV x 0 [(0, .int a1)] [] h := by
  unfold X10_bits at E
  refine V_ic (v := 0) K dX10_bits_0 rfl ?_
  refine V_istore_n (lv' := [(1, .int (0 : Int32)), (0, .int a1)]) K dX10_bits_1 (by decide) rfl ?_
  refine V_ic (v := 0) K dX10_bits_2 rfl ?_
  refine V_istore_n (lv' := [(2, .int (0 : Int32)), (1, .int (0 : Int32)), (0, .int a1)]) K dX10_bits_3 (by decide) rfl ?_
  obtain ⟨v6, v7, q8, E⟩ := ob2_inv E
  refine V_sub [2, 1, 0] rfl (wl_X10_bits_s4 K a1 h  _ _ _ q8 ?_)
  show VV x 24 [(0, .int a1), (1, .int v6), (2, .int v7)] [] h
  refine V_iload_n K 1 dX10_bits_24 rfl ?_
  cases E
  exact V_iret K dX10_bits_25 rfl T
theorem c_X10_bits (d : Nat) (a1 : Int32) (h : Hp)  {r : Int32} (E : X10_bits a1 = some r) : Runs (d + 0) yX10_bits cX10_bits 3 (some .int) (fun f => [.int a1]) h (fun _ => some (.int r)) h :=
  Runs.of (by decide +kernel) (fun _ => Nat.le_of_ble_eq_true rfl) (fun x K T => w_X10_bits K  a1 h  E T)
def X10_now  (h : Hp) : Int32 :=
  ((17 : Int32) * (h.1 51 5))
set_option maxHeartbeats 4000000 in
set_option maxRecDepth 100000 in
theorem w_X10_now {x : Cx} {d : Nat} (K : Ok x cX10_now RX10 1 (some .int) (d + 0))  (h : Hp)  {z : Int32} (E : X10_now  h = z) (T : x.2.2.2.2 = (some (.int z), h)) : VV x 0 [(0, .ref (ad x 51))] [] h := by
  unfold X10_now at E
  refine V_bp (v := 17) K dX10_now_0 rfl ?_
  refine V_aload_n K 0 dX10_now_2 rfl ?_
  refine gf_X10_129 K dX10_now_3 ?_
  refine V_imul K dX10_now_6 ?_
  cases E
  exact V_iret K dX10_now_7 rfl T
theorem c_X10_now (d : Nat)  (h : Hp)  : Runs (d + 0) yX10_now cX10_now 1 (some .int) (fun f => [.ref (f 51)]) h (fun _ => some (.int (X10_now  h))) h :=
  Runs.of (by decide +kernel) (fun _ => Nat.le_of_ble_eq_true rfl) (fun x K T => w_X10_now K   h  rfl T)
def X10_copyRow_s2 (x1 : Int32) (x2 : Int32) (y3 : Int32) (h : Hp) : Option ((Int32 × Hp) ⊕ (Int32 × Hp)) :=
  if (17 : Int32) ≤ y3 then (some (.inl (y3, h)))
  else (gd (ib (x1 + y3) 2805) (
  gd (ib (x2 + y3) 2805) (
  lt_ (up h 52 (ix (x2 + y3)) (h.1 52 (ix (x1 + y3)))) fun h4 =>
  lt_ (y3 + (1 : Int32)) fun v6 =>
  some (.inr (v6, h4)))))
set_option maxHeartbeats 4000000 in
set_option maxRecDepth 100000 in
theorem wl_X10_copyRow_s2 {x : Cx} {d : Nat} (K : Ok x cX10_copyRow RX10 4 none (d + 0)) (x1 : Int32) (x2 : Int32)  : ∀ (n : Nat) (s : Int32 × Hp) (r : (Int32 × Hp)), lp (fun s : Int32 × Hp => X10_copyRow_s2 x1 x2 s.1 s.2) n s = some r → (fun r : (Int32 × Hp) => VV x 30 [(0, .ref (ad x 51)), (1, .int x1), (2, .int x2), (3, .int (r.1))] [] r.2) r → (fun s : Int32 × Hp => VV x 2 [(0, .ref (ad x 51)), (1, .int x1), (2, .int x2), (3, .int (s.1))] [] s.2) s := by
  refine lp_walk ?_
  intro s z E T
  obtain ⟨y3, h⟩ := s
  replace E : X10_copyRow_s2 x1 x2 y3 h = some z := E
  unfold X10_copyRow_s2 at E
  show VV x 2 [(0, .ref (ad x 51)), (1, .int x1), (2, .int x2), (3, .int y3)] [] h
  refine V_iload_n K 3 dX10_copyRow_2 rfl ?_
  refine V_bp (v := 17) K dX10_copyRow_3 rfl ?_
  rcases if_inv E with ⟨c1, E⟩ | ⟨c1, E⟩
  · refine V_ic_ge_t K 30 dX10_copyRow_5 (by decide) c1 ?_
    cases E
    exact V_sub [0, 1, 2, 3] rfl T
  · refine V_ic_ge_f K 30 dX10_copyRow_5 (by decide) c1 ?_
    refine V_aload_n K 0 dX10_copyRow_8 rfl ?_
    refine gf_X10_7 K dX10_copyRow_9 ?_
    refine V_iload_n K 2 dX10_copyRow_12 rfl ?_
    refine V_iload_n K 3 dX10_copyRow_13 rfl ?_
    refine V_iadd K dX10_copyRow_14 ?_
    refine V_aload_n K 0 dX10_copyRow_15 rfl ?_
    refine gf_X10_7 K dX10_copyRow_16 ?_
    refine V_iload_n K 1 dX10_copyRow_19 rfl ?_
    refine V_iload_n K 3 dX10_copyRow_20 rfl ?_
    refine V_iadd K dX10_copyRow_21 ?_
    obtain ⟨g2, E⟩ := gd_inv E
    refine V_iald K k_52 n_52 g2 dX10_copyRow_22 ?_
    obtain ⟨g3, E⟩ := gd_inv E
    obtain ⟨h4, e5, E⟩ := lt_inv E
    refine V_iast K k_52 n_52 g3 dX10_copyRow_23 ?_
    refine V_hp e5 ?_
    obtain ⟨v6, e7, E⟩ := lt_inv E
    refine V_iinc (lv' := [(3, .int v6), (0, .ref (ad x 51)), (1, .int x1), (2, .int x2)]) K 3 dX10_copyRow_24 rfl (by rw [e7]; rfl) (by decide) rfl ?_
    refine V_goto K 2 dX10_copyRow_27 (by decide) ?_
    cases E
    exact V_sub [1, 2, 3, 0] rfl T
def X10_copyRow (a1 : Int32) (a2 : Int32) (h : Hp) : Option Hp :=
  ob2 (lp (fun s : Int32 × Hp => X10_copyRow_s2 a1 a2 s.1 s.2) FU ((0 : Int32), h)) fun v8 h9 =>
  some h9
set_option maxHeartbeats 4000000 in
set_option maxRecDepth 100000 in
theorem w_X10_copyRow {x : Cx} {d : Nat} (K : Ok x cX10_copyRow RX10 4 none (d + 0)) (a1 : Int32) (a2 : Int32) (h : Hp)  {z : Hp} (E : X10_copyRow a1 a2 h = some z) (T : x.2.2.2.2 = (none, z)) : VV x 0 [(0, .ref (ad x 51)), (1, .int a1), (2, .int a2)] [] h := by
  unfold X10_copyRow at E
  refine V_ic (v := 0) K dX10_copyRow_0 rfl ?_
  refine V_istore_n (lv' := [(3, .int (0 : Int32)), (0, .ref (ad x 51)), (1, .int a1), (2, .int a2)]) K dX10_copyRow_1 (by decide) rfl ?_
  obtain ⟨v8, h9, q10, E⟩ := ob2_inv E
  refine V_sub [1, 2, 3, 0] rfl (wl_X10_copyRow_s2 K a1 a2  _ _ _ q10 ?_)
  show VV x 30 [(0, .ref (ad x 51)), (1, .int a1), (2, .int a2), (3, .int v8)] [] h9
  cases E
  exact V_vret K dX10_copyRow_30 T
theorem c_X10_copyRow (d : Nat) (a1 : Int32) (a2 : Int32) (h : Hp)  {h' : Hp} (E : X10_copyRow a1 a2 h = some h') : Runs (d + 0) yX10_copyRow cX10_copyRow 4 none (fun f => [.ref (f 51), .int a1, .int a2]) h (fun _ => none) h' :=
  Runs.of (by decide +kernel) (fun _ => Nat.le_of_ble_eq_true rfl) (fun x K T => w_X10_copyRow K  a1 a2 h  E T)
def X10_lesser (a1 : Int32) (a2 : Int32) : Int32 :=
  if a2 ≤ a1 then (a2)
  else (a1)
set_option maxHeartbeats 4000000 in
set_option maxRecDepth 100000 in
theorem w_X10_lesser {x : Cx} {d : Nat} (K : Ok x cX10_lesser RX10 2 (some .int) (d + 0)) (a1 : Int32) (a2 : Int32) (h : Hp)  {z : Int32} (E : X10_lesser a1 a2 = z) (T : x.2.2.2.2 = (some (.int z), h)) : VV x 0 [(0, .int a1), (1, .int a2)] [] h := by
  unfold X10_lesser at E
  refine V_iload_n K 0 dX10_lesser_0 rfl ?_
  refine V_iload_n K 1 dX10_lesser_1 rfl ?_
  rcases if_inv E with ⟨c1, E⟩ | ⟨c1, E⟩
  · refine V_ic_ge_t K 9 dX10_lesser_2 (by decide) c1 ?_
    refine V_iload_n K 1 dX10_lesser_9 rfl ?_
    cases E
    exact V_iret K dX10_lesser_10 rfl T
  · refine V_ic_ge_f K 9 dX10_lesser_2 (by decide) c1 ?_
    refine V_iload_n K 0 dX10_lesser_5 rfl ?_
    refine V_goto K 10 dX10_lesser_6 (by decide) ?_
    cases E
    exact V_iret K dX10_lesser_10 rfl T
theorem c_X10_lesser (d : Nat) (a1 : Int32) (a2 : Int32) (h : Hp)  : Runs (d + 0) yX10_lesser cX10_lesser 2 (some .int) (fun f => [.int a1, .int a2]) h (fun _ => some (.int (X10_lesser a1 a2))) h :=
  Runs.of (by decide +kernel) (fun _ => Nat.le_of_ble_eq_true rfl) (fun x K T => w_X10_lesser K  a1 a2 h  rfl T)
def X10_gatheredBy (a1 : Int32) (a2 : Int32) : Int32 :=
  if a1 = (2 : Int32) then ((X10_lesser a2 (9 : Int32)))
  else (if a1 = (3 : Int32) then ((a2 / (2 : Int32)))
  else (if a1 = (4 : Int32) then ((X10_lesser a2 (2 : Int32)))
  else (if a1 = (5 : Int32) then (if a2 < (20 : Int32) then ((a2 / (2 : Int32)))
  else (a2))
  else ((X10_lesser a2 (2 : Int32))))))
set_option maxHeartbeats 4000000 in
set_option maxRecDepth 100000 in
theorem w_X10_gatheredBy {x : Cx} {d : Nat} (K : Ok x cX10_gatheredBy RX10 2 (some .int) (d + 1)) (a1 : Int32) (a2 : Int32) (h : Hp)  {z : Int32} (E : X10_gatheredBy a1 a2 = z) (T : x.2.2.2.2 = (some (.int z), h)) : VV x 0 [(0, .int a1), (1, .int a2)] [] h := by
  unfold X10_gatheredBy at E
  refine V_iload_n K 0 dX10_gatheredBy_0 rfl ?_
  rcases if_inv E with ⟨c1, E⟩ | ⟨c1, E⟩
  · refine V_tin (off := 31) K 32 dX10_gatheredBy_1 (by rw [c1]; decide) (by rw [c1]; decide) (by rw [c1]; rfl) (by decide) ?_
    refine V_iload_n K 1 dX10_gatheredBy_32 rfl ?_
    refine V_bp (v := 9) K dX10_gatheredBy_33 rfl ?_
    refine iv_X10_132 K (c_X10_lesser _ a2 (9 : Int32) h) dX10_gatheredBy_35 (Nat.le_of_ble_eq_true rfl) ?_
    cases E
    exact V_iret K dX10_gatheredBy_38 rfl T
  · rcases if_inv E with ⟨c2, E⟩ | ⟨c2, E⟩
    · refine V_tin (off := 38) K 39 dX10_gatheredBy_1 (by rw [c2]; decide) (by rw [c2]; decide) (by rw [c2]; rfl) (by decide) ?_
      refine V_iload_n K 1 dX10_gatheredBy_39 rfl ?_
      refine V_ic (v := 2) K dX10_gatheredBy_40 rfl ?_
      refine V_idiv K dX10_gatheredBy_41 (by decide) ?_
      cases E
      exact V_iret K dX10_gatheredBy_42 rfl T
    · rcases if_inv E with ⟨c3, E⟩ | ⟨c3, E⟩
      · refine V_tin (off := 56) K 57 dX10_gatheredBy_1 (by rw [c3]; decide) (by rw [c3]; decide) (by rw [c3]; rfl) (by decide) ?_
        refine V_iload_n K 1 dX10_gatheredBy_57 rfl ?_
        refine V_ic (v := 2) K dX10_gatheredBy_58 rfl ?_
        refine iv_X10_132 K (c_X10_lesser _ a2 (2 : Int32) h) dX10_gatheredBy_59 (Nat.le_of_ble_eq_true rfl) ?_
        cases E
        exact V_iret K dX10_gatheredBy_62 rfl T
      · rcases if_inv E with ⟨c4, E⟩ | ⟨c4, E⟩
        · refine V_tin (off := 42) K 43 dX10_gatheredBy_1 (by rw [c4]; decide) (by rw [c4]; decide) (by rw [c4]; rfl) (by decide) ?_
          refine V_iload_n K 1 dX10_gatheredBy_43 rfl ?_
          refine V_bp (v := 20) K dX10_gatheredBy_44 rfl ?_
          rcases if_inv E with ⟨c5, E⟩ | ⟨c5, E⟩
          · refine V_ic_lt_t K 53 dX10_gatheredBy_46 (by decide) c5 ?_
            refine V_iload_n K 1 dX10_gatheredBy_53 rfl ?_
            refine V_ic (v := 2) K dX10_gatheredBy_54 rfl ?_
            refine V_idiv K dX10_gatheredBy_55 (by decide) ?_
            cases E
            exact V_iret K dX10_gatheredBy_56 rfl T
          · refine V_ic_lt_f K 53 dX10_gatheredBy_46 (by decide) c5 ?_
            refine V_iload_n K 1 dX10_gatheredBy_49 rfl ?_
            refine V_goto K 56 dX10_gatheredBy_50 (by decide) ?_
            cases E
            exact V_iret K dX10_gatheredBy_56 rfl T
        · refine V_tout K 57 dX10_gatheredBy_1 (by have n0 := lv_neT c1 (a := 2) (by decide); have n1 := lv_neT c2 (a := 3) (by decide); have n2 := lv_neT c3 (a := 4) (by decide); have n3 := lv_neT c4 (a := 5) (by decide); omega) (by decide) ?_
          refine V_iload_n K 1 dX10_gatheredBy_57 rfl ?_
          refine V_ic (v := 2) K dX10_gatheredBy_58 rfl ?_
          refine iv_X10_132 K (c_X10_lesser _ a2 (2 : Int32) h) dX10_gatheredBy_59 (Nat.le_of_ble_eq_true rfl) ?_
          cases E
          exact V_iret K dX10_gatheredBy_62 rfl T
theorem c_X10_gatheredBy (d : Nat) (a1 : Int32) (a2 : Int32) (h : Hp)  : Runs (d + 1) yX10_gatheredBy cX10_gatheredBy 2 (some .int) (fun f => [.int a1, .int a2]) h (fun _ => some (.int (X10_gatheredBy a1 a2))) h :=
  Runs.of (by decide +kernel) (fun _ => Nat.le_of_ble_eq_true rfl) (fun x K T => w_X10_gatheredBy K  a1 a2 h  rfl T)
def X10_turnIn_s90 (x1 : Int32) (x2 : Int32) (x3 : Int32) (x4 : Int32) (y5 : Int32) (y6 : Int32) (y7 : Int32) (h : Hp) : Option ((Int32 × Int32 × Int32 × Hp) ⊕ (Int32 × Int32 × Int32 × Hp)) :=
  if (h.1 51 2) ≤ y7 then (some (.inl (y5, y6, y7, h)))
  else (ob (if y7 = x3 then (some x4)
  else (gd (ib y7 6) (
  some (h.1 53 (ix y7))))) fun v16 =>
  gd (ib (x1 + y7) 2805) (
  gd (ib (x1 + (13 : Int32)) 2805) (
  ob (if (h.1 52 (ix (x1 + y7))) = (h.1 52 (ix (x1 + (13 : Int32)))) then (if (X10_has x2 y7) = (0 : Int32) then (some (X10_gatheredBy v16 y5))
  else (some (0 : Int32)))
  else (some (0 : Int32))) fun v21 =>
  ob3 (if v21 ≤ (0 : Int32) then (some (y5, y6, h))
  else (lt_ (y6 ||| ((1 : Int32) <<< (y7 &&& 31))) fun v28 =>
  gd (ib ((x1 + (6 : Int32)) + y7) 2805) (
  lt_ (up h 52 (ix ((x1 + (6 : Int32)) + y7)) (X10_lesser (30 : Int32) ((h.1 52 (ix ((x1 + (6 : Int32)) + y7))) + v21))) fun h31 =>
  lt_ (y5 - v21) fun v33 =>
  if v16 = (4 : Int32) then (lt_ (X10_lesser (60 : Int32) (v33 + (3 : Int32))) fun v36 =>
  some (v36, v28, h31))
  else (some (v33, v28, h31))))) fun v24 v25 h26 =>
  ob (if v16 = (1 : Int32) then (some (1 : Int32))
  else (if v16 = (4 : Int32) then (some (1 : Int32))
  else (gd (ib (x1 + (15 : Int32)) 2805) (
  if (h26.1 52 (ix (x1 + (15 : Int32)))) = (0 : Int32) then (some (1 : Int32))
  else (some (0 : Int32)))))) fun v38 =>
  ob (if v38 = (0 : Int32) then (gd (ib ((x1 + (6 : Int32)) + y7) 2805) (
  some ((h26.1 52 (ix ((x1 + (6 : Int32)) + y7))) / (2 : Int32))))
  else (gd (ib ((x1 + (6 : Int32)) + y7) 2805) (
  some (h26.1 52 (ix ((x1 + (6 : Int32)) + y7)))))) fun v43 =>
  gd (ib ((x1 + (6 : Int32)) + y7) 2805) (
  lt_ (up h26 52 (ix ((x1 + (6 : Int32)) + y7)) v43) fun h48 =>
  lt_ (y7 + (1 : Int32)) fun v50 =>
  some (.inr (v24, v25, v50, h48))))))
set_option maxHeartbeats 4000000 in
set_option maxRecDepth 100000 in
theorem wl_X10_turnIn_s90 {x : Cx} {d : Nat} (K : Ok x cX10_turnIn RX10 11 (some .int) (d + 2)) (x1 : Int32) (x2 : Int32) (x3 : Int32) (x4 : Int32)  : ∀ (n : Nat) (s : Int32 × Int32 × Int32 × Hp) (r : (Int32 × Int32 × Int32 × Hp)), lp (fun s : Int32 × Int32 × Int32 × Hp => X10_turnIn_s90 x1 x2 x3 x4 s.1 s.2.1 s.2.2.1 s.2.2.2) n s = some r → (fun r : (Int32 × Int32 × Int32 × Hp) => VV x 320 [(0, .ref (ad x 51)), (1, .int x1), (2, .int x2), (3, .int x3), (4, .int x4), (5, .int (r.1)), (6, .int (r.2.1)), (7, .int (r.2.2.1))] [] r.2.2.2) r → (fun s : Int32 × Int32 × Int32 × Hp => VV x 90 [(0, .ref (ad x 51)), (1, .int x1), (2, .int x2), (3, .int x3), (4, .int x4), (5, .int (s.1)), (6, .int (s.2.1)), (7, .int (s.2.2.1))] [] s.2.2.2) s := by
  refine lp_walk ?_
  intro s z E T
  obtain ⟨y5, y6, y7, h⟩ := s
  replace E : X10_turnIn_s90 x1 x2 x3 x4 y5 y6 y7 h = some z := E
  unfold X10_turnIn_s90 at E
  show VV x 90 [(0, .ref (ad x 51)), (1, .int x1), (2, .int x2), (3, .int x3), (4, .int x4), (5, .int y5), (6, .int y6), (7, .int y7)] [] h
  refine V_iload K 7 dX10_turnIn_90 rfl ?_
  refine V_aload_n K 0 dX10_turnIn_92 rfl ?_
  refine gf_X10_120 K dX10_turnIn_93 ?_
  rcases if_inv E with ⟨c15, E⟩ | ⟨c15, E⟩
  · refine V_ic_ge_t K 320 dX10_turnIn_96 (by decide) c15 ?_
    cases E
    exact V_sub [0, 1, 2, 3, 4, 5, 6, 7] rfl T
  · refine V_ic_ge_f K 320 dX10_turnIn_96 (by decide) c15 ?_
    refine V_iload K 7 dX10_turnIn_99 rfl ?_
    refine V_iload_n K 3 dX10_turnIn_101 rfl ?_
    obtain ⟨v16, q56, E⟩ := ob_inv E
    have T9 : VV x 117 [(0, .ref (ad x 51)), (1, .int x1), (2, .int x2), (3, .int x3), (4, .int x4), (5, .int y5), (6, .int y6), (7, .int y7)] [.int v16] h := by
      refine V_istore (lv' := [(8, .int v16), (0, .ref (ad x 51)), (1, .int x1), (2, .int x2), (3, .int x3), (4, .int x4), (5, .int y5), (6, .int y6), (7, .int y7)]) K dX10_turnIn_117 (by decide) rfl ?_
      refine V_aload_n K 1 dX10_turnIn_119 rfl ?_
      refine gf_X10_7 K dX10_turnIn_120 ?_
      refine V_iload_n K 2 dX10_turnIn_123 rfl ?_
      refine V_iload K 8 dX10_turnIn_124 rfl ?_
      refine V_iadd K dX10_turnIn_126 ?_
      obtain ⟨g19, E⟩ := gd_inv E
      refine V_iald K k_52 n_52 g19 dX10_turnIn_127 ?_
      refine V_aload_n K 1 dX10_turnIn_128 rfl ?_
      refine gf_X10_7 K dX10_turnIn_129 ?_
      refine V_iload_n K 2 dX10_turnIn_132 rfl ?_
      refine V_bp (v := 13) K dX10_turnIn_133 rfl ?_
      refine V_iadd K dX10_turnIn_135 ?_
      obtain ⟨g20, E⟩ := gd_inv E
      refine V_iald K k_52 n_52 g20 dX10_turnIn_136 ?_
      obtain ⟨v21, q55, E⟩ := ob_inv E
      have T9 : VV x 160 [(0, .ref (ad x 51)), (1, .int x1), (2, .int x2), (3, .int x3), (4, .int x4), (5, .int y5), (6, .int y6), (7, .int y7), (8, .int v16)] [.int v21] h := by
        refine V_istore (lv' := [(9, .int v21), (0, .ref (ad x 51)), (1, .int x1), (2, .int x2), (3, .int x3), (4, .int x4), (5, .int y5), (6, .int y6), (7, .int y7), (8, .int v16)]) K dX10_turnIn_160 (by decide) rfl ?_
        refine V_iload K 0 dX10_turnIn_162 rfl ?_
        obtain ⟨v24, v25, h26, q54, E⟩ := ob3_inv E
        have T9 : VV x 237 [(0, .ref (ad x 51)), (1, .int x1), (2, .int x2), (3, .int x3), (4, .int x4), (5, .int v24), (6, .int v25), (7, .int y7), (8, .int v16)] [] h26 := by
          refine V_iload K 8 dX10_turnIn_237 rfl ?_
          refine V_ic (v := 1) K dX10_turnIn_239 rfl ?_
          obtain ⟨v38, q53, E⟩ := ob_inv E
          have T9 : VV x 266 [(0, .ref (ad x 51)), (1, .int x1), (2, .int x2), (3, .int x3), (4, .int x4), (5, .int v24), (6, .int v25), (7, .int y7)] [.int v38] h26 := by
            refine V_istore (lv' := [(10, .int v38), (0, .ref (ad x 51)), (1, .int x1), (2, .int x2), (3, .int x3), (4, .int x4), (5, .int v24), (6, .int v25), (7, .int y7)]) K dX10_turnIn_266 (by decide) rfl ?_
            refine V_aload_n K 1 dX10_turnIn_268 rfl ?_
            refine gf_X10_7 K dX10_turnIn_269 ?_
            refine V_iload_n K 2 dX10_turnIn_272 rfl ?_
            refine V_bp (v := 6) K dX10_turnIn_273 rfl ?_
            refine V_iadd K dX10_turnIn_275 ?_
            refine V_iload K 8 dX10_turnIn_276 rfl ?_
            refine V_iadd K dX10_turnIn_278 ?_
            refine V_iload K 0 dX10_turnIn_279 rfl ?_
            obtain ⟨v43, q52, E⟩ := ob_inv E
            have T9 : VV x 313 [(0, .ref (ad x 51)), (1, .int x1), (2, .int x2), (3, .int x3), (4, .int x4), (5, .int v24), (6, .int v25), (7, .int y7)] [.int v43, .int ((x1 + (6 : Int32)) + y7), .ref (ad x 52)] h26 := by
              obtain ⟨g47, E⟩ := gd_inv E
              obtain ⟨h48, e49, E⟩ := lt_inv E
              refine V_iast K k_52 n_52 g47 dX10_turnIn_313 ?_
              refine V_hp e49 ?_
              obtain ⟨v50, e51, E⟩ := lt_inv E
              refine V_iinc (lv' := [(7, .int v50), (0, .ref (ad x 51)), (1, .int x1), (2, .int x2), (3, .int x3), (4, .int x4), (5, .int v24), (6, .int v25)]) K 7 dX10_turnIn_314 rfl (by rw [e51]; rfl) (by decide) rfl ?_
              refine V_goto K 90 dX10_turnIn_317 (by decide) ?_
              cases E
              exact V_sub [1, 2, 3, 4, 5, 6, 7, 0] rfl T
            have E := q52
            have T := T9
            rcases if_inv E with ⟨c44, E⟩ | ⟨c44, E⟩
            · refine V_if_eq_t K 299 dX10_turnIn_281 (by decide) c44 ?_
              refine V_aload_n K 1 dX10_turnIn_299 rfl ?_
              refine gf_X10_7 K dX10_turnIn_300 ?_
              refine V_iload_n K 2 dX10_turnIn_303 rfl ?_
              refine V_bp (v := 6) K dX10_turnIn_304 rfl ?_
              refine V_iadd K dX10_turnIn_306 ?_
              refine V_iload K 8 dX10_turnIn_307 rfl ?_
              refine V_iadd K dX10_turnIn_309 ?_
              obtain ⟨g45, E⟩ := gd_inv E
              refine V_iald K k_52 n_52 g45 dX10_turnIn_310 ?_
              refine V_ic (v := 2) K dX10_turnIn_311 rfl ?_
              refine V_idiv K dX10_turnIn_312 (by decide) ?_
              cases E
              exact V_sub [1, 2, 3, 4, 5, 6, 7, 8] rfl T
            · refine V_if_eq_f K 299 dX10_turnIn_281 (by decide) c44 ?_
              refine V_aload_n K 1 dX10_turnIn_284 rfl ?_
              refine gf_X10_7 K dX10_turnIn_285 ?_
              refine V_iload_n K 2 dX10_turnIn_288 rfl ?_
              refine V_bp (v := 6) K dX10_turnIn_289 rfl ?_
              refine V_iadd K dX10_turnIn_291 ?_
              refine V_iload K 8 dX10_turnIn_292 rfl ?_
              refine V_iadd K dX10_turnIn_294 ?_
              obtain ⟨g46, E⟩ := gd_inv E
              refine V_iald K k_52 n_52 g46 dX10_turnIn_295 ?_
              refine V_goto K 313 dX10_turnIn_296 (by decide) ?_
              cases E
              exact V_sub [1, 2, 3, 4, 5, 6, 7, 8] rfl T
          have E := q53
          have T := T9
          rcases if_inv E with ⟨c39, E⟩ | ⟨c39, E⟩
          · refine V_ic_eq_t K 261 dX10_turnIn_240 (by decide) c39 ?_
            refine V_ic (v := 1) K dX10_turnIn_261 rfl ?_
            refine V_goto K 266 dX10_turnIn_262 (by decide) ?_
            cases E
            exact V_sub [0, 1, 2, 3, 4, 5, 6, 7] rfl T
          · refine V_ic_eq_f K 261 dX10_turnIn_240 (by decide) c39 ?_
            refine V_iload K 8 dX10_turnIn_243 rfl ?_
            refine V_ic (v := 4) K dX10_turnIn_245 rfl ?_
            rcases if_inv E with ⟨c40, E⟩ | ⟨c40, E⟩
            · refine V_ic_eq_t K 261 dX10_turnIn_246 (by decide) c40 ?_
              refine V_ic (v := 1) K dX10_turnIn_261 rfl ?_
              refine V_goto K 266 dX10_turnIn_262 (by decide) ?_
              cases E
              exact V_sub [0, 1, 2, 3, 4, 5, 6, 7] rfl T
            · refine V_ic_eq_f K 261 dX10_turnIn_246 (by decide) c40 ?_
              refine V_aload_n K 0 dX10_turnIn_249 rfl ?_
              refine gf_X10_7 K dX10_turnIn_250 ?_
              refine V_iload_n K 1 dX10_turnIn_253 rfl ?_
              refine V_bp (v := 15) K dX10_turnIn_254 rfl ?_
              refine V_iadd K dX10_turnIn_256 ?_
              obtain ⟨g41, E⟩ := gd_inv E
              refine V_iald K k_52 n_52 g41 dX10_turnIn_257 ?_
              rcases if_inv E with ⟨c42, E⟩ | ⟨c42, E⟩
              · refine V_if_ne_f K 265 dX10_turnIn_258 (by decide) c42 ?_
                refine V_ic (v := 1) K dX10_turnIn_261 rfl ?_
                refine V_goto K 266 dX10_turnIn_262 (by decide) ?_
                cases E
                exact V_sub [0, 1, 2, 3, 4, 5, 6, 7] rfl T
              · refine V_if_ne_t K 265 dX10_turnIn_258 (by decide) c42 ?_
                refine V_ic (v := 0) K dX10_turnIn_265 rfl ?_
                cases E
                exact V_sub [0, 1, 2, 3, 4, 5, 6, 7] rfl T
        have E := q54
        have T := T9
        rcases if_inv E with ⟨c27, E⟩ | ⟨c27, E⟩
        · refine V_if_le_t K 237 dX10_turnIn_164 (by decide) c27 ?_
          cases E
          exact V_sub [1, 2, 3, 4, 5, 6, 7, 8, 9] rfl T
        · refine V_if_le_f K 237 dX10_turnIn_164 (by decide) c27 ?_
          refine V_iload K 7 dX10_turnIn_167 rfl ?_
          refine V_ic (v := 1) K dX10_turnIn_169 rfl ?_
          refine V_iload K 8 dX10_turnIn_170 rfl ?_
          refine V_ishl K dX10_turnIn_172 ?_
          refine V_ior K dX10_turnIn_173 ?_
          obtain ⟨v28, e29, E⟩ := lt_inv E
          refine V_top e29 ?_
          refine V_istore (lv' := [(6, .int v28), (9, .int v21), (0, .ref (ad x 51)), (1, .int x1), (2, .int x2), (3, .int x3), (4, .int x4), (5, .int y5), (7, .int y7), (8, .int v16)]) K dX10_turnIn_174 (by decide) rfl ?_
          refine V_aload_n K 2 dX10_turnIn_176 rfl ?_
          refine gf_X10_7 K dX10_turnIn_177 ?_
          refine V_iload_n K 3 dX10_turnIn_180 rfl ?_
          refine V_bp (v := 6) K dX10_turnIn_181 rfl ?_
          refine V_iadd K dX10_turnIn_183 ?_
          refine V_iload K 8 dX10_turnIn_184 rfl ?_
          refine V_iadd K dX10_turnIn_186 ?_
          refine V_bp (v := 30) K dX10_turnIn_187 rfl ?_
          refine V_aload_n K 2 dX10_turnIn_189 rfl ?_
          refine gf_X10_7 K dX10_turnIn_190 ?_
          refine V_iload_n K 3 dX10_turnIn_193 rfl ?_
          refine V_bp (v := 6) K dX10_turnIn_194 rfl ?_
          refine V_iadd K dX10_turnIn_196 ?_
          refine V_iload K 8 dX10_turnIn_197 rfl ?_
          refine V_iadd K dX10_turnIn_199 ?_
          obtain ⟨g30, E⟩ := gd_inv E
          refine V_iald K k_52 n_52 g30 dX10_turnIn_200 ?_
          refine V_iload K 1 dX10_turnIn_201 rfl ?_
          refine V_iadd K dX10_turnIn_203 ?_
          refine iv_X10_132 K (c_X10_lesser _ (30 : Int32) ((h.1 52 (ix ((x1 + (6 : Int32)) + y7))) + v21) h) dX10_turnIn_204 (Nat.le_of_ble_eq_true rfl) ?_
          obtain ⟨h31, e32, E⟩ := lt_inv E
          refine V_iast K k_52 n_52 g30 dX10_turnIn_207 ?_
          refine V_hp e32 ?_
          refine V_iload K 7 dX10_turnIn_208 rfl ?_
          refine V_iload K 1 dX10_turnIn_210 rfl ?_
          refine V_isub K dX10_turnIn_212 ?_
          obtain ⟨v33, e34, E⟩ := lt_inv E
          refine V_top e34 ?_
          refine V_istore (lv' := [(5, .int v33), (6, .int v28), (9, .int v21), (0, .ref (ad x 51)), (1, .int x1), (2, .int x2), (3, .int x3), (4, .int x4), (7, .int y7), (8, .int v16)]) K dX10_turnIn_213 (by decide) rfl ?_
          refine V_iload K 9 dX10_turnIn_215 rfl ?_
          refine V_ic (v := 4) K dX10_turnIn_217 rfl ?_
          rcases if_inv E with ⟨c35, E⟩ | ⟨c35, E⟩
          · refine V_ic_ne_f K 233 dX10_turnIn_218 (by decide) c35 ?_
            refine V_bp (v := 60) K dX10_turnIn_221 rfl ?_
            refine V_iload K 0 dX10_turnIn_223 rfl ?_
            refine V_ic (v := 3) K dX10_turnIn_225 rfl ?_
            refine V_iadd K dX10_turnIn_226 ?_
            refine iv_X10_132 K (c_X10_lesser _ (60 : Int32) (v33 + (3 : Int32)) h31) dX10_turnIn_227 (Nat.le_of_ble_eq_true rfl) ?_
            refine V_goto K 235 dX10_turnIn_230 (by decide) ?_
            obtain ⟨v36, e37, E⟩ := lt_inv E
            refine V_top e37 ?_
            refine V_istore (lv' := [(5, .int v36), (6, .int v28), (9, .int v21), (0, .ref (ad x 51)), (1, .int x1), (2, .int x2), (3, .int x3), (4, .int x4), (7, .int y7), (8, .int v16)]) K dX10_turnIn_235 (by decide) rfl ?_
            cases E
            exact V_sub [3, 4, 5, 6, 7, 0, 1, 8, 9] rfl T
          · refine V_ic_ne_t K 233 dX10_turnIn_218 (by decide) c35 ?_
            refine V_iload K 0 dX10_turnIn_233 rfl ?_
            refine V_istore (lv' := [(5, .int v33), (6, .int v28), (9, .int v21), (0, .ref (ad x 51)), (1, .int x1), (2, .int x2), (3, .int x3), (4, .int x4), (7, .int y7), (8, .int v16)]) K dX10_turnIn_235 (by decide) rfl ?_
            cases E
            exact V_sub [3, 4, 5, 6, 7, 0, 1, 8, 9] rfl T
      have E := q55
      have T := T9
      rcases if_inv E with ⟨c22, E⟩ | ⟨c22, E⟩
      · refine V_ic_ne_f K 159 dX10_turnIn_137 (by decide) c22 ?_
        refine V_iload_n K 3 dX10_turnIn_140 rfl ?_
        refine V_iload K 8 dX10_turnIn_141 rfl ?_
        refine iv_X10_135 K (c_X10_has _ x2 y7 h) dX10_turnIn_143 (Nat.le_of_ble_eq_true rfl) ?_
        rcases if_inv E with ⟨c23, E⟩ | ⟨c23, E⟩
        · refine V_if_ne_f K 159 dX10_turnIn_146 (by decide) c23 ?_
          refine V_iload K 0 dX10_turnIn_149 rfl ?_
          refine V_iload K 6 dX10_turnIn_151 rfl ?_
          refine iv_X10_138 K (c_X10_gatheredBy _ v16 y5 h) dX10_turnIn_153 (Nat.le_of_ble_eq_true rfl) ?_
          refine V_goto K 160 dX10_turnIn_156 (by decide) ?_
          cases E
          exact V_sub [1, 2, 3, 4, 5, 6, 7, 8, 0] rfl T
        · refine V_if_ne_t K 159 dX10_turnIn_146 (by decide) c23 ?_
          refine V_ic (v := 0) K dX10_turnIn_159 rfl ?_
          cases E
          exact V_sub [1, 2, 3, 4, 5, 6, 7, 8, 0] rfl T
      · refine V_ic_ne_t K 159 dX10_turnIn_137 (by decide) c22 ?_
        refine V_ic (v := 0) K dX10_turnIn_159 rfl ?_
        cases E
        exact V_sub [1, 2, 3, 4, 5, 6, 7, 8, 0] rfl T
    have E := q56
    have T := T9
    rcases if_inv E with ⟨c17, E⟩ | ⟨c17, E⟩
    · refine V_ic_ne_f K 110 dX10_turnIn_102 (by decide) c17 ?_
      refine V_iload K 4 dX10_turnIn_105 rfl ?_
      refine V_goto K 117 dX10_turnIn_107 (by decide) ?_
      cases E
      exact V_sub [0, 1, 2, 3, 4, 5, 6, 7] rfl T
    · refine V_ic_ne_t K 110 dX10_turnIn_102 (by decide) c17 ?_
      refine V_aload_n K 0 dX10_turnIn_110 rfl ?_
      refine gf_X10_13 K dX10_turnIn_111 ?_
      refine V_iload K 7 dX10_turnIn_114 rfl ?_
      obtain ⟨g18, E⟩ := gd_inv E
      refine V_iald K k_53 n_53 g18 dX10_turnIn_116 ?_
      cases E
      exact V_sub [0, 1, 2, 3, 4, 5, 6, 7] rfl T
def X10_turnIn (a1 : Int32) (a2 : Int32) (a3 : Int32) (a4 : Int32) (h : Hp) : Option (Int32 × Hp) :=
  gd (ib (a1 + (12 : Int32)) 2805) (
  lt_ (h.1 52 (ix (a1 + (12 : Int32)))) fun v2 =>
  ob2 (if v2 ≤ (0 : Int32) then (some (v2, h))
  else (gd (ib (a1 + (15 : Int32)) 2805) (
  ob (if (h.1 52 (ix (a1 + (15 : Int32)))) = (1 : Int32) then (some (v2 / (2 : Int32)))
  else (some (X10_lesser (60 : Int32) (v2 + (h.1 51 4))))) fun v8 =>
  gd (ib (a1 + (13 : Int32)) 2805) (
  gd (ib (a1 + (14 : Int32)) 2805) (
  lt_ (up h 52 (ix (a1 + (13 : Int32))) (irm (((h.1 52 (ix (a1 + (13 : Int32)))) + (h.1 52 (ix (a1 + (14 : Int32))))) + (9 : Int32)) (10 : Int32))) fun h12 =>
  some (v8, h12)))))) fun v4 h5 =>
  ob4 (lp (fun s : Int32 × Int32 × Int32 × Hp => X10_turnIn_s90 a1 a2 a3 a4 s.1 s.2.1 s.2.2.1 s.2.2.2) FU (v4, (0 : Int32), (0 : Int32), h5)) fun v57 v58 v59 h60 =>
  lt_ (up h60 52 (ix (a1 + (12 : Int32))) v57) fun h61 =>
  ob (if v57 = (0 : Int32) then (some (h61.1 51 3))
  else (gd (ib (a1 + (13 : Int32)) 2805) (
  some (h61.1 52 (ix (a1 + (13 : Int32))))))) fun v63 =>
  gd (ib (a1 + (13 : Int32)) 2805) (
  lt_ (up h61 52 (ix (a1 + (13 : Int32))) v63) fun h67 =>
  gd (ib (a1 + (16 : Int32)) 2805) (
  lt_ (up h67 52 (ix (a1 + (16 : Int32))) ((h67.1 52 (ix (a1 + (16 : Int32)))) + (1 : Int32))) fun h70 =>
  some (v58, h70))))
set_option maxHeartbeats 4000000 in
set_option maxRecDepth 100000 in
theorem w_X10_turnIn {x : Cx} {d : Nat} (K : Ok x cX10_turnIn RX10 11 (some .int) (d + 2)) (a1 : Int32) (a2 : Int32) (a3 : Int32) (a4 : Int32) (h : Hp)  {z : Int32 × Hp} (E : X10_turnIn a1 a2 a3 a4 h = some z) (T : x.2.2.2.2 = (some (.int (z.1)), z.2)) : VV x 0 [(0, .ref (ad x 51)), (1, .int a1), (2, .int a2), (3, .int a3), (4, .int a4)] [] h := by
  unfold X10_turnIn at E
  refine V_aload_n K 0 dX10_turnIn_0 rfl ?_
  refine gf_X10_7 K dX10_turnIn_1 ?_
  refine V_iload_n K 1 dX10_turnIn_4 rfl ?_
  refine V_bp (v := 12) K dX10_turnIn_5 rfl ?_
  refine V_iadd K dX10_turnIn_7 ?_
  obtain ⟨g1, E⟩ := gd_inv E
  refine V_iald K k_52 n_52 g1 dX10_turnIn_8 ?_
  obtain ⟨v2, e3, E⟩ := lt_inv E
  refine V_top e3 ?_
  refine V_istore (lv' := [(5, .int v2), (0, .ref (ad x 51)), (1, .int a1), (2, .int a2), (3, .int a3), (4, .int a4)]) K dX10_turnIn_9 (by decide) rfl ?_
  refine V_iload K 0 dX10_turnIn_11 rfl ?_
  obtain ⟨v4, h5, q74, E⟩ := ob2_inv E
  have T9 : VV x 84 [(0, .ref (ad x 51)), (1, .int a1), (2, .int a2), (3, .int a3), (4, .int a4), (5, .int v4)] [] h5 := by
    refine V_ic (v := 0) K dX10_turnIn_84 rfl ?_
    refine V_istore (lv' := [(6, .int (0 : Int32)), (0, .ref (ad x 51)), (1, .int a1), (2, .int a2), (3, .int a3), (4, .int a4), (5, .int v4)]) K dX10_turnIn_85 (by decide) rfl ?_
    refine V_ic (v := 0) K dX10_turnIn_87 rfl ?_
    refine V_istore (lv' := [(7, .int (0 : Int32)), (6, .int (0 : Int32)), (0, .ref (ad x 51)), (1, .int a1), (2, .int a2), (3, .int a3), (4, .int a4), (5, .int v4)]) K dX10_turnIn_88 (by decide) rfl ?_
    obtain ⟨v57, v58, v59, h60, q73, E⟩ := ob4_inv E
    refine V_sub [2, 3, 4, 5, 6, 7, 1, 0] rfl (wl_X10_turnIn_s90 K a1 a2 a3 a4  _ _ _ q73 ?_)
    show VV x 320 [(0, .ref (ad x 51)), (1, .int a1), (2, .int a2), (3, .int a3), (4, .int a4), (5, .int v57), (6, .int v58), (7, .int v59)] [] h60
    refine V_aload_n K 0 dX10_turnIn_320 rfl ?_
    refine gf_X10_7 K dX10_turnIn_321 ?_
    refine V_iload_n K 1 dX10_turnIn_324 rfl ?_
    refine V_bp (v := 12) K dX10_turnIn_325 rfl ?_
    refine V_iadd K dX10_turnIn_327 ?_
    refine V_iload K 5 dX10_turnIn_328 rfl ?_
    obtain ⟨h61, e62, E⟩ := lt_inv E
    refine V_iast K k_52 n_52 g1 dX10_turnIn_330 ?_
    refine V_hp e62 ?_
    refine V_aload_n K 0 dX10_turnIn_331 rfl ?_
    refine gf_X10_7 K dX10_turnIn_332 ?_
    refine V_iload_n K 1 dX10_turnIn_335 rfl ?_
    refine V_bp (v := 13) K dX10_turnIn_336 rfl ?_
    refine V_iadd K dX10_turnIn_338 ?_
    refine V_iload K 5 dX10_turnIn_339 rfl ?_
    obtain ⟨v63, q72, E⟩ := ob_inv E
    have T9 : VV x 360 [(0, .ref (ad x 51)), (1, .int a1), (6, .int v58)] [.int v63, .int (a1 + (13 : Int32)), .ref (ad x 52)] h61 := by
      obtain ⟨g66, E⟩ := gd_inv E
      obtain ⟨h67, e68, E⟩ := lt_inv E
      refine V_iast K k_52 n_52 g66 dX10_turnIn_360 ?_
      refine V_hp e68 ?_
      refine V_aload_n K 0 dX10_turnIn_361 rfl ?_
      refine gf_X10_7 K dX10_turnIn_362 ?_
      refine V_iload_n K 1 dX10_turnIn_365 rfl ?_
      refine V_bp (v := 16) K dX10_turnIn_366 rfl ?_
      refine V_iadd K dX10_turnIn_368 ?_
      refine V_dup2 K dX10_turnIn_369 rfl rfl ?_
      obtain ⟨g69, E⟩ := gd_inv E
      refine V_iald K k_52 n_52 g69 dX10_turnIn_370 ?_
      refine V_ic (v := 1) K dX10_turnIn_371 rfl ?_
      refine V_iadd K dX10_turnIn_372 ?_
      obtain ⟨h70, e71, E⟩ := lt_inv E
      refine V_iast K k_52 n_52 g69 dX10_turnIn_373 ?_
      refine V_hp e71 ?_
      refine V_iload K 2 dX10_turnIn_374 rfl ?_
      cases E
      exact V_iret K dX10_turnIn_376 rfl T
    have E := q72
    have T := T9
    rcases if_inv E with ⟨c64, E⟩ | ⟨c64, E⟩
    · refine V_if_ne_f K 351 dX10_turnIn_341 (by decide) c64 ?_
      refine V_aload_n K 0 dX10_turnIn_344 rfl ?_
      refine gf_X10_123 K dX10_turnIn_345 ?_
      refine V_goto K 360 dX10_turnIn_348 (by decide) ?_
      cases E
      exact V_sub [0, 1, 6] rfl T
    · refine V_if_ne_t K 351 dX10_turnIn_341 (by decide) c64 ?_
      refine V_aload_n K 0 dX10_turnIn_351 rfl ?_
      refine gf_X10_7 K dX10_turnIn_352 ?_
      refine V_iload_n K 1 dX10_turnIn_355 rfl ?_
      refine V_bp (v := 13) K dX10_turnIn_356 rfl ?_
      refine V_iadd K dX10_turnIn_358 ?_
      obtain ⟨g65, E⟩ := gd_inv E
      refine V_iald K k_52 n_52 g65 dX10_turnIn_359 ?_
      cases E
      exact V_sub [0, 1, 6] rfl T
  have E := q74
  have T := T9
  rcases if_inv E with ⟨c6, E⟩ | ⟨c6, E⟩
  · refine V_if_le_t K 84 dX10_turnIn_13 (by decide) c6 ?_
    cases E
    exact V_sub [1, 2, 3, 4, 5, 0] rfl T
  · refine V_if_le_f K 84 dX10_turnIn_13 (by decide) c6 ?_
    refine V_aload_n K 1 dX10_turnIn_16 rfl ?_
    refine gf_X10_7 K dX10_turnIn_17 ?_
    refine V_iload_n K 2 dX10_turnIn_20 rfl ?_
    refine V_bp (v := 15) K dX10_turnIn_21 rfl ?_
    refine V_iadd K dX10_turnIn_23 ?_
    obtain ⟨g7, E⟩ := gd_inv E
    refine V_iald K k_52 n_52 g7 dX10_turnIn_24 ?_
    refine V_ic (v := 1) K dX10_turnIn_25 rfl ?_
    obtain ⟨v8, q14, E⟩ := ob_inv E
    have T9 : VV x 48 [(0, .ref (ad x 51)), (1, .int a1), (2, .int a2), (3, .int a3), (4, .int a4)] [.int v8] h := by
      refine V_istore (lv' := [(5, .int v8), (0, .ref (ad x 51)), (1, .int a1), (2, .int a2), (3, .int a3), (4, .int a4)]) K dX10_turnIn_48 (by decide) rfl ?_
      refine V_aload_n K 1 dX10_turnIn_50 rfl ?_
      refine gf_X10_7 K dX10_turnIn_51 ?_
      refine V_iload_n K 2 dX10_turnIn_54 rfl ?_
      refine V_bp (v := 13) K dX10_turnIn_55 rfl ?_
      refine V_iadd K dX10_turnIn_57 ?_
      refine V_aload_n K 1 dX10_turnIn_58 rfl ?_
      refine gf_X10_7 K dX10_turnIn_59 ?_
      refine V_iload_n K 2 dX10_turnIn_62 rfl ?_
      refine V_bp (v := 13) K dX10_turnIn_63 rfl ?_
      refine V_iadd K dX10_turnIn_65 ?_
      obtain ⟨g10, E⟩ := gd_inv E
      refine V_iald K k_52 n_52 g10 dX10_turnIn_66 ?_
      refine V_aload_n K 1 dX10_turnIn_67 rfl ?_
      refine gf_X10_7 K dX10_turnIn_68 ?_
      refine V_iload_n K 2 dX10_turnIn_71 rfl ?_
      refine V_bp (v := 14) K dX10_turnIn_72 rfl ?_
      refine V_iadd K dX10_turnIn_74 ?_
      obtain ⟨g11, E⟩ := gd_inv E
      refine V_iald K k_52 n_52 g11 dX10_turnIn_75 ?_
      refine V_iadd K dX10_turnIn_76 ?_
      refine V_bp (v := 9) K dX10_turnIn_77 rfl ?_
      refine V_iadd K dX10_turnIn_79 ?_
      refine V_bp (v := 10) K dX10_turnIn_80 rfl ?_
      refine V_irem K dX10_turnIn_82 (by decide) ?_
      obtain ⟨h12, e13, E⟩ := lt_inv E
      refine V_iast K k_52 n_52 g10 dX10_turnIn_83 ?_
      refine V_hp e13 ?_
      cases E
      exact V_sub [1, 2, 3, 4, 5, 0] rfl T
    have E := q14
    have T := T9
    rcases if_inv E with ⟨c9, E⟩ | ⟨c9, E⟩
    · refine V_ic_ne_f K 36 dX10_turnIn_26 (by decide) c9 ?_
      refine V_iload K 0 dX10_turnIn_29 rfl ?_
      refine V_ic (v := 2) K dX10_turnIn_31 rfl ?_
      refine V_idiv K dX10_turnIn_32 (by decide) ?_
      refine V_goto K 48 dX10_turnIn_33 (by decide) ?_
      cases E
      exact V_sub [1, 2, 3, 4, 5] rfl T
    · refine V_ic_ne_t K 36 dX10_turnIn_26 (by decide) c9 ?_
      refine V_bp (v := 60) K dX10_turnIn_36 rfl ?_
      refine V_iload K 0 dX10_turnIn_38 rfl ?_
      refine V_aload_n K 1 dX10_turnIn_40 rfl ?_
      refine gf_X10_126 K dX10_turnIn_41 ?_
      refine V_iadd K dX10_turnIn_44 ?_
      refine iv_X10_132 K (c_X10_lesser _ (60 : Int32) (v2 + (h.1 51 4)) h) dX10_turnIn_45 (Nat.le_of_ble_eq_true rfl) ?_
      cases E
      exact V_sub [1, 2, 3, 4, 5] rfl T
theorem c_X10_turnIn (d : Nat) (a1 : Int32) (a2 : Int32) (a3 : Int32) (a4 : Int32) (h : Hp)  {r : Int32} {h' : Hp} (E : X10_turnIn a1 a2 a3 a4 h = some (r, h')) : Runs (d + 2) yX10_turnIn cX10_turnIn 11 (some .int) (fun f => [.ref (f 51), .int a1, .int a2, .int a3, .int a4]) h (fun _ => some (.int r)) h' :=
  Runs.of (by decide +kernel) (fun _ => Nat.le_of_ble_eq_true rfl) (fun x K T => w_X10_turnIn K  a1 a2 a3 a4 h  E T)
def X10_goOn_s13 (x1 : Int32) (x2 : Int32) (y3 : Int32) (h : Hp) : Option ((Int32 × Hp) ⊕ (Int32 × Hp)) :=
  if x1 ≤ y3 then (some (.inl (y3, h)))
  else (ob2 (X10_turnIn (2788 : Int32) x2 (-9 : Int32) (0 : Int32) h) fun r6 h5 =>
  lt_ (y3 + (1 : Int32)) fun v7 =>
  some (.inr (v7, h5)))
set_option maxHeartbeats 4000000 in
set_option maxRecDepth 100000 in
theorem wl_X10_goOn_s13 {x : Cx} {d : Nat} (K : Ok x cX10_goOn RX10 5 none (d + 3)) (x1 : Int32) (x2 : Int32)  : ∀ (n : Nat) (s : Int32 × Hp) (r : (Int32 × Hp)), lp (fun s : Int32 × Hp => X10_goOn_s13 x1 x2 s.1 s.2) n s = some r → (fun r : (Int32 × Hp) => VV x 37 [(0, .ref (ad x 51)), (1, .int x1), (2, .int x2), (3, .int (r.1))] [] r.2) r → (fun s : Int32 × Hp => VV x 13 [(0, .ref (ad x 51)), (1, .int x1), (2, .int x2), (3, .int (s.1))] [] s.2) s := by
  refine lp_walk ?_
  intro s z E T
  obtain ⟨y3, h⟩ := s
  replace E : X10_goOn_s13 x1 x2 y3 h = some z := E
  unfold X10_goOn_s13 at E
  show VV x 13 [(0, .ref (ad x 51)), (1, .int x1), (2, .int x2), (3, .int y3)] [] h
  refine V_iload_n K 3 dX10_goOn_13 rfl ?_
  refine V_iload_n K 1 dX10_goOn_14 rfl ?_
  rcases if_inv E with ⟨c3, E⟩ | ⟨c3, E⟩
  · refine V_ic_ge_t K 37 dX10_goOn_15 (by decide) c3 ?_
    cases E
    exact V_sub [0, 1, 2, 3] rfl T
  · refine V_ic_ge_f K 37 dX10_goOn_15 (by decide) c3 ?_
    refine V_aload_n K 0 dX10_goOn_18 rfl ?_
    refine V_sp (v := 2788) K dX10_goOn_19 rfl ?_
    refine V_iload_n K 2 dX10_goOn_22 rfl ?_
    refine V_bp (v := -9) K dX10_goOn_23 rfl ?_
    refine V_ic (v := 0) K dX10_goOn_25 rfl ?_
    obtain ⟨r6, h5, q4, E⟩ := ob2_inv E
    refine iv_X10_141 K (c_X10_turnIn _ (2788 : Int32) x2 (-9 : Int32) (0 : Int32) h q4) dX10_goOn_26 (Nat.le_of_ble_eq_true rfl) ?_
    refine V_istore (lv' := [(4, .int r6), (0, .ref (ad x 51)), (1, .int x1), (2, .int x2), (3, .int y3)]) K dX10_goOn_29 (by decide) rfl ?_
    obtain ⟨v7, e8, E⟩ := lt_inv E
    refine V_iinc (lv' := [(3, .int v7), (4, .int r6), (0, .ref (ad x 51)), (1, .int x1), (2, .int x2)]) K 4 dX10_goOn_31 rfl (by rw [e8]; rfl) (by decide) rfl ?_
    refine V_goto K 13 dX10_goOn_34 (by decide) ?_
    cases E
    exact V_sub [2, 3, 4, 0] rfl T
def X10_goOn (a1 : Int32) (a2 : Int32) (h : Hp) : Option Hp :=
  ob (X10_copyRow (X10_now h) (2788 : Int32) h) fun h2 =>
  ob2 (lp (fun s : Int32 × Hp => X10_goOn_s13 a1 a2 s.1 s.2) FU ((0 : Int32), h2)) fun v9 h10 =>
  some h10
set_option maxHeartbeats 4000000 in
set_option maxRecDepth 100000 in
theorem w_X10_goOn {x : Cx} {d : Nat} (K : Ok x cX10_goOn RX10 5 none (d + 3)) (a1 : Int32) (a2 : Int32) (h : Hp)  {z : Hp} (E : X10_goOn a1 a2 h = some z) (T : x.2.2.2.2 = (none, z)) : VV x 0 [(0, .ref (ad x 51)), (1, .int a1), (2, .int a2)] [] h := by
  unfold X10_goOn at E
  refine V_aload_n K 0 dX10_goOn_0 rfl ?_
  refine V_aload_n K 0 dX10_goOn_1 rfl ?_
  refine iv_X10_145 K (c_X10_now _ h) dX10_goOn_2 (Nat.le_of_ble_eq_true rfl) ?_
  refine V_sp (v := 2788) K dX10_goOn_5 rfl ?_
  obtain ⟨h2, q1, E⟩ := ob_inv E
  refine iv_X10_167 K (c_X10_copyRow _ (X10_now h) (2788 : Int32) h q1) dX10_goOn_8 (Nat.le_of_ble_eq_true rfl) ?_
  refine V_ic (v := 0) K dX10_goOn_11 rfl ?_
  refine V_istore_n (lv' := [(3, .int (0 : Int32)), (0, .ref (ad x 51)), (1, .int a1), (2, .int a2)]) K dX10_goOn_12 (by decide) rfl ?_
  obtain ⟨v9, h10, q11, E⟩ := ob2_inv E
  refine V_sub [1, 2, 3, 0] rfl (wl_X10_goOn_s13 K a1 a2  _ _ _ q11 ?_)
  show VV x 37 [(0, .ref (ad x 51)), (1, .int a1), (2, .int a2), (3, .int v9)] [] h10
  cases E
  exact V_vret K dX10_goOn_37 T
theorem c_X10_goOn (d : Nat) (a1 : Int32) (a2 : Int32) (h : Hp)  {h' : Hp} (E : X10_goOn a1 a2 h = some h') : Runs (d + 3) yX10_goOn cX10_goOn 5 none (fun f => [.ref (f 51), .int a1, .int a2]) h (fun _ => none) h' :=
  Runs.of (by decide +kernel) (fun _ => Nat.le_of_ble_eq_true rfl) (fun x K T => w_X10_goOn K  a1 a2 h  E T)
