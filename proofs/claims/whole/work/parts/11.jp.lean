def J6_bitCount_0f7a4 (a1 : Int32) : Int32 :=
  lt_ (a1 - (((a1.toUInt32 >>> ((1 : Int32).toUInt32 &&& Int32.toUInt32 31)).toInt32) &&& (1431655765 : Int32))) fun v1 =>
  lt_ ((v1 &&& (858993459 : Int32)) + (((v1.toUInt32 >>> ((2 : Int32).toUInt32 &&& Int32.toUInt32 31)).toInt32) &&& (858993459 : Int32))) fun v3 =>
  lt_ ((v3 + ((v3.toUInt32 >>> ((4 : Int32).toUInt32 &&& Int32.toUInt32 31)).toInt32)) &&& (252645135 : Int32)) fun v5 =>
  lt_ (v5 + ((v5.toUInt32 >>> ((8 : Int32).toUInt32 &&& Int32.toUInt32 31)).toInt32)) fun v7 =>
  lt_ (v7 + ((v7.toUInt32 >>> ((16 : Int32).toUInt32 &&& Int32.toUInt32 31)).toInt32)) fun v9 =>
  (v9 &&& (63 : Int32))
set_option maxHeartbeats 4000000 in
set_option maxRecDepth 100000 in
theorem w_J6_bitCount_0f7a4 {x : Cx} {d : Nat} (K : Ok x cJ6_bitCount_0f7a4 RJ6 1 (some .int) (d + 0)) (a1 : Int32) (h : Hp)  {z : Int32} (E : J6_bitCount_0f7a4 a1 = z) (T : x.2.2.2.2 = (some (.int z), h)) : VV x 0 [(0, .int a1)] [] h := by
  unfold J6_bitCount_0f7a4 at E
  refine V_iload_n K 0 dJ6_bitCount_0f7a4_0 rfl ?_
  refine V_iload_n K 0 dJ6_bitCount_0f7a4_1 rfl ?_
  refine V_ic (v := 1) K dJ6_bitCount_0f7a4_2 rfl ?_
  refine V_iushr K dJ6_bitCount_0f7a4_3 ?_
  refine V_ldcw (v := 1431655765) K tb_0 dJ6_bitCount_0f7a4_4 ?_
  refine V_iand K dJ6_bitCount_0f7a4_7 ?_
  refine V_isub K dJ6_bitCount_0f7a4_8 ?_
  obtain ⟨v1, e2, E⟩ := lt_inv E
  refine V_top e2 ?_
  refine V_istore_n (lv' := [(0, .int v1)]) K dJ6_bitCount_0f7a4_9 (by decide) rfl ?_
  refine V_iload_n K 0 dJ6_bitCount_0f7a4_10 rfl ?_
  refine V_ldcw (v := 858993459) K tb_1 dJ6_bitCount_0f7a4_11 ?_
  refine V_iand K dJ6_bitCount_0f7a4_14 ?_
  refine V_iload_n K 0 dJ6_bitCount_0f7a4_15 rfl ?_
  refine V_ic (v := 2) K dJ6_bitCount_0f7a4_16 rfl ?_
  refine V_iushr K dJ6_bitCount_0f7a4_17 ?_
  refine V_ldcw (v := 858993459) K tb_1 dJ6_bitCount_0f7a4_18 ?_
  refine V_iand K dJ6_bitCount_0f7a4_21 ?_
  refine V_iadd K dJ6_bitCount_0f7a4_22 ?_
  obtain ⟨v3, e4, E⟩ := lt_inv E
  refine V_top e4 ?_
  refine V_istore_n (lv' := [(0, .int v3)]) K dJ6_bitCount_0f7a4_23 (by decide) rfl ?_
  refine V_iload_n K 0 dJ6_bitCount_0f7a4_24 rfl ?_
  refine V_iload_n K 0 dJ6_bitCount_0f7a4_25 rfl ?_
  refine V_ic (v := 4) K dJ6_bitCount_0f7a4_26 rfl ?_
  refine V_iushr K dJ6_bitCount_0f7a4_27 ?_
  refine V_iadd K dJ6_bitCount_0f7a4_28 ?_
  refine V_ldcw (v := 252645135) K tb_2 dJ6_bitCount_0f7a4_29 ?_
  refine V_iand K dJ6_bitCount_0f7a4_32 ?_
  obtain ⟨v5, e6, E⟩ := lt_inv E
  refine V_top e6 ?_
  refine V_istore_n (lv' := [(0, .int v5)]) K dJ6_bitCount_0f7a4_33 (by decide) rfl ?_
  refine V_iload_n K 0 dJ6_bitCount_0f7a4_34 rfl ?_
  refine V_iload_n K 0 dJ6_bitCount_0f7a4_35 rfl ?_
  refine V_bp (v := 8) K dJ6_bitCount_0f7a4_36 rfl ?_
  refine V_iushr K dJ6_bitCount_0f7a4_38 ?_
  refine V_iadd K dJ6_bitCount_0f7a4_39 ?_
  obtain ⟨v7, e8, E⟩ := lt_inv E
  refine V_top e8 ?_
  refine V_istore_n (lv' := [(0, .int v7)]) K dJ6_bitCount_0f7a4_40 (by decide) rfl ?_
  refine V_iload_n K 0 dJ6_bitCount_0f7a4_41 rfl ?_
  refine V_iload_n K 0 dJ6_bitCount_0f7a4_42 rfl ?_
  refine V_bp (v := 16) K dJ6_bitCount_0f7a4_43 rfl ?_
  refine V_iushr K dJ6_bitCount_0f7a4_45 ?_
  refine V_iadd K dJ6_bitCount_0f7a4_46 ?_
  obtain ⟨v9, e10, E⟩ := lt_inv E
  refine V_top e10 ?_
  refine V_istore_n (lv' := [(0, .int v9)]) K dJ6_bitCount_0f7a4_47 (by decide) rfl ?_
  refine V_iload_n K 0 dJ6_bitCount_0f7a4_48 rfl ?_
  refine V_bp (v := 63) K dJ6_bitCount_0f7a4_49 rfl ?_
  refine V_iand K dJ6_bitCount_0f7a4_51 ?_
  cases E
  exact V_iret K dJ6_bitCount_0f7a4_52 rfl T
theorem c_J6_bitCount_0f7a4 (d : Nat) (a1 : Int32) (h : Hp)  : Runs (d + 0) yJ6_bitCount_0f7a4 cJ6_bitCount_0f7a4 1 (some .int) (fun f => [.int a1]) h (fun _ => some (.int (J6_bitCount_0f7a4 a1))) h :=
  Runs.of (by decide +kernel) (fun _ => Nat.le_of_ble_eq_true rfl) (fun x K T => w_J6_bitCount_0f7a4 K  a1 h  rfl T)
def J7_fill_031fb_s5 (r0 : Nat) (x1 : Int32) (x3 : Int32) (y2 : Int32) (h : Hp) : Option ((Int32 × Hp) ⊕ (Int32 × Hp)) :=
  if x3 ≤ y2 then (some (.inl (y2, h)))
  else (gd (ib y2 (shN r0)) (
  lt_ (up h r0 (ix y2) (x1.toInt8.toInt32)) fun h5 =>
  lt_ (y2 + (1 : Int32)) fun v7 =>
  some (.inr (v7, h5))))
set_option maxHeartbeats 4000000 in
set_option maxRecDepth 100000 in
theorem wl_J7_fill_031fb_s5 {x : Cx} {d : Nat} (K : Ok x cJ7_fill_031fb RJ7 4 none (d + 0)) (r0 : Nat) (x1 : Int32) (x3 : Int32) (hr0 : shK r0 = 11) : ∀ (n : Nat) (s : Int32 × Hp) (r : (Int32 × Hp)), lp (fun s : Int32 × Hp => J7_fill_031fb_s5 r0 x1 x3 s.1 s.2) n s = some r → (fun r : (Int32 × Hp) => VV x 20 [(0, .ref (ad x r0)), (1, .int x1), (2, .int (r.1)), (3, .int x3)] [] r.2) r → (fun s : Int32 × Hp => VV x 5 [(0, .ref (ad x r0)), (1, .int x1), (2, .int (s.1)), (3, .int x3)] [] s.2) s := by
  refine lp_walk ?_
  intro s z E T
  obtain ⟨y2, h⟩ := s
  replace E : J7_fill_031fb_s5 r0 x1 x3 y2 h = some z := E
  unfold J7_fill_031fb_s5 at E
  show VV x 5 [(0, .ref (ad x r0)), (1, .int x1), (2, .int y2), (3, .int x3)] [] h
  refine V_iload_n K 2 dJ7_fill_031fb_5 rfl ?_
  refine V_iload_n K 3 dJ7_fill_031fb_6 rfl ?_
  rcases if_inv E with ⟨c3, E⟩ | ⟨c3, E⟩
  · refine V_ic_ge_t K 20 dJ7_fill_031fb_7 (by decide) c3 ?_
    cases E
    exact V_sub [0, 1, 2, 3] rfl T
  · refine V_ic_ge_f K 20 dJ7_fill_031fb_7 (by decide) c3 ?_
    refine V_aload_n K 0 dJ7_fill_031fb_10 rfl ?_
    refine V_iload_n K 2 dJ7_fill_031fb_11 rfl ?_
    refine V_iload_n K 1 dJ7_fill_031fb_12 rfl ?_
    obtain ⟨g4, E⟩ := gd_inv E
    obtain ⟨h5, e6, E⟩ := lt_inv E
    refine V_bast K hr0 rfl g4 dJ7_fill_031fb_13 ?_
    refine V_hp e6 ?_
    obtain ⟨v7, e8, E⟩ := lt_inv E
    refine V_iinc (lv' := [(2, .int v7), (0, .ref (ad x r0)), (1, .int x1), (3, .int x3)]) K 2 dJ7_fill_031fb_14 rfl (by rw [e8]; rfl) (by decide) rfl ?_
    refine V_goto K 5 dJ7_fill_031fb_17 (by decide) ?_
    cases E
    exact V_sub [1, 2, 0, 3] rfl T
def J7_fill_031fb (a1 : Nat) (a2 : Int32) (h : Hp) : Option Hp :=
  lt_ (Int32.ofNat (shN a1)) fun v1 =>
  ob2 (lp (fun s : Int32 × Hp => J7_fill_031fb_s5 a1 a2 v1 s.1 s.2) FU ((0 : Int32), h)) fun v9 h10 =>
  some h10
set_option maxHeartbeats 4000000 in
set_option maxRecDepth 100000 in
theorem w_J7_fill_031fb {x : Cx} {d : Nat} (K : Ok x cJ7_fill_031fb RJ7 4 none (d + 0)) (a1 : Nat) (a2 : Int32) (h : Hp) (ha1 : shK a1 = 11) {z : Hp} (E : J7_fill_031fb a1 a2 h = some z) (T : x.2.2.2.2 = (none, z)) : VV x 0 [(0, .ref (ad x a1)), (1, .int a2)] [] h := by
  unfold J7_fill_031fb at E
  refine V_ic (v := 0) K dJ7_fill_031fb_0 rfl ?_
  refine V_istore_n (lv' := [(2, .int (0 : Int32)), (0, .ref (ad x a1)), (1, .int a2)]) K dJ7_fill_031fb_1 (by decide) rfl ?_
  refine V_aload_n K 1 dJ7_fill_031fb_2 rfl ?_
  refine V_alen K (Or.inr ha1) dJ7_fill_031fb_3 ?_
  obtain ⟨v1, e2, E⟩ := lt_inv E
  refine V_top e2 ?_
  refine V_istore_n (lv' := [(3, .int v1), (2, .int (0 : Int32)), (0, .ref (ad x a1)), (1, .int a2)]) K dJ7_fill_031fb_4 (by decide) rfl ?_
  obtain ⟨v9, h10, q11, E⟩ := ob2_inv E
  refine V_sub [2, 3, 1, 0] rfl (wl_J7_fill_031fb_s5 K a1 a2 v1 ha1 _ _ _ q11 ?_)
  show VV x 20 [(0, .ref (ad x a1)), (1, .int a2), (2, .int v9), (3, .int v1)] [] h10
  cases E
  exact V_vret K dJ7_fill_031fb_20 T
theorem c_J7_fill_031fb (d : Nat) (a1 : Nat) (a2 : Int32) (h : Hp) (ha1 : shK a1 = 11) {h' : Hp} (E : J7_fill_031fb a1 a2 h = some h') : Runs (d + 0) yJ7_fill_031fb cJ7_fill_031fb 4 none (fun f => [.ref (f a1), .int a2]) h (fun _ => none) h' :=
  Runs.of (by decide +kernel) (fun _ => Nat.le_of_ble_eq_true rfl) (fun x K T => w_J7_fill_031fb K  a1 a2 h ha1 E T)
def J7_fill_53178_s5 (r0 : Nat) (x1 : Int32) (x3 : Int32) (y2 : Int32) (h : Hp) : Option ((Int32 × Hp) ⊕ (Int32 × Hp)) :=
  if x3 ≤ y2 then (some (.inl (y2, h)))
  else (gd (ib y2 (shN r0)) (
  lt_ (up h r0 (ix y2) x1) fun h5 =>
  lt_ (y2 + (1 : Int32)) fun v7 =>
  some (.inr (v7, h5))))
set_option maxHeartbeats 4000000 in
set_option maxRecDepth 100000 in
theorem wl_J7_fill_53178_s5 {x : Cx} {d : Nat} (K : Ok x cJ7_fill_53178 RJ7 4 none (d + 0)) (r0 : Nat) (x1 : Int32) (x3 : Int32) (hr0 : shK r0 = 12) : ∀ (n : Nat) (s : Int32 × Hp) (r : (Int32 × Hp)), lp (fun s : Int32 × Hp => J7_fill_53178_s5 r0 x1 x3 s.1 s.2) n s = some r → (fun r : (Int32 × Hp) => VV x 20 [(0, .ref (ad x r0)), (1, .int x1), (2, .int (r.1)), (3, .int x3)] [] r.2) r → (fun s : Int32 × Hp => VV x 5 [(0, .ref (ad x r0)), (1, .int x1), (2, .int (s.1)), (3, .int x3)] [] s.2) s := by
  refine lp_walk ?_
  intro s z E T
  obtain ⟨y2, h⟩ := s
  replace E : J7_fill_53178_s5 r0 x1 x3 y2 h = some z := E
  unfold J7_fill_53178_s5 at E
  show VV x 5 [(0, .ref (ad x r0)), (1, .int x1), (2, .int y2), (3, .int x3)] [] h
  refine V_iload_n K 2 dJ7_fill_53178_5 rfl ?_
  refine V_iload_n K 3 dJ7_fill_53178_6 rfl ?_
  rcases if_inv E with ⟨c3, E⟩ | ⟨c3, E⟩
  · refine V_ic_ge_t K 20 dJ7_fill_53178_7 (by decide) c3 ?_
    cases E
    exact V_sub [0, 1, 2, 3] rfl T
  · refine V_ic_ge_f K 20 dJ7_fill_53178_7 (by decide) c3 ?_
    refine V_aload_n K 0 dJ7_fill_53178_10 rfl ?_
    refine V_iload_n K 2 dJ7_fill_53178_11 rfl ?_
    refine V_iload_n K 1 dJ7_fill_53178_12 rfl ?_
    obtain ⟨g4, E⟩ := gd_inv E
    obtain ⟨h5, e6, E⟩ := lt_inv E
    refine V_iast K hr0 rfl g4 dJ7_fill_53178_13 ?_
    refine V_hp e6 ?_
    obtain ⟨v7, e8, E⟩ := lt_inv E
    refine V_iinc (lv' := [(2, .int v7), (0, .ref (ad x r0)), (1, .int x1), (3, .int x3)]) K 2 dJ7_fill_53178_14 rfl (by rw [e8]; rfl) (by decide) rfl ?_
    refine V_goto K 5 dJ7_fill_53178_17 (by decide) ?_
    cases E
    exact V_sub [1, 2, 0, 3] rfl T
def J7_fill_53178 (a1 : Nat) (a2 : Int32) (h : Hp) : Option Hp :=
  lt_ (Int32.ofNat (shN a1)) fun v1 =>
  ob2 (lp (fun s : Int32 × Hp => J7_fill_53178_s5 a1 a2 v1 s.1 s.2) FU ((0 : Int32), h)) fun v9 h10 =>
  some h10
set_option maxHeartbeats 4000000 in
set_option maxRecDepth 100000 in
theorem w_J7_fill_53178 {x : Cx} {d : Nat} (K : Ok x cJ7_fill_53178 RJ7 4 none (d + 0)) (a1 : Nat) (a2 : Int32) (h : Hp) (ha1 : shK a1 = 12) {z : Hp} (E : J7_fill_53178 a1 a2 h = some z) (T : x.2.2.2.2 = (none, z)) : VV x 0 [(0, .ref (ad x a1)), (1, .int a2)] [] h := by
  unfold J7_fill_53178 at E
  refine V_ic (v := 0) K dJ7_fill_53178_0 rfl ?_
  refine V_istore_n (lv' := [(2, .int (0 : Int32)), (0, .ref (ad x a1)), (1, .int a2)]) K dJ7_fill_53178_1 (by decide) rfl ?_
  refine V_aload_n K 1 dJ7_fill_53178_2 rfl ?_
  refine V_alen K (Or.inl ha1) dJ7_fill_53178_3 ?_
  obtain ⟨v1, e2, E⟩ := lt_inv E
  refine V_top e2 ?_
  refine V_istore_n (lv' := [(3, .int v1), (2, .int (0 : Int32)), (0, .ref (ad x a1)), (1, .int a2)]) K dJ7_fill_53178_4 (by decide) rfl ?_
  obtain ⟨v9, h10, q11, E⟩ := ob2_inv E
  refine V_sub [2, 3, 1, 0] rfl (wl_J7_fill_53178_s5 K a1 a2 v1 ha1 _ _ _ q11 ?_)
  show VV x 20 [(0, .ref (ad x a1)), (1, .int a2), (2, .int v9), (3, .int v1)] [] h10
  cases E
  exact V_vret K dJ7_fill_53178_20 T
theorem c_J7_fill_53178 (d : Nat) (a1 : Nat) (a2 : Int32) (h : Hp) (ha1 : shK a1 = 12) {h' : Hp} (E : J7_fill_53178 a1 a2 h = some h') : Runs (d + 0) yJ7_fill_53178 cJ7_fill_53178 4 none (fun f => [.ref (f a1), .int a2]) h (fun _ => none) h' :=
  Runs.of (by decide +kernel) (fun _ => Nat.le_of_ble_eq_true rfl) (fun x K T => w_J7_fill_53178 K  a1 a2 h ha1 E T)
def J9_floorMod_7cf53 (a1 : Int32) (a2 : Int32) : Option Int32 :=
  gd (nz a2) (
  lt_ (irm a1 a2) fun v2 =>
  if (0 : Int32) ≤ (a1 ^^^ a2) then (some v2)
  else (if v2 = (0 : Int32) then (some v2)
  else (some (v2 + a2))))
set_option maxHeartbeats 4000000 in
set_option maxRecDepth 100000 in
theorem w_J9_floorMod_7cf53 {x : Cx} {d : Nat} (K : Ok x cJ9_floorMod_7cf53 RJ9 3 (some .int) (d + 0)) (a1 : Int32) (a2 : Int32) (h : Hp)  {z : Int32} (E : J9_floorMod_7cf53 a1 a2 = some z) (T : x.2.2.2.2 = (some (.int z), h)) : VV x 0 [(0, .int a1), (1, .int a2)] [] h := by
  unfold J9_floorMod_7cf53 at E
  refine V_iload_n K 0 dJ9_floorMod_7cf53_0 rfl ?_
  refine V_iload_n K 1 dJ9_floorMod_7cf53_1 rfl ?_
  obtain ⟨g1, E⟩ := gd_inv E
  refine V_irem K dJ9_floorMod_7cf53_2 (nz_ne g1) ?_
  obtain ⟨v2, e3, E⟩ := lt_inv E
  refine V_top e3 ?_
  refine V_istore_n (lv' := [(2, .int v2), (0, .int a1), (1, .int a2)]) K dJ9_floorMod_7cf53_3 (by decide) rfl ?_
  refine V_iload_n K 1 dJ9_floorMod_7cf53_4 rfl ?_
  refine V_iload_n K 2 dJ9_floorMod_7cf53_5 rfl ?_
  refine V_ixor K dJ9_floorMod_7cf53_6 ?_
  rcases if_inv E with ⟨c4, E⟩ | ⟨c4, E⟩
  · refine V_if_ge_t K 18 dJ9_floorMod_7cf53_7 (by decide) c4 ?_
    refine V_iload_n K 0 dJ9_floorMod_7cf53_18 rfl ?_
    cases E
    exact V_iret K dJ9_floorMod_7cf53_19 rfl T
  · refine V_if_ge_f K 18 dJ9_floorMod_7cf53_7 (by decide) c4 ?_
    refine V_iload_n K 0 dJ9_floorMod_7cf53_10 rfl ?_
    rcases if_inv E with ⟨c5, E⟩ | ⟨c5, E⟩
    · refine V_if_eq_t K 18 dJ9_floorMod_7cf53_11 (by decide) c5 ?_
      refine V_iload_n K 0 dJ9_floorMod_7cf53_18 rfl ?_
      cases E
      exact V_iret K dJ9_floorMod_7cf53_19 rfl T
    · refine V_if_eq_f K 18 dJ9_floorMod_7cf53_11 (by decide) c5 ?_
      refine V_iload_n K 0 dJ9_floorMod_7cf53_14 rfl ?_
      refine V_iload_n K 2 dJ9_floorMod_7cf53_15 rfl ?_
      refine V_iadd K dJ9_floorMod_7cf53_16 ?_
      cases E
      exact V_iret K dJ9_floorMod_7cf53_17 rfl T
theorem c_J9_floorMod_7cf53 (d : Nat) (a1 : Int32) (a2 : Int32) (h : Hp)  {r : Int32} (E : J9_floorMod_7cf53 a1 a2 = some r) : Runs (d + 0) yJ9_floorMod_7cf53 cJ9_floorMod_7cf53 3 (some .int) (fun f => [.int a1, .int a2]) h (fun _ => some (.int r)) h :=
  Runs.of (by decide +kernel) (fun _ => Nat.le_of_ble_eq_true rfl) (fun x K T => w_J9_floorMod_7cf53 K  a1 a2 h  E T)
def X0_partOf (a1 : Int32) : Int32 :=
  mnI (9 : Int32) a1
set_option maxHeartbeats 4000000 in
set_option maxRecDepth 100000 in
theorem w_X0_partOf {x : Cx} {d : Nat} (K : Ok x cX0_partOf RX0 2 (some .int) (d + 1)) (o : Nat) (a1 : Int32) (h : Hp)  {z : Int32} (E : X0_partOf a1 = z) (T : x.2.2.2.2 = (some (.int z), h)) : VV x 0 [(0, .ref (ad x o)), (1, .int a1)] [] h := by
  unfold X0_partOf at E
  refine V_bp (v := 9) K dX0_partOf_0 rfl ?_
  refine V_iload_n K 1 dX0_partOf_2 rfl ?_
  refine V_min K tb_3 tb_4 tb_5 tb_6 (Nat.le_of_ble_eq_true rfl) dX0_partOf_3 ?_
  cases E
  exact V_iret K dX0_partOf_6 rfl T
theorem c_X0_partOf (d : Nat) (o : Nat) (a1 : Int32) (h : Hp)  : Runs (d + 1) yX0_partOf cX0_partOf 2 (some .int) (fun f => [.ref (f o), .int a1]) h (fun _ => some (.int (X0_partOf a1))) h :=
  Runs.of (by decide +kernel) (fun _ => Nat.le_of_ble_eq_true rfl) (fun x K T => w_X0_partOf K o a1 h  rfl T)
def X1_leftByRain (a1 : Int32) : Int32 :=
  a1
set_option maxHeartbeats 4000000 in
set_option maxRecDepth 100000 in
theorem w_X1_leftByRain {x : Cx} {d : Nat} (K : Ok x cX1_leftByRain RX1 2 (some .int) (d + 0)) (o : Nat) (a1 : Int32) (h : Hp)  {z : Int32} (E : X1_leftByRain a1 = z) (T : x.2.2.2.2 = (some (.int z), h)) : VV x 0 [(0, .ref (ad x o)), (1, .int a1)] [] h := by
  unfold X1_leftByRain at E
  refine V_iload_n K 1 dX1_leftByRain_0 rfl ?_
  cases E
  exact V_iret K dX1_leftByRain_1 rfl T
theorem c_X1_leftByRain (d : Nat) (o : Nat) (a1 : Int32) (h : Hp)  : Runs (d + 0) yX1_leftByRain cX1_leftByRain 2 (some .int) (fun f => [.ref (f o), .int a1]) h (fun _ => some (.int (X1_leftByRain a1))) h :=
  Runs.of (by decide +kernel) (fun _ => Nat.le_of_ble_eq_true rfl) (fun x K T => w_X1_leftByRain K o a1 h  rfl T)
def X2_breath  : Int32 :=
  (3 : Int32)
set_option maxHeartbeats 4000000 in
set_option maxRecDepth 100000 in
theorem w_X2_breath {x : Cx} {d : Nat} (K : Ok x cX2_breath RX2 1 (some .int) (d + 0)) (o : Nat)  (h : Hp)  {z : Int32} (E : X2_breath  = z) (T : x.2.2.2.2 = (some (.int z), h)) : VV x 0 [(0, .ref (ad x o))] [] h := by
  unfold X2_breath at E
  refine V_ic (v := 3) K dX2_breath_0 rfl ?_
  cases E
  exact V_iret K dX2_breath_1 rfl T
theorem c_X2_breath (d : Nat) (o : Nat)  (h : Hp)  : Runs (d + 0) yX2_breath cX2_breath 1 (some .int) (fun f => [.ref (f o)]) h (fun _ => some (.int (X2_breath ))) h :=
  Runs.of (by decide +kernel) (fun _ => Nat.le_of_ble_eq_true rfl) (fun x K T => w_X2_breath K o  h  rfl T)
def X7_partOf (a1 : Int32) : Int32 :=
  mnI (2 : Int32) a1
set_option maxHeartbeats 4000000 in
set_option maxRecDepth 100000 in
theorem w_X7_partOf {x : Cx} {d : Nat} (K : Ok x cX7_partOf RX7 2 (some .int) (d + 1)) (o : Nat) (a1 : Int32) (h : Hp)  {z : Int32} (E : X7_partOf a1 = z) (T : x.2.2.2.2 = (some (.int z), h)) : VV x 0 [(0, .ref (ad x o)), (1, .int a1)] [] h := by
  unfold X7_partOf at E
  refine V_ic (v := 2) K dX7_partOf_0 rfl ?_
  refine V_iload_n K 1 dX7_partOf_1 rfl ?_
  refine V_min K tb_260 tb_4 tb_5 tb_6 (Nat.le_of_ble_eq_true rfl) dX7_partOf_2 ?_
  cases E
  exact V_iret K dX7_partOf_5 rfl T
theorem c_X7_partOf (d : Nat) (o : Nat) (a1 : Int32) (h : Hp)  : Runs (d + 1) yX7_partOf cX7_partOf 2 (some .int) (fun f => [.ref (f o), .int a1]) h (fun _ => some (.int (X7_partOf a1))) h :=
  Runs.of (by decide +kernel) (fun _ => Nat.le_of_ble_eq_true rfl) (fun x K T => w_X7_partOf K o a1 h  rfl T)
def X7_leftByRain (a1 : Int32) : Int32 :=
  (a1 / (2 : Int32))
set_option maxHeartbeats 4000000 in
set_option maxRecDepth 100000 in
theorem w_X7_leftByRain {x : Cx} {d : Nat} (K : Ok x cX7_leftByRain RX7 2 (some .int) (d + 0)) (o : Nat) (a1 : Int32) (h : Hp)  {z : Int32} (E : X7_leftByRain a1 = z) (T : x.2.2.2.2 = (some (.int z), h)) : VV x 0 [(0, .ref (ad x o)), (1, .int a1)] [] h := by
  unfold X7_leftByRain at E
  refine V_iload_n K 1 dX7_leftByRain_0 rfl ?_
  refine V_ic (v := 2) K dX7_leftByRain_1 rfl ?_
  refine V_idiv K dX7_leftByRain_2 (by decide) ?_
  cases E
  exact V_iret K dX7_leftByRain_3 rfl T
theorem c_X7_leftByRain (d : Nat) (o : Nat) (a1 : Int32) (h : Hp)  : Runs (d + 0) yX7_leftByRain cX7_leftByRain 2 (some .int) (fun f => [.ref (f o), .int a1]) h (fun _ => some (.int (X7_leftByRain a1))) h :=
  Runs.of (by decide +kernel) (fun _ => Nat.le_of_ble_eq_true rfl) (fun x K T => w_X7_leftByRain K o a1 h  rfl T)
def X7_breath  : Int32 :=
  (0 : Int32)
set_option maxHeartbeats 4000000 in
set_option maxRecDepth 100000 in
theorem w_X7_breath {x : Cx} {d : Nat} (K : Ok x cX7_breath RX7 1 (some .int) (d + 0)) (o : Nat)  (h : Hp)  {z : Int32} (E : X7_breath  = z) (T : x.2.2.2.2 = (some (.int z), h)) : VV x 0 [(0, .ref (ad x o))] [] h := by
  unfold X7_breath at E
  refine V_ic (v := 0) K dX7_breath_0 rfl ?_
  cases E
  exact V_iret K dX7_breath_1 rfl T
theorem c_X7_breath (d : Nat) (o : Nat)  (h : Hp)  : Runs (d + 0) yX7_breath cX7_breath 1 (some .int) (fun f => [.ref (f o)]) h (fun _ => some (.int (X7_breath ))) h :=
  Runs.of (by decide +kernel) (fun _ => Nat.le_of_ble_eq_true rfl) (fun x K T => w_X7_breath K o  h  rfl T)
def X8_partOf (a1 : Int32) : Int32 :=
  (a1 / (2 : Int32))
set_option maxHeartbeats 4000000 in
set_option maxRecDepth 100000 in
theorem w_X8_partOf {x : Cx} {d : Nat} (K : Ok x cX8_partOf RX8 2 (some .int) (d + 0)) (o : Nat) (a1 : Int32) (h : Hp)  {z : Int32} (E : X8_partOf a1 = z) (T : x.2.2.2.2 = (some (.int z), h)) : VV x 0 [(0, .ref (ad x o)), (1, .int a1)] [] h := by
  unfold X8_partOf at E
  refine V_iload_n K 1 dX8_partOf_0 rfl ?_
  refine V_ic (v := 2) K dX8_partOf_1 rfl ?_
  refine V_idiv K dX8_partOf_2 (by decide) ?_
  cases E
  exact V_iret K dX8_partOf_3 rfl T
theorem c_X8_partOf (d : Nat) (o : Nat) (a1 : Int32) (h : Hp)  : Runs (d + 0) yX8_partOf cX8_partOf 2 (some .int) (fun f => [.ref (f o), .int a1]) h (fun _ => some (.int (X8_partOf a1))) h :=
  Runs.of (by decide +kernel) (fun _ => Nat.le_of_ble_eq_true rfl) (fun x K T => w_X8_partOf K o a1 h  rfl T)
def X5_partOf (a1 : Int32) : Int32 :=
  if a1 < (20 : Int32) then ((X8_partOf a1))
  else (a1)
set_option maxHeartbeats 4000000 in
set_option maxRecDepth 100000 in
theorem w_X5_partOf {x : Cx} {d : Nat} (K : Ok x cX5_partOf RX5 2 (some .int) (d + 1)) (a1 : Int32) (h : Hp)  {z : Int32} (E : X5_partOf a1 = z) (T : x.2.2.2.2 = (some (.int z), h)) : VV x 0 [(0, .ref (ad x 50)), (1, .int a1)] [] h := by
  unfold X5_partOf at E
  refine V_iload_n K 1 dX5_partOf_0 rfl ?_
  refine V_bp (v := 20) K dX5_partOf_1 rfl ?_
  rcases if_inv E with ⟨c1, E⟩ | ⟨c1, E⟩
  · refine V_ic_lt_t K 10 dX5_partOf_3 (by decide) c1 ?_
    refine V_aload_n K 0 dX5_partOf_10 rfl ?_
    refine V_iload_n K 1 dX5_partOf_11 rfl ?_
    refine iv_X5_9 K (c_X8_partOf _ 50 a1 h) dX5_partOf_12 (Nat.le_of_ble_eq_true rfl) ?_
    cases E
    exact V_iret K dX5_partOf_15 rfl T
  · refine V_ic_lt_f K 10 dX5_partOf_3 (by decide) c1 ?_
    refine V_iload_n K 1 dX5_partOf_6 rfl ?_
    refine V_goto K 15 dX5_partOf_7 (by decide) ?_
    cases E
    exact V_iret K dX5_partOf_15 rfl T
theorem c_X5_partOf (d : Nat) (a1 : Int32) (h : Hp)  : Runs (d + 1) yX5_partOf cX5_partOf 2 (some .int) (fun f => [.ref (f 50), .int a1]) h (fun _ => some (.int (X5_partOf a1))) h :=
  Runs.of (by decide +kernel) (fun _ => Nat.le_of_ble_eq_true rfl) (fun x K T => w_X5_partOf K  a1 h  rfl T)
def X6_ofNumber (a1 : Int32) : Nat :=
  if a1 = (1 : Int32) then (46)
  else (if a1 = (2 : Int32) then (47)
  else (if a1 = (3 : Int32) then (48)
  else (if a1 = (4 : Int32) then (49)
  else (if a1 = (5 : Int32) then (50)
  else (45)))))
set_option maxHeartbeats 4000000 in
set_option maxRecDepth 100000 in
theorem w_X6_ofNumber {x : Cx} {d : Nat} (K : Ok x cX6_ofNumber RX6 2 (some (.object "FlossRumours$Person")) (d + 0)) (a1 : Int32) (h : Hp)  {z : Nat} (E : X6_ofNumber a1 = z) (T : x.2.2.2.2 = (some (.ref (ad x z)), h)) : VV x 0 [(0, .ref (ad x 44)), (1, .int a1)] [] h := by
  unfold X6_ofNumber at E
  refine V_iload_n K 1 dX6_ofNumber_0 rfl ?_
  rcases if_inv E with ⟨c1, E⟩ | ⟨c1, E⟩
  · refine V_tin (off := 35) K 36 dX6_ofNumber_1 (by rw [c1]; decide) (by rw [c1]; decide) (by rw [c1]; rfl) (by decide) ?_
    refine V_aload_n K 0 dX6_ofNumber_36 rfl ?_
    refine gf_X6_19 K dX6_ofNumber_37 ?_
    cases E
    exact V_aret K dX6_ofNumber_40 T
  · rcases if_inv E with ⟨c2, E⟩ | ⟨c2, E⟩
    · refine V_tin (off := 40) K 41 dX6_ofNumber_1 (by rw [c2]; decide) (by rw [c2]; decide) (by rw [c2]; rfl) (by decide) ?_
      refine V_aload_n K 0 dX6_ofNumber_41 rfl ?_
      refine gf_X6_26 K dX6_ofNumber_42 ?_
      cases E
      exact V_aret K dX6_ofNumber_45 T
    · rcases if_inv E with ⟨c3, E⟩ | ⟨c3, E⟩
      · refine V_tin (off := 45) K 46 dX6_ofNumber_1 (by rw [c3]; decide) (by rw [c3]; decide) (by rw [c3]; rfl) (by decide) ?_
        refine V_aload_n K 0 dX6_ofNumber_46 rfl ?_
        refine gf_X6_33 K dX6_ofNumber_47 ?_
        cases E
        exact V_aret K dX6_ofNumber_50 T
      · rcases if_inv E with ⟨c4, E⟩ | ⟨c4, E⟩
        · refine V_tin (off := 50) K 51 dX6_ofNumber_1 (by rw [c4]; decide) (by rw [c4]; decide) (by rw [c4]; rfl) (by decide) ?_
          refine V_aload_n K 0 dX6_ofNumber_51 rfl ?_
          refine gf_X6_40 K dX6_ofNumber_52 ?_
          cases E
          exact V_aret K dX6_ofNumber_55 T
        · rcases if_inv E with ⟨c5, E⟩ | ⟨c5, E⟩
          · refine V_tin (off := 55) K 56 dX6_ofNumber_1 (by rw [c5]; decide) (by rw [c5]; decide) (by rw [c5]; rfl) (by decide) ?_
            refine V_aload_n K 0 dX6_ofNumber_56 rfl ?_
            refine gf_X6_47 K dX6_ofNumber_57 ?_
            cases E
            exact V_aret K dX6_ofNumber_60 T
          · refine V_tout K 61 dX6_ofNumber_1 (by have n0 := lv_neT c1 (a := 1) (by decide); have n1 := lv_neT c2 (a := 2) (by decide); have n2 := lv_neT c3 (a := 3) (by decide); have n3 := lv_neT c4 (a := 4) (by decide); have n4 := lv_neT c5 (a := 5) (by decide); omega) (by decide) ?_
            refine V_aload_n K 0 dX6_ofNumber_61 rfl ?_
            refine gf_X6_10 K dX6_ofNumber_62 ?_
            cases E
            exact V_aret K dX6_ofNumber_65 T
theorem c_X6_ofNumber (d : Nat) (a1 : Int32) (h : Hp)  : Runs (d + 0) yX6_ofNumber cX6_ofNumber 2 (some (.object "FlossRumours$Person")) (fun f => [.ref (f 44), .int a1]) h (fun f => some (.ref (f (X6_ofNumber a1)))) h :=
  Runs.of (by decide +kernel) (fun _ => Nat.le_of_ble_eq_true rfl) (fun x K T => w_X6_ofNumber K  a1 h  rfl T)
