def X3_isFull (o : Nat) (h : Hp) : Int32 :=
  if (h.1 o 1) < (40 : Int32) then ((0 : Int32))
  else ((1 : Int32))
set_option maxHeartbeats 4000000 in
set_option maxRecDepth 100000 in
theorem w_X3_isFull {x : Cx} {d : Nat} (K : Ok x cX3_isFull RX3 1 (some .boolean) (d + 0)) (o : Nat) (h : Hp) (ho : shK o = 3) {z : Int32} (E : X3_isFull o h = z) (T : x.2.2.2.2 = (some (.int z), h)) : VV x 0 [(0, .ref (ad x o))] [] h := by
  unfold X3_isFull at E
  refine V_aload_n K 0 dX3_isFull_0 rfl ?_
  refine gf_X3_15 K ho dX3_isFull_1 ?_
  refine V_bp (v := 40) K dX3_isFull_4 rfl ?_
  rcases if_inv E with ⟨c1, E⟩ | ⟨c1, E⟩
  · refine V_ic_lt_t K 13 dX3_isFull_6 (by decide) c1 ?_
    refine V_ic (v := 0) K dX3_isFull_13 rfl ?_
    cases E
    exact V_iret K dX3_isFull_14 rfl T
  · refine V_ic_lt_f K 13 dX3_isFull_6 (by decide) c1 ?_
    refine V_ic (v := 1) K dX3_isFull_9 rfl ?_
    refine V_goto K 14 dX3_isFull_10 (by decide) ?_
    cases E
    exact V_iret K dX3_isFull_14 rfl T
theorem c_X3_isFull (d : Nat) (o : Nat) (h : Hp) (ho : shK o = 3) : Runs (d + 0) yX3_isFull cX3_isFull 1 (some .boolean) (fun f => [.ref (f o)]) h (fun _ => some (.int (X3_isFull o h))) h :=
  Runs.of (by decide +kernel) (fun _ => Nat.le_of_ble_eq_true rfl) (fun x K T => w_X3_isFull K  o h ho rfl T)
theorem bz_X3_isFull (o : Nat) (h : Hp) : narrow .boolean (.int (X3_isFull o h)) = .int (X3_isFull o h) := by
  unfold X3_isFull
  repeat' split
  all_goals first | rfl | exact bz_X10_in _ _ _
def X3_add (o : Nat) (a1 : Int32) (h : Hp) : Option Hp :=
  if (X3_isFull o h) = (0 : Int32) then (gd (ib (h.1 o 1) 40) (
  lt_ (up h (o + 1) (ix (h.1 o 1)) a1) fun h3 =>
  lt_ (up h3 o 1 ((h3.1 o 1) + (1 : Int32))) fun h5 =>
  some h5))
  else (some h)
set_option maxHeartbeats 4000000 in
set_option maxRecDepth 100000 in
theorem w_X3_add {x : Cx} {d : Nat} (K : Ok x cX3_add RX3 2 none (d + 1)) (o : Nat) (a1 : Int32) (h : Hp) (ho : shK o = 3) {z : Hp} (E : X3_add o a1 h = some z) (T : x.2.2.2.2 = (none, z)) : VV x 0 [(0, .ref (ad x o)), (1, .int a1)] [] h := by
  unfold X3_add at E
  refine V_aload_n K 0 dX3_add_0 rfl ?_
  refine iv_X3_19 K ho (c_X3_isFull _ o h ho) dX3_add_1 (Nat.le_of_ble_eq_true rfl) ?_
  rcases if_inv E with ⟨c1, E⟩ | ⟨c1, E⟩
  · refine V_if_eq_t K 8 dX3_add_4 (by decide) c1 ?_
    refine V_aload_n K 0 dX3_add_8 rfl ?_
    refine gf_X3_9 K ho dX3_add_9 ?_
    refine V_aload_n K 0 dX3_add_12 rfl ?_
    refine gf_X3_15 K ho dX3_add_13 ?_
    refine V_iload_n K 1 dX3_add_16 rfl ?_
    obtain ⟨g2, E⟩ := gd_inv E
    obtain ⟨h3, e4, E⟩ := lt_inv E
    refine V_iast K (D1k ho) (D1n ho) g2 dX3_add_17 ?_
    refine V_hp e4 ?_
    refine V_aload_n K 0 dX3_add_18 rfl ?_
    refine V_dup K dX3_add_19 rfl ?_
    refine gf_X3_15 K ho dX3_add_20 ?_
    refine V_ic (v := 1) K dX3_add_23 rfl ?_
    refine V_iadd K dX3_add_24 ?_
    obtain ⟨h5, e6, E⟩ := lt_inv E
    refine pf_X3_15 K ho dX3_add_25 ?_
    refine V_hp e6 ?_
    cases E
    exact V_vret K dX3_add_28 T
  · refine V_if_eq_f K 8 dX3_add_4 (by decide) c1 ?_
    cases E
    exact V_vret K dX3_add_7 T
theorem c_X3_add (d : Nat) (o : Nat) (a1 : Int32) (h : Hp) (ho : shK o = 3) {h' : Hp} (E : X3_add o a1 h = some h') : Runs (d + 1) yX3_add cX3_add 2 none (fun f => [.ref (f o), .int a1]) h (fun _ => none) h' :=
  Runs.of (by decide +kernel) (fun _ => Nat.le_of_ble_eq_true rfl) (fun x K T => w_X3_add K  o a1 h ho E T)
def X3_become (o : Nat) (a1 : Nat) (h : Hp) : Option Hp :=
  gd (cpOk (0 : Int32) (0 : Int32) (40 : Int32) 40 40) (
  lt_ (upA h (o + 1) (va_cpy (h.1 (a1 + 1)) (h.1 (o + 1)) (ix (0 : Int32)) (ix (0 : Int32)) (ix (40 : Int32)))) fun h2 =>
  lt_ (up h2 o 1 (h2.1 a1 1)) fun h4 =>
  some h4)
set_option maxHeartbeats 4000000 in
set_option maxRecDepth 100000 in
theorem w_X3_become {x : Cx} {d : Nat} (K : Ok x cX3_become RX3 2 none (d + 1)) (o : Nat) (a1 : Nat) (h : Hp) (ho : shK o = 3) (ha1 : shK a1 = 3) {z : Hp} (E : X3_become o a1 h = some z) (T : x.2.2.2.2 = (none, z)) : VV x 0 [(0, .ref (ad x o)), (1, .ref (ad x a1))] [] h := by
  unfold X3_become at E
  refine V_aload_n K 1 dX3_become_0 rfl ?_
  refine gf_X3_9 K ha1 dX3_become_1 ?_
  refine V_ic (v := 0) K dX3_become_4 rfl ?_
  refine V_aload_n K 0 dX3_become_5 rfl ?_
  refine gf_X3_9 K ho dX3_become_6 ?_
  refine V_ic (v := 0) K dX3_become_9 rfl ?_
  refine V_bp (v := 40) K dX3_become_10 rfl ?_
  obtain ⟨g1, E⟩ := gd_inv E
  obtain ⟨h2, e3, E⟩ := lt_inv E
  refine V_cpy K tb_232 tb_233 tb_234 tb_235 (D1k ha1) (D1k ho) (D1n ha1) (D1n ho) g1 (Nat.le_of_ble_eq_true rfl) dX3_become_12 ?_
  refine V_hp e3 ?_
  refine V_aload_n K 0 dX3_become_15 rfl ?_
  refine V_aload_n K 1 dX3_become_16 rfl ?_
  refine gf_X3_15 K ha1 dX3_become_17 ?_
  obtain ⟨h4, e5, E⟩ := lt_inv E
  refine pf_X3_15 K ho dX3_become_20 ?_
  refine V_hp e5 ?_
  cases E
  exact V_vret K dX3_become_23 T
theorem c_X3_become (d : Nat) (o : Nat) (a1 : Nat) (h : Hp) (ho : shK o = 3) (ha1 : shK a1 = 3) {h' : Hp} (E : X3_become o a1 h = some h') : Runs (d + 1) yX3_become cX3_become 2 none (fun f => [.ref (f o), .ref (f a1)]) h (fun _ => none) h' :=
  Runs.of (by decide +kernel) (fun _ => Nat.le_of_ble_eq_true rfl) (fun x K T => w_X3_become K  o a1 h ho ha1 E T)
def X4_beOfSize (o : Nat) (a1 : Int32) (h : Hp) : Option Hp :=
  lt_ (up h o 7 a1) fun h1 =>
  if (h1.1 o 7) = (0 : Int32) then (lt_ (up h1 o 8 (h1.1 o 4)) fun h4 =>
  some h4)
  else (some h1)
set_option maxHeartbeats 4000000 in
set_option maxRecDepth 100000 in
theorem w_X4_beOfSize {x : Cx} {d : Nat} (K : Ok x cX4_beOfSize RX4 2 none (d + 0)) (o : Nat) (a1 : Int32) (h : Hp) (ho : shK o = 4) {z : Hp} (E : X4_beOfSize o a1 h = some z) (T : x.2.2.2.2 = (none, z)) : VV x 0 [(0, .ref (ad x o)), (1, .int a1)] [] h := by
  unfold X4_beOfSize at E
  refine V_aload_n K 0 dX4_beOfSize_0 rfl ?_
  refine V_iload_n K 1 dX4_beOfSize_1 rfl ?_
  obtain ⟨h1, e2, E⟩ := lt_inv E
  refine pf_X4_31 K ho dX4_beOfSize_2 ?_
  refine V_hp e2 ?_
  refine V_aload_n K 0 dX4_beOfSize_5 rfl ?_
  refine gf_X4_31 K ho dX4_beOfSize_6 ?_
  rcases if_inv E with ⟨c3, E⟩ | ⟨c3, E⟩
  · refine V_if_ne_f K 20 dX4_beOfSize_9 (by decide) c3 ?_
    refine V_aload_n K 0 dX4_beOfSize_12 rfl ?_
    refine V_aload_n K 0 dX4_beOfSize_13 rfl ?_
    refine gf_X4_21 K ho dX4_beOfSize_14 ?_
    obtain ⟨h4, e5, E⟩ := lt_inv E
    refine pf_X4_34 K ho dX4_beOfSize_17 ?_
    refine V_hp e5 ?_
    cases E
    exact V_vret K dX4_beOfSize_20 T
  · refine V_if_ne_t K 20 dX4_beOfSize_9 (by decide) c3 ?_
    cases E
    exact V_vret K dX4_beOfSize_20 T
theorem c_X4_beOfSize (d : Nat) (o : Nat) (a1 : Int32) (h : Hp) (ho : shK o = 4) {h' : Hp} (E : X4_beOfSize o a1 h = some h') : Runs (d + 0) yX4_beOfSize cX4_beOfSize 2 none (fun f => [.ref (f o), .int a1]) h (fun _ => none) h' :=
  Runs.of (by decide +kernel) (fun _ => Nat.le_of_ble_eq_true rfl) (fun x K T => w_X4_beOfSize K  o a1 h ho E T)
def X4_become_s2 (o : Nat) (r1 : Nat) (y2 : Int32) (h : Hp) : Option ((Int32 × Hp) ⊕ (Int32 × Hp)) :=
  if (6 : Int32) ≤ y2 then (some (.inl (y2, h)))
  else (gd (ib y2 6) (
  lt_ (up h (o + 1) (ix y2) (h.1 (r1 + 1) (ix y2))) fun h3 =>
  lt_ (up h3 (o + 2) (ix y2) (h3.1 (r1 + 2) (ix y2))) fun h5 =>
  lt_ (up h5 (o + 3) (ix y2) (h5.1 (r1 + 3) (ix y2))) fun h7 =>
  lt_ (y2 + (1 : Int32)) fun v9 =>
  some (.inr (v9, h7))))
set_option maxHeartbeats 4000000 in
set_option maxRecDepth 100000 in
theorem wl_X4_become_s2 {x : Cx} {d : Nat} (K : Ok x cX4_become RX4 3 none (d + 0)) (o : Nat) (r1 : Nat) (ho : shK o = 4) (hr1 : shK r1 = 4) : ∀ (n : Nat) (s : Int32 × Hp) (r : (Int32 × Hp)), lp (fun s : Int32 × Hp => X4_become_s2 o r1 s.1 s.2) n s = some r → (fun r : (Int32 × Hp) => VV x 50 [(0, .ref (ad x o)), (1, .ref (ad x r1)), (2, .int (r.1))] [] r.2) r → (fun s : Int32 × Hp => VV x 2 [(0, .ref (ad x o)), (1, .ref (ad x r1)), (2, .int (s.1))] [] s.2) s := by
  refine lp_walk ?_
  intro s z E T
  obtain ⟨y2, h⟩ := s
  replace E : X4_become_s2 o r1 y2 h = some z := E
  unfold X4_become_s2 at E
  show VV x 2 [(0, .ref (ad x o)), (1, .ref (ad x r1)), (2, .int y2)] [] h
  refine V_iload_n K 2 dX4_become_2 rfl ?_
  refine V_bp (v := 6) K dX4_become_3 rfl ?_
  rcases if_inv E with ⟨c1, E⟩ | ⟨c1, E⟩
  · refine V_ic_ge_t K 50 dX4_become_5 (by decide) c1 ?_
    cases E
    exact V_sub [0, 1, 2] rfl T
  · refine V_ic_ge_f K 50 dX4_become_5 (by decide) c1 ?_
    refine V_aload_n K 0 dX4_become_8 rfl ?_
    refine gf_X4_9 K ho dX4_become_9 ?_
    refine V_iload_n K 2 dX4_become_12 rfl ?_
    refine V_aload_n K 1 dX4_become_13 rfl ?_
    refine gf_X4_9 K hr1 dX4_become_14 ?_
    refine V_iload_n K 2 dX4_become_17 rfl ?_
    obtain ⟨g2, E⟩ := gd_inv E
    refine V_iald K (F1k hr1) (F1n hr1) g2 dX4_become_18 ?_
    obtain ⟨h3, e4, E⟩ := lt_inv E
    refine V_iast K (F1k ho) (F1n ho) g2 dX4_become_19 ?_
    refine V_hp e4 ?_
    refine V_aload_n K 0 dX4_become_20 rfl ?_
    refine gf_X4_15 K ho dX4_become_21 ?_
    refine V_iload_n K 2 dX4_become_24 rfl ?_
    refine V_aload_n K 1 dX4_become_25 rfl ?_
    refine gf_X4_15 K hr1 dX4_become_26 ?_
    refine V_iload_n K 2 dX4_become_29 rfl ?_
    refine V_iald K (F2k hr1) (F2n hr1) g2 dX4_become_30 ?_
    obtain ⟨h5, e6, E⟩ := lt_inv E
    refine V_iast K (F2k ho) (F2n ho) g2 dX4_become_31 ?_
    refine V_hp e6 ?_
    refine V_aload_n K 0 dX4_become_32 rfl ?_
    refine gf_X4_18 K ho dX4_become_33 ?_
    refine V_iload_n K 2 dX4_become_36 rfl ?_
    refine V_aload_n K 1 dX4_become_37 rfl ?_
    refine gf_X4_18 K hr1 dX4_become_38 ?_
    refine V_iload_n K 2 dX4_become_41 rfl ?_
    refine V_iald K (F3k hr1) (F3n hr1) g2 dX4_become_42 ?_
    obtain ⟨h7, e8, E⟩ := lt_inv E
    refine V_iast K (F3k ho) (F3n ho) g2 dX4_become_43 ?_
    refine V_hp e8 ?_
    obtain ⟨v9, e10, E⟩ := lt_inv E
    refine V_iinc (lv' := [(2, .int v9), (0, .ref (ad x o)), (1, .ref (ad x r1))]) K 2 dX4_become_44 rfl (by rw [e10]; rfl) (by decide) rfl ?_
    refine V_goto K 2 dX4_become_47 (by decide) ?_
    cases E
    exact V_sub [1, 2, 0] rfl T
def X4_become (o : Nat) (a1 : Nat) (h : Hp) : Option Hp :=
  ob2 (lp (fun s : Int32 × Hp => X4_become_s2 o a1 s.1 s.2) FU ((0 : Int32), h)) fun v11 h12 =>
  lt_ (up h12 o 4 (h12.1 a1 4)) fun h13 =>
  lt_ (up h13 o 5 (h13.1 a1 5)) fun h15 =>
  lt_ (up h15 o 6 (h15.1 a1 6)) fun h17 =>
  lt_ (up h17 o 7 (h17.1 a1 7)) fun h19 =>
  lt_ (up h19 o 8 (h19.1 a1 8)) fun h21 =>
  lt_ (up h21 o 9 (h21.1 a1 9)) fun h23 =>
  lt_ (up h23 o 10 (h23.1 a1 10)) fun h25 =>
  lt_ (up h25 o 11 (h25.1 a1 11)) fun h27 =>
  some h27
set_option maxHeartbeats 4000000 in
set_option maxRecDepth 100000 in
theorem w_X4_become {x : Cx} {d : Nat} (K : Ok x cX4_become RX4 3 none (d + 0)) (o : Nat) (a1 : Nat) (h : Hp) (ho : shK o = 4) (ha1 : shK a1 = 4) {z : Hp} (E : X4_become o a1 h = some z) (T : x.2.2.2.2 = (none, z)) : VV x 0 [(0, .ref (ad x o)), (1, .ref (ad x a1))] [] h := by
  unfold X4_become at E
  refine V_ic (v := 0) K dX4_become_0 rfl ?_
  refine V_istore_n (lv' := [(2, .int (0 : Int32)), (0, .ref (ad x o)), (1, .ref (ad x a1))]) K dX4_become_1 (by decide) rfl ?_
  obtain ⟨v11, h12, q29, E⟩ := ob2_inv E
  refine V_sub [1, 2, 0] rfl (wl_X4_become_s2 K o a1 ho ha1 _ _ _ q29 ?_)
  show VV x 50 [(0, .ref (ad x o)), (1, .ref (ad x a1)), (2, .int v11)] [] h12
  refine V_aload_n K 0 dX4_become_50 rfl ?_
  refine V_aload_n K 1 dX4_become_51 rfl ?_
  refine gf_X4_21 K ha1 dX4_become_52 ?_
  obtain ⟨h13, e14, E⟩ := lt_inv E
  refine pf_X4_21 K ho dX4_become_55 ?_
  refine V_hp e14 ?_
  refine V_aload_n K 0 dX4_become_58 rfl ?_
  refine V_aload_n K 1 dX4_become_59 rfl ?_
  refine gf_X4_25 K ha1 dX4_become_60 ?_
  obtain ⟨h15, e16, E⟩ := lt_inv E
  refine pf_X4_25 K ho dX4_become_63 ?_
  refine V_hp e16 ?_
  refine V_aload_n K 0 dX4_become_66 rfl ?_
  refine V_aload_n K 1 dX4_become_67 rfl ?_
  refine gf_X4_28 K ha1 dX4_become_68 ?_
  obtain ⟨h17, e18, E⟩ := lt_inv E
  refine pf_X4_28 K ho dX4_become_71 ?_
  refine V_hp e18 ?_
  refine V_aload_n K 0 dX4_become_74 rfl ?_
  refine V_aload_n K 1 dX4_become_75 rfl ?_
  refine gf_X4_31 K ha1 dX4_become_76 ?_
  obtain ⟨h19, e20, E⟩ := lt_inv E
  refine pf_X4_31 K ho dX4_become_79 ?_
  refine V_hp e20 ?_
  refine V_aload_n K 0 dX4_become_82 rfl ?_
  refine V_aload_n K 1 dX4_become_83 rfl ?_
  refine gf_X4_34 K ha1 dX4_become_84 ?_
  obtain ⟨h21, e22, E⟩ := lt_inv E
  refine pf_X4_34 K ho dX4_become_87 ?_
  refine V_hp e22 ?_
  refine V_aload_n K 0 dX4_become_90 rfl ?_
  refine V_aload_n K 1 dX4_become_91 rfl ?_
  refine gf_X4_37 K ha1 dX4_become_92 ?_
  obtain ⟨h23, e24, E⟩ := lt_inv E
  refine pf_X4_37 K ho dX4_become_95 ?_
  refine V_hp e24 ?_
  refine V_aload_n K 0 dX4_become_98 rfl ?_
  refine V_aload_n K 1 dX4_become_99 rfl ?_
  refine gf_X4_40 K ha1 dX4_become_100 ?_
  obtain ⟨h25, e26, E⟩ := lt_inv E
  refine pf_X4_40 K ho dX4_become_103 ?_
  refine V_hp e26 ?_
  refine V_aload_n K 0 dX4_become_106 rfl ?_
  refine V_aload_n K 1 dX4_become_107 rfl ?_
  refine gf_X4_43 K ha1 dX4_become_108 ?_
  obtain ⟨h27, e28, E⟩ := lt_inv E
  refine pf_X4_43 K ho dX4_become_111 ?_
  refine V_hp e28 ?_
  cases E
  exact V_vret K dX4_become_114 T
theorem c_X4_become (d : Nat) (o : Nat) (a1 : Nat) (h : Hp) (ho : shK o = 4) (ha1 : shK a1 = 4) {h' : Hp} (E : X4_become o a1 h = some h') : Runs (d + 0) yX4_become cX4_become 3 none (fun f => [.ref (f o), .ref (f a1)]) h (fun _ => none) h' :=
  Runs.of (by decide +kernel) (fun _ => Nat.le_of_ble_eq_true rfl) (fun x K T => w_X4_become K  o a1 h ho ha1 E T)
def X4_begin (o : Nat) (a1 : Int32) (a2 : Int32) (h : Hp) : Option Hp :=
  lt_ (up h o 4 a1) fun h1 =>
  lt_ (up h1 o 5 a2) fun h3 =>
  lt_ (up h3 o 6 (0 : Int32)) fun h5 =>
  lt_ (up h5 o 7 (0 : Int32)) fun h7 =>
  lt_ (up h7 o 8 a1) fun h9 =>
  lt_ (up h9 o 9 (1 : Int32)) fun h11 =>
  lt_ (up h11 o 10 (0 : Int32)) fun h13 =>
  lt_ (up h13 o 11 (0 : Int32)) fun h15 =>
  some h15
set_option maxHeartbeats 4000000 in
set_option maxRecDepth 100000 in
theorem w_X4_begin {x : Cx} {d : Nat} (K : Ok x cX4_begin RX4 3 none (d + 0)) (o : Nat) (a1 : Int32) (a2 : Int32) (h : Hp) (ho : shK o = 4) {z : Hp} (E : X4_begin o a1 a2 h = some z) (T : x.2.2.2.2 = (none, z)) : VV x 0 [(0, .ref (ad x o)), (1, .int a1), (2, .int a2)] [] h := by
  unfold X4_begin at E
  refine V_aload_n K 0 dX4_begin_0 rfl ?_
  refine V_iload_n K 1 dX4_begin_1 rfl ?_
  obtain ⟨h1, e2, E⟩ := lt_inv E
  refine pf_X4_21 K ho dX4_begin_2 ?_
  refine V_hp e2 ?_
  refine V_aload_n K 0 dX4_begin_5 rfl ?_
  refine V_iload_n K 2 dX4_begin_6 rfl ?_
  obtain ⟨h3, e4, E⟩ := lt_inv E
  refine pf_X4_25 K ho dX4_begin_7 ?_
  refine V_hp e4 ?_
  refine V_aload_n K 0 dX4_begin_10 rfl ?_
  refine V_ic (v := 0) K dX4_begin_11 rfl ?_
  obtain ⟨h5, e6, E⟩ := lt_inv E
  refine pf_X4_28 K ho dX4_begin_12 ?_
  refine V_hp e6 ?_
  refine V_aload_n K 0 dX4_begin_15 rfl ?_
  refine V_ic (v := 0) K dX4_begin_16 rfl ?_
  obtain ⟨h7, e8, E⟩ := lt_inv E
  refine pf_X4_31 K ho dX4_begin_17 ?_
  refine V_hp e8 ?_
  refine V_aload_n K 0 dX4_begin_20 rfl ?_
  refine V_iload_n K 1 dX4_begin_21 rfl ?_
  obtain ⟨h9, e10, E⟩ := lt_inv E
  refine pf_X4_34 K ho dX4_begin_22 ?_
  refine V_hp e10 ?_
  refine V_aload_n K 0 dX4_begin_25 rfl ?_
  refine V_ic (v := 1) K dX4_begin_26 rfl ?_
  obtain ⟨h11, e12, E⟩ := lt_inv E
  refine pf_X4_37 K ho dX4_begin_27 ?_
  refine V_hp e12 ?_
  refine V_aload_n K 0 dX4_begin_30 rfl ?_
  refine V_ic (v := 0) K dX4_begin_31 rfl ?_
  obtain ⟨h13, e14, E⟩ := lt_inv E
  refine pf_X4_40 K ho dX4_begin_32 ?_
  refine V_hp e14 ?_
  refine V_aload_n K 0 dX4_begin_35 rfl ?_
  refine V_ic (v := 0) K dX4_begin_36 rfl ?_
  obtain ⟨h15, e16, E⟩ := lt_inv E
  refine pf_X4_43 K ho dX4_begin_37 ?_
  refine V_hp e16 ?_
  cases E
  exact V_vret K dX4_begin_40 T
theorem c_X4_begin (d : Nat) (o : Nat) (a1 : Int32) (a2 : Int32) (h : Hp) (ho : shK o = 4) {h' : Hp} (E : X4_begin o a1 a2 h = some h') : Runs (d + 0) yX4_begin cX4_begin 3 none (fun f => [.ref (f o), .int a1, .int a2]) h (fun _ => none) h' :=
  Runs.of (by decide +kernel) (fun _ => Nat.le_of_ble_eq_true rfl) (fun x K T => w_X4_begin K  o a1 a2 h ho E T)
def X4_drift (o : Nat) (h : Hp) : Option Hp :=
  if (h.1 o 7) = (0 : Int32) then (some h)
  else (ob (if (h.1 o 10) = (1 : Int32) then (some ((h.1 o 7) / (2 : Int32)))
  else (some (mnI (60 : Int32) ((h.1 o 7) + (h.1 o 5))))) fun v2 =>
  lt_ (up h o 7 v2) fun h4 =>
  ob (J9_floorMod_7cf53 (((h4.1 o 8) + (h4.1 o 9)) - (1 : Int32)) (10 : Int32)) fun r6 =>
  lt_ (up h4 o 8 r6) fun h8 =>
  some h8)
set_option maxHeartbeats 4000000 in
set_option maxRecDepth 100000 in
theorem w_X4_drift {x : Cx} {d : Nat} (K : Ok x cX4_drift RX4 1 none (d + 1)) (o : Nat) (h : Hp) (ho : shK o = 4) {z : Hp} (E : X4_drift o h = some z) (T : x.2.2.2.2 = (none, z)) : VV x 0 [(0, .ref (ad x o))] [] h := by
  unfold X4_drift at E
  refine V_aload_n K 0 dX4_drift_0 rfl ?_
  refine gf_X4_31 K ho dX4_drift_1 ?_
  rcases if_inv E with ⟨c1, E⟩ | ⟨c1, E⟩
  · refine V_if_ne_f K 8 dX4_drift_4 (by decide) c1 ?_
    cases E
    exact V_vret K dX4_drift_7 T
  · refine V_if_ne_t K 8 dX4_drift_4 (by decide) c1 ?_
    refine V_aload_n K 0 dX4_drift_8 rfl ?_
    refine V_aload_n K 0 dX4_drift_9 rfl ?_
    refine gf_X4_40 K ho dX4_drift_10 ?_
    refine V_ic (v := 1) K dX4_drift_13 rfl ?_
    obtain ⟨v2, q10, E⟩ := ob_inv E
    have T9 : VV x 40 [(0, .ref (ad x o))] [.int v2, .ref (ad x o)] h := by
      obtain ⟨h4, e5, E⟩ := lt_inv E
      refine pf_X4_31 K ho dX4_drift_40 ?_
      refine V_hp e5 ?_
      refine V_aload_n K 0 dX4_drift_43 rfl ?_
      refine V_aload_n K 0 dX4_drift_44 rfl ?_
      refine gf_X4_34 K ho dX4_drift_45 ?_
      refine V_aload_n K 0 dX4_drift_48 rfl ?_
      refine gf_X4_37 K ho dX4_drift_49 ?_
      refine V_iadd K dX4_drift_52 ?_
      refine V_ic (v := 1) K dX4_drift_53 rfl ?_
      refine V_isub K dX4_drift_54 ?_
      refine V_bp (v := 10) K dX4_drift_55 rfl ?_
      obtain ⟨r6, q7, E⟩ := ob_inv E
      refine iv_X4_87 K (c_J9_floorMod_7cf53 _ (((h4.1 o 8) + (h4.1 o 9)) - (1 : Int32)) (10 : Int32) h4 q7) dX4_drift_57 (Nat.le_of_ble_eq_true rfl) ?_
      obtain ⟨h8, e9, E⟩ := lt_inv E
      refine pf_X4_34 K ho dX4_drift_60 ?_
      refine V_hp e9 ?_
      cases E
      exact V_vret K dX4_drift_63 T
    have E := q10
    have T := T9
    rcases if_inv E with ⟨c3, E⟩ | ⟨c3, E⟩
    · refine V_ic_ne_f K 26 dX4_drift_14 (by decide) c3 ?_
      refine V_aload_n K 0 dX4_drift_17 rfl ?_
      refine gf_X4_31 K ho dX4_drift_18 ?_
      refine V_ic (v := 2) K dX4_drift_21 rfl ?_
      refine V_idiv K dX4_drift_22 (by decide) ?_
      refine V_goto K 40 dX4_drift_23 (by decide) ?_
      cases E
      exact V_sub [0] rfl T
    · refine V_ic_ne_t K 26 dX4_drift_14 (by decide) c3 ?_
      refine V_bp (v := 60) K dX4_drift_26 rfl ?_
      refine V_aload_n K 0 dX4_drift_28 rfl ?_
      refine gf_X4_31 K ho dX4_drift_29 ?_
      refine V_aload_n K 0 dX4_drift_32 rfl ?_
      refine gf_X4_25 K ho dX4_drift_33 ?_
      refine V_iadd K dX4_drift_36 ?_
      refine V_min K tb_247 tb_4 tb_5 tb_6 (Nat.le_of_ble_eq_true rfl) dX4_drift_37 ?_
      cases E
      exact V_sub [0] rfl T
theorem c_X4_drift (d : Nat) (o : Nat) (h : Hp) (ho : shK o = 4) {h' : Hp} (E : X4_drift o h = some h') : Runs (d + 1) yX4_drift cX4_drift 1 none (fun f => [.ref (f o)]) h (fun _ => none) h' :=
  Runs.of (by decide +kernel) (fun _ => Nat.le_of_ble_eq_true rfl) (fun x K T => w_X4_drift K  o h ho E T)
def X4_farFromCloud (o : Nat) (a1 : Int32) (h : Hp) : Option Int32 :=
  gd (ib a1 6) (
  lt_ (abI ((h.1 (o + 2) (ix a1)) - (h.1 o 8))) fun v2 =>
  some (mnI v2 ((10 : Int32) - v2)))
set_option maxHeartbeats 4000000 in
set_option maxRecDepth 100000 in
theorem w_X4_farFromCloud {x : Cx} {d : Nat} (K : Ok x cX4_farFromCloud RX4 3 (some .int) (d + 1)) (o : Nat) (a1 : Int32) (h : Hp) (ho : shK o = 4) {z : Int32} (E : X4_farFromCloud o a1 h = some z) (T : x.2.2.2.2 = (some (.int z), h)) : VV x 0 [(0, .ref (ad x o)), (1, .int a1)] [] h := by
  unfold X4_farFromCloud at E
  refine V_aload_n K 0 dX4_farFromCloud_0 rfl ?_
  refine gf_X4_15 K ho dX4_farFromCloud_1 ?_
  refine V_iload_n K 1 dX4_farFromCloud_4 rfl ?_
  obtain ⟨g1, E⟩ := gd_inv E
  refine V_iald K (F2k ho) (F2n ho) g1 dX4_farFromCloud_5 ?_
  refine V_aload_n K 0 dX4_farFromCloud_6 rfl ?_
  refine gf_X4_34 K ho dX4_farFromCloud_7 ?_
  refine V_isub K dX4_farFromCloud_10 ?_
  refine V_abs K tb_251 tb_252 tb_5 tb_253 (Nat.le_of_ble_eq_true rfl) dX4_farFromCloud_11 ?_
  obtain ⟨v2, e3, E⟩ := lt_inv E
  refine V_top e3 ?_
  refine V_istore_n (lv' := [(2, .int v2), (0, .ref (ad x o)), (1, .int a1)]) K dX4_farFromCloud_14 (by decide) rfl ?_
  refine V_iload_n K 0 dX4_farFromCloud_15 rfl ?_
  refine V_bp (v := 10) K dX4_farFromCloud_16 rfl ?_
  refine V_iload_n K 0 dX4_farFromCloud_18 rfl ?_
  refine V_isub K dX4_farFromCloud_19 ?_
  refine V_min K tb_247 tb_4 tb_5 tb_6 (Nat.le_of_ble_eq_true rfl) dX4_farFromCloud_20 ?_
  cases E
  exact V_iret K dX4_farFromCloud_23 rfl T
theorem c_X4_farFromCloud (d : Nat) (o : Nat) (a1 : Int32) (h : Hp) (ho : shK o = 4) {r : Int32} (E : X4_farFromCloud o a1 h = some r) : Runs (d + 1) yX4_farFromCloud cX4_farFromCloud 3 (some .int) (fun f => [.ref (f o), .int a1]) h (fun _ => some (.int r)) h :=
  Runs.of (by decide +kernel) (fun _ => Nat.le_of_ble_eq_true rfl) (fun x K T => w_X4_farFromCloud K  o a1 h ho E T)
def X4_gatherFor (o : Nat) (a1 : Int32) (h : Hp) : Option (Int32 × Hp) :=
  gd (ib a1 6) (
  if (h.1 (o + 2) (ix a1)) = (h.1 o 8) then (lt_ (pv_partOf (X6_ofNumber (h.1 (o + 1) (ix a1))) (h.1 o 7)) fun v3 =>
  if (0 : Int32) < v3 then (lt_ (up h (o + 3) (ix a1) (mnI (30 : Int32) ((h.1 (o + 3) (ix a1)) + v3))) fun h6 =>
  lt_ (up h6 o 7 (mnI (60 : Int32) (((h6.1 o 7) - v3) + (pv_breath (X6_ofNumber (h.1 (o + 1) (ix a1))))))) fun h8 =>
  some ((1 : Int32), h8))
  else (some ((0 : Int32), h)))
  else (some ((0 : Int32), h)))
set_option maxHeartbeats 4000000 in
set_option maxRecDepth 100000 in
theorem w_X4_gatherFor {x : Cx} {d : Nat} (K : Ok x cX4_gatherFor RX4 4 (some .boolean) (d + 3)) (o : Nat) (a1 : Int32) (h : Hp) (ho : shK o = 4) {z : Int32 × Hp} (E : X4_gatherFor o a1 h = some z) (T : x.2.2.2.2 = (some (.int (z.1)), z.2)) : VV x 0 [(0, .ref (ad x o)), (1, .int a1)] [] h := by
  unfold X4_gatherFor at E
  refine V_aload_n K 0 dX4_gatherFor_0 rfl ?_
  refine gf_X4_15 K ho dX4_gatherFor_1 ?_
  refine V_iload_n K 1 dX4_gatherFor_4 rfl ?_
  obtain ⟨g1, E⟩ := gd_inv E
  refine V_iald K (F2k ho) (F2n ho) g1 dX4_gatherFor_5 ?_
  refine V_aload_n K 0 dX4_gatherFor_6 rfl ?_
  refine gf_X4_34 K ho dX4_gatherFor_7 ?_
  rcases if_inv E with ⟨c2, E⟩ | ⟨c2, E⟩
  · refine V_ic_eq_t K 15 dX4_gatherFor_10 (by decide) c2 ?_
    refine V_aload_n K 0 dX4_gatherFor_15 rfl ?_
    refine gf_X4_46 K ho dX4_gatherFor_16 ?_
    refine V_aload_n K 0 dX4_gatherFor_19 rfl ?_
    refine gf_X4_9 K ho dX4_gatherFor_20 ?_
    refine V_iload_n K 1 dX4_gatherFor_23 rfl ?_
    refine V_iald K (F1k ho) (F1n ho) g1 dX4_gatherFor_24 ?_
    refine iv_X4_50 K (c_X6_ofNumber _ (h.1 (o + 1) (ix a1)) h) dX4_gatherFor_25 (Nat.le_of_ble_eq_true rfl) ?_
    refine V_astore_n (lv' := [(2, .ref (ad x (X6_ofNumber (h.1 (o + 1) (ix a1))))), (0, .ref (ad x o)), (1, .int a1)]) K dX4_gatherFor_28 (by decide) rfl ?_
    refine V_aload_n K 0 dX4_gatherFor_29 rfl ?_
    refine V_aload_n K 1 dX4_gatherFor_30 rfl ?_
    refine gf_X4_31 K ho dX4_gatherFor_31 ?_
    refine V_pv_partOf K tb_273 (isP_X6_ofNumber (h.1 (o + 1) (ix a1))) dX4_gatherFor_34 (Nat.le_of_ble_eq_true rfl) ?_
    obtain ⟨v3, e4, E⟩ := lt_inv E
    refine V_top e4 ?_
    refine V_istore_n (lv' := [(3, .int v3), (2, .ref (ad x (X6_ofNumber (h.1 (o + 1) (ix a1))))), (0, .ref (ad x o)), (1, .int a1)]) K dX4_gatherFor_37 (by decide) rfl ?_
    refine V_iload_n K 0 dX4_gatherFor_38 rfl ?_
    rcases if_inv E with ⟨c5, E⟩ | ⟨c5, E⟩
    · refine V_if_gt_t K 44 dX4_gatherFor_39 (by decide) c5 ?_
      refine V_aload_n K 2 dX4_gatherFor_44 rfl ?_
      refine gf_X4_18 K ho dX4_gatherFor_45 ?_
      refine V_iload_n K 3 dX4_gatherFor_48 rfl ?_
      refine V_bp (v := 30) K dX4_gatherFor_49 rfl ?_
      refine V_aload_n K 2 dX4_gatherFor_51 rfl ?_
      refine gf_X4_18 K ho dX4_gatherFor_52 ?_
      refine V_iload_n K 3 dX4_gatherFor_55 rfl ?_
      refine V_iald K (F3k ho) (F3n ho) g1 dX4_gatherFor_56 ?_
      refine V_iload_n K 0 dX4_gatherFor_57 rfl ?_
      refine V_iadd K dX4_gatherFor_58 ?_
      refine V_min K tb_247 tb_4 tb_5 tb_6 (Nat.le_of_ble_eq_true rfl) dX4_gatherFor_59 ?_
      obtain ⟨h6, e7, E⟩ := lt_inv E
      refine V_iast K (F3k ho) (F3n ho) g1 dX4_gatherFor_62 ?_
      refine V_hp e7 ?_
      refine V_aload_n K 2 dX4_gatherFor_63 rfl ?_
      refine V_bp (v := 60) K dX4_gatherFor_64 rfl ?_
      refine V_aload_n K 2 dX4_gatherFor_66 rfl ?_
      refine gf_X4_31 K ho dX4_gatherFor_67 ?_
      refine V_iload_n K 0 dX4_gatherFor_70 rfl ?_
      refine V_isub K dX4_gatherFor_71 ?_
      refine V_aload_n K 1 dX4_gatherFor_72 rfl ?_
      refine V_pv_breath K tb_274 (isP_X6_ofNumber (h.1 (o + 1) (ix a1))) dX4_gatherFor_73 (Nat.le_of_ble_eq_true rfl) ?_
      refine V_iadd K dX4_gatherFor_76 ?_
      refine V_min K tb_247 tb_4 tb_5 tb_6 (Nat.le_of_ble_eq_true rfl) dX4_gatherFor_77 ?_
      obtain ⟨h8, e9, E⟩ := lt_inv E
      refine pf_X4_31 K ho dX4_gatherFor_80 ?_
      refine V_hp e9 ?_
      refine V_ic (v := 1) K dX4_gatherFor_83 rfl ?_
      cases E
      exact V_iret K dX4_gatherFor_84 rfl T
    · refine V_if_gt_f K 44 dX4_gatherFor_39 (by decide) c5 ?_
      refine V_ic (v := 0) K dX4_gatherFor_42 rfl ?_
      cases E
      exact V_iret K dX4_gatherFor_43 rfl T
  · refine V_ic_eq_f K 15 dX4_gatherFor_10 (by decide) c2 ?_
    refine V_ic (v := 0) K dX4_gatherFor_13 rfl ?_
    cases E
    exact V_iret K dX4_gatherFor_14 rfl T
theorem c_X4_gatherFor (d : Nat) (o : Nat) (a1 : Int32) (h : Hp) (ho : shK o = 4) {r : Int32} {h' : Hp} (E : X4_gatherFor o a1 h = some (r, h')) : Runs (d + 3) yX4_gatherFor cX4_gatherFor 4 (some .boolean) (fun f => [.ref (f o), .int a1]) h (fun _ => some (.int r)) h' :=
  Runs.of (by decide +kernel) (fun _ => Nat.le_of_ble_eq_true rfl) (fun x K T => w_X4_gatherFor K  o a1 h ho E T)
def X4_inAll_s4 (o : Nat) (h : Hp) (y1 : Int32) (y2 : Int32) : Option ((Int32 × Int32) ⊕ (Int32 × Int32)) :=
  if (h.1 o 6) ≤ y2 then (some (.inl (y1, y2)))
  else (gd (ib y2 6) (
  lt_ (y1 + (h.1 (o + 3) (ix y2))) fun v3 =>
  lt_ (y2 + (1 : Int32)) fun v5 =>
  some (.inr (v3, v5))))
set_option maxHeartbeats 4000000 in
set_option maxRecDepth 100000 in
theorem wl_X4_inAll_s4 {x : Cx} {d : Nat} (K : Ok x cX4_inAll RX4 3 (some .int) (d + 0)) (o : Nat) (h : Hp) (ho : shK o = 4) : ∀ (n : Nat) (s : Int32 × Int32) (r : (Int32 × Int32)), lp (fun s : Int32 × Int32 => X4_inAll_s4 o h s.1 s.2) n s = some r → (fun r : (Int32 × Int32) => VV x 27 [(0, .ref (ad x o)), (1, .int (r.1)), (2, .int (r.2))] [] h) r → (fun s : Int32 × Int32 => VV x 4 [(0, .ref (ad x o)), (1, .int (s.1)), (2, .int (s.2))] [] h) s := by
  refine lp_walk ?_
  intro s z E T
  obtain ⟨y1, y2⟩ := s
  replace E : X4_inAll_s4 o h y1 y2 = some z := E
  unfold X4_inAll_s4 at E
  show VV x 4 [(0, .ref (ad x o)), (1, .int y1), (2, .int y2)] [] h
  refine V_iload_n K 2 dX4_inAll_4 rfl ?_
  refine V_aload_n K 0 dX4_inAll_5 rfl ?_
  refine gf_X4_28 K ho dX4_inAll_6 ?_
  rcases if_inv E with ⟨c1, E⟩ | ⟨c1, E⟩
  · refine V_ic_ge_t K 27 dX4_inAll_9 (by decide) c1 ?_
    cases E
    exact V_sub [0, 1, 2] rfl T
  · refine V_ic_ge_f K 27 dX4_inAll_9 (by decide) c1 ?_
    refine V_iload_n K 1 dX4_inAll_12 rfl ?_
    refine V_aload_n K 0 dX4_inAll_13 rfl ?_
    refine gf_X4_18 K ho dX4_inAll_14 ?_
    refine V_iload_n K 2 dX4_inAll_17 rfl ?_
    obtain ⟨g2, E⟩ := gd_inv E
    refine V_iald K (F3k ho) (F3n ho) g2 dX4_inAll_18 ?_
    refine V_iadd K dX4_inAll_19 ?_
    obtain ⟨v3, e4, E⟩ := lt_inv E
    refine V_top e4 ?_
    refine V_istore_n (lv' := [(1, .int v3), (0, .ref (ad x o)), (2, .int y2)]) K dX4_inAll_20 (by decide) rfl ?_
    obtain ⟨v5, e6, E⟩ := lt_inv E
    refine V_iinc (lv' := [(2, .int v5), (1, .int v3), (0, .ref (ad x o))]) K 2 dX4_inAll_21 rfl (by rw [e6]; rfl) (by decide) rfl ?_
    refine V_goto K 4 dX4_inAll_24 (by decide) ?_
    cases E
    exact V_sub [2, 1, 0] rfl T
def X4_inAll (o : Nat) (h : Hp) : Option Int32 :=
  ob2 (lp (fun s : Int32 × Int32 => X4_inAll_s4 o h s.1 s.2) FU ((0 : Int32), (0 : Int32))) fun v7 v8 =>
  some v7
set_option maxHeartbeats 4000000 in
set_option maxRecDepth 100000 in
theorem w_X4_inAll {x : Cx} {d : Nat} (K : Ok x cX4_inAll RX4 3 (some .int) (d + 0)) (o : Nat) (h : Hp) (ho : shK o = 4) {z : Int32} (E : X4_inAll o h = some z) (T : x.2.2.2.2 = (some (.int z), h)) : VV x 0 [(0, .ref (ad x o))] [] h := by
  unfold X4_inAll at E
  refine V_ic (v := 0) K dX4_inAll_0 rfl ?_
  refine V_istore_n (lv' := [(1, .int (0 : Int32)), (0, .ref (ad x o))]) K dX4_inAll_1 (by decide) rfl ?_
  refine V_ic (v := 0) K dX4_inAll_2 rfl ?_
  refine V_istore_n (lv' := [(2, .int (0 : Int32)), (1, .int (0 : Int32)), (0, .ref (ad x o))]) K dX4_inAll_3 (by decide) rfl ?_
  obtain ⟨v7, v8, q9, E⟩ := ob2_inv E
  refine V_sub [2, 1, 0] rfl (wl_X4_inAll_s4 K o h ho _ _ _ q9 ?_)
  show VV x 27 [(0, .ref (ad x o)), (1, .int v7), (2, .int v8)] [] h
  refine V_iload_n K 1 dX4_inAll_27 rfl ?_
  cases E
  exact V_iret K dX4_inAll_28 rfl T
theorem c_X4_inAll (d : Nat) (o : Nat) (h : Hp) (ho : shK o = 4) {r : Int32} (E : X4_inAll o h = some r) : Runs (d + 0) yX4_inAll cX4_inAll 3 (some .int) (fun f => [.ref (f o)]) h (fun _ => some (.int r)) h :=
  Runs.of (by decide +kernel) (fun _ => Nat.le_of_ble_eq_true rfl) (fun x K T => w_X4_inAll K  o h ho E T)
def X4_inSet_s4 (o : Nat) (x1 : Int32) (h : Hp) (y2 : Int32) (y3 : Int32) : Option ((Int32 × Int32) ⊕ (Int32 × Int32)) :=
  if (h.1 o 6) ≤ y3 then (some (.inl (y2, y3)))
  else (ob (if ((x1 >>> (y3 &&& 31)) &&& (1 : Int32)) = (1 : Int32) then (gd (ib y3 6) (
  lt_ (y2 + (h.1 (o + 3) (ix y3))) fun v5 =>
  some v5))
  else (some y2)) fun v2 =>
  lt_ (y3 + (1 : Int32)) fun v7 =>
  some (.inr (v2, v7)))
set_option maxHeartbeats 4000000 in
set_option maxRecDepth 100000 in
theorem wl_X4_inSet_s4 {x : Cx} {d : Nat} (K : Ok x cX4_inSet RX4 4 (some .int) (d + 0)) (o : Nat) (x1 : Int32) (h : Hp) (ho : shK o = 4) : ∀ (n : Nat) (s : Int32 × Int32) (r : (Int32 × Int32)), lp (fun s : Int32 × Int32 => X4_inSet_s4 o x1 h s.1 s.2) n s = some r → (fun r : (Int32 × Int32) => VV x 36 [(0, .ref (ad x o)), (1, .int x1), (2, .int (r.1)), (3, .int (r.2))] [] h) r → (fun s : Int32 × Int32 => VV x 4 [(0, .ref (ad x o)), (1, .int x1), (2, .int (s.1)), (3, .int (s.2))] [] h) s := by
  refine lp_walk ?_
  intro s z E T
  obtain ⟨y2, y3⟩ := s
  replace E : X4_inSet_s4 o x1 h y2 y3 = some z := E
  unfold X4_inSet_s4 at E
  show VV x 4 [(0, .ref (ad x o)), (1, .int x1), (2, .int y2), (3, .int y3)] [] h
  refine V_iload_n K 3 dX4_inSet_4 rfl ?_
  refine V_aload_n K 0 dX4_inSet_5 rfl ?_
  refine gf_X4_28 K ho dX4_inSet_6 ?_
  rcases if_inv E with ⟨c1, E⟩ | ⟨c1, E⟩
  · refine V_ic_ge_t K 36 dX4_inSet_9 (by decide) c1 ?_
    cases E
    exact V_sub [0, 1, 2, 3] rfl T
  · refine V_ic_ge_f K 36 dX4_inSet_9 (by decide) c1 ?_
    refine V_iload_n K 1 dX4_inSet_12 rfl ?_
    refine V_iload_n K 3 dX4_inSet_13 rfl ?_
    refine V_ishr K dX4_inSet_14 ?_
    refine V_ic (v := 1) K dX4_inSet_15 rfl ?_
    refine V_iand K dX4_inSet_16 ?_
    refine V_ic (v := 1) K dX4_inSet_17 rfl ?_
    obtain ⟨v2, q9, E⟩ := ob_inv E
    have T9 : VV x 30 [(0, .ref (ad x o)), (1, .int x1), (2, .int v2), (3, .int y3)] [] h := by
      obtain ⟨v7, e8, E⟩ := lt_inv E
      refine V_iinc (lv' := [(3, .int v7), (0, .ref (ad x o)), (1, .int x1), (2, .int v2)]) K 3 dX4_inSet_30 rfl (by rw [e8]; rfl) (by decide) rfl ?_
      refine V_goto K 4 dX4_inSet_33 (by decide) ?_
      cases E
      exact V_sub [1, 2, 3, 0] rfl T
    have E := q9
    have T := T9
    rcases if_inv E with ⟨c3, E⟩ | ⟨c3, E⟩
    · refine V_ic_ne_f K 30 dX4_inSet_18 (by decide) c3 ?_
      refine V_iload_n K 2 dX4_inSet_21 rfl ?_
      refine V_aload_n K 0 dX4_inSet_22 rfl ?_
      refine gf_X4_18 K ho dX4_inSet_23 ?_
      refine V_iload_n K 3 dX4_inSet_26 rfl ?_
      obtain ⟨g4, E⟩ := gd_inv E
      refine V_iald K (F3k ho) (F3n ho) g4 dX4_inSet_27 ?_
      refine V_iadd K dX4_inSet_28 ?_
      obtain ⟨v5, e6, E⟩ := lt_inv E
      refine V_top e6 ?_
      refine V_istore_n (lv' := [(2, .int v5), (0, .ref (ad x o)), (1, .int x1), (3, .int y3)]) K dX4_inSet_29 (by decide) rfl ?_
      cases E
      exact V_sub [1, 2, 0, 3] rfl T
    · refine V_ic_ne_t K 30 dX4_inSet_18 (by decide) c3 ?_
      cases E
      exact V_sub [0, 1, 2, 3] rfl T
def X4_inSet (o : Nat) (a1 : Int32) (h : Hp) : Option Int32 :=
  ob2 (lp (fun s : Int32 × Int32 => X4_inSet_s4 o a1 h s.1 s.2) FU ((0 : Int32), (0 : Int32))) fun v10 v11 =>
  some v10
set_option maxHeartbeats 4000000 in
set_option maxRecDepth 100000 in
theorem w_X4_inSet {x : Cx} {d : Nat} (K : Ok x cX4_inSet RX4 4 (some .int) (d + 0)) (o : Nat) (a1 : Int32) (h : Hp) (ho : shK o = 4) {z : Int32} (E : X4_inSet o a1 h = some z) (T : x.2.2.2.2 = (some (.int z), h)) : VV x 0 [(0, .ref (ad x o)), (1, .int a1)] [] h := by
  unfold X4_inSet at E
  refine V_ic (v := 0) K dX4_inSet_0 rfl ?_
  refine V_istore_n (lv' := [(2, .int (0 : Int32)), (0, .ref (ad x o)), (1, .int a1)]) K dX4_inSet_1 (by decide) rfl ?_
  refine V_ic (v := 0) K dX4_inSet_2 rfl ?_
  refine V_istore_n (lv' := [(3, .int (0 : Int32)), (2, .int (0 : Int32)), (0, .ref (ad x o)), (1, .int a1)]) K dX4_inSet_3 (by decide) rfl ?_
  obtain ⟨v10, v11, q12, E⟩ := ob2_inv E
  refine V_sub [2, 3, 1, 0] rfl (wl_X4_inSet_s4 K o a1 h ho _ _ _ q12 ?_)
  show VV x 36 [(0, .ref (ad x o)), (1, .int a1), (2, .int v10), (3, .int v11)] [] h
  refine V_iload_n K 2 dX4_inSet_36 rfl ?_
  cases E
  exact V_iret K dX4_inSet_37 rfl T
theorem c_X4_inSet (d : Nat) (o : Nat) (a1 : Int32) (h : Hp) (ho : shK o = 4) {r : Int32} (E : X4_inSet o a1 h = some r) : Runs (d + 0) yX4_inSet cX4_inSet 4 (some .int) (fun f => [.ref (f o), .int a1]) h (fun _ => some (.int r)) h :=
  Runs.of (by decide +kernel) (fun _ => Nat.le_of_ble_eq_true rfl) (fun x K T => w_X4_inSet K  o a1 h ho E T)
def X4_isOne (o : Nat) (a1 : Int32) (h : Hp) : Int32 :=
  if a1 < (0 : Int32) then ((0 : Int32))
  else (if (h.1 o 6) ≤ a1 then ((0 : Int32))
  else ((1 : Int32)))
set_option maxHeartbeats 4000000 in
set_option maxRecDepth 100000 in
theorem w_X4_isOne {x : Cx} {d : Nat} (K : Ok x cX4_isOne RX4 2 (some .boolean) (d + 0)) (o : Nat) (a1 : Int32) (h : Hp) (ho : shK o = 4) {z : Int32} (E : X4_isOne o a1 h = z) (T : x.2.2.2.2 = (some (.int z), h)) : VV x 0 [(0, .ref (ad x o)), (1, .int a1)] [] h := by
  unfold X4_isOne at E
  refine V_iload_n K 1 dX4_isOne_0 rfl ?_
  rcases if_inv E with ⟨c1, E⟩ | ⟨c1, E⟩
  · refine V_if_lt_t K 16 dX4_isOne_1 (by decide) c1 ?_
    refine V_ic (v := 0) K dX4_isOne_16 rfl ?_
    cases E
    exact V_iret K dX4_isOne_17 rfl T
  · refine V_if_lt_f K 16 dX4_isOne_1 (by decide) c1 ?_
    refine V_iload_n K 1 dX4_isOne_4 rfl ?_
    refine V_aload_n K 0 dX4_isOne_5 rfl ?_
    refine gf_X4_28 K ho dX4_isOne_6 ?_
    rcases if_inv E with ⟨c2, E⟩ | ⟨c2, E⟩
    · refine V_ic_ge_t K 16 dX4_isOne_9 (by decide) c2 ?_
      refine V_ic (v := 0) K dX4_isOne_16 rfl ?_
      cases E
      exact V_iret K dX4_isOne_17 rfl T
    · refine V_ic_ge_f K 16 dX4_isOne_9 (by decide) c2 ?_
      refine V_ic (v := 1) K dX4_isOne_12 rfl ?_
      refine V_goto K 17 dX4_isOne_13 (by decide) ?_
      cases E
      exact V_iret K dX4_isOne_17 rfl T
theorem c_X4_isOne (d : Nat) (o : Nat) (a1 : Int32) (h : Hp) (ho : shK o = 4) : Runs (d + 0) yX4_isOne cX4_isOne 2 (some .boolean) (fun f => [.ref (f o), .int a1]) h (fun _ => some (.int (X4_isOne o a1 h))) h :=
  Runs.of (by decide +kernel) (fun _ => Nat.le_of_ble_eq_true rfl) (fun x K T => w_X4_isOne K  o a1 h ho rfl T)
theorem bz_X4_isOne (o : Nat) (a1 : Int32) (h : Hp) : narrow .boolean (.int (X4_isOne o a1 h)) = .int (X4_isOne o a1 h) := by
  unfold X4_isOne
  repeat' split
  all_goals first | rfl | exact bz_X10_in _ _ _
def X4_join (o : Nat) (a1 : Int32) (a2 : Int32) (a3 : Int32) (h : Hp) : Option Hp :=
  if (h.1 o 6) < (6 : Int32) then (gd (ib (h.1 o 6) 6) (
  lt_ (up h (o + 1) (ix (h.1 o 6)) a1) fun h3 =>
  gd (ib (h3.1 o 6) 6) (
  lt_ (up h3 (o + 2) (ix (h3.1 o 6)) a2) fun h6 =>
  gd (ib (h6.1 o 6) 6) (
  lt_ (up h6 (o + 3) (ix (h6.1 o 6)) a3) fun h9 =>
  lt_ (up h9 o 6 ((h9.1 o 6) + (1 : Int32))) fun h11 =>
  some h11))))
  else (some h)
set_option maxHeartbeats 4000000 in
set_option maxRecDepth 100000 in
theorem w_X4_join {x : Cx} {d : Nat} (K : Ok x cX4_join RX4 4 none (d + 0)) (o : Nat) (a1 : Int32) (a2 : Int32) (a3 : Int32) (h : Hp) (ho : shK o = 4) {z : Hp} (E : X4_join o a1 a2 a3 h = some z) (T : x.2.2.2.2 = (none, z)) : VV x 0 [(0, .ref (ad x o)), (1, .int a1), (2, .int a2), (3, .int a3)] [] h := by
  unfold X4_join at E
  refine V_aload_n K 0 dX4_join_0 rfl ?_
  refine gf_X4_28 K ho dX4_join_1 ?_
  refine V_bp (v := 6) K dX4_join_4 rfl ?_
  rcases if_inv E with ⟨c1, E⟩ | ⟨c1, E⟩
  · refine V_ic_lt_t K 10 dX4_join_6 (by decide) c1 ?_
    refine V_aload_n K 0 dX4_join_10 rfl ?_
    refine gf_X4_9 K ho dX4_join_11 ?_
    refine V_aload_n K 0 dX4_join_14 rfl ?_
    refine gf_X4_28 K ho dX4_join_15 ?_
    refine V_iload_n K 1 dX4_join_18 rfl ?_
    obtain ⟨g2, E⟩ := gd_inv E
    obtain ⟨h3, e4, E⟩ := lt_inv E
    refine V_iast K (F1k ho) (F1n ho) g2 dX4_join_19 ?_
    refine V_hp e4 ?_
    refine V_aload_n K 0 dX4_join_20 rfl ?_
    refine gf_X4_15 K ho dX4_join_21 ?_
    refine V_aload_n K 0 dX4_join_24 rfl ?_
    refine gf_X4_28 K ho dX4_join_25 ?_
    refine V_iload_n K 2 dX4_join_28 rfl ?_
    obtain ⟨g5, E⟩ := gd_inv E
    obtain ⟨h6, e7, E⟩ := lt_inv E
    refine V_iast K (F2k ho) (F2n ho) g5 dX4_join_29 ?_
    refine V_hp e7 ?_
    refine V_aload_n K 0 dX4_join_30 rfl ?_
    refine gf_X4_18 K ho dX4_join_31 ?_
    refine V_aload_n K 0 dX4_join_34 rfl ?_
    refine gf_X4_28 K ho dX4_join_35 ?_
    refine V_iload_n K 3 dX4_join_38 rfl ?_
    obtain ⟨g8, E⟩ := gd_inv E
    obtain ⟨h9, e10, E⟩ := lt_inv E
    refine V_iast K (F3k ho) (F3n ho) g8 dX4_join_39 ?_
    refine V_hp e10 ?_
    refine V_aload_n K 0 dX4_join_40 rfl ?_
    refine V_dup K dX4_join_41 rfl ?_
    refine gf_X4_28 K ho dX4_join_42 ?_
    refine V_ic (v := 1) K dX4_join_45 rfl ?_
    refine V_iadd K dX4_join_46 ?_
    obtain ⟨h11, e12, E⟩ := lt_inv E
    refine pf_X4_28 K ho dX4_join_47 ?_
    refine V_hp e12 ?_
    cases E
    exact V_vret K dX4_join_50 T
  · refine V_ic_lt_f K 10 dX4_join_6 (by decide) c1 ?_
    cases E
    exact V_vret K dX4_join_9 T
theorem c_X4_join (d : Nat) (o : Nat) (a1 : Int32) (a2 : Int32) (a3 : Int32) (h : Hp) (ho : shK o = 4) {h' : Hp} (E : X4_join o a1 a2 a3 h = some h') : Runs (d + 0) yX4_join cX4_join 4 none (fun f => [.ref (f o), .int a1, .int a2, .int a3]) h (fun _ => none) h' :=
  Runs.of (by decide +kernel) (fun _ => Nat.le_of_ble_eq_true rfl) (fun x K T => w_X4_join K  o a1 a2 a3 h ho E T)
def X4_personOf (o : Nat) (a1 : Int32) (h : Hp) : Option Nat :=
  gd (ib a1 6) (
  some (X6_ofNumber (h.1 (o + 1) (ix a1))))
set_option maxHeartbeats 4000000 in
set_option maxRecDepth 100000 in
theorem w_X4_personOf {x : Cx} {d : Nat} (K : Ok x cX4_personOf RX4 2 (some (.object "FlossRumours$Person")) (d + 1)) (o : Nat) (a1 : Int32) (h : Hp) (ho : shK o = 4) {z : Nat} (E : X4_personOf o a1 h = some z) (T : x.2.2.2.2 = (some (.ref (ad x z)), h)) : VV x 0 [(0, .ref (ad x o)), (1, .int a1)] [] h := by
  unfold X4_personOf at E
  refine V_aload_n K 0 dX4_personOf_0 rfl ?_
  refine gf_X4_46 K ho dX4_personOf_1 ?_
  refine V_aload_n K 0 dX4_personOf_4 rfl ?_
  refine gf_X4_9 K ho dX4_personOf_5 ?_
  refine V_iload_n K 1 dX4_personOf_8 rfl ?_
  obtain ⟨g1, E⟩ := gd_inv E
  refine V_iald K (F1k ho) (F1n ho) g1 dX4_personOf_9 ?_
  refine iv_X4_50 K (c_X6_ofNumber _ (h.1 (o + 1) (ix a1)) h) dX4_personOf_10 (Nat.le_of_ble_eq_true rfl) ?_
  cases E
  exact V_aret K dX4_personOf_13 T
theorem c_X4_personOf (d : Nat) (o : Nat) (a1 : Int32) (h : Hp) (ho : shK o = 4) {r : Nat} (E : X4_personOf o a1 h = some r) : Runs (d + 1) yX4_personOf cX4_personOf 2 (some (.object "FlossRumours$Person")) (fun f => [.ref (f o), .int a1]) h (fun f => some (.ref (f r))) h :=
  Runs.of (by decide +kernel) (fun _ => Nat.le_of_ble_eq_true rfl) (fun x K T => w_X4_personOf K  o a1 h ho E T)
def X4_loseInRain_s2 (o : Nat) (y1 : Int32) (h : Hp) : Option ((Int32 × Hp) ⊕ (Int32 × Hp)) :=
  if (h.1 o 6) ≤ y1 then (some (.inl (y1, h)))
  else (ob (X4_personOf o y1 h) fun r2 =>
  gd (pB r2) (
  gd (ib y1 6) (
  lt_ (up h (o + 3) (ix y1) (pv_leftByRain r2 (h.1 (o + 3) (ix y1)))) fun h6 =>
  lt_ (y1 + (1 : Int32)) fun v8 =>
  some (.inr (v8, h6)))))
set_option maxHeartbeats 4000000 in
set_option maxRecDepth 100000 in
theorem wl_X4_loseInRain_s2 {x : Cx} {d : Nat} (K : Ok x cX4_loseInRain RX4 2 none (d + 3)) (o : Nat) (ho : shK o = 4) : ∀ (n : Nat) (s : Int32 × Hp) (r : (Int32 × Hp)), lp (fun s : Int32 × Hp => X4_loseInRain_s2 o s.1 s.2) n s = some r → (fun r : (Int32 × Hp) => VV x 36 [(0, .ref (ad x o)), (1, .int (r.1))] [] r.2) r → (fun s : Int32 × Hp => VV x 2 [(0, .ref (ad x o)), (1, .int (s.1))] [] s.2) s := by
  refine lp_walk ?_
  intro s z E T
  obtain ⟨y1, h⟩ := s
  replace E : X4_loseInRain_s2 o y1 h = some z := E
  unfold X4_loseInRain_s2 at E
  show VV x 2 [(0, .ref (ad x o)), (1, .int y1)] [] h
  refine V_iload_n K 1 dX4_loseInRain_2 rfl ?_
  refine V_aload_n K 0 dX4_loseInRain_3 rfl ?_
  refine gf_X4_28 K ho dX4_loseInRain_4 ?_
  rcases if_inv E with ⟨c1, E⟩ | ⟨c1, E⟩
  · refine V_ic_ge_t K 36 dX4_loseInRain_7 (by decide) c1 ?_
    cases E
    exact V_sub [0, 1] rfl T
  · refine V_ic_ge_f K 36 dX4_loseInRain_7 (by decide) c1 ?_
    refine V_aload_n K 0 dX4_loseInRain_10 rfl ?_
    refine gf_X4_18 K ho dX4_loseInRain_11 ?_
    refine V_iload_n K 1 dX4_loseInRain_14 rfl ?_
    refine V_aload_n K 0 dX4_loseInRain_15 rfl ?_
    refine V_iload_n K 1 dX4_loseInRain_16 rfl ?_
    obtain ⟨r2, q3, E⟩ := ob_inv E
    refine iv_X4_56 K ho (c_X4_personOf _ o y1 h ho q3) dX4_loseInRain_17 (Nat.le_of_ble_eq_true rfl) ?_
    obtain ⟨g4, E⟩ := gd_inv E
    refine V_aload_n K 0 dX4_loseInRain_20 rfl ?_
    refine gf_X4_18 K ho dX4_loseInRain_21 ?_
    refine V_iload_n K 1 dX4_loseInRain_24 rfl ?_
    obtain ⟨g5, E⟩ := gd_inv E
    refine V_iald K (F3k ho) (F3n ho) g5 dX4_loseInRain_25 ?_
    refine V_pv_leftByRain K tb_280 (pB_P g4) dX4_loseInRain_26 (Nat.le_of_ble_eq_true rfl) ?_
    obtain ⟨h6, e7, E⟩ := lt_inv E
    refine V_iast K (F3k ho) (F3n ho) g5 dX4_loseInRain_29 ?_
    refine V_hp e7 ?_
    obtain ⟨v8, e9, E⟩ := lt_inv E
    refine V_iinc (lv' := [(1, .int v8), (0, .ref (ad x o))]) K 1 dX4_loseInRain_30 rfl (by rw [e9]; rfl) (by decide) rfl ?_
    refine V_goto K 2 dX4_loseInRain_33 (by decide) ?_
    cases E
    exact V_sub [1, 0] rfl T
def X4_loseInRain (o : Nat) (h : Hp) : Option Hp :=
  ob2 (lp (fun s : Int32 × Hp => X4_loseInRain_s2 o s.1 s.2) FU ((0 : Int32), h)) fun v10 h11 =>
  some h11
set_option maxHeartbeats 4000000 in
set_option maxRecDepth 100000 in
theorem w_X4_loseInRain {x : Cx} {d : Nat} (K : Ok x cX4_loseInRain RX4 2 none (d + 3)) (o : Nat) (h : Hp) (ho : shK o = 4) {z : Hp} (E : X4_loseInRain o h = some z) (T : x.2.2.2.2 = (none, z)) : VV x 0 [(0, .ref (ad x o))] [] h := by
  unfold X4_loseInRain at E
  refine V_ic (v := 0) K dX4_loseInRain_0 rfl ?_
  refine V_istore_n (lv' := [(1, .int (0 : Int32)), (0, .ref (ad x o))]) K dX4_loseInRain_1 (by decide) rfl ?_
  obtain ⟨v10, h11, q12, E⟩ := ob2_inv E
  refine V_sub [1, 0] rfl (wl_X4_loseInRain_s2 K o ho _ _ _ q12 ?_)
  show VV x 36 [(0, .ref (ad x o)), (1, .int v10)] [] h11
  cases E
  exact V_vret K dX4_loseInRain_36 T
theorem c_X4_loseInRain (d : Nat) (o : Nat) (h : Hp) (ho : shK o = 4) {h' : Hp} (E : X4_loseInRain o h = some h') : Runs (d + 3) yX4_loseInRain cX4_loseInRain 2 none (fun f => [.ref (f o)]) h (fun _ => none) h' :=
  Runs.of (by decide +kernel) (fun _ => Nat.le_of_ble_eq_true rfl) (fun x K T => w_X4_loseInRain K  o h ho E T)
def X4_moveTo (o : Nat) (a1 : Int32) (a2 : Int32) (h : Hp) : Option Hp :=
  if (X4_isOne o a1 h) = (0 : Int32) then (some h)
  else (gd (ib a1 6) (
  lt_ (up h (o + 2) (ix a1) a2) fun h3 =>
  some h3))
set_option maxHeartbeats 4000000 in
set_option maxRecDepth 100000 in
theorem w_X4_moveTo {x : Cx} {d : Nat} (K : Ok x cX4_moveTo RX4 3 none (d + 1)) (o : Nat) (a1 : Int32) (a2 : Int32) (h : Hp) (ho : shK o = 4) {z : Hp} (E : X4_moveTo o a1 a2 h = some z) (T : x.2.2.2.2 = (none, z)) : VV x 0 [(0, .ref (ad x o)), (1, .int a1), (2, .int a2)] [] h := by
  unfold X4_moveTo at E
  refine V_aload_n K 0 dX4_moveTo_0 rfl ?_
  refine V_iload_n K 1 dX4_moveTo_1 rfl ?_
  refine iv_X4_105 K ho (c_X4_isOne _ o a1 h ho) dX4_moveTo_2 (Nat.le_of_ble_eq_true rfl) ?_
  rcases if_inv E with ⟨c1, E⟩ | ⟨c1, E⟩
  · refine V_if_eq_t K 15 dX4_moveTo_5 (by decide) c1 ?_
    cases E
    exact V_vret K dX4_moveTo_15 T
  · refine V_if_eq_f K 15 dX4_moveTo_5 (by decide) c1 ?_
    refine V_aload_n K 0 dX4_moveTo_8 rfl ?_
    refine gf_X4_15 K ho dX4_moveTo_9 ?_
    refine V_iload_n K 1 dX4_moveTo_12 rfl ?_
    refine V_iload_n K 2 dX4_moveTo_13 rfl ?_
    obtain ⟨g2, E⟩ := gd_inv E
    obtain ⟨h3, e4, E⟩ := lt_inv E
    refine V_iast K (F2k ho) (F2n ho) g2 dX4_moveTo_14 ?_
    refine V_hp e4 ?_
    cases E
    exact V_vret K dX4_moveTo_15 T
theorem c_X4_moveTo (d : Nat) (o : Nat) (a1 : Int32) (a2 : Int32) (h : Hp) (ho : shK o = 4) {h' : Hp} (E : X4_moveTo o a1 a2 h = some h') : Runs (d + 1) yX4_moveTo cX4_moveTo 3 none (fun f => [.ref (f o), .int a1, .int a2]) h (fun _ => none) h' :=
  Runs.of (by decide +kernel) (fun _ => Nat.le_of_ble_eq_true rfl) (fun x K T => w_X4_moveTo K  o a1 a2 h ho E T)
def X4_partFor (o : Nat) (a1 : Int32) (a2 : Int32) (h : Hp) : Option Int32 :=
  ob (X4_personOf o a1 h) fun r1 =>
  gd (pB r1) (
  some (pv_partOf r1 a2))
set_option maxHeartbeats 4000000 in
set_option maxRecDepth 100000 in
theorem w_X4_partFor {x : Cx} {d : Nat} (K : Ok x cX4_partFor RX4 3 (some .int) (d + 3)) (o : Nat) (a1 : Int32) (a2 : Int32) (h : Hp) (ho : shK o = 4) {z : Int32} (E : X4_partFor o a1 a2 h = some z) (T : x.2.2.2.2 = (some (.int z), h)) : VV x 0 [(0, .ref (ad x o)), (1, .int a1), (2, .int a2)] [] h := by
  unfold X4_partFor at E
  refine V_aload_n K 0 dX4_partFor_0 rfl ?_
  refine V_iload_n K 1 dX4_partFor_1 rfl ?_
  obtain ⟨r1, q2, E⟩ := ob_inv E
  refine iv_X4_56 K ho (c_X4_personOf _ o a1 h ho q2) dX4_partFor_2 (Nat.le_of_ble_eq_true rfl) ?_
  obtain ⟨g3, E⟩ := gd_inv E
  refine V_iload_n K 2 dX4_partFor_5 rfl ?_
  refine V_pv_partOf K tb_273 (pB_P g3) dX4_partFor_6 (Nat.le_of_ble_eq_true rfl) ?_
  cases E
  exact V_iret K dX4_partFor_9 rfl T
theorem c_X4_partFor (d : Nat) (o : Nat) (a1 : Int32) (a2 : Int32) (h : Hp) (ho : shK o = 4) {r : Int32} (E : X4_partFor o a1 a2 h = some r) : Runs (d + 3) yX4_partFor cX4_partFor 3 (some .int) (fun f => [.ref (f o), .int a1, .int a2]) h (fun _ => some (.int r)) h :=
  Runs.of (by decide +kernel) (fun _ => Nat.le_of_ble_eq_true rfl) (fun x K T => w_X4_partFor K  o a1 a2 h ho E T)
def X4_pass_s8 (o : Nat) (x1 : Int32) (y2 : Int32) (y3 : Int32) (h : Hp) : Option ((Int32 × Int32 × Hp) ⊕ (Int32 × Int32 × Hp)) :=
  if (h.1 o 6) ≤ y3 then (some (.inl (y2, y3, h)))
  else (ob2 (if ((x1 >>> (y3 &&& 31)) &&& (1 : Int32)) = (0 : Int32) then (ob2 (X4_gatherFor o y3 h) fun r9 h8 =>
  if r9 = (0 : Int32) then (some (y2, h8))
  else (lt_ (y2 ||| ((1 : Int32) <<< (y3 &&& 31))) fun v11 =>
  some (v11, h8)))
  else (some (y2, h))) fun v4 h5 =>
  lt_ (y3 + (1 : Int32)) fun v13 =>
  some (.inr (v4, v13, h5)))
set_option maxHeartbeats 4000000 in
set_option maxRecDepth 100000 in
theorem wl_X4_pass_s8 {x : Cx} {d : Nat} (K : Ok x cX4_pass RX4 4 (some .int) (d + 4)) (o : Nat) (x1 : Int32) (ho : shK o = 4) : ∀ (n : Nat) (s : Int32 × Int32 × Hp) (r : (Int32 × Int32 × Hp)), lp (fun s : Int32 × Int32 × Hp => X4_pass_s8 o x1 s.1 s.2.1 s.2.2) n s = some r → (fun r : (Int32 × Int32 × Hp) => VV x 44 [(0, .ref (ad x o)), (1, .int x1), (2, .int (r.1)), (3, .int (r.2.1))] [] r.2.2) r → (fun s : Int32 × Int32 × Hp => VV x 8 [(0, .ref (ad x o)), (1, .int x1), (2, .int (s.1)), (3, .int (s.2.1))] [] s.2.2) s := by
  refine lp_walk ?_
  intro s z E T
  obtain ⟨y2, y3, h⟩ := s
  replace E : X4_pass_s8 o x1 y2 y3 h = some z := E
  unfold X4_pass_s8 at E
  show VV x 8 [(0, .ref (ad x o)), (1, .int x1), (2, .int y2), (3, .int y3)] [] h
  refine V_iload_n K 3 dX4_pass_8 rfl ?_
  refine V_aload_n K 0 dX4_pass_9 rfl ?_
  refine gf_X4_28 K ho dX4_pass_10 ?_
  rcases if_inv E with ⟨c3, E⟩ | ⟨c3, E⟩
  · refine V_ic_ge_t K 44 dX4_pass_13 (by decide) c3 ?_
    cases E
    exact V_sub [0, 1, 2, 3] rfl T
  · refine V_ic_ge_f K 44 dX4_pass_13 (by decide) c3 ?_
    refine V_iload_n K 1 dX4_pass_16 rfl ?_
    refine V_iload_n K 3 dX4_pass_17 rfl ?_
    refine V_ishr K dX4_pass_18 ?_
    refine V_ic (v := 1) K dX4_pass_19 rfl ?_
    refine V_iand K dX4_pass_20 ?_
    obtain ⟨v4, h5, q15, E⟩ := ob2_inv E
    have T9 : VV x 38 [(0, .ref (ad x o)), (1, .int x1), (2, .int v4), (3, .int y3)] [] h5 := by
      obtain ⟨v13, e14, E⟩ := lt_inv E
      refine V_iinc (lv' := [(3, .int v13), (0, .ref (ad x o)), (1, .int x1), (2, .int v4)]) K 3 dX4_pass_38 rfl (by rw [e14]; rfl) (by decide) rfl ?_
      refine V_goto K 8 dX4_pass_41 (by decide) ?_
      cases E
      exact V_sub [1, 2, 3, 0] rfl T
    have E := q15
    have T := T9
    rcases if_inv E with ⟨c6, E⟩ | ⟨c6, E⟩
    · refine V_if_ne_f K 38 dX4_pass_21 (by decide) c6 ?_
      refine V_aload_n K 0 dX4_pass_24 rfl ?_
      refine V_iload_n K 3 dX4_pass_25 rfl ?_
      obtain ⟨r9, h8, q7, E⟩ := ob2_inv E
      refine iv_X4_77 K ho (c_X4_gatherFor _ o y3 h ho q7) dX4_pass_26 (Nat.le_of_ble_eq_true rfl) ?_
      rcases if_inv E with ⟨c10, E⟩ | ⟨c10, E⟩
      · refine V_if_eq_t K 38 dX4_pass_29 (by decide) c10 ?_
        cases E
        exact V_sub [0, 1, 2, 3] rfl T
      · refine V_if_eq_f K 38 dX4_pass_29 (by decide) c10 ?_
        refine V_iload_n K 2 dX4_pass_32 rfl ?_
        refine V_ic (v := 1) K dX4_pass_33 rfl ?_
        refine V_iload_n K 3 dX4_pass_34 rfl ?_
        refine V_ishl K dX4_pass_35 ?_
        refine V_ior K dX4_pass_36 ?_
        obtain ⟨v11, e12, E⟩ := lt_inv E
        refine V_top e12 ?_
        refine V_istore_n (lv' := [(2, .int v11), (0, .ref (ad x o)), (1, .int x1), (3, .int y3)]) K dX4_pass_37 (by decide) rfl ?_
        cases E
        exact V_sub [1, 2, 0, 3] rfl T
    · refine V_if_ne_t K 38 dX4_pass_21 (by decide) c6 ?_
      cases E
      exact V_sub [0, 1, 2, 3] rfl T
def X4_pass (o : Nat) (a1 : Int32) (h : Hp) : Option (Int32 × Hp) :=
  ob (X4_drift o h) fun h2 =>
  ob3 (lp (fun s : Int32 × Int32 × Hp => X4_pass_s8 o a1 s.1 s.2.1 s.2.2) FU ((0 : Int32), (0 : Int32), h2)) fun v16 v17 h18 =>
  ob (if (h18.1 o 10) = (1 : Int32) then (ob (X4_loseInRain o h18) fun h22 =>
  some h22)
  else (some h18)) fun h19 =>
  ob (if (h19.1 o 7) = (0 : Int32) then (lt_ (up h19 o 8 (h19.1 o 4)) fun h25 =>
  some h25)
  else (some h19)) fun h23 =>
  lt_ (up h23 o 11 ((h23.1 o 11) + (1 : Int32))) fun h27 =>
  some (v16, h27)
set_option maxHeartbeats 4000000 in
set_option maxRecDepth 100000 in
theorem w_X4_pass {x : Cx} {d : Nat} (K : Ok x cX4_pass RX4 4 (some .int) (d + 4)) (o : Nat) (a1 : Int32) (h : Hp) (ho : shK o = 4) {z : Int32 × Hp} (E : X4_pass o a1 h = some z) (T : x.2.2.2.2 = (some (.int (z.1)), z.2)) : VV x 0 [(0, .ref (ad x o)), (1, .int a1)] [] h := by
  unfold X4_pass at E
  refine V_aload_n K 0 dX4_pass_0 rfl ?_
  obtain ⟨h2, q1, E⟩ := ob_inv E
  refine iv_X4_74 K ho (c_X4_drift _ o h ho q1) dX4_pass_1 (Nat.le_of_ble_eq_true rfl) ?_
  refine V_ic (v := 0) K dX4_pass_4 rfl ?_
  refine V_istore_n (lv' := [(2, .int (0 : Int32)), (0, .ref (ad x o)), (1, .int a1)]) K dX4_pass_5 (by decide) rfl ?_
  refine V_ic (v := 0) K dX4_pass_6 rfl ?_
  refine V_istore_n (lv' := [(3, .int (0 : Int32)), (2, .int (0 : Int32)), (0, .ref (ad x o)), (1, .int a1)]) K dX4_pass_7 (by decide) rfl ?_
  obtain ⟨v16, v17, h18, q31, E⟩ := ob3_inv E
  refine V_sub [2, 3, 1, 0] rfl (wl_X4_pass_s8 K o a1 ho _ _ _ q31 ?_)
  show VV x 44 [(0, .ref (ad x o)), (1, .int a1), (2, .int v16), (3, .int v17)] [] h18
  refine V_aload_n K 0 dX4_pass_44 rfl ?_
  refine gf_X4_40 K ho dX4_pass_45 ?_
  refine V_ic (v := 1) K dX4_pass_48 rfl ?_
  obtain ⟨h19, q30, E⟩ := ob_inv E
  have T9 : VV x 56 [(0, .ref (ad x o)), (2, .int v16)] [] h19 := by
    refine V_aload_n K 0 dX4_pass_56 rfl ?_
    refine gf_X4_31 K ho dX4_pass_57 ?_
    obtain ⟨h23, q29, E⟩ := ob_inv E
    have T9 : VV x 71 [(0, .ref (ad x o)), (2, .int v16)] [] h23 := by
      refine V_aload_n K 0 dX4_pass_71 rfl ?_
      refine V_dup K dX4_pass_72 rfl ?_
      refine gf_X4_43 K ho dX4_pass_73 ?_
      refine V_ic (v := 1) K dX4_pass_76 rfl ?_
      refine V_iadd K dX4_pass_77 ?_
      obtain ⟨h27, e28, E⟩ := lt_inv E
      refine pf_X4_43 K ho dX4_pass_78 ?_
      refine V_hp e28 ?_
      refine V_iload_n K 1 dX4_pass_81 rfl ?_
      cases E
      exact V_iret K dX4_pass_82 rfl T
    have E := q29
    have T := T9
    rcases if_inv E with ⟨c24, E⟩ | ⟨c24, E⟩
    · refine V_if_ne_f K 71 dX4_pass_60 (by decide) c24 ?_
      refine V_aload_n K 0 dX4_pass_63 rfl ?_
      refine V_aload_n K 0 dX4_pass_64 rfl ?_
      refine gf_X4_21 K ho dX4_pass_65 ?_
      obtain ⟨h25, e26, E⟩ := lt_inv E
      refine pf_X4_34 K ho dX4_pass_68 ?_
      refine V_hp e26 ?_
      cases E
      exact V_sub [0, 1] rfl T
    · refine V_if_ne_t K 71 dX4_pass_60 (by decide) c24 ?_
      cases E
      exact V_sub [0, 1] rfl T
  have E := q30
  have T := T9
  rcases if_inv E with ⟨c20, E⟩ | ⟨c20, E⟩
  · refine V_ic_ne_f K 56 dX4_pass_49 (by decide) c20 ?_
    refine V_aload_n K 0 dX4_pass_52 rfl ?_
    obtain ⟨h22, q21, E⟩ := ob_inv E
    refine iv_X4_81 K ho (c_X4_loseInRain _ o h18 ho q21) dX4_pass_53 (Nat.le_of_ble_eq_true rfl) ?_
    cases E
    exact V_sub [0, 2] rfl T
  · refine V_ic_ne_t K 56 dX4_pass_49 (by decide) c20 ?_
    cases E
    exact V_sub [0, 2] rfl T
theorem c_X4_pass (d : Nat) (o : Nat) (a1 : Int32) (h : Hp) (ho : shK o = 4) {r : Int32} {h' : Hp} (E : X4_pass o a1 h = some (r, h')) : Runs (d + 4) yX4_pass cX4_pass 4 (some .int) (fun f => [.ref (f o), .int a1]) h (fun _ => some (.int r)) h' :=
  Runs.of (by decide +kernel) (fun _ => Nat.le_of_ble_eq_true rfl) (fun x K T => w_X4_pass K  o a1 h ho E T)
def X4_passAll_s2 (o : Nat) (x1 : Int32) (y2 : Int32) (h : Hp) : Option ((Int32 × Hp) ⊕ (Int32 × Hp)) :=
  if x1 ≤ y2 then (some (.inl (y2, h)))
  else (ob2 (X4_pass o (0 : Int32) h) fun r4 h3 =>
  lt_ (y2 + (1 : Int32)) fun v5 =>
  some (.inr (v5, h3)))
set_option maxHeartbeats 4000000 in
set_option maxRecDepth 100000 in
theorem wl_X4_passAll_s2 {x : Cx} {d : Nat} (K : Ok x cX4_passAll RX4 3 none (d + 5)) (o : Nat) (x1 : Int32) (ho : shK o = 4) : ∀ (n : Nat) (s : Int32 × Hp) (r : (Int32 × Hp)), lp (fun s : Int32 × Hp => X4_passAll_s2 o x1 s.1 s.2) n s = some r → (fun r : (Int32 × Hp) => VV x 19 [(0, .ref (ad x o)), (1, .int x1), (2, .int (r.1))] [] r.2) r → (fun s : Int32 × Hp => VV x 2 [(0, .ref (ad x o)), (1, .int x1), (2, .int (s.1))] [] s.2) s := by
  refine lp_walk ?_
  intro s z E T
  obtain ⟨y2, h⟩ := s
  replace E : X4_passAll_s2 o x1 y2 h = some z := E
  unfold X4_passAll_s2 at E
  show VV x 2 [(0, .ref (ad x o)), (1, .int x1), (2, .int y2)] [] h
  refine V_iload_n K 2 dX4_passAll_2 rfl ?_
  refine V_iload_n K 1 dX4_passAll_3 rfl ?_
  rcases if_inv E with ⟨c1, E⟩ | ⟨c1, E⟩
  · refine V_ic_ge_t K 19 dX4_passAll_4 (by decide) c1 ?_
    cases E
    exact V_sub [0, 1, 2] rfl T
  · refine V_ic_ge_f K 19 dX4_passAll_4 (by decide) c1 ?_
    refine V_aload_n K 0 dX4_passAll_7 rfl ?_
    refine V_ic (v := 0) K dX4_passAll_8 rfl ?_
    obtain ⟨r4, h3, q2, E⟩ := ob2_inv E
    refine iv_X4_84 K ho (c_X4_pass _ o (0 : Int32) h ho q2) dX4_passAll_9 (Nat.le_of_ble_eq_true rfl) ?_
    refine V_pop K dX4_passAll_12 rfl ?_
    obtain ⟨v5, e6, E⟩ := lt_inv E
    refine V_iinc (lv' := [(2, .int v5), (0, .ref (ad x o)), (1, .int x1)]) K 2 dX4_passAll_13 rfl (by rw [e6]; rfl) (by decide) rfl ?_
    refine V_goto K 2 dX4_passAll_16 (by decide) ?_
    cases E
    exact V_sub [1, 2, 0] rfl T
def X4_passAll (o : Nat) (a1 : Int32) (h : Hp) : Option Hp :=
  ob2 (lp (fun s : Int32 × Hp => X4_passAll_s2 o a1 s.1 s.2) FU ((0 : Int32), h)) fun v7 h8 =>
  some h8
set_option maxHeartbeats 4000000 in
set_option maxRecDepth 100000 in
theorem w_X4_passAll {x : Cx} {d : Nat} (K : Ok x cX4_passAll RX4 3 none (d + 5)) (o : Nat) (a1 : Int32) (h : Hp) (ho : shK o = 4) {z : Hp} (E : X4_passAll o a1 h = some z) (T : x.2.2.2.2 = (none, z)) : VV x 0 [(0, .ref (ad x o)), (1, .int a1)] [] h := by
  unfold X4_passAll at E
  refine V_ic (v := 0) K dX4_passAll_0 rfl ?_
  refine V_istore_n (lv' := [(2, .int (0 : Int32)), (0, .ref (ad x o)), (1, .int a1)]) K dX4_passAll_1 (by decide) rfl ?_
  obtain ⟨v7, h8, q9, E⟩ := ob2_inv E
  refine V_sub [1, 2, 0] rfl (wl_X4_passAll_s2 K o a1 ho _ _ _ q9 ?_)
  show VV x 19 [(0, .ref (ad x o)), (1, .int a1), (2, .int v7)] [] h8
  cases E
  exact V_vret K dX4_passAll_19 T
theorem c_X4_passAll (d : Nat) (o : Nat) (a1 : Int32) (h : Hp) (ho : shK o = 4) {h' : Hp} (E : X4_passAll o a1 h = some h') : Runs (d + 5) yX4_passAll cX4_passAll 3 none (fun f => [.ref (f o), .int a1]) h (fun _ => none) h' :=
  Runs.of (by decide +kernel) (fun _ => Nat.le_of_ble_eq_true rfl) (fun x K T => w_X4_passAll K  o a1 h ho E T)
def X4_putIn (o : Nat) (a1 : Int32) (h : Hp) : Option Hp :=
  lt_ (up h o 7 (mnI (60 : Int32) ((h.1 o 7) + a1))) fun h1 =>
  some h1
set_option maxHeartbeats 4000000 in
set_option maxRecDepth 100000 in
theorem w_X4_putIn {x : Cx} {d : Nat} (K : Ok x cX4_putIn RX4 2 none (d + 1)) (o : Nat) (a1 : Int32) (h : Hp) (ho : shK o = 4) {z : Hp} (E : X4_putIn o a1 h = some z) (T : x.2.2.2.2 = (none, z)) : VV x 0 [(0, .ref (ad x o)), (1, .int a1)] [] h := by
  unfold X4_putIn at E
  refine V_aload_n K 0 dX4_putIn_0 rfl ?_
  refine V_bp (v := 60) K dX4_putIn_1 rfl ?_
  refine V_aload_n K 0 dX4_putIn_3 rfl ?_
  refine gf_X4_31 K ho dX4_putIn_4 ?_
  refine V_iload_n K 1 dX4_putIn_7 rfl ?_
  refine V_iadd K dX4_putIn_8 ?_
  refine V_min K tb_247 tb_4 tb_5 tb_6 (Nat.le_of_ble_eq_true rfl) dX4_putIn_9 ?_
  obtain ⟨h1, e2, E⟩ := lt_inv E
  refine pf_X4_31 K ho dX4_putIn_12 ?_
  refine V_hp e2 ?_
  cases E
  exact V_vret K dX4_putIn_15 T
theorem c_X4_putIn (d : Nat) (o : Nat) (a1 : Int32) (h : Hp) (ho : shK o = 4) {h' : Hp} (E : X4_putIn o a1 h = some h') : Runs (d + 1) yX4_putIn cX4_putIn 2 none (fun f => [.ref (f o), .int a1]) h (fun _ => none) h' :=
  Runs.of (by decide +kernel) (fun _ => Nat.le_of_ble_eq_true rfl) (fun x K T => w_X4_putIn K  o a1 h ho E T)
def X4_undergo (o : Nat) (a1 : Int32) (h : Hp) : Option (Int32 × Hp) :=
  lt_ (irm a1 (100 : Int32)) fun v1 =>
  lt_ (a1 / (100 : Int32)) fun v3 =>
  if v3 = (0 : Int32) then (ob2 (X4_pass o (0 : Int32) h) fun r8 h7 =>
  some (r8, h7))
  else (if v3 = (1 : Int32) then (ob (X4_putIn o v1 h) fun h11 =>
  some ((0 : Int32), h11))
  else (if v3 = (2 : Int32) then (lt_ (up h o 9 v1) fun h13 =>
  some ((0 : Int32), h13))
  else (if v3 = (3 : Int32) then (lt_ (up h o 10 v1) fun h16 =>
  some ((0 : Int32), h16))
  else (ob (X4_moveTo o (v1 / (10 : Int32)) (irm v1 (10 : Int32)) h) fun h19 =>
  some ((0 : Int32), h19)))))
set_option maxHeartbeats 4000000 in
set_option maxRecDepth 100000 in
theorem w_X4_undergo {x : Cx} {d : Nat} (K : Ok x cX4_undergo RX4 3 (some .int) (d + 5)) (o : Nat) (a1 : Int32) (h : Hp) (ho : shK o = 4) {z : Int32 × Hp} (E : X4_undergo o a1 h = some z) (T : x.2.2.2.2 = (some (.int (z.1)), z.2)) : VV x 0 [(0, .ref (ad x o)), (1, .int a1)] [] h := by
  unfold X4_undergo at E
  refine V_iload_n K 1 dX4_undergo_0 rfl ?_
  refine V_bp (v := 100) K dX4_undergo_1 rfl ?_
  refine V_irem K dX4_undergo_3 (by decide) ?_
  obtain ⟨v1, e2, E⟩ := lt_inv E
  refine V_top e2 ?_
  refine V_istore_n (lv' := [(2, .int v1), (0, .ref (ad x o)), (1, .int a1)]) K dX4_undergo_4 (by decide) rfl ?_
  refine V_iload_n K 2 dX4_undergo_5 rfl ?_
  refine V_bp (v := 100) K dX4_undergo_6 rfl ?_
  refine V_idiv K dX4_undergo_8 (by decide) ?_
  obtain ⟨v3, e4, E⟩ := lt_inv E
  refine V_top e4 ?_
  rcases if_inv E with ⟨c5, E⟩ | ⟨c5, E⟩
  · refine V_tin (off := 31) K 40 dX4_undergo_9 (by rw [c5]; decide) (by rw [c5]; decide) (by rw [c5]; rfl) (by decide) ?_
    refine V_aload_n K 1 dX4_undergo_40 rfl ?_
    refine V_ic (v := 0) K dX4_undergo_41 rfl ?_
    obtain ⟨r8, h7, q6, E⟩ := ob2_inv E
    refine iv_X4_84 K ho (c_X4_pass _ o (0 : Int32) h ho q6) dX4_undergo_42 (Nat.le_of_ble_eq_true rfl) ?_
    cases E
    exact V_iret K dX4_undergo_45 rfl T
  · rcases if_inv E with ⟨c9, E⟩ | ⟨c9, E⟩
    · refine V_tin (off := 37) K 46 dX4_undergo_9 (by rw [c9]; decide) (by rw [c9]; decide) (by rw [c9]; rfl) (by decide) ?_
      refine V_aload_n K 1 dX4_undergo_46 rfl ?_
      refine V_iload_n K 0 dX4_undergo_47 rfl ?_
      obtain ⟨h11, q10, E⟩ := ob_inv E
      refine iv_X4_97 K ho (c_X4_putIn _ o v1 h ho q10) dX4_undergo_48 (Nat.le_of_ble_eq_true rfl) ?_
      refine V_goto K 82 dX4_undergo_51 (by decide) ?_
      refine V_ic (v := 0) K dX4_undergo_82 rfl ?_
      cases E
      exact V_iret K dX4_undergo_83 rfl T
    · rcases if_inv E with ⟨c12, E⟩ | ⟨c12, E⟩
      · refine V_tin (off := 45) K 54 dX4_undergo_9 (by rw [c12]; decide) (by rw [c12]; decide) (by rw [c12]; rfl) (by decide) ?_
        refine V_aload_n K 1 dX4_undergo_54 rfl ?_
        refine V_iload_n K 0 dX4_undergo_55 rfl ?_
        obtain ⟨h13, e14, E⟩ := lt_inv E
        refine pf_X4_37 K ho dX4_undergo_56 ?_
        refine V_hp e14 ?_
        refine V_goto K 82 dX4_undergo_59 (by decide) ?_
        refine V_ic (v := 0) K dX4_undergo_82 rfl ?_
        cases E
        exact V_iret K dX4_undergo_83 rfl T
      · rcases if_inv E with ⟨c15, E⟩ | ⟨c15, E⟩
        · refine V_tin (off := 53) K 62 dX4_undergo_9 (by rw [c15]; decide) (by rw [c15]; decide) (by rw [c15]; rfl) (by decide) ?_
          refine V_aload_n K 1 dX4_undergo_62 rfl ?_
          refine V_iload_n K 0 dX4_undergo_63 rfl ?_
          obtain ⟨h16, e17, E⟩ := lt_inv E
          refine pf_X4_40 K ho dX4_undergo_64 ?_
          refine V_hp e17 ?_
          refine V_goto K 82 dX4_undergo_67 (by decide) ?_
          refine V_ic (v := 0) K dX4_undergo_82 rfl ?_
          cases E
          exact V_iret K dX4_undergo_83 rfl T
        · refine V_tout K 70 dX4_undergo_9 (by have n0 := lv_neT c5 (a := 0) (by decide); have n1 := lv_neT c9 (a := 1) (by decide); have n2 := lv_neT c12 (a := 2) (by decide); have n3 := lv_neT c15 (a := 3) (by decide); omega) (by decide) ?_
          refine V_aload_n K 1 dX4_undergo_70 rfl ?_
          refine V_iload_n K 0 dX4_undergo_71 rfl ?_
          refine V_bp (v := 10) K dX4_undergo_72 rfl ?_
          refine V_idiv K dX4_undergo_74 (by decide) ?_
          refine V_iload_n K 0 dX4_undergo_75 rfl ?_
          refine V_bp (v := 10) K dX4_undergo_76 rfl ?_
          refine V_irem K dX4_undergo_78 (by decide) ?_
          obtain ⟨h19, q18, E⟩ := ob_inv E
          refine iv_X4_101 K ho (c_X4_moveTo _ o (v1 / (10 : Int32)) (irm v1 (10 : Int32)) h ho q18) dX4_undergo_79 (Nat.le_of_ble_eq_true rfl) ?_
          refine V_ic (v := 0) K dX4_undergo_82 rfl ?_
          cases E
          exact V_iret K dX4_undergo_83 rfl T
theorem c_X4_undergo (d : Nat) (o : Nat) (a1 : Int32) (h : Hp) (ho : shK o = 4) {r : Int32} {h' : Hp} (E : X4_undergo o a1 h = some (r, h')) : Runs (d + 5) yX4_undergo cX4_undergo 3 (some .int) (fun f => [.ref (f o), .int a1]) h (fun _ => some (.int r)) h' :=
  Runs.of (by decide +kernel) (fun _ => Nat.le_of_ble_eq_true rfl) (fun x K T => w_X4_undergo K  o a1 h ho E T)
