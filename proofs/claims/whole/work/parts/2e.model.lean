def X10_first_s23 (x1 : Int32) (y2 : Int32) (h : Hp) : Option (((Int32 × Hp) ⊕ (Int32 × Hp)) ⊕ (Int32 × Hp)) :=
  if (40 : Int32) < y2 then (some (.inl (.inr (y2, h))))
  else (ob2 (X10_plainTurn (2788 : Int32) h) fun r7 h6 =>
  if (X10_has r7 x1) = (0 : Int32) then (lt_ (y2 + (1 : Int32)) fun v9 =>
  some (.inr (v9, h6)))
  else (some (.inl (.inl (y2, h6)))))
set_option maxHeartbeats 4000000 in
set_option maxRecDepth 100000 in
theorem wl_X10_first_s23 {x : Cx} {d : Nat} (K : Ok x cX10_first RX10 3 (some .int) (d + 4)) (x1 : Int32)  : ∀ (n : Nat) (s : Int32 × Hp) (r : ((Int32 × Hp) ⊕ (Int32 × Hp))), lp (fun s : Int32 × Hp => X10_first_s23 x1 s.1 s.2) n s = some r → (fun r : ((Int32 × Hp) ⊕ (Int32 × Hp)) => match r with | .inl q => x.2.2.2.2 = (some (.int (q.1)), q.2) | .inr r => VV x 51 [(0, .ref (ad x 51)), (1, .int x1), (2, .int (r.1))] [] r.2) r → (fun s : Int32 × Hp => VV x 23 [(0, .ref (ad x 51)), (1, .int x1), (2, .int (s.1))] [] s.2) s := by
  refine lp_walk ?_
  intro s z E T
  obtain ⟨y2, h⟩ := s
  replace E : X10_first_s23 x1 y2 h = some z := E
  unfold X10_first_s23 at E
  show VV x 23 [(0, .ref (ad x 51)), (1, .int x1), (2, .int y2)] [] h
  refine V_iload_n K 2 dX10_first_23 rfl ?_
  refine V_bp (v := 40) K dX10_first_24 rfl ?_
  rcases if_inv E with ⟨c4, E⟩ | ⟨c4, E⟩
  · refine V_ic_gt_t K 51 dX10_first_26 (by decide) c4 ?_
    cases E
    exact V_sub [0, 1, 2] rfl T
  · refine V_ic_gt_f K 51 dX10_first_26 (by decide) c4 ?_
    refine V_aload_n K 0 dX10_first_29 rfl ?_
    refine V_sp (v := 2788) K dX10_first_30 rfl ?_
    obtain ⟨r7, h6, q5, E⟩ := ob2_inv E
    refine iv_X10_174 K (c_X10_plainTurn _ (2788 : Int32) h q5) dX10_first_33 (Nat.le_of_ble_eq_true rfl) ?_
    refine V_iload_n K 1 dX10_first_36 rfl ?_
    refine iv_X10_135 K (c_X10_has _ r7 x1 h6) dX10_first_37 (Nat.le_of_ble_eq_true rfl) ?_
    rcases if_inv E with ⟨c8, E⟩ | ⟨c8, E⟩
    · refine V_if_eq_t K 45 dX10_first_40 (by decide) c8 ?_
      obtain ⟨v9, e10, E⟩ := lt_inv E
      refine V_iinc (lv' := [(2, .int v9), (0, .ref (ad x 51)), (1, .int x1)]) K 2 dX10_first_45 rfl (by rw [e10]; rfl) (by decide) rfl ?_
      refine V_goto K 23 dX10_first_48 (by decide) ?_
      cases E
      exact V_sub [1, 2, 0] rfl T
    · refine V_if_eq_f K 45 dX10_first_40 (by decide) c8 ?_
      refine V_iload_n K 2 dX10_first_43 rfl ?_
      cases E
      exact V_iret K dX10_first_44 rfl T
def X10_first (a1 : Int32) (h : Hp) : Option (Int32 × Hp) :=
  if (X10_isOne a1 h) = (0 : Int32) then (some ((-1 : Int32), h))
  else (ob (X10_copyRow (X10_now h) (2788 : Int32) h) fun h3 =>
  obS2 (lp (fun s : Int32 × Hp => X10_first_s23 a1 s.1 s.2) FU ((1 : Int32), h3)) (fun q => some q) fun v11 h12 =>
  some ((-9 : Int32), h12))
set_option maxHeartbeats 4000000 in
set_option maxRecDepth 100000 in
theorem w_X10_first {x : Cx} {d : Nat} (K : Ok x cX10_first RX10 3 (some .int) (d + 4)) (a1 : Int32) (h : Hp)  {z : Int32 × Hp} (E : X10_first a1 h = some z) (T : x.2.2.2.2 = (some (.int (z.1)), z.2)) : VV x 0 [(0, .ref (ad x 51)), (1, .int a1)] [] h := by
  unfold X10_first at E
  refine V_aload_n K 0 dX10_first_0 rfl ?_
  refine V_iload_n K 1 dX10_first_1 rfl ?_
  refine iv_X10_152 K (c_X10_isOne _ a1 h) dX10_first_2 (Nat.le_of_ble_eq_true rfl) ?_
  rcases if_inv E with ⟨c1, E⟩ | ⟨c1, E⟩
  · refine V_if_ne_f K 10 dX10_first_5 (by decide) c1 ?_
    refine V_ic (v := -1) K dX10_first_8 rfl ?_
    cases E
    exact V_iret K dX10_first_9 rfl T
  · refine V_if_ne_t K 10 dX10_first_5 (by decide) c1 ?_
    refine V_aload_n K 0 dX10_first_10 rfl ?_
    refine V_aload_n K 0 dX10_first_11 rfl ?_
    refine iv_X10_145 K (c_X10_now _ h) dX10_first_12 (Nat.le_of_ble_eq_true rfl) ?_
    refine V_sp (v := 2788) K dX10_first_15 rfl ?_
    obtain ⟨h3, q2, E⟩ := ob_inv E
    refine iv_X10_167 K (c_X10_copyRow _ (X10_now h) (2788 : Int32) h q2) dX10_first_18 (Nat.le_of_ble_eq_true rfl) ?_
    refine V_ic (v := 1) K dX10_first_21 rfl ?_
    refine V_istore_n (lv' := [(2, .int (1 : Int32)), (0, .ref (ad x 51)), (1, .int a1)]) K dX10_first_22 (by decide) rfl ?_
    rcases obS2_inv E with ⟨q, q13, E⟩ | ⟨v11, h12, q13, E⟩
    · cases E
      exact V_sub [1, 2, 0] rfl (wl_X10_first_s23 K a1  _ _ _ q13 T)
    · refine V_sub [1, 2, 0] rfl (wl_X10_first_s23 K a1  _ _ _ q13 ?_)
      show VV x 51 [(0, .ref (ad x 51)), (1, .int a1), (2, .int v11)] [] h12
      refine V_bp (v := -9) K dX10_first_51 rfl ?_
      cases E
      exact V_iret K dX10_first_53 rfl T
theorem c_X10_first (d : Nat) (a1 : Int32) (h : Hp)  {r : Int32} {h' : Hp} (E : X10_first a1 h = some (r, h')) : Runs (d + 4) yX10_first cX10_first 3 (some .int) (fun f => [.ref (f 51), .int a1]) h (fun _ => some (.int r)) h' :=
  Runs.of (by decide +kernel) (fun _ => Nat.le_of_ble_eq_true rfl) (fun x K T => w_X10_first K  a1 h  E T)
def X10_forgetKept_s2  (y1 : Int32) (h : Hp) : Option ((Int32 × Hp) ⊕ (Int32 × Hp)) :=
  if (3 : Int32) ≤ y1 then (some (.inl (y1, h)))
  else (gd (ib y1 3) (
  lt_ (up h 54 (ix y1) (-9 : Int32)) fun h3 =>
  lt_ (y1 + (1 : Int32)) fun v5 =>
  some (.inr (v5, h3))))
set_option maxHeartbeats 4000000 in
set_option maxRecDepth 100000 in
theorem wl_X10_forgetKept_s2 {x : Cx} {d : Nat} (K : Ok x cX10_forgetKept RX10 2 none (d + 0))   : ∀ (n : Nat) (s : Int32 × Hp) (r : (Int32 × Hp)), lp (fun s : Int32 × Hp => X10_forgetKept_s2  s.1 s.2) n s = some r → (fun r : (Int32 × Hp) => VV x 21 [(0, .ref (ad x 51)), (1, .int (r.1))] [] r.2) r → (fun s : Int32 × Hp => VV x 2 [(0, .ref (ad x 51)), (1, .int (s.1))] [] s.2) s := by
  refine lp_walk ?_
  intro s z E T
  obtain ⟨y1, h⟩ := s
  replace E : X10_forgetKept_s2  y1 h = some z := E
  unfold X10_forgetKept_s2 at E
  show VV x 2 [(0, .ref (ad x 51)), (1, .int y1)] [] h
  refine V_iload_n K 1 dX10_forgetKept_2 rfl ?_
  refine V_ic (v := 3) K dX10_forgetKept_3 rfl ?_
  rcases if_inv E with ⟨c1, E⟩ | ⟨c1, E⟩
  · refine V_ic_ge_t K 21 dX10_forgetKept_4 (by decide) c1 ?_
    cases E
    exact V_sub [0, 1] rfl T
  · refine V_ic_ge_f K 21 dX10_forgetKept_4 (by decide) c1 ?_
    refine V_aload_n K 0 dX10_forgetKept_7 rfl ?_
    refine gf_X10_16 K dX10_forgetKept_8 ?_
    refine V_iload_n K 1 dX10_forgetKept_11 rfl ?_
    refine V_bp (v := -9) K dX10_forgetKept_12 rfl ?_
    obtain ⟨g2, E⟩ := gd_inv E
    obtain ⟨h3, e4, E⟩ := lt_inv E
    refine V_iast K k_54 n_54 g2 dX10_forgetKept_14 ?_
    refine V_hp e4 ?_
    obtain ⟨v5, e6, E⟩ := lt_inv E
    refine V_iinc (lv' := [(1, .int v5), (0, .ref (ad x 51))]) K 1 dX10_forgetKept_15 rfl (by rw [e6]; rfl) (by decide) rfl ?_
    refine V_goto K 2 dX10_forgetKept_18 (by decide) ?_
    cases E
    exact V_sub [1, 0] rfl T
def X10_forgetKept  (h : Hp) : Option Hp :=
  ob2 (lp (fun s : Int32 × Hp => X10_forgetKept_s2  s.1 s.2) FU ((0 : Int32), h)) fun v7 h8 =>
  some h8
set_option maxHeartbeats 4000000 in
set_option maxRecDepth 100000 in
theorem w_X10_forgetKept {x : Cx} {d : Nat} (K : Ok x cX10_forgetKept RX10 2 none (d + 0))  (h : Hp)  {z : Hp} (E : X10_forgetKept  h = some z) (T : x.2.2.2.2 = (none, z)) : VV x 0 [(0, .ref (ad x 51))] [] h := by
  unfold X10_forgetKept at E
  refine V_ic (v := 0) K dX10_forgetKept_0 rfl ?_
  refine V_istore_n (lv' := [(1, .int (0 : Int32)), (0, .ref (ad x 51))]) K dX10_forgetKept_1 (by decide) rfl ?_
  obtain ⟨v7, h8, q9, E⟩ := ob2_inv E
  refine V_sub [1, 0] rfl (wl_X10_forgetKept_s2 K   _ _ _ q9 ?_)
  show VV x 21 [(0, .ref (ad x 51)), (1, .int v7)] [] h8
  cases E
  exact V_vret K dX10_forgetKept_21 T
theorem c_X10_forgetKept (d : Nat)  (h : Hp)  {h' : Hp} (E : X10_forgetKept  h = some h') : Runs (d + 0) yX10_forgetKept cX10_forgetKept 2 none (fun f => [.ref (f 51)]) h (fun _ => none) h' :=
  Runs.of (by decide +kernel) (fun _ => Nat.le_of_ble_eq_true rfl) (fun x K T => w_X10_forgetKept K   h  E T)
def X10_front_s70  (y2 : Int32) (h : Hp) : Option ((Int32 × Hp) ⊕ (Int32 × Hp)) :=
  if (h.1 51 2) ≤ y2 then (some (.inl (y2, h)))
  else (gd (ib y2 6) (
  lt_ (up h 53 (ix y2) (h.1 60 (ix y2))) fun h21 =>
  gd (ib y2 2805) (
  lt_ (up h21 52 (ix y2) (h21.1 61 (ix y2))) fun h24 =>
  gd (ib ((6 : Int32) + y2) 2805) (
  lt_ (up h24 52 (ix ((6 : Int32) + y2)) (h24.1 62 (ix y2))) fun h27 =>
  lt_ (y2 + (1 : Int32)) fun v29 =>
  some (.inr (v29, h27))))))
set_option maxHeartbeats 4000000 in
set_option maxRecDepth 100000 in
theorem wl_X10_front_s70 {x : Cx} {d : Nat} (K : Ok x cX10_front RX10 3 (some .int) (d + 4))   : ∀ (n : Nat) (s : Int32 × Hp) (r : (Int32 × Hp)), lp (fun s : Int32 × Hp => X10_front_s70  s.1 s.2) n s = some r → (fun r : (Int32 × Hp) => VV x 123 [(0, .ref (ad x 51)), (2, .int (r.1))] [] r.2) r → (fun s : Int32 × Hp => VV x 70 [(0, .ref (ad x 51)), (2, .int (s.1))] [] s.2) s := by
  refine lp_walk ?_
  intro s z E T
  obtain ⟨y2, h⟩ := s
  replace E : X10_front_s70  y2 h = some z := E
  unfold X10_front_s70 at E
  show VV x 70 [(0, .ref (ad x 51)), (2, .int y2)] [] h
  refine V_iload_n K 1 dX10_front_70 rfl ?_
  refine V_aload_n K 0 dX10_front_71 rfl ?_
  refine gf_X10_120 K dX10_front_72 ?_
  rcases if_inv E with ⟨c19, E⟩ | ⟨c19, E⟩
  · refine V_ic_ge_t K 123 dX10_front_75 (by decide) c19 ?_
    cases E
    exact V_sub [0, 1] rfl T
  · refine V_ic_ge_f K 123 dX10_front_75 (by decide) c19 ?_
    refine V_aload_n K 0 dX10_front_78 rfl ?_
    refine gf_X10_13 K dX10_front_79 ?_
    refine V_iload_n K 1 dX10_front_82 rfl ?_
    refine V_aload_n K 0 dX10_front_83 rfl ?_
    refine gf_X10_38 K dX10_front_84 ?_
    refine V_iload_n K 1 dX10_front_87 rfl ?_
    obtain ⟨g20, E⟩ := gd_inv E
    refine V_iald K k_60 n_60 g20 dX10_front_88 ?_
    obtain ⟨h21, e22, E⟩ := lt_inv E
    refine V_iast K k_53 n_53 g20 dX10_front_89 ?_
    refine V_hp e22 ?_
    refine V_aload_n K 0 dX10_front_90 rfl ?_
    refine gf_X10_7 K dX10_front_91 ?_
    refine V_iload_n K 1 dX10_front_94 rfl ?_
    refine V_aload_n K 0 dX10_front_95 rfl ?_
    refine gf_X10_41 K dX10_front_96 ?_
    refine V_iload_n K 1 dX10_front_99 rfl ?_
    refine V_iald K k_61 n_61 g20 dX10_front_100 ?_
    obtain ⟨g23, E⟩ := gd_inv E
    obtain ⟨h24, e25, E⟩ := lt_inv E
    refine V_iast K k_52 n_52 g23 dX10_front_101 ?_
    refine V_hp e25 ?_
    refine V_aload_n K 0 dX10_front_102 rfl ?_
    refine gf_X10_7 K dX10_front_103 ?_
    refine V_bp (v := 6) K dX10_front_106 rfl ?_
    refine V_iload_n K 1 dX10_front_108 rfl ?_
    refine V_iadd K dX10_front_109 ?_
    refine V_aload_n K 0 dX10_front_110 rfl ?_
    refine gf_X10_44 K dX10_front_111 ?_
    refine V_iload_n K 1 dX10_front_114 rfl ?_
    refine V_iald K k_62 n_62 g20 dX10_front_115 ?_
    obtain ⟨g26, E⟩ := gd_inv E
    obtain ⟨h27, e28, E⟩ := lt_inv E
    refine V_iast K k_52 n_52 g26 dX10_front_116 ?_
    refine V_hp e28 ?_
    obtain ⟨v29, e30, E⟩ := lt_inv E
    refine V_iinc (lv' := [(2, .int v29), (0, .ref (ad x 51))]) K 1 dX10_front_117 rfl (by rw [e30]; rfl) (by decide) rfl ?_
    refine V_goto K 70 dX10_front_120 (by decide) ?_
    cases E
    exact V_sub [1, 0] rfl T
def X10_front (a1 : Int32) (h : Hp) : Option (Int32 × Hp) :=
  if (X10_isText a1) = (0 : Int32) then (some ((-1 : Int32), h))
  else (gd (ib a1 4) (
  if (h.1 58 (ix a1)) = (-9 : Int32) then (ob2 (X10_find (1 : Int32) h) fun r6 h5 =>
  some (r6, h5))
  else (ob2 (X10_faultOf a1 h) fun r9 h8 =>
  if r9 = (-9 : Int32) then (lt_ (up h8 51 2 (h8.1 51 19)) fun h11 =>
  lt_ (up h11 51 3 (h11.1 51 17)) fun h13 =>
  lt_ (up h13 51 4 (h13.1 51 18)) fun h15 =>
  lt_ (up h15 51 5 (0 : Int32)) fun h17 =>
  ob2 (lp (fun s : Int32 × Hp => X10_front_s70  s.1 s.2) FU ((0 : Int32), h17)) fun v31 h32 =>
  gd (ib (12 : Int32) 2805) (
  lt_ (up h32 52 (ix (12 : Int32)) (0 : Int32)) fun h34 =>
  gd (ib (13 : Int32) 2805) (
  lt_ (up h34 52 (ix (13 : Int32)) (h34.1 51 3)) fun h37 =>
  gd (ib (14 : Int32) 2805) (
  lt_ (up h37 52 (ix (14 : Int32)) (1 : Int32)) fun h40 =>
  gd (ib (15 : Int32) 2805) (
  lt_ (up h40 52 (ix (15 : Int32)) (0 : Int32)) fun h43 =>
  gd (ib (16 : Int32) 2805) (
  lt_ (up h43 52 (ix (16 : Int32)) (0 : Int32)) fun h46 =>
  ob (X10_forgetKept h46) fun h49 =>
  some (h49.1 51 2, h49)))))))
  else (some ((-4 : Int32), h8)))))
set_option maxHeartbeats 4000000 in
set_option maxRecDepth 100000 in
theorem w_X10_front {x : Cx} {d : Nat} (K : Ok x cX10_front RX10 3 (some .int) (d + 4)) (a1 : Int32) (h : Hp)  {z : Int32 × Hp} (E : X10_front a1 h = some z) (T : x.2.2.2.2 = (some (.int (z.1)), z.2)) : VV x 0 [(0, .ref (ad x 51)), (1, .int a1)] [] h := by
  unfold X10_front at E
  refine V_iload_n K 1 dX10_front_0 rfl ?_
  refine iv_X10_82 K (c_X10_isText _ a1 h) dX10_front_1 (Nat.le_of_ble_eq_true rfl) ?_
  rcases if_inv E with ⟨c1, E⟩ | ⟨c1, E⟩
  · refine V_if_ne_f K 9 dX10_front_4 (by decide) c1 ?_
    refine V_ic (v := -1) K dX10_front_7 rfl ?_
    cases E
    exact V_iret K dX10_front_8 rfl T
  · refine V_if_ne_t K 9 dX10_front_4 (by decide) c1 ?_
    refine V_aload_n K 0 dX10_front_9 rfl ?_
    refine gf_X10_28 K dX10_front_10 ?_
    refine V_iload_n K 1 dX10_front_13 rfl ?_
    obtain ⟨g2, E⟩ := gd_inv E
    refine V_iald K k_58 n_58 g2 dX10_front_14 ?_
    refine V_bp (v := -9) K dX10_front_15 rfl ?_
    rcases if_inv E with ⟨c3, E⟩ | ⟨c3, E⟩
    · refine V_ic_ne_f K 26 dX10_front_17 (by decide) c3 ?_
      refine V_aload_n K 0 dX10_front_20 rfl ?_
      refine V_ic (v := 1) K dX10_front_21 rfl ?_
      obtain ⟨r6, h5, q4, E⟩ := ob2_inv E
      refine iv_X10_71 K (c_X10_find _ (1 : Int32) h q4) dX10_front_22 (Nat.le_of_ble_eq_true rfl) ?_
      cases E
      exact V_iret K dX10_front_25 rfl T
    · refine V_ic_ne_t K 26 dX10_front_17 (by decide) c3 ?_
      refine V_aload_n K 0 dX10_front_26 rfl ?_
      refine V_iload_n K 1 dX10_front_27 rfl ?_
      obtain ⟨r9, h8, q7, E⟩ := ob2_inv E
      refine iv_X10_117 K (c_X10_faultOf _ a1 h q7) dX10_front_28 (Nat.le_of_ble_eq_true rfl) ?_
      refine V_bp (v := -9) K dX10_front_31 rfl ?_
      rcases if_inv E with ⟨c10, E⟩ | ⟨c10, E⟩
      · refine V_ic_eq_t K 39 dX10_front_33 (by decide) c10 ?_
        refine V_aload_n K 0 dX10_front_39 rfl ?_
        refine V_aload_n K 0 dX10_front_40 rfl ?_
        refine gf_X10_94 K dX10_front_41 ?_
        obtain ⟨h11, e12, E⟩ := lt_inv E
        refine pf_X10_120 K dX10_front_44 ?_
        refine V_hp e12 ?_
        refine V_aload_n K 0 dX10_front_47 rfl ?_
        refine V_aload_n K 0 dX10_front_48 rfl ?_
        refine gf_X10_108 K dX10_front_49 ?_
        obtain ⟨h13, e14, E⟩ := lt_inv E
        refine pf_X10_123 K dX10_front_52 ?_
        refine V_hp e14 ?_
        refine V_aload_n K 0 dX10_front_55 rfl ?_
        refine V_aload_n K 0 dX10_front_56 rfl ?_
        refine gf_X10_111 K dX10_front_57 ?_
        obtain ⟨h15, e16, E⟩ := lt_inv E
        refine pf_X10_126 K dX10_front_60 ?_
        refine V_hp e16 ?_
        refine V_aload_n K 0 dX10_front_63 rfl ?_
        refine V_ic (v := 0) K dX10_front_64 rfl ?_
        obtain ⟨h17, e18, E⟩ := lt_inv E
        refine pf_X10_129 K dX10_front_65 ?_
        refine V_hp e18 ?_
        refine V_ic (v := 0) K dX10_front_68 rfl ?_
        refine V_istore_n (lv' := [(2, .int (0 : Int32)), (0, .ref (ad x 51)), (1, .int a1)]) K dX10_front_69 (by decide) rfl ?_
        obtain ⟨v31, h32, q50, E⟩ := ob2_inv E
        refine V_sub [1, 0] rfl (wl_X10_front_s70 K   _ _ _ q50 ?_)
        show VV x 123 [(0, .ref (ad x 51)), (2, .int v31)] [] h32
        refine V_aload_n K 0 dX10_front_123 rfl ?_
        refine gf_X10_7 K dX10_front_124 ?_
        refine V_bp (v := 12) K dX10_front_127 rfl ?_
        refine V_ic (v := 0) K dX10_front_129 rfl ?_
        obtain ⟨g33, E⟩ := gd_inv E
        obtain ⟨h34, e35, E⟩ := lt_inv E
        refine V_iast K k_52 n_52 g33 dX10_front_130 ?_
        refine V_hp e35 ?_
        refine V_aload_n K 0 dX10_front_131 rfl ?_
        refine gf_X10_7 K dX10_front_132 ?_
        refine V_bp (v := 13) K dX10_front_135 rfl ?_
        refine V_aload_n K 0 dX10_front_137 rfl ?_
        refine gf_X10_123 K dX10_front_138 ?_
        obtain ⟨g36, E⟩ := gd_inv E
        obtain ⟨h37, e38, E⟩ := lt_inv E
        refine V_iast K k_52 n_52 g36 dX10_front_141 ?_
        refine V_hp e38 ?_
        refine V_aload_n K 0 dX10_front_142 rfl ?_
        refine gf_X10_7 K dX10_front_143 ?_
        refine V_bp (v := 14) K dX10_front_146 rfl ?_
        refine V_ic (v := 1) K dX10_front_148 rfl ?_
        obtain ⟨g39, E⟩ := gd_inv E
        obtain ⟨h40, e41, E⟩ := lt_inv E
        refine V_iast K k_52 n_52 g39 dX10_front_149 ?_
        refine V_hp e41 ?_
        refine V_aload_n K 0 dX10_front_150 rfl ?_
        refine gf_X10_7 K dX10_front_151 ?_
        refine V_bp (v := 15) K dX10_front_154 rfl ?_
        refine V_ic (v := 0) K dX10_front_156 rfl ?_
        obtain ⟨g42, E⟩ := gd_inv E
        obtain ⟨h43, e44, E⟩ := lt_inv E
        refine V_iast K k_52 n_52 g42 dX10_front_157 ?_
        refine V_hp e44 ?_
        refine V_aload_n K 0 dX10_front_158 rfl ?_
        refine gf_X10_7 K dX10_front_159 ?_
        refine V_bp (v := 16) K dX10_front_162 rfl ?_
        refine V_ic (v := 0) K dX10_front_164 rfl ?_
        obtain ⟨g45, E⟩ := gd_inv E
        obtain ⟨h46, e47, E⟩ := lt_inv E
        refine V_iast K k_52 n_52 g45 dX10_front_165 ?_
        refine V_hp e47 ?_
        refine V_aload_n K 0 dX10_front_166 rfl ?_
        obtain ⟨h49, q48, E⟩ := ob_inv E
        refine iv_X10_53 K (c_X10_forgetKept _ h46 q48) dX10_front_167 (Nat.le_of_ble_eq_true rfl) ?_
        refine V_aload_n K 0 dX10_front_170 rfl ?_
        refine gf_X10_120 K dX10_front_171 ?_
        cases E
        exact V_iret K dX10_front_174 rfl T
      · refine V_ic_eq_f K 39 dX10_front_33 (by decide) c10 ?_
        refine V_bp (v := -4) K dX10_front_36 rfl ?_
        cases E
        exact V_iret K dX10_front_38 rfl T
theorem c_X10_front (d : Nat) (a1 : Int32) (h : Hp)  {r : Int32} {h' : Hp} (E : X10_front a1 h = some (r, h')) : Runs (d + 4) yX10_front cX10_front 3 (some .int) (fun f => [.ref (f 51), .int a1]) h (fun _ => some (.int r)) h' :=
  Runs.of (by decide +kernel) (fun _ => Nat.le_of_ble_eq_true rfl) (fun x K T => w_X10_front K  a1 h  E T)
def X10_gathers (a1 : Int32) (a2 : Int32) (h : Hp) : Option Int32 :=
  if (X10_isOne a1 h) = (0 : Int32) then (some (-1 : Int32))
  else (if (X10_in a2 (0 : Int32) (60 : Int32)) = (0 : Int32) then (some (-1 : Int32))
  else (gd (ib a1 6) (
  some (X10_gatheredBy (h.1 53 (ix a1)) a2))))
set_option maxHeartbeats 4000000 in
set_option maxRecDepth 100000 in
theorem w_X10_gathers {x : Cx} {d : Nat} (K : Ok x cX10_gathers RX10 3 (some .int) (d + 2)) (a1 : Int32) (a2 : Int32) (h : Hp)  {z : Int32} (E : X10_gathers a1 a2 h = some z) (T : x.2.2.2.2 = (some (.int z), h)) : VV x 0 [(0, .ref (ad x 51)), (1, .int a1), (2, .int a2)] [] h := by
  unfold X10_gathers at E
  refine V_aload_n K 0 dX10_gathers_0 rfl ?_
  refine V_iload_n K 1 dX10_gathers_1 rfl ?_
  refine iv_X10_152 K (c_X10_isOne _ a1 h) dX10_gathers_2 (Nat.le_of_ble_eq_true rfl) ?_
  rcases if_inv E with ⟨c1, E⟩ | ⟨c1, E⟩
  · refine V_if_eq_t K 31 dX10_gathers_5 (by decide) c1 ?_
    refine V_ic (v := -1) K dX10_gathers_31 rfl ?_
    cases E
    exact V_iret K dX10_gathers_32 rfl T
  · refine V_if_eq_f K 31 dX10_gathers_5 (by decide) c1 ?_
    refine V_iload_n K 2 dX10_gathers_8 rfl ?_
    refine V_ic (v := 0) K dX10_gathers_9 rfl ?_
    refine V_bp (v := 60) K dX10_gathers_10 rfl ?_
    refine iv_X10_63 K (c_X10_in _ a2 (0 : Int32) (60 : Int32) h) dX10_gathers_12 (Nat.le_of_ble_eq_true rfl) ?_
    rcases if_inv E with ⟨c2, E⟩ | ⟨c2, E⟩
    · refine V_if_eq_t K 31 dX10_gathers_15 (by decide) c2 ?_
      refine V_ic (v := -1) K dX10_gathers_31 rfl ?_
      cases E
      exact V_iret K dX10_gathers_32 rfl T
    · refine V_if_eq_f K 31 dX10_gathers_15 (by decide) c2 ?_
      refine V_aload_n K 0 dX10_gathers_18 rfl ?_
      refine gf_X10_13 K dX10_gathers_19 ?_
      refine V_iload_n K 1 dX10_gathers_22 rfl ?_
      obtain ⟨g3, E⟩ := gd_inv E
      refine V_iald K k_53 n_53 g3 dX10_gathers_23 ?_
      refine V_iload_n K 2 dX10_gathers_24 rfl ?_
      refine iv_X10_138 K (c_X10_gatheredBy _ (h.1 53 (ix a1)) a2 h) dX10_gathers_25 (Nat.le_of_ble_eq_true rfl) ?_
      refine V_goto K 32 dX10_gathers_28 (by decide) ?_
      cases E
      exact V_iret K dX10_gathers_32 rfl T
theorem c_X10_gathers (d : Nat) (a1 : Int32) (a2 : Int32) (h : Hp)  {r : Int32} (E : X10_gathers a1 a2 h = some r) : Runs (d + 2) yX10_gathers cX10_gathers 3 (some .int) (fun f => [.ref (f 51), .int a1, .int a2]) h (fun _ => some (.int r)) h :=
  Runs.of (by decide +kernel) (fun _ => Nat.le_of_ble_eq_true rfl) (fun x K T => w_X10_gathers K  a1 a2 h  E T)
def X10_laySize (a1 : Int32) (h : Hp) : Option Hp :=
  ob (X10_copyRow (X10_now h) (2788 : Int32) h) fun h2 =>
  gd (ib (2800 : Int32) 2805) (
  lt_ (up h2 52 (ix (2800 : Int32)) a1) fun h4 =>
  ob (if a1 = (0 : Int32) then (some (h4.1 51 3))
  else (gd (ib (2801 : Int32) 2805) (
  some (h4.1 52 (ix (2801 : Int32)))))) fun v6 =>
  gd (ib (2801 : Int32) 2805) (
  lt_ (up h4 52 (ix (2801 : Int32)) v6) fun h10 =>
  some h10))
set_option maxHeartbeats 4000000 in
set_option maxRecDepth 100000 in
theorem w_X10_laySize {x : Cx} {d : Nat} (K : Ok x cX10_laySize RX10 2 none (d + 1)) (a1 : Int32) (h : Hp)  {z : Hp} (E : X10_laySize a1 h = some z) (T : x.2.2.2.2 = (none, z)) : VV x 0 [(0, .ref (ad x 51)), (1, .int a1)] [] h := by
  unfold X10_laySize at E
  refine V_aload_n K 0 dX10_laySize_0 rfl ?_
  refine V_aload_n K 0 dX10_laySize_1 rfl ?_
  refine iv_X10_145 K (c_X10_now _ h) dX10_laySize_2 (Nat.le_of_ble_eq_true rfl) ?_
  refine V_sp (v := 2788) K dX10_laySize_5 rfl ?_
  obtain ⟨h2, q1, E⟩ := ob_inv E
  refine iv_X10_167 K (c_X10_copyRow _ (X10_now h) (2788 : Int32) h q1) dX10_laySize_8 (Nat.le_of_ble_eq_true rfl) ?_
  refine V_aload_n K 0 dX10_laySize_11 rfl ?_
  refine gf_X10_7 K dX10_laySize_12 ?_
  refine V_sp (v := 2800) K dX10_laySize_15 rfl ?_
  refine V_iload_n K 1 dX10_laySize_18 rfl ?_
  obtain ⟨g3, E⟩ := gd_inv E
  obtain ⟨h4, e5, E⟩ := lt_inv E
  refine V_iast K k_52 n_52 g3 dX10_laySize_19 ?_
  refine V_hp e5 ?_
  refine V_aload_n K 0 dX10_laySize_20 rfl ?_
  refine gf_X10_7 K dX10_laySize_21 ?_
  refine V_sp (v := 2801) K dX10_laySize_24 rfl ?_
  refine V_iload_n K 1 dX10_laySize_27 rfl ?_
  obtain ⟨v6, q12, E⟩ := ob_inv E
  have T9 : VV x 46 [] [.int v6, .int (2801 : Int32), .ref (ad x 52)] h4 := by
    obtain ⟨g9, E⟩ := gd_inv E
    obtain ⟨h10, e11, E⟩ := lt_inv E
    refine V_iast K k_52 n_52 g9 dX10_laySize_46 ?_
    refine V_hp e11 ?_
    cases E
    exact V_vret K dX10_laySize_47 T
  have E := q12
  have T := T9
  rcases if_inv E with ⟨c7, E⟩ | ⟨c7, E⟩
  · refine V_if_ne_f K 38 dX10_laySize_28 (by decide) c7 ?_
    refine V_aload_n K 0 dX10_laySize_31 rfl ?_
    refine gf_X10_123 K dX10_laySize_32 ?_
    refine V_goto K 46 dX10_laySize_35 (by decide) ?_
    cases E
    exact V_sub [] rfl T
  · refine V_if_ne_t K 38 dX10_laySize_28 (by decide) c7 ?_
    refine V_aload_n K 0 dX10_laySize_38 rfl ?_
    refine gf_X10_7 K dX10_laySize_39 ?_
    refine V_sp (v := 2801) K dX10_laySize_42 rfl ?_
    obtain ⟨g8, E⟩ := gd_inv E
    refine V_iald K k_52 n_52 g8 dX10_laySize_45 ?_
    cases E
    exact V_sub [] rfl T
theorem c_X10_laySize (d : Nat) (a1 : Int32) (h : Hp)  {h' : Hp} (E : X10_laySize a1 h = some h') : Runs (d + 1) yX10_laySize cX10_laySize 2 none (fun f => [.ref (f 51), .int a1]) h (fun _ => none) h' :=
  Runs.of (by decide +kernel) (fun _ => Nat.le_of_ble_eq_true rfl) (fun x K T => w_X10_laySize K  a1 h  E T)
def X10_greatestPart_s6 (x1 : Int32) (x2 : Int32) (x3 : Int32) (y5 : Int32) (h : Hp) : Option ((Int32 × Hp) ⊕ (Int32 × Hp)) :=
  if (30 : Int32) < y5 then (some (.inl (y5, h)))
  else (gd (ib y5 31) (
  lt_ (up h 63 (ix y5) (0 : Int32)) fun h3 =>
  lt_ (y5 + (1 : Int32)) fun v5 =>
  some (.inr (v5, h3))))
set_option maxHeartbeats 4000000 in
set_option maxRecDepth 100000 in
theorem wl_X10_greatestPart_s6 {x : Cx} {d : Nat} (K : Ok x cX10_greatestPart RX10 8 (some .int) (d + 4)) (x1 : Int32) (x2 : Int32) (x3 : Int32)  : ∀ (n : Nat) (s : Int32 × Hp) (r : (Int32 × Hp)), lp (fun s : Int32 × Hp => X10_greatestPart_s6 x1 x2 x3 s.1 s.2) n s = some r → (fun r : (Int32 × Hp) => VV x 27 [(0, .ref (ad x 51)), (1, .int x1), (2, .int x2), (3, .int x3), (4, .int (0 : Int32)), (5, .int (r.1))] [] r.2) r → (fun s : Int32 × Hp => VV x 6 [(0, .ref (ad x 51)), (1, .int x1), (2, .int x2), (3, .int x3), (4, .int (0 : Int32)), (5, .int (s.1))] [] s.2) s := by
  refine lp_walk ?_
  intro s z E T
  obtain ⟨y5, h⟩ := s
  replace E : X10_greatestPart_s6 x1 x2 x3 y5 h = some z := E
  unfold X10_greatestPart_s6 at E
  show VV x 6 [(0, .ref (ad x 51)), (1, .int x1), (2, .int x2), (3, .int x3), (4, .int (0 : Int32)), (5, .int y5)] [] h
  refine V_iload K 5 dX10_greatestPart_6 rfl ?_
  refine V_bp (v := 30) K dX10_greatestPart_8 rfl ?_
  rcases if_inv E with ⟨c1, E⟩ | ⟨c1, E⟩
  · refine V_ic_gt_t K 27 dX10_greatestPart_10 (by decide) c1 ?_
    cases E
    exact V_sub [0, 1, 2, 3, 4, 5] rfl T
  · refine V_ic_gt_f K 27 dX10_greatestPart_10 (by decide) c1 ?_
    refine V_aload_n K 0 dX10_greatestPart_13 rfl ?_
    refine gf_X10_47 K dX10_greatestPart_14 ?_
    refine V_iload K 5 dX10_greatestPart_17 rfl ?_
    refine V_ic (v := 0) K dX10_greatestPart_19 rfl ?_
    obtain ⟨g2, E⟩ := gd_inv E
    obtain ⟨h3, e4, E⟩ := lt_inv E
    refine V_iast K k_63 n_63 g2 dX10_greatestPart_20 ?_
    refine V_hp e4 ?_
    obtain ⟨v5, e6, E⟩ := lt_inv E
    refine V_iinc (lv' := [(5, .int v5), (0, .ref (ad x 51)), (1, .int x1), (2, .int x2), (3, .int x3), (4, .int (0 : Int32))]) K 5 dX10_greatestPart_21 rfl (by rw [e6]; rfl) (by decide) rfl ?_
    refine V_goto K 6 dX10_greatestPart_24 (by decide) ?_
    cases E
    exact V_sub [1, 2, 3, 4, 5, 0] rfl T
def X10_greatestPart_s55 (x1 : Int32) (x2 : Int32) (x3 : Int32) (x4 : Int32) (x5 : Int32) (y6 : Int32) (h : Hp) : Option ((Int32 × Hp) ⊕ (Int32 × Hp)) :=
  if x3 ≤ y6 then (some (.inl (y6, h)))
  else (ob2 (X10_plainTurn (2788 : Int32) h) fun r18 h17 =>
  lt_ (y6 + (1 : Int32)) fun v19 =>
  some (.inr (v19, h17)))
set_option maxHeartbeats 4000000 in
set_option maxRecDepth 100000 in
theorem wl_X10_greatestPart_s55 {x : Cx} {d : Nat} (K : Ok x cX10_greatestPart RX10 8 (some .int) (d + 4)) (x1 : Int32) (x2 : Int32) (x3 : Int32) (x4 : Int32) (x5 : Int32)  : ∀ (n : Nat) (s : Int32 × Hp) (r : (Int32 × Hp)), lp (fun s : Int32 × Hp => X10_greatestPart_s55 x1 x2 x3 x4 x5 s.1 s.2) n s = some r → (fun r : (Int32 × Hp) => VV x 76 [(0, .ref (ad x 51)), (1, .int x1), (2, .int x2), (3, .int x3), (4, .int x4), (5, .int x5), (6, .int (r.1))] [] r.2) r → (fun s : Int32 × Hp => VV x 55 [(0, .ref (ad x 51)), (1, .int x1), (2, .int x2), (3, .int x3), (4, .int x4), (5, .int x5), (6, .int (s.1))] [] s.2) s := by
  refine lp_walk ?_
  intro s z E T
  obtain ⟨y6, h⟩ := s
  replace E : X10_greatestPart_s55 x1 x2 x3 x4 x5 y6 h = some z := E
  unfold X10_greatestPart_s55 at E
  show VV x 55 [(0, .ref (ad x 51)), (1, .int x1), (2, .int x2), (3, .int x3), (4, .int x4), (5, .int x5), (6, .int y6)] [] h
  refine V_iload K 6 dX10_greatestPart_55 rfl ?_
  refine V_iload_n K 3 dX10_greatestPart_57 rfl ?_
  rcases if_inv E with ⟨c15, E⟩ | ⟨c15, E⟩
  · refine V_ic_ge_t K 76 dX10_greatestPart_58 (by decide) c15 ?_
    cases E
    exact V_sub [0, 1, 2, 3, 4, 5, 6] rfl T
  · refine V_ic_ge_f K 76 dX10_greatestPart_58 (by decide) c15 ?_
    refine V_aload_n K 0 dX10_greatestPart_61 rfl ?_
    refine V_sp (v := 2788) K dX10_greatestPart_62 rfl ?_
    obtain ⟨r18, h17, q16, E⟩ := ob2_inv E
    refine iv_X10_174 K (c_X10_plainTurn _ (2788 : Int32) h q16) dX10_greatestPart_65 (Nat.le_of_ble_eq_true rfl) ?_
    refine V_istore (lv' := [(7, .int r18), (0, .ref (ad x 51)), (1, .int x1), (2, .int x2), (3, .int x3), (4, .int x4), (5, .int x5), (6, .int y6)]) K dX10_greatestPart_68 (by decide) rfl ?_
    obtain ⟨v19, e20, E⟩ := lt_inv E
    refine V_iinc (lv' := [(6, .int v19), (7, .int r18), (0, .ref (ad x 51)), (1, .int x1), (2, .int x2), (3, .int x3), (4, .int x4), (5, .int x5)]) K 7 dX10_greatestPart_70 rfl (by rw [e20]; rfl) (by decide) rfl ?_
    refine V_goto K 55 dX10_greatestPart_73 (by decide) ?_
    cases E
    exact V_sub [2, 3, 4, 5, 6, 7, 0] rfl T
def X10_greatestPart_s30 (x1 : Int32) (x2 : Int32) (x3 : Int32) (y4 : Int32) (y5 : Int32) (h : Hp) : Option ((Int32 × Int32 × Hp) ⊕ (Int32 × Int32 × Hp)) :=
  if (30 : Int32) < y5 then (some (.inl (y4, y5, h)))
  else (ob2 (if (X10_has x1 y5) = (0 : Int32) then (some (y4, h))
  else (ob (X10_laySize y5 h) fun h14 =>
  ob2 (lp (fun s : Int32 × Hp => X10_greatestPart_s55 x1 x2 x3 y4 y5 s.1 s.2) FU ((0 : Int32), h14)) fun v21 h22 =>
  gd (ib ((2794 : Int32) + x2) 2805) (
  lt_ (h22.1 52 (ix ((2794 : Int32) + x2))) fun v24 =>
  gd (ib v24 31) (
  lt_ (up h22 63 (ix v24) ((h22.1 63 (ix v24)) + (1 : Int32))) fun h27 =>
  if (h27.1 63 (ix v24)) ≤ y4 then (some (y4, h27))
  else (lt_ (h27.1 63 (ix v24)) fun v30 =>
  some (v30, h27)))))) fun v10 h11 =>
  lt_ (y5 + (1 : Int32)) fun v33 =>
  some (.inr (v10, v33, h11)))
set_option maxHeartbeats 4000000 in
set_option maxRecDepth 100000 in
theorem wl_X10_greatestPart_s30 {x : Cx} {d : Nat} (K : Ok x cX10_greatestPart RX10 8 (some .int) (d + 4)) (x1 : Int32) (x2 : Int32) (x3 : Int32)  : ∀ (n : Nat) (s : Int32 × Int32 × Hp) (r : (Int32 × Int32 × Hp)), lp (fun s : Int32 × Int32 × Hp => X10_greatestPart_s30 x1 x2 x3 s.1 s.2.1 s.2.2) n s = some r → (fun r : (Int32 × Int32 × Hp) => VV x 131 [(0, .ref (ad x 51)), (1, .int x1), (2, .int x2), (3, .int x3), (4, .int (r.1)), (5, .int (r.2.1))] [] r.2.2) r → (fun s : Int32 × Int32 × Hp => VV x 30 [(0, .ref (ad x 51)), (1, .int x1), (2, .int x2), (3, .int x3), (4, .int (s.1)), (5, .int (s.2.1))] [] s.2.2) s := by
  refine lp_walk ?_
  intro s z E T
  obtain ⟨y4, y5, h⟩ := s
  replace E : X10_greatestPart_s30 x1 x2 x3 y4 y5 h = some z := E
  unfold X10_greatestPart_s30 at E
  show VV x 30 [(0, .ref (ad x 51)), (1, .int x1), (2, .int x2), (3, .int x3), (4, .int y4), (5, .int y5)] [] h
  refine V_iload K 5 dX10_greatestPart_30 rfl ?_
  refine V_bp (v := 30) K dX10_greatestPart_32 rfl ?_
  rcases if_inv E with ⟨c9, E⟩ | ⟨c9, E⟩
  · refine V_ic_gt_t K 131 dX10_greatestPart_34 (by decide) c9 ?_
    cases E
    exact V_sub [0, 1, 2, 3, 4, 5] rfl T
  · refine V_ic_gt_f K 131 dX10_greatestPart_34 (by decide) c9 ?_
    refine V_iload_n K 1 dX10_greatestPart_37 rfl ?_
    refine V_iload K 5 dX10_greatestPart_38 rfl ?_
    refine iv_X10_135 K (c_X10_has _ x1 y5 h) dX10_greatestPart_40 (Nat.le_of_ble_eq_true rfl) ?_
    obtain ⟨v10, h11, q35, E⟩ := ob2_inv E
    have T9 : VV x 125 [(0, .ref (ad x 51)), (1, .int x1), (2, .int x2), (3, .int x3), (4, .int v10), (5, .int y5)] [] h11 := by
      obtain ⟨v33, e34, E⟩ := lt_inv E
      refine V_iinc (lv' := [(5, .int v33), (0, .ref (ad x 51)), (1, .int x1), (2, .int x2), (3, .int x3), (4, .int v10)]) K 5 dX10_greatestPart_125 rfl (by rw [e34]; rfl) (by decide) rfl ?_
      refine V_goto K 30 dX10_greatestPart_128 (by decide) ?_
      cases E
      exact V_sub [1, 2, 3, 4, 5, 0] rfl T
    have E := q35
    have T := T9
    rcases if_inv E with ⟨c12, E⟩ | ⟨c12, E⟩
    · refine V_if_eq_t K 125 dX10_greatestPart_43 (by decide) c12 ?_
      cases E
      exact V_sub [0, 1, 2, 3, 4, 5] rfl T
    · refine V_if_eq_f K 125 dX10_greatestPart_43 (by decide) c12 ?_
      refine V_aload_n K 0 dX10_greatestPart_46 rfl ?_
      refine V_iload K 5 dX10_greatestPart_47 rfl ?_
      obtain ⟨h14, q13, E⟩ := ob_inv E
      refine iv_X10_190 K (c_X10_laySize _ y5 h q13) dX10_greatestPart_49 (Nat.le_of_ble_eq_true rfl) ?_
      refine V_ic (v := 0) K dX10_greatestPart_52 rfl ?_
      refine V_istore (lv' := [(6, .int (0 : Int32)), (0, .ref (ad x 51)), (1, .int x1), (2, .int x2), (3, .int x3), (4, .int y4), (5, .int y5)]) K dX10_greatestPart_53 (by decide) rfl ?_
      obtain ⟨v21, h22, q32, E⟩ := ob2_inv E
      refine V_sub [1, 2, 3, 4, 5, 6, 0] rfl (wl_X10_greatestPart_s55 K x1 x2 x3 y4 y5  _ _ _ q32 ?_)
      show VV x 76 [(0, .ref (ad x 51)), (1, .int x1), (2, .int x2), (3, .int x3), (4, .int y4), (5, .int y5), (6, .int v21)] [] h22
      refine V_aload_n K 0 dX10_greatestPart_76 rfl ?_
      refine gf_X10_7 K dX10_greatestPart_77 ?_
      refine V_sp (v := 2794) K dX10_greatestPart_80 rfl ?_
      refine V_iload_n K 2 dX10_greatestPart_83 rfl ?_
      refine V_iadd K dX10_greatestPart_84 ?_
      obtain ⟨g23, E⟩ := gd_inv E
      refine V_iald K k_52 n_52 g23 dX10_greatestPart_85 ?_
      obtain ⟨v24, e25, E⟩ := lt_inv E
      refine V_top e25 ?_
      refine V_istore (lv' := [(6, .int v24), (0, .ref (ad x 51)), (1, .int x1), (2, .int x2), (3, .int x3), (4, .int y4), (5, .int y5)]) K dX10_greatestPart_86 (by decide) rfl ?_
      refine V_aload_n K 1 dX10_greatestPart_88 rfl ?_
      refine gf_X10_47 K dX10_greatestPart_89 ?_
      refine V_iload K 0 dX10_greatestPart_92 rfl ?_
      refine V_dup2 K dX10_greatestPart_94 rfl rfl ?_
      obtain ⟨g26, E⟩ := gd_inv E
      refine V_iald K k_63 n_63 g26 dX10_greatestPart_95 ?_
      refine V_ic (v := 1) K dX10_greatestPart_96 rfl ?_
      refine V_iadd K dX10_greatestPart_97 ?_
      obtain ⟨h27, e28, E⟩ := lt_inv E
      refine V_iast K k_63 n_63 g26 dX10_greatestPart_98 ?_
      refine V_hp e28 ?_
      refine V_aload_n K 1 dX10_greatestPart_99 rfl ?_
      refine gf_X10_47 K dX10_greatestPart_100 ?_
      refine V_iload K 0 dX10_greatestPart_103 rfl ?_
      refine V_iald K k_63 n_63 g26 dX10_greatestPart_105 ?_
      refine V_iload K 5 dX10_greatestPart_106 rfl ?_
      rcases if_inv E with ⟨c29, E⟩ | ⟨c29, E⟩
      · refine V_ic_le_t K 121 dX10_greatestPart_108 (by decide) c29 ?_
        refine V_iload K 5 dX10_greatestPart_121 rfl ?_
        refine V_istore (lv' := [(4, .int y4), (6, .int v24), (0, .ref (ad x 51)), (1, .int x1), (2, .int x2), (3, .int x3), (5, .int y5)]) K dX10_greatestPart_123 (by decide) rfl ?_
        cases E
        exact V_sub [2, 3, 4, 5, 0, 6] rfl T
      · refine V_ic_le_f K 121 dX10_greatestPart_108 (by decide) c29 ?_
        refine V_aload_n K 1 dX10_greatestPart_111 rfl ?_
        refine gf_X10_47 K dX10_greatestPart_112 ?_
        refine V_iload K 0 dX10_greatestPart_115 rfl ?_
        refine V_iald K k_63 n_63 g26 dX10_greatestPart_117 ?_
        refine V_goto K 123 dX10_greatestPart_118 (by decide) ?_
        obtain ⟨v30, e31, E⟩ := lt_inv E
        refine V_top e31 ?_
        refine V_istore (lv' := [(4, .int v30), (6, .int v24), (0, .ref (ad x 51)), (1, .int x1), (2, .int x2), (3, .int x3), (5, .int y5)]) K dX10_greatestPart_123 (by decide) rfl ?_
        cases E
        exact V_sub [2, 3, 4, 5, 0, 6] rfl T
def X10_greatestPart (a1 : Int32) (a2 : Int32) (a3 : Int32) (h : Hp) : Option (Int32 × Hp) :=
  ob2 (lp (fun s : Int32 × Hp => X10_greatestPart_s6 a1 a2 a3 s.1 s.2) FU ((0 : Int32), h)) fun v7 h8 =>
  ob3 (lp (fun s : Int32 × Int32 × Hp => X10_greatestPart_s30 a1 a2 a3 s.1 s.2.1 s.2.2) FU ((0 : Int32), (0 : Int32), h8)) fun v36 v37 h38 =>
  some (v36, h38)
set_option maxHeartbeats 4000000 in
set_option maxRecDepth 100000 in
theorem w_X10_greatestPart {x : Cx} {d : Nat} (K : Ok x cX10_greatestPart RX10 8 (some .int) (d + 4)) (a1 : Int32) (a2 : Int32) (a3 : Int32) (h : Hp)  {z : Int32 × Hp} (E : X10_greatestPart a1 a2 a3 h = some z) (T : x.2.2.2.2 = (some (.int (z.1)), z.2)) : VV x 0 [(0, .ref (ad x 51)), (1, .int a1), (2, .int a2), (3, .int a3)] [] h := by
  unfold X10_greatestPart at E
  refine V_ic (v := 0) K dX10_greatestPart_0 rfl ?_
  refine V_istore (lv' := [(4, .int (0 : Int32)), (0, .ref (ad x 51)), (1, .int a1), (2, .int a2), (3, .int a3)]) K dX10_greatestPart_1 (by decide) rfl ?_
  refine V_ic (v := 0) K dX10_greatestPart_3 rfl ?_
  refine V_istore (lv' := [(5, .int (0 : Int32)), (4, .int (0 : Int32)), (0, .ref (ad x 51)), (1, .int a1), (2, .int a2), (3, .int a3)]) K dX10_greatestPart_4 (by decide) rfl ?_
  obtain ⟨v7, h8, q40, E⟩ := ob2_inv E
  refine V_sub [2, 3, 4, 5, 1, 0] rfl (wl_X10_greatestPart_s6 K a1 a2 a3  _ _ _ q40 ?_)
  show VV x 27 [(0, .ref (ad x 51)), (1, .int a1), (2, .int a2), (3, .int a3), (4, .int (0 : Int32)), (5, .int v7)] [] h8
  refine V_ic (v := 0) K dX10_greatestPart_27 rfl ?_
  refine V_istore (lv' := [(5, .int (0 : Int32)), (0, .ref (ad x 51)), (1, .int a1), (2, .int a2), (3, .int a3), (4, .int (0 : Int32))]) K dX10_greatestPart_28 (by decide) rfl ?_
  obtain ⟨v36, v37, h38, q39, E⟩ := ob3_inv E
  refine V_sub [1, 2, 3, 4, 5, 0] rfl (wl_X10_greatestPart_s30 K a1 a2 a3  _ _ _ q39 ?_)
  show VV x 131 [(0, .ref (ad x 51)), (1, .int a1), (2, .int a2), (3, .int a3), (4, .int v36), (5, .int v37)] [] h38
  refine V_iload K 4 dX10_greatestPart_131 rfl ?_
  cases E
  exact V_iret K dX10_greatestPart_133 rfl T
theorem c_X10_greatestPart (d : Nat) (a1 : Int32) (a2 : Int32) (a3 : Int32) (h : Hp)  {r : Int32} {h' : Hp} (E : X10_greatestPart a1 a2 a3 h = some (r, h')) : Runs (d + 4) yX10_greatestPart cX10_greatestPart 8 (some .int) (fun f => [.ref (f 51), .int a1, .int a2, .int a3]) h (fun _ => some (.int r)) h' :=
  Runs.of (by decide +kernel) (fun _ => Nat.le_of_ble_eq_true rfl) (fun x K T => w_X10_greatestPart K  a1 a2 a3 h  E T)
def X10_haveOf_s4 (x1 : Int32) (h : Hp) (y2 : Int32) (y3 : Int32) : Option ((Int32 × Int32) ⊕ (Int32 × Int32)) :=
  if (h.1 51 2) ≤ y3 then (some (.inl (y2, y3)))
  else (ob (if (X10_has x1 y3) = (0 : Int32) then (some (0 : Int32))
  else (gd (ib (((X10_now h) + (6 : Int32)) + y3) 2805) (
  some (h.1 52 (ix (((X10_now h) + (6 : Int32)) + y3)))))) fun v2 =>
  lt_ (y2 + v2) fun v5 =>
  lt_ (y3 + (1 : Int32)) fun v7 =>
  some (.inr (v5, v7)))
set_option maxHeartbeats 4000000 in
set_option maxRecDepth 100000 in
theorem wl_X10_haveOf_s4 {x : Cx} {d : Nat} (K : Ok x cX10_haveOf RX10 4 (some .int) (d + 1)) (x1 : Int32) (h : Hp)  : ∀ (n : Nat) (s : Int32 × Int32) (r : (Int32 × Int32)), lp (fun s : Int32 × Int32 => X10_haveOf_s4 x1 h s.1 s.2) n s = some r → (fun r : (Int32 × Int32) => VV x 47 [(0, .ref (ad x 51)), (1, .int x1), (2, .int (r.1)), (3, .int (r.2))] [] h) r → (fun s : Int32 × Int32 => VV x 4 [(0, .ref (ad x 51)), (1, .int x1), (2, .int (s.1)), (3, .int (s.2))] [] h) s := by
  refine lp_walk ?_
  intro s z E T
  obtain ⟨y2, y3⟩ := s
  replace E : X10_haveOf_s4 x1 h y2 y3 = some z := E
  unfold X10_haveOf_s4 at E
  show VV x 4 [(0, .ref (ad x 51)), (1, .int x1), (2, .int y2), (3, .int y3)] [] h
  refine V_iload_n K 3 dX10_haveOf_4 rfl ?_
  refine V_aload_n K 0 dX10_haveOf_5 rfl ?_
  refine gf_X10_120 K dX10_haveOf_6 ?_
  rcases if_inv E with ⟨c1, E⟩ | ⟨c1, E⟩
  · refine V_ic_ge_t K 47 dX10_haveOf_9 (by decide) c1 ?_
    cases E
    exact V_sub [0, 1, 2, 3] rfl T
  · refine V_ic_ge_f K 47 dX10_haveOf_9 (by decide) c1 ?_
    refine V_iload_n K 2 dX10_haveOf_12 rfl ?_
    refine V_iload_n K 1 dX10_haveOf_13 rfl ?_
    refine V_iload_n K 3 dX10_haveOf_14 rfl ?_
    refine iv_X10_135 K (c_X10_has _ x1 y3 h) dX10_haveOf_15 (Nat.le_of_ble_eq_true rfl) ?_
    obtain ⟨v2, q9, E⟩ := ob_inv E
    have T9 : VV x 39 [(0, .ref (ad x 51)), (1, .int x1), (3, .int y3)] [.int v2, .int y2] h := by
      refine V_iadd K dX10_haveOf_39 ?_
      obtain ⟨v5, e6, E⟩ := lt_inv E
      refine V_top e6 ?_
      refine V_istore_n (lv' := [(2, .int v5), (0, .ref (ad x 51)), (1, .int x1), (3, .int y3)]) K dX10_haveOf_40 (by decide) rfl ?_
      obtain ⟨v7, e8, E⟩ := lt_inv E
      refine V_iinc (lv' := [(3, .int v7), (2, .int v5), (0, .ref (ad x 51)), (1, .int x1)]) K 3 dX10_haveOf_41 rfl (by rw [e8]; rfl) (by decide) rfl ?_
      refine V_goto K 4 dX10_haveOf_44 (by decide) ?_
      cases E
      exact V_sub [2, 3, 1, 0] rfl T
    have E := q9
    have T := T9
    rcases if_inv E with ⟨c3, E⟩ | ⟨c3, E⟩
    · refine V_if_eq_t K 38 dX10_haveOf_18 (by decide) c3 ?_
      refine V_ic (v := 0) K dX10_haveOf_38 rfl ?_
      cases E
      exact V_sub [0, 1, 3] rfl T
    · refine V_if_eq_f K 38 dX10_haveOf_18 (by decide) c3 ?_
      refine V_aload_n K 0 dX10_haveOf_21 rfl ?_
      refine gf_X10_7 K dX10_haveOf_22 ?_
      refine V_aload_n K 0 dX10_haveOf_25 rfl ?_
      refine iv_X10_145 K (c_X10_now _ h) dX10_haveOf_26 (Nat.le_of_ble_eq_true rfl) ?_
      refine V_bp (v := 6) K dX10_haveOf_29 rfl ?_
      refine V_iadd K dX10_haveOf_31 ?_
      refine V_iload_n K 3 dX10_haveOf_32 rfl ?_
      refine V_iadd K dX10_haveOf_33 ?_
      obtain ⟨g4, E⟩ := gd_inv E
      refine V_iald K k_52 n_52 g4 dX10_haveOf_34 ?_
      refine V_goto K 39 dX10_haveOf_35 (by decide) ?_
      cases E
      exact V_sub [0, 1, 3] rfl T
def X10_haveOf (a1 : Int32) (h : Hp) : Option Int32 :=
  ob2 (lp (fun s : Int32 × Int32 => X10_haveOf_s4 a1 h s.1 s.2) FU ((0 : Int32), (0 : Int32))) fun v10 v11 =>
  some v10
set_option maxHeartbeats 4000000 in
set_option maxRecDepth 100000 in
theorem w_X10_haveOf {x : Cx} {d : Nat} (K : Ok x cX10_haveOf RX10 4 (some .int) (d + 1)) (a1 : Int32) (h : Hp)  {z : Int32} (E : X10_haveOf a1 h = some z) (T : x.2.2.2.2 = (some (.int z), h)) : VV x 0 [(0, .ref (ad x 51)), (1, .int a1)] [] h := by
  unfold X10_haveOf at E
  refine V_ic (v := 0) K dX10_haveOf_0 rfl ?_
  refine V_istore_n (lv' := [(2, .int (0 : Int32)), (0, .ref (ad x 51)), (1, .int a1)]) K dX10_haveOf_1 (by decide) rfl ?_
  refine V_ic (v := 0) K dX10_haveOf_2 rfl ?_
  refine V_istore_n (lv' := [(3, .int (0 : Int32)), (2, .int (0 : Int32)), (0, .ref (ad x 51)), (1, .int a1)]) K dX10_haveOf_3 (by decide) rfl ?_
  obtain ⟨v10, v11, q12, E⟩ := ob2_inv E
  refine V_sub [2, 3, 1, 0] rfl (wl_X10_haveOf_s4 K a1 h  _ _ _ q12 ?_)
  show VV x 47 [(0, .ref (ad x 51)), (1, .int a1), (2, .int v10), (3, .int v11)] [] h
  refine V_iload_n K 2 dX10_haveOf_47 rfl ?_
  cases E
  exact V_iret K dX10_haveOf_48 rfl T
theorem c_X10_haveOf (d : Nat) (a1 : Int32) (h : Hp)  {r : Int32} (E : X10_haveOf a1 h = some r) : Runs (d + 1) yX10_haveOf cX10_haveOf 4 (some .int) (fun f => [.ref (f 51), .int a1]) h (fun _ => some (.int r)) h :=
  Runs.of (by decide +kernel) (fun _ => Nat.le_of_ble_eq_true rfl) (fun x K T => w_X10_haveOf K  a1 h  E T)
def X10_isSo_s3 (x1 : Int32) (x2 : Int32) (x3 : Int32) (y4 : Int32) (h : Hp) : Option (((Int32 × Hp) ⊕ (Int32 × Hp)) ⊕ (Int32 × Hp)) :=
  gd (ib x2 6) (
  if (h.1 56 (ix x2)) ≤ y4 then (some (.inl (.inr (y4, h))))
  else (ob2 (X10_turnIn (2788 : Int32) (0 : Int32) x1 x3 h) fun r5 h4 =>
  gd (ib ((2794 : Int32) + x1) 2805) (
  gd (ib (((40 : Int32) * x2) + y4) 240) (
  if (h4.1 52 (ix ((2794 : Int32) + x1))) = (h4.1 55 (ix (((40 : Int32) * x2) + y4))) then (lt_ (y4 + (1 : Int32)) fun v9 =>
  some (.inr (v9, h4)))
  else (some (.inl (.inl ((0 : Int32), h4))))))))
set_option maxHeartbeats 4000000 in
set_option maxRecDepth 100000 in
theorem wl_X10_isSo_s3 {x : Cx} {d : Nat} (K : Ok x cX10_isSo RX10 6 (some .boolean) (d + 3)) (x1 : Int32) (x2 : Int32) (x3 : Int32)  : ∀ (n : Nat) (s : Int32 × Hp) (r : ((Int32 × Hp) ⊕ (Int32 × Hp))), lp (fun s : Int32 × Hp => X10_isSo_s3 x1 x2 x3 s.1 s.2) n s = some r → (fun r : ((Int32 × Hp) ⊕ (Int32 × Hp)) => match r with | .inl q => x.2.2.2.2 = (some (.int (q.1)), q.2) | .inr r => VV x 59 [(0, .ref (ad x 51)), (1, .int x1), (2, .int x2), (3, .int x3), (4, .int (r.1))] [] r.2) r → (fun s : Int32 × Hp => VV x 3 [(0, .ref (ad x 51)), (1, .int x1), (2, .int x2), (3, .int x3), (4, .int (s.1))] [] s.2) s := by
  refine lp_walk ?_
  intro s z E T
  obtain ⟨y4, h⟩ := s
  replace E : X10_isSo_s3 x1 x2 x3 y4 h = some z := E
  unfold X10_isSo_s3 at E
  show VV x 3 [(0, .ref (ad x 51)), (1, .int x1), (2, .int x2), (3, .int x3), (4, .int y4)] [] h
  refine V_iload K 4 dX10_isSo_3 rfl ?_
  refine V_aload_n K 0 dX10_isSo_5 rfl ?_
  refine gf_X10_22 K dX10_isSo_6 ?_
  refine V_iload_n K 2 dX10_isSo_9 rfl ?_
  obtain ⟨g1, E⟩ := gd_inv E
  refine V_iald K k_56 n_56 g1 dX10_isSo_10 ?_
  rcases if_inv E with ⟨c2, E⟩ | ⟨c2, E⟩
  · refine V_ic_ge_t K 59 dX10_isSo_11 (by decide) c2 ?_
    cases E
    exact V_sub [0, 1, 2, 3, 4] rfl T
  · refine V_ic_ge_f K 59 dX10_isSo_11 (by decide) c2 ?_
    refine V_aload_n K 0 dX10_isSo_14 rfl ?_
    refine V_sp (v := 2788) K dX10_isSo_15 rfl ?_
    refine V_ic (v := 0) K dX10_isSo_18 rfl ?_
    refine V_iload_n K 1 dX10_isSo_19 rfl ?_
    refine V_iload_n K 3 dX10_isSo_20 rfl ?_
    obtain ⟨r5, h4, q3, E⟩ := ob2_inv E
    refine iv_X10_141 K (c_X10_turnIn _ (2788 : Int32) (0 : Int32) x1 x3 h q3) dX10_isSo_21 (Nat.le_of_ble_eq_true rfl) ?_
    refine V_istore (lv' := [(5, .int r5), (0, .ref (ad x 51)), (1, .int x1), (2, .int x2), (3, .int x3), (4, .int y4)]) K dX10_isSo_24 (by decide) rfl ?_
    refine V_aload_n K 1 dX10_isSo_26 rfl ?_
    refine gf_X10_7 K dX10_isSo_27 ?_
    refine V_sp (v := 2794) K dX10_isSo_30 rfl ?_
    refine V_iload_n K 2 dX10_isSo_33 rfl ?_
    refine V_iadd K dX10_isSo_34 ?_
    obtain ⟨g6, E⟩ := gd_inv E
    refine V_iald K k_52 n_52 g6 dX10_isSo_35 ?_
    refine V_aload_n K 1 dX10_isSo_36 rfl ?_
    refine gf_X10_19 K dX10_isSo_37 ?_
    refine V_bp (v := 40) K dX10_isSo_40 rfl ?_
    refine V_iload_n K 3 dX10_isSo_42 rfl ?_
    refine V_imul K dX10_isSo_43 ?_
    refine V_iload K 5 dX10_isSo_44 rfl ?_
    refine V_iadd K dX10_isSo_46 ?_
    obtain ⟨g7, E⟩ := gd_inv E
    refine V_iald K k_55 n_55 g7 dX10_isSo_47 ?_
    rcases if_inv E with ⟨c8, E⟩ | ⟨c8, E⟩
    · refine V_ic_eq_t K 53 dX10_isSo_48 (by decide) c8 ?_
      obtain ⟨v9, e10, E⟩ := lt_inv E
      refine V_iinc (lv' := [(4, .int v9), (5, .int r5), (0, .ref (ad x 51)), (1, .int x1), (2, .int x2), (3, .int x3)]) K 5 dX10_isSo_53 rfl (by rw [e10]; rfl) (by decide) rfl ?_
      refine V_goto K 3 dX10_isSo_56 (by decide) ?_
      cases E
      exact V_sub [2, 3, 4, 5, 0] rfl T
    · refine V_ic_eq_f K 53 dX10_isSo_48 (by decide) c8 ?_
      refine V_ic (v := 0) K dX10_isSo_51 rfl ?_
      cases E
      exact V_iret K dX10_isSo_52 rfl T
def X10_isSo (a1 : Int32) (a2 : Int32) (a3 : Int32) (h : Hp) : Option (Int32 × Hp) :=
  obS2 (lp (fun s : Int32 × Hp => X10_isSo_s3 a1 a2 a3 s.1 s.2) FU ((0 : Int32), h)) (fun q => some q) fun v11 h12 =>
  some ((1 : Int32), h12)
set_option maxHeartbeats 4000000 in
set_option maxRecDepth 100000 in
theorem w_X10_isSo {x : Cx} {d : Nat} (K : Ok x cX10_isSo RX10 6 (some .boolean) (d + 3)) (a1 : Int32) (a2 : Int32) (a3 : Int32) (h : Hp)  {z : Int32 × Hp} (E : X10_isSo a1 a2 a3 h = some z) (T : x.2.2.2.2 = (some (.int (z.1)), z.2)) : VV x 0 [(0, .ref (ad x 51)), (1, .int a1), (2, .int a2), (3, .int a3)] [] h := by
  unfold X10_isSo at E
  refine V_ic (v := 0) K dX10_isSo_0 rfl ?_
  refine V_istore (lv' := [(4, .int (0 : Int32)), (0, .ref (ad x 51)), (1, .int a1), (2, .int a2), (3, .int a3)]) K dX10_isSo_1 (by decide) rfl ?_
  rcases obS2_inv E with ⟨q, q13, E⟩ | ⟨v11, h12, q13, E⟩
  · cases E
    exact V_sub [1, 2, 3, 4, 0] rfl (wl_X10_isSo_s3 K a1 a2 a3  _ _ _ q13 T)
  · refine V_sub [1, 2, 3, 4, 0] rfl (wl_X10_isSo_s3 K a1 a2 a3  _ _ _ q13 ?_)
    show VV x 59 [(0, .ref (ad x 51)), (1, .int a1), (2, .int a2), (3, .int a3), (4, .int v11)] [] h12
    refine V_ic (v := 1) K dX10_isSo_59 rfl ?_
    cases E
    exact V_iret K dX10_isSo_60 rfl T
theorem c_X10_isSo (d : Nat) (a1 : Int32) (a2 : Int32) (a3 : Int32) (h : Hp)  {r : Int32} {h' : Hp} (E : X10_isSo a1 a2 a3 h = some (r, h')) : Runs (d + 3) yX10_isSo cX10_isSo 6 (some .boolean) (fun f => [.ref (f 51), .int a1, .int a2, .int a3]) h (fun _ => some (.int r)) h' :=
  Runs.of (by decide +kernel) (fun _ => Nat.le_of_ble_eq_true rfl) (fun x K T => w_X10_isSo K  a1 a2 a3 h  E T)
def X10_keep_s23 (x1 : Int32) (y2 : Int32) (h : Hp) : Option ((Int32 × Hp) ⊕ (Int32 × Hp)) :=
  if (697 : Int32) ≤ y2 then (some (.inl (y2, h)))
  else (gd (ib y2 2805) (
  gd (ib (((697 : Int32) * (x1 + (1 : Int32))) + y2) 2805) (
  lt_ (up h 52 (ix (((697 : Int32) * (x1 + (1 : Int32))) + y2)) (h.1 52 (ix y2))) fun h6 =>
  lt_ (y2 + (1 : Int32)) fun v8 =>
  some (.inr (v8, h6)))))
set_option maxHeartbeats 4000000 in
set_option maxRecDepth 100000 in
theorem wl_X10_keep_s23 {x : Cx} {d : Nat} (K : Ok x cX10_keep RX10 3 (some .int) (d + 1)) (x1 : Int32)  : ∀ (n : Nat) (s : Int32 × Hp) (r : (Int32 × Hp)), lp (fun s : Int32 × Hp => X10_keep_s23 x1 s.1 s.2) n s = some r → (fun r : (Int32 × Hp) => VV x 56 [(0, .ref (ad x 51)), (1, .int x1), (2, .int (r.1))] [] r.2) r → (fun s : Int32 × Hp => VV x 23 [(0, .ref (ad x 51)), (1, .int x1), (2, .int (s.1))] [] s.2) s := by
  refine lp_walk ?_
  intro s z E T
  obtain ⟨y2, h⟩ := s
  replace E : X10_keep_s23 x1 y2 h = some z := E
  unfold X10_keep_s23 at E
  show VV x 23 [(0, .ref (ad x 51)), (1, .int x1), (2, .int y2)] [] h
  refine V_iload_n K 2 dX10_keep_23 rfl ?_
  refine V_sp (v := 697) K dX10_keep_24 rfl ?_
  rcases if_inv E with ⟨c3, E⟩ | ⟨c3, E⟩
  · refine V_ic_ge_t K 56 dX10_keep_27 (by decide) c3 ?_
    cases E
    exact V_sub [0, 1, 2] rfl T
  · refine V_ic_ge_f K 56 dX10_keep_27 (by decide) c3 ?_
    refine V_aload_n K 0 dX10_keep_30 rfl ?_
    refine gf_X10_7 K dX10_keep_31 ?_
    refine V_sp (v := 697) K dX10_keep_34 rfl ?_
    refine V_iload_n K 1 dX10_keep_37 rfl ?_
    refine V_ic (v := 1) K dX10_keep_38 rfl ?_
    refine V_iadd K dX10_keep_39 ?_
    refine V_imul K dX10_keep_40 ?_
    refine V_iload_n K 2 dX10_keep_41 rfl ?_
    refine V_iadd K dX10_keep_42 ?_
    refine V_aload_n K 0 dX10_keep_43 rfl ?_
    refine gf_X10_7 K dX10_keep_44 ?_
    refine V_iload_n K 2 dX10_keep_47 rfl ?_
    obtain ⟨g4, E⟩ := gd_inv E
    refine V_iald K k_52 n_52 g4 dX10_keep_48 ?_
    obtain ⟨g5, E⟩ := gd_inv E
    obtain ⟨h6, e7, E⟩ := lt_inv E
    refine V_iast K k_52 n_52 g5 dX10_keep_49 ?_
    refine V_hp e7 ?_
    obtain ⟨v8, e9, E⟩ := lt_inv E
    refine V_iinc (lv' := [(2, .int v8), (0, .ref (ad x 51)), (1, .int x1)]) K 2 dX10_keep_50 rfl (by rw [e9]; rfl) (by decide) rfl ?_
    refine V_goto K 23 dX10_keep_53 (by decide) ?_
    cases E
    exact V_sub [1, 2, 0] rfl T
def X10_keep (a1 : Int32) (h : Hp) : Option (Int32 × Hp) :=
  if (X10_in a1 (0 : Int32) (2 : Int32)) = (0 : Int32) then (some ((-1 : Int32), h))
  else (if (h.1 51 2) = (0 : Int32) then (some ((-4 : Int32), h))
  else (ob2 (lp (fun s : Int32 × Hp => X10_keep_s23 a1 s.1 s.2) FU ((0 : Int32), h)) fun v10 h11 =>
  gd (ib a1 3) (
  lt_ (up h11 54 (ix a1) (h11.1 51 5)) fun h13 =>
  some (h13.1 51 5, h13))))
set_option maxHeartbeats 4000000 in
set_option maxRecDepth 100000 in
theorem w_X10_keep {x : Cx} {d : Nat} (K : Ok x cX10_keep RX10 3 (some .int) (d + 1)) (a1 : Int32) (h : Hp)  {z : Int32 × Hp} (E : X10_keep a1 h = some z) (T : x.2.2.2.2 = (some (.int (z.1)), z.2)) : VV x 0 [(0, .ref (ad x 51)), (1, .int a1)] [] h := by
  unfold X10_keep at E
  refine V_iload_n K 1 dX10_keep_0 rfl ?_
  refine V_ic (v := 0) K dX10_keep_1 rfl ?_
  refine V_ic (v := 2) K dX10_keep_2 rfl ?_
  refine iv_X10_63 K (c_X10_in _ a1 (0 : Int32) (2 : Int32) h) dX10_keep_3 (Nat.le_of_ble_eq_true rfl) ?_
  rcases if_inv E with ⟨c1, E⟩ | ⟨c1, E⟩
  · refine V_if_ne_f K 11 dX10_keep_6 (by decide) c1 ?_
    refine V_ic (v := -1) K dX10_keep_9 rfl ?_
    cases E
    exact V_iret K dX10_keep_10 rfl T
  · refine V_if_ne_t K 11 dX10_keep_6 (by decide) c1 ?_
    refine V_aload_n K 0 dX10_keep_11 rfl ?_
    refine gf_X10_120 K dX10_keep_12 ?_
    rcases if_inv E with ⟨c2, E⟩ | ⟨c2, E⟩
    · refine V_if_ne_f K 21 dX10_keep_15 (by decide) c2 ?_
      refine V_bp (v := -4) K dX10_keep_18 rfl ?_
      cases E
      exact V_iret K dX10_keep_20 rfl T
    · refine V_if_ne_t K 21 dX10_keep_15 (by decide) c2 ?_
      refine V_ic (v := 0) K dX10_keep_21 rfl ?_
      refine V_istore_n (lv' := [(2, .int (0 : Int32)), (0, .ref (ad x 51)), (1, .int a1)]) K dX10_keep_22 (by decide) rfl ?_
      obtain ⟨v10, h11, q15, E⟩ := ob2_inv E
      refine V_sub [1, 2, 0] rfl (wl_X10_keep_s23 K a1  _ _ _ q15 ?_)
      show VV x 56 [(0, .ref (ad x 51)), (1, .int a1), (2, .int v10)] [] h11
      refine V_aload_n K 0 dX10_keep_56 rfl ?_
      refine gf_X10_16 K dX10_keep_57 ?_
      refine V_iload_n K 1 dX10_keep_60 rfl ?_
      refine V_aload_n K 0 dX10_keep_61 rfl ?_
      refine gf_X10_129 K dX10_keep_62 ?_
      obtain ⟨g12, E⟩ := gd_inv E
      obtain ⟨h13, e14, E⟩ := lt_inv E
      refine V_iast K k_54 n_54 g12 dX10_keep_65 ?_
      refine V_hp e14 ?_
      refine V_aload_n K 0 dX10_keep_66 rfl ?_
      refine gf_X10_129 K dX10_keep_67 ?_
      cases E
      exact V_iret K dX10_keep_70 rfl T
theorem c_X10_keep (d : Nat) (a1 : Int32) (h : Hp)  {r : Int32} {h' : Hp} (E : X10_keep a1 h = some (r, h')) : Runs (d + 1) yX10_keep cX10_keep 3 (some .int) (fun f => [.ref (f 51), .int a1]) h (fun _ => some (.int r)) h' :=
  Runs.of (by decide +kernel) (fun _ => Nat.le_of_ble_eq_true rfl) (fun x K T => w_X10_keep K  a1 h  E T)
def X10_wrongRow_s34 (x1 : Int32) (h : Hp) (y2 : Int32) (y3 : Int32) : Option ((Int32 × Int32) ⊕ (Int32 × Int32)) :=
  gd (ib x1 6) (
  if (h.1 56 (ix x1)) ≤ y3 then (some (.inl (y2, y3)))
  else (gd (ib (((40 : Int32) * x1) + y3) 240) (
  ob (if (X10_in (h.1 55 (ix (((40 : Int32) * x1) + y3))) (0 : Int32) (30 : Int32)) = (0 : Int32) then (some (3 : Int32))
  else (some y2)) fun v7 =>
  lt_ (y3 + (1 : Int32)) fun v9 =>
  some (.inr (v7, v9)))))
set_option maxHeartbeats 4000000 in
set_option maxRecDepth 100000 in
theorem wl_X10_wrongRow_s34 {x : Cx} {d : Nat} (K : Ok x cX10_wrongRow RX10 4 (some .int) (d + 1)) (x1 : Int32) (h : Hp)  : ∀ (n : Nat) (s : Int32 × Int32) (r : (Int32 × Int32)), lp (fun s : Int32 × Int32 => X10_wrongRow_s34 x1 h s.1 s.2) n s = some r → (fun r : (Int32 × Int32) => VV x 76 [(0, .ref (ad x 51)), (1, .int x1), (2, .int (r.1)), (3, .int (r.2))] [] h) r → (fun s : Int32 × Int32 => VV x 34 [(0, .ref (ad x 51)), (1, .int x1), (2, .int (s.1)), (3, .int (s.2))] [] h) s := by
  refine lp_walk ?_
  intro s z E T
  obtain ⟨y2, y3⟩ := s
  replace E : X10_wrongRow_s34 x1 h y2 y3 = some z := E
  unfold X10_wrongRow_s34 at E
  show VV x 34 [(0, .ref (ad x 51)), (1, .int x1), (2, .int y2), (3, .int y3)] [] h
  refine V_iload_n K 3 dX10_wrongRow_34 rfl ?_
  refine V_aload_n K 0 dX10_wrongRow_35 rfl ?_
  refine gf_X10_22 K dX10_wrongRow_36 ?_
  refine V_iload_n K 1 dX10_wrongRow_39 rfl ?_
  obtain ⟨g4, E⟩ := gd_inv E
  refine V_iald K k_56 n_56 g4 dX10_wrongRow_40 ?_
  rcases if_inv E with ⟨c5, E⟩ | ⟨c5, E⟩
  · refine V_ic_ge_t K 76 dX10_wrongRow_41 (by decide) c5 ?_
    cases E
    exact V_sub [0, 1, 2, 3] rfl T
  · refine V_ic_ge_f K 76 dX10_wrongRow_41 (by decide) c5 ?_
    refine V_aload_n K 0 dX10_wrongRow_44 rfl ?_
    refine gf_X10_19 K dX10_wrongRow_45 ?_
    refine V_bp (v := 40) K dX10_wrongRow_48 rfl ?_
    refine V_iload_n K 1 dX10_wrongRow_50 rfl ?_
    refine V_imul K dX10_wrongRow_51 ?_
    refine V_iload_n K 3 dX10_wrongRow_52 rfl ?_
    refine V_iadd K dX10_wrongRow_53 ?_
    obtain ⟨g6, E⟩ := gd_inv E
    refine V_iald K k_55 n_55 g6 dX10_wrongRow_54 ?_
    refine V_ic (v := 0) K dX10_wrongRow_55 rfl ?_
    refine V_bp (v := 30) K dX10_wrongRow_56 rfl ?_
    refine iv_X10_63 K (c_X10_in _ (h.1 55 (ix (((40 : Int32) * x1) + y3))) (0 : Int32) (30 : Int32) h) dX10_wrongRow_58 (Nat.le_of_ble_eq_true rfl) ?_
    obtain ⟨v7, q11, E⟩ := ob_inv E
    have T9 : VV x 69 [(0, .ref (ad x 51)), (1, .int x1), (3, .int y3)] [.int v7] h := by
      refine V_istore_n (lv' := [(2, .int v7), (0, .ref (ad x 51)), (1, .int x1), (3, .int y3)]) K dX10_wrongRow_69 (by decide) rfl ?_
      obtain ⟨v9, e10, E⟩ := lt_inv E
      refine V_iinc (lv' := [(3, .int v9), (2, .int v7), (0, .ref (ad x 51)), (1, .int x1)]) K 3 dX10_wrongRow_70 rfl (by rw [e10]; rfl) (by decide) rfl ?_
      refine V_goto K 34 dX10_wrongRow_73 (by decide) ?_
      cases E
      exact V_sub [2, 3, 1, 0] rfl T
    have E := q11
    have T := T9
    rcases if_inv E with ⟨c8, E⟩ | ⟨c8, E⟩
    · refine V_if_eq_t K 68 dX10_wrongRow_61 (by decide) c8 ?_
      refine V_ic (v := 3) K dX10_wrongRow_68 rfl ?_
      cases E
      exact V_sub [0, 1, 3] rfl T
    · refine V_if_eq_f K 68 dX10_wrongRow_61 (by decide) c8 ?_
      refine V_iload_n K 2 dX10_wrongRow_64 rfl ?_
      refine V_goto K 69 dX10_wrongRow_65 (by decide) ?_
      cases E
      exact V_sub [0, 1, 3] rfl T
def X10_wrongRow (a1 : Int32) (h : Hp) : Option Int32 :=
  gd (ib a1 6) (
  if (h.1 56 (ix a1)) = (-9 : Int32) then (some (1 : Int32))
  else (if (X10_in (h.1 56 (ix a1)) (1 : Int32) (10 : Int32)) = (0 : Int32) then (some (5 : Int32))
  else (ob2 (lp (fun s : Int32 × Int32 => X10_wrongRow_s34 a1 h s.1 s.2) FU ((0 : Int32), (0 : Int32))) fun v12 v13 =>
  some v12)))
set_option maxHeartbeats 4000000 in
set_option maxRecDepth 100000 in
theorem w_X10_wrongRow {x : Cx} {d : Nat} (K : Ok x cX10_wrongRow RX10 4 (some .int) (d + 1)) (a1 : Int32) (h : Hp)  {z : Int32} (E : X10_wrongRow a1 h = some z) (T : x.2.2.2.2 = (some (.int z), h)) : VV x 0 [(0, .ref (ad x 51)), (1, .int a1)] [] h := by
  unfold X10_wrongRow at E
  refine V_aload_n K 0 dX10_wrongRow_0 rfl ?_
  refine gf_X10_22 K dX10_wrongRow_1 ?_
  refine V_iload_n K 1 dX10_wrongRow_4 rfl ?_
  obtain ⟨g1, E⟩ := gd_inv E
  refine V_iald K k_56 n_56 g1 dX10_wrongRow_5 ?_
  refine V_bp (v := -9) K dX10_wrongRow_6 rfl ?_
  rcases if_inv E with ⟨c2, E⟩ | ⟨c2, E⟩
  · refine V_ic_ne_f K 13 dX10_wrongRow_8 (by decide) c2 ?_
    refine V_ic (v := 1) K dX10_wrongRow_11 rfl ?_
    cases E
    exact V_iret K dX10_wrongRow_12 rfl T
  · refine V_ic_ne_t K 13 dX10_wrongRow_8 (by decide) c2 ?_
    refine V_aload_n K 0 dX10_wrongRow_13 rfl ?_
    refine gf_X10_22 K dX10_wrongRow_14 ?_
    refine V_iload_n K 1 dX10_wrongRow_17 rfl ?_
    refine V_iald K k_56 n_56 g1 dX10_wrongRow_18 ?_
    refine V_ic (v := 1) K dX10_wrongRow_19 rfl ?_
    refine V_bp (v := 10) K dX10_wrongRow_20 rfl ?_
    refine iv_X10_63 K (c_X10_in _ (h.1 56 (ix a1)) (1 : Int32) (10 : Int32) h) dX10_wrongRow_22 (Nat.le_of_ble_eq_true rfl) ?_
    rcases if_inv E with ⟨c3, E⟩ | ⟨c3, E⟩
    · refine V_if_ne_f K 30 dX10_wrongRow_25 (by decide) c3 ?_
      refine V_ic (v := 5) K dX10_wrongRow_28 rfl ?_
      cases E
      exact V_iret K dX10_wrongRow_29 rfl T
    · refine V_if_ne_t K 30 dX10_wrongRow_25 (by decide) c3 ?_
      refine V_ic (v := 0) K dX10_wrongRow_30 rfl ?_
      refine V_istore_n (lv' := [(2, .int (0 : Int32)), (0, .ref (ad x 51)), (1, .int a1)]) K dX10_wrongRow_31 (by decide) rfl ?_
      refine V_ic (v := 0) K dX10_wrongRow_32 rfl ?_
      refine V_istore_n (lv' := [(3, .int (0 : Int32)), (2, .int (0 : Int32)), (0, .ref (ad x 51)), (1, .int a1)]) K dX10_wrongRow_33 (by decide) rfl ?_
      obtain ⟨v12, v13, q14, E⟩ := ob2_inv E
      refine V_sub [2, 3, 1, 0] rfl (wl_X10_wrongRow_s34 K a1 h  _ _ _ q14 ?_)
      show VV x 76 [(0, .ref (ad x 51)), (1, .int a1), (2, .int v12), (3, .int v13)] [] h
      refine V_iload_n K 2 dX10_wrongRow_76 rfl ?_
      cases E
      exact V_iret K dX10_wrongRow_77 rfl T
theorem c_X10_wrongRow (d : Nat) (a1 : Int32) (h : Hp)  {r : Int32} (E : X10_wrongRow a1 h = some r) : Runs (d + 1) yX10_wrongRow cX10_wrongRow 4 (some .int) (fun f => [.ref (f 51), .int a1]) h (fun _ => some (.int r)) h :=
  Runs.of (by decide +kernel) (fun _ => Nat.le_of_ble_eq_true rfl) (fun x K T => w_X10_wrongRow K  a1 h  E T)
def X10_kinds_s40 (x1 : Int32) (x2 : Int32) (y3 : Int32) (y4 : Int32) (h : Hp) : Option ((Int32 × Int32 × Hp) ⊕ (Int32 × Int32 × Hp)) :=
  if (6 : Int32) ≤ y4 then (some (.inl (y3, y4, h)))
  else (ob (X10_copyRow (X10_now h) (2788 : Int32) h) fun h8 =>
  ob2 (X10_isSo x1 x2 y4 h8) fun r11 h10 =>
  ob (if r11 = (0 : Int32) then (some (0 : Int32))
  else (some ((1 : Int32) <<< (y4 &&& 31)))) fun v12 =>
  lt_ (y3 ||| v12) fun v14 =>
  lt_ (y4 + (1 : Int32)) fun v16 =>
  some (.inr (v14, v16, h10)))
set_option maxHeartbeats 4000000 in
set_option maxRecDepth 100000 in
theorem wl_X10_kinds_s40 {x : Cx} {d : Nat} (K : Ok x cX10_kinds RX10 5 (some .int) (d + 4)) (x1 : Int32) (x2 : Int32)  : ∀ (n : Nat) (s : Int32 × Int32 × Hp) (r : (Int32 × Int32 × Hp)), lp (fun s : Int32 × Int32 × Hp => X10_kinds_s40 x1 x2 s.1 s.2.1 s.2.2) n s = some r → (fun r : (Int32 × Int32 × Hp) => VV x 86 [(0, .ref (ad x 51)), (1, .int x1), (2, .int x2), (3, .int (r.1)), (4, .int (r.2.1))] [] r.2.2) r → (fun s : Int32 × Int32 × Hp => VV x 40 [(0, .ref (ad x 51)), (1, .int x1), (2, .int x2), (3, .int (s.1)), (4, .int (s.2.1))] [] s.2.2) s := by
  refine lp_walk ?_
  intro s z E T
  obtain ⟨y3, y4, h⟩ := s
  replace E : X10_kinds_s40 x1 x2 y3 y4 h = some z := E
  unfold X10_kinds_s40 at E
  show VV x 40 [(0, .ref (ad x 51)), (1, .int x1), (2, .int x2), (3, .int y3), (4, .int y4)] [] h
  refine V_iload K 4 dX10_kinds_40 rfl ?_
  refine V_bp (v := 6) K dX10_kinds_42 rfl ?_
  rcases if_inv E with ⟨c6, E⟩ | ⟨c6, E⟩
  · refine V_ic_ge_t K 86 dX10_kinds_44 (by decide) c6 ?_
    cases E
    exact V_sub [0, 1, 2, 3, 4] rfl T
  · refine V_ic_ge_f K 86 dX10_kinds_44 (by decide) c6 ?_
    refine V_aload_n K 0 dX10_kinds_47 rfl ?_
    refine V_aload_n K 0 dX10_kinds_48 rfl ?_
    refine iv_X10_145 K (c_X10_now _ h) dX10_kinds_49 (Nat.le_of_ble_eq_true rfl) ?_
    refine V_sp (v := 2788) K dX10_kinds_52 rfl ?_
    obtain ⟨h8, q7, E⟩ := ob_inv E
    refine iv_X10_167 K (c_X10_copyRow _ (X10_now h) (2788 : Int32) h q7) dX10_kinds_55 (Nat.le_of_ble_eq_true rfl) ?_
    refine V_iload_n K 3 dX10_kinds_58 rfl ?_
    refine V_aload_n K 0 dX10_kinds_59 rfl ?_
    refine V_iload_n K 1 dX10_kinds_60 rfl ?_
    refine V_iload_n K 2 dX10_kinds_61 rfl ?_
    refine V_iload K 4 dX10_kinds_62 rfl ?_
    obtain ⟨r11, h10, q9, E⟩ := ob2_inv E
    refine iv_X10_193 K (c_X10_isSo _ x1 x2 y4 h8 q9) dX10_kinds_64 (Nat.le_of_ble_eq_true rfl) ?_
    obtain ⟨v12, q18, E⟩ := ob_inv E
    have T9 : VV x 78 [(0, .ref (ad x 51)), (1, .int x1), (2, .int x2), (4, .int y4)] [.int v12, .int y3] h10 := by
      refine V_ior K dX10_kinds_78 ?_
      obtain ⟨v14, e15, E⟩ := lt_inv E
      refine V_top e15 ?_
      refine V_istore_n (lv' := [(3, .int v14), (0, .ref (ad x 51)), (1, .int x1), (2, .int x2), (4, .int y4)]) K dX10_kinds_79 (by decide) rfl ?_
      obtain ⟨v16, e17, E⟩ := lt_inv E
      refine V_iinc (lv' := [(4, .int v16), (3, .int v14), (0, .ref (ad x 51)), (1, .int x1), (2, .int x2)]) K 4 dX10_kinds_80 rfl (by rw [e17]; rfl) (by decide) rfl ?_
      refine V_goto K 40 dX10_kinds_83 (by decide) ?_
      cases E
      exact V_sub [2, 3, 4, 1, 0] rfl T
    have E := q18
    have T := T9
    rcases if_inv E with ⟨c13, E⟩ | ⟨c13, E⟩
    · refine V_if_eq_t K 77 dX10_kinds_67 (by decide) c13 ?_
      refine V_ic (v := 0) K dX10_kinds_77 rfl ?_
      cases E
      exact V_sub [0, 1, 2, 4] rfl T
    · refine V_if_eq_f K 77 dX10_kinds_67 (by decide) c13 ?_
      refine V_ic (v := 1) K dX10_kinds_70 rfl ?_
      refine V_iload K 4 dX10_kinds_71 rfl ?_
      refine V_ishl K dX10_kinds_73 ?_
      refine V_goto K 78 dX10_kinds_74 (by decide) ?_
      cases E
      exact V_sub [0, 1, 2, 4] rfl T
def X10_kinds (a1 : Int32) (a2 : Int32) (h : Hp) : Option (Int32 × Hp) :=
  if (X10_isOne a1 h) = (0 : Int32) then (some ((-1 : Int32), h))
  else (if (X10_isRow a2) = (0 : Int32) then (some ((-1 : Int32), h))
  else (ob (X10_wrongRow a2 h) fun r3 =>
  if r3 ≤ (0 : Int32) then (ob3 (lp (fun s : Int32 × Int32 × Hp => X10_kinds_s40 a1 a2 s.1 s.2.1 s.2.2) FU ((0 : Int32), (0 : Int32), h)) fun v19 v20 h21 =>
  some (v19, h21))
  else (ob (X10_wrongRow a2 h) fun r23 =>
  ob2 (X10_find r23 h) fun r27 h26 =>
  some (r27, h26))))
set_option maxHeartbeats 4000000 in
set_option maxRecDepth 100000 in
theorem w_X10_kinds {x : Cx} {d : Nat} (K : Ok x cX10_kinds RX10 5 (some .int) (d + 4)) (a1 : Int32) (a2 : Int32) (h : Hp)  {z : Int32 × Hp} (E : X10_kinds a1 a2 h = some z) (T : x.2.2.2.2 = (some (.int (z.1)), z.2)) : VV x 0 [(0, .ref (ad x 51)), (1, .int a1), (2, .int a2)] [] h := by
  unfold X10_kinds at E
  refine V_aload_n K 0 dX10_kinds_0 rfl ?_
  refine V_iload_n K 1 dX10_kinds_1 rfl ?_
  refine iv_X10_152 K (c_X10_isOne _ a1 h) dX10_kinds_2 (Nat.le_of_ble_eq_true rfl) ?_
  rcases if_inv E with ⟨c1, E⟩ | ⟨c1, E⟩
  · refine V_if_eq_t K 15 dX10_kinds_5 (by decide) c1 ?_
    refine V_ic (v := -1) K dX10_kinds_15 rfl ?_
    cases E
    exact V_iret K dX10_kinds_16 rfl T
  · refine V_if_eq_f K 15 dX10_kinds_5 (by decide) c1 ?_
    refine V_iload_n K 2 dX10_kinds_8 rfl ?_
    refine iv_X10_67 K (c_X10_isRow _ a2 h) dX10_kinds_9 (Nat.le_of_ble_eq_true rfl) ?_
    rcases if_inv E with ⟨c2, E⟩ | ⟨c2, E⟩
    · refine V_if_ne_f K 17 dX10_kinds_12 (by decide) c2 ?_
      refine V_ic (v := -1) K dX10_kinds_15 rfl ?_
      cases E
      exact V_iret K dX10_kinds_16 rfl T
    · refine V_if_ne_t K 17 dX10_kinds_12 (by decide) c2 ?_
      refine V_aload_n K 0 dX10_kinds_17 rfl ?_
      refine V_iload_n K 2 dX10_kinds_18 rfl ?_
      obtain ⟨r3, q4, E⟩ := ob_inv E
      refine iv_X10_196 K (c_X10_wrongRow _ a2 h q4) dX10_kinds_19 (Nat.le_of_ble_eq_true rfl) ?_
      rcases if_inv E with ⟨c5, E⟩ | ⟨c5, E⟩
      · refine V_if_le_t K 35 dX10_kinds_22 (by decide) c5 ?_
        refine V_ic (v := 0) K dX10_kinds_35 rfl ?_
        refine V_istore_n (lv' := [(3, .int (0 : Int32)), (0, .ref (ad x 51)), (1, .int a1), (2, .int a2)]) K dX10_kinds_36 (by decide) rfl ?_
        refine V_ic (v := 0) K dX10_kinds_37 rfl ?_
        refine V_istore (lv' := [(4, .int (0 : Int32)), (3, .int (0 : Int32)), (0, .ref (ad x 51)), (1, .int a1), (2, .int a2)]) K dX10_kinds_38 (by decide) rfl ?_
        obtain ⟨v19, v20, h21, q22, E⟩ := ob3_inv E
        refine V_sub [2, 3, 4, 1, 0] rfl (wl_X10_kinds_s40 K a1 a2  _ _ _ q22 ?_)
        show VV x 86 [(0, .ref (ad x 51)), (1, .int a1), (2, .int a2), (3, .int v19), (4, .int v20)] [] h21
        refine V_iload_n K 3 dX10_kinds_86 rfl ?_
        cases E
        exact V_iret K dX10_kinds_87 rfl T
      · refine V_if_le_f K 35 dX10_kinds_22 (by decide) c5 ?_
        refine V_aload_n K 0 dX10_kinds_25 rfl ?_
        refine V_aload_n K 0 dX10_kinds_26 rfl ?_
        refine V_iload_n K 2 dX10_kinds_27 rfl ?_
        obtain ⟨r23, q24, E⟩ := ob_inv E
        refine iv_X10_196 K (c_X10_wrongRow _ a2 h q24) dX10_kinds_28 (Nat.le_of_ble_eq_true rfl) ?_
        obtain ⟨r27, h26, q25, E⟩ := ob2_inv E
        refine iv_X10_71 K (c_X10_find _ r23 h q25) dX10_kinds_31 (Nat.le_of_ble_eq_true rfl) ?_
        cases E
        exact V_iret K dX10_kinds_34 rfl T
theorem c_X10_kinds (d : Nat) (a1 : Int32) (a2 : Int32) (h : Hp)  {r : Int32} {h' : Hp} (E : X10_kinds a1 a2 h = some (r, h')) : Runs (d + 4) yX10_kinds cX10_kinds 5 (some .int) (fun f => [.ref (f 51), .int a1, .int a2]) h (fun _ => some (.int r)) h' :=
  Runs.of (by decide +kernel) (fun _ => Nat.le_of_ble_eq_true rfl) (fun x K T => w_X10_kinds K  a1 a2 h  E T)
