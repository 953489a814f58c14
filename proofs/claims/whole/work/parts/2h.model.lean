def X10_sure_s43 (x1 : Int32) (x2 : Int32) (h : Hp) (y3 : Int32) (y4 : Int32) (y5 : Int32) (y6 : Int32) : Option ((Int32 × Int32 × Int32 × Int32) ⊕ (Int32 × Int32 × Int32 × Int32)) :=
  if x2 < y6 then (some (.inl (y3, y4, y5, y6)))
  else (ob (X10_haveOf y6 h) fun r6 =>
  ob3 (if r6 = x1 then (lt_ (y5 + (1 : Int32)) fun v12 =>
  lt_ (y3 &&& y6) fun v14 =>
  lt_ (y4 ||| y6) fun v16 =>
  some (v14, v16, v12))
  else (some (y3, y4, y5))) fun v8 v9 v10 =>
  lt_ (y6 + (1 : Int32)) fun v18 =>
  some (.inr (v8, v9, v10, v18)))
set_option maxHeartbeats 4000000 in
set_option maxRecDepth 100000 in
theorem wl_X10_sure_s43 {x : Cx} {d : Nat} (K : Ok x cX10_sure RX10 7 (some .int) (d + 2)) (x1 : Int32) (x2 : Int32) (h : Hp)  : ∀ (n : Nat) (s : Int32 × Int32 × Int32 × Int32) (r : (Int32 × Int32 × Int32 × Int32)), lp (fun s : Int32 × Int32 × Int32 × Int32 => X10_sure_s43 x1 x2 h s.1 s.2.1 s.2.2.1 s.2.2.2) n s = some r → (fun r : (Int32 × Int32 × Int32 × Int32) => VV x 80 [(0, .ref (ad x 51)), (1, .int x1), (2, .int x2), (3, .int (r.1)), (4, .int (r.2.1)), (5, .int (r.2.2.1)), (6, .int (r.2.2.2))] [] h) r → (fun s : Int32 × Int32 × Int32 × Int32 => VV x 43 [(0, .ref (ad x 51)), (1, .int x1), (2, .int x2), (3, .int (s.1)), (4, .int (s.2.1)), (5, .int (s.2.2.1)), (6, .int (s.2.2.2))] [] h) s := by
  refine lp_walk ?_
  intro s z E T
  obtain ⟨y3, y4, y5, y6⟩ := s
  replace E : X10_sure_s43 x1 x2 h y3 y4 y5 y6 = some z := E
  unfold X10_sure_s43 at E
  show VV x 43 [(0, .ref (ad x 51)), (1, .int x1), (2, .int x2), (3, .int y3), (4, .int y4), (5, .int y5), (6, .int y6)] [] h
  refine V_iload K 6 dX10_sure_43 rfl ?_
  refine V_iload_n K 2 dX10_sure_45 rfl ?_
  rcases if_inv E with ⟨c5, E⟩ | ⟨c5, E⟩
  · refine V_ic_gt_t K 80 dX10_sure_46 (by decide) c5 ?_
    cases E
    exact V_sub [0, 1, 2, 3, 4, 5, 6] rfl T
  · refine V_ic_gt_f K 80 dX10_sure_46 (by decide) c5 ?_
    refine V_aload_n K 0 dX10_sure_49 rfl ?_
    refine V_iload K 6 dX10_sure_50 rfl ?_
    obtain ⟨r6, q7, E⟩ := ob_inv E
    refine iv_X10_205 K (c_X10_haveOf _ y6 h q7) dX10_sure_52 (Nat.le_of_ble_eq_true rfl) ?_
    refine V_iload_n K 1 dX10_sure_55 rfl ?_
    obtain ⟨v8, v9, v10, q20, E⟩ := ob3_inv E
    have T9 : VV x 74 [(0, .ref (ad x 51)), (1, .int x1), (2, .int x2), (3, .int v8), (4, .int v9), (5, .int v10), (6, .int y6)] [] h := by
      obtain ⟨v18, e19, E⟩ := lt_inv E
      refine V_iinc (lv' := [(6, .int v18), (0, .ref (ad x 51)), (1, .int x1), (2, .int x2), (3, .int v8), (4, .int v9), (5, .int v10)]) K 6 dX10_sure_74 rfl (by rw [e19]; rfl) (by decide) rfl ?_
      refine V_goto K 43 dX10_sure_77 (by decide) ?_
      cases E
      exact V_sub [1, 2, 3, 4, 5, 6, 0] rfl T
    have E := q20
    have T := T9
    rcases if_inv E with ⟨c11, E⟩ | ⟨c11, E⟩
    · refine V_ic_ne_f K 74 dX10_sure_56 (by decide) c11 ?_
      obtain ⟨v12, e13, E⟩ := lt_inv E
      refine V_iinc (lv' := [(5, .int v12), (0, .ref (ad x 51)), (1, .int x1), (2, .int x2), (3, .int y3), (4, .int y4), (6, .int y6)]) K 5 dX10_sure_59 rfl (by rw [e13]; rfl) (by decide) rfl ?_
      refine V_iload_n K 4 dX10_sure_62 rfl ?_
      refine V_iload K 6 dX10_sure_63 rfl ?_
      refine V_iand K dX10_sure_65 ?_
      obtain ⟨v14, e15, E⟩ := lt_inv E
      refine V_top e15 ?_
      refine V_istore_n (lv' := [(3, .int v14), (5, .int v12), (0, .ref (ad x 51)), (1, .int x1), (2, .int x2), (4, .int y4), (6, .int y6)]) K dX10_sure_66 (by decide) rfl ?_
      refine V_iload K 5 dX10_sure_67 rfl ?_
      refine V_iload K 6 dX10_sure_69 rfl ?_
      refine V_ior K dX10_sure_71 ?_
      obtain ⟨v16, e17, E⟩ := lt_inv E
      refine V_top e17 ?_
      refine V_istore (lv' := [(4, .int v16), (3, .int v14), (5, .int v12), (0, .ref (ad x 51)), (1, .int x1), (2, .int x2), (6, .int y6)]) K dX10_sure_72 (by decide) rfl ?_
      cases E
      exact V_sub [3, 4, 5, 1, 0, 2, 6] rfl T
    · refine V_ic_ne_t K 74 dX10_sure_56 (by decide) c11 ?_
      cases E
      exact V_sub [0, 1, 2, 3, 4, 5, 6] rfl T
def X10_sure (a1 : Int32) (h : Hp) : Option (Int32 × Hp) :=
  if (X10_in a1 (0 : Int32) (180 : Int32)) = (0 : Int32) then (some ((-1 : Int32), h))
  else (if (h.1 51 2) = (0 : Int32) then (some ((-4 : Int32), h))
  else (lt_ (((1 : Int32) <<< ((h.1 51 2) &&& 31)) - (1 : Int32)) fun v3 =>
  ob4 (lp (fun s : Int32 × Int32 × Int32 × Int32 => X10_sure_s43 a1 v3 h s.1 s.2.1 s.2.2.1 s.2.2.2) FU (v3, (0 : Int32), (0 : Int32), (0 : Int32))) fun v21 v22 v23 v24 =>
  if v23 = (0 : Int32) then (ob2 (X10_find (4 : Int32) h) fun r28 h27 =>
  some (r28, h27))
  else (lt_ (up h 51 13 (v3 &&& (v22 ^^^ (-1 : Int32)))) fun h29 =>
  some (v21, h29))))
set_option maxHeartbeats 4000000 in
set_option maxRecDepth 100000 in
theorem w_X10_sure {x : Cx} {d : Nat} (K : Ok x cX10_sure RX10 7 (some .int) (d + 2)) (a1 : Int32) (h : Hp)  {z : Int32 × Hp} (E : X10_sure a1 h = some z) (T : x.2.2.2.2 = (some (.int (z.1)), z.2)) : VV x 0 [(0, .ref (ad x 51)), (1, .int a1)] [] h := by
  unfold X10_sure at E
  refine V_iload_n K 1 dX10_sure_0 rfl ?_
  refine V_ic (v := 0) K dX10_sure_1 rfl ?_
  refine V_sp (v := 180) K dX10_sure_2 rfl ?_
  refine iv_X10_63 K (c_X10_in _ a1 (0 : Int32) (180 : Int32) h) dX10_sure_5 (Nat.le_of_ble_eq_true rfl) ?_
  rcases if_inv E with ⟨c1, E⟩ | ⟨c1, E⟩
  · refine V_if_ne_f K 13 dX10_sure_8 (by decide) c1 ?_
    refine V_ic (v := -1) K dX10_sure_11 rfl ?_
    cases E
    exact V_iret K dX10_sure_12 rfl T
  · refine V_if_ne_t K 13 dX10_sure_8 (by decide) c1 ?_
    refine V_aload_n K 0 dX10_sure_13 rfl ?_
    refine gf_X10_120 K dX10_sure_14 ?_
    rcases if_inv E with ⟨c2, E⟩ | ⟨c2, E⟩
    · refine V_if_ne_f K 23 dX10_sure_17 (by decide) c2 ?_
      refine V_bp (v := -4) K dX10_sure_20 rfl ?_
      cases E
      exact V_iret K dX10_sure_22 rfl T
    · refine V_if_ne_t K 23 dX10_sure_17 (by decide) c2 ?_
      refine V_ic (v := 1) K dX10_sure_23 rfl ?_
      refine V_aload_n K 0 dX10_sure_24 rfl ?_
      refine gf_X10_120 K dX10_sure_25 ?_
      refine V_ishl K dX10_sure_28 ?_
      refine V_ic (v := 1) K dX10_sure_29 rfl ?_
      refine V_isub K dX10_sure_30 ?_
      obtain ⟨v3, e4, E⟩ := lt_inv E
      refine V_top e4 ?_
      refine V_istore_n (lv' := [(2, .int v3), (0, .ref (ad x 51)), (1, .int a1)]) K dX10_sure_31 (by decide) rfl ?_
      refine V_iload_n K 0 dX10_sure_32 rfl ?_
      refine V_istore_n (lv' := [(3, .int v3), (2, .int v3), (0, .ref (ad x 51)), (1, .int a1)]) K dX10_sure_33 (by decide) rfl ?_
      refine V_ic (v := 0) K dX10_sure_34 rfl ?_
      refine V_istore (lv' := [(4, .int (0 : Int32)), (3, .int v3), (2, .int v3), (0, .ref (ad x 51)), (1, .int a1)]) K dX10_sure_35 (by decide) rfl ?_
      refine V_ic (v := 0) K dX10_sure_37 rfl ?_
      refine V_istore (lv' := [(5, .int (0 : Int32)), (4, .int (0 : Int32)), (3, .int v3), (2, .int v3), (0, .ref (ad x 51)), (1, .int a1)]) K dX10_sure_38 (by decide) rfl ?_
      refine V_ic (v := 0) K dX10_sure_40 rfl ?_
      refine V_istore (lv' := [(6, .int (0 : Int32)), (5, .int (0 : Int32)), (4, .int (0 : Int32)), (3, .int v3), (2, .int v3), (0, .ref (ad x 51)), (1, .int a1)]) K dX10_sure_41 (by decide) rfl ?_
      obtain ⟨v21, v22, v23, v24, q31, E⟩ := ob4_inv E
      refine V_sub [5, 6, 4, 3, 2, 1, 0] rfl (wl_X10_sure_s43 K a1 v3 h  _ _ _ q31 ?_)
      show VV x 80 [(0, .ref (ad x 51)), (1, .int a1), (2, .int v3), (3, .int v21), (4, .int v22), (5, .int v23), (6, .int v24)] [] h
      refine V_iload K 5 dX10_sure_80 rfl ?_
      rcases if_inv E with ⟨c25, E⟩ | ⟨c25, E⟩
      · refine V_if_ne_f K 91 dX10_sure_82 (by decide) c25 ?_
        refine V_aload_n K 0 dX10_sure_85 rfl ?_
        refine V_ic (v := 4) K dX10_sure_86 rfl ?_
        obtain ⟨r28, h27, q26, E⟩ := ob2_inv E
        refine iv_X10_71 K (c_X10_find _ (4 : Int32) h q26) dX10_sure_87 (Nat.le_of_ble_eq_true rfl) ?_
        cases E
        exact V_iret K dX10_sure_90 rfl T
      · refine V_if_ne_t K 91 dX10_sure_82 (by decide) c25 ?_
        refine V_aload_n K 0 dX10_sure_91 rfl ?_
        refine V_iload_n K 2 dX10_sure_92 rfl ?_
        refine V_iload K 4 dX10_sure_93 rfl ?_
        refine V_ic (v := -1) K dX10_sure_95 rfl ?_
        refine V_ixor K dX10_sure_96 ?_
        refine V_iand K dX10_sure_97 ?_
        obtain ⟨h29, e30, E⟩ := lt_inv E
        refine pf_X10_60 K dX10_sure_98 ?_
        refine V_hp e30 ?_
        refine V_iload_n K 3 dX10_sure_101 rfl ?_
        cases E
        exact V_iret K dX10_sure_102 rfl T
theorem c_X10_sure (d : Nat) (a1 : Int32) (h : Hp)  {r : Int32} {h' : Hp} (E : X10_sure a1 h = some (r, h')) : Runs (d + 2) yX10_sure cX10_sure 7 (some .int) (fun f => [.ref (f 51), .int a1]) h (fun _ => some (.int r)) h' :=
  Runs.of (by decide +kernel) (fun _ => Nat.le_of_ble_eq_true rfl) (fun x K T => w_X10_sure K  a1 h  E T)
def X10_tear (a1 : Int32) (h : Hp) : Option (Int32 × Hp) :=
  if (X10_isRow a1) = (0 : Int32) then (some ((-1 : Int32), h))
  else (gd (ib a1 6) (
  if (h.1 56 (ix a1)) = (-9 : Int32) then (ob2 (X10_find (1 : Int32) h) fun r6 h5 =>
  some (r6, h5))
  else (lt_ (up h 56 (ix a1) (-9 : Int32)) fun h7 =>
  some ((1 : Int32), h7))))
set_option maxHeartbeats 4000000 in
set_option maxRecDepth 100000 in
theorem w_X10_tear {x : Cx} {d : Nat} (K : Ok x cX10_tear RX10 2 (some .int) (d + 2)) (a1 : Int32) (h : Hp)  {z : Int32 × Hp} (E : X10_tear a1 h = some z) (T : x.2.2.2.2 = (some (.int (z.1)), z.2)) : VV x 0 [(0, .ref (ad x 51)), (1, .int a1)] [] h := by
  unfold X10_tear at E
  refine V_iload_n K 1 dX10_tear_0 rfl ?_
  refine iv_X10_67 K (c_X10_isRow _ a1 h) dX10_tear_1 (Nat.le_of_ble_eq_true rfl) ?_
  rcases if_inv E with ⟨c1, E⟩ | ⟨c1, E⟩
  · refine V_if_ne_f K 9 dX10_tear_4 (by decide) c1 ?_
    refine V_ic (v := -1) K dX10_tear_7 rfl ?_
    cases E
    exact V_iret K dX10_tear_8 rfl T
  · refine V_if_ne_t K 9 dX10_tear_4 (by decide) c1 ?_
    refine V_aload_n K 0 dX10_tear_9 rfl ?_
    refine gf_X10_22 K dX10_tear_10 ?_
    refine V_iload_n K 1 dX10_tear_13 rfl ?_
    obtain ⟨g2, E⟩ := gd_inv E
    refine V_iald K k_56 n_56 g2 dX10_tear_14 ?_
    refine V_bp (v := -9) K dX10_tear_15 rfl ?_
    rcases if_inv E with ⟨c3, E⟩ | ⟨c3, E⟩
    · refine V_ic_ne_f K 26 dX10_tear_17 (by decide) c3 ?_
      refine V_aload_n K 0 dX10_tear_20 rfl ?_
      refine V_ic (v := 1) K dX10_tear_21 rfl ?_
      obtain ⟨r6, h5, q4, E⟩ := ob2_inv E
      refine iv_X10_71 K (c_X10_find _ (1 : Int32) h q4) dX10_tear_22 (Nat.le_of_ble_eq_true rfl) ?_
      cases E
      exact V_iret K dX10_tear_25 rfl T
    · refine V_ic_ne_t K 26 dX10_tear_17 (by decide) c3 ?_
      refine V_aload_n K 0 dX10_tear_26 rfl ?_
      refine gf_X10_22 K dX10_tear_27 ?_
      refine V_iload_n K 1 dX10_tear_30 rfl ?_
      refine V_bp (v := -9) K dX10_tear_31 rfl ?_
      obtain ⟨h7, e8, E⟩ := lt_inv E
      refine V_iast K k_56 n_56 g2 dX10_tear_33 ?_
      refine V_hp e8 ?_
      refine V_ic (v := 1) K dX10_tear_34 rfl ?_
      cases E
      exact V_iret K dX10_tear_35 rfl T
theorem c_X10_tear (d : Nat) (a1 : Int32) (h : Hp)  {r : Int32} {h' : Hp} (E : X10_tear a1 h = some (r, h')) : Runs (d + 2) yX10_tear cX10_tear 2 (some .int) (fun f => [.ref (f 51), .int a1]) h (fun _ => some (.int r)) h' :=
  Runs.of (by decide +kernel) (fun _ => Nat.le_of_ble_eq_true rfl) (fun x K T => w_X10_tear K  a1 h  E T)
def X10_text_s27 (x1 : Int32) (x2 : Int32) (y3 : Int32) (h : Hp) : Option ((Int32 × Hp) ⊕ (Int32 × Hp)) :=
  if x2 ≤ y3 then (some (.inl (y3, h)))
  else (gd (ib (((60 : Int32) * x1) + y3) 240) (
  lt_ (up h 57 (ix (((60 : Int32) * x1) + y3)) (32 : Int32)) fun h6 =>
  lt_ (y3 + (1 : Int32)) fun v8 =>
  some (.inr (v8, h6))))
set_option maxHeartbeats 4000000 in
set_option maxRecDepth 100000 in
theorem wl_X10_text_s27 {x : Cx} {d : Nat} (K : Ok x cX10_text RX10 4 (some .int) (d + 2)) (x1 : Int32) (x2 : Int32)  : ∀ (n : Nat) (s : Int32 × Hp) (r : (Int32 × Hp)), lp (fun s : Int32 × Hp => X10_text_s27 x1 x2 s.1 s.2) n s = some r → (fun r : (Int32 × Hp) => VV x 51 [(0, .ref (ad x 51)), (1, .int x1), (2, .int x2), (3, .int (r.1))] [] r.2) r → (fun s : Int32 × Hp => VV x 27 [(0, .ref (ad x 51)), (1, .int x1), (2, .int x2), (3, .int (s.1))] [] s.2) s := by
  refine lp_walk ?_
  intro s z E T
  obtain ⟨y3, h⟩ := s
  replace E : X10_text_s27 x1 x2 y3 h = some z := E
  unfold X10_text_s27 at E
  show VV x 27 [(0, .ref (ad x 51)), (1, .int x1), (2, .int x2), (3, .int y3)] [] h
  refine V_iload_n K 3 dX10_text_27 rfl ?_
  refine V_iload_n K 2 dX10_text_28 rfl ?_
  rcases if_inv E with ⟨c4, E⟩ | ⟨c4, E⟩
  · refine V_ic_ge_t K 51 dX10_text_29 (by decide) c4 ?_
    cases E
    exact V_sub [0, 1, 2, 3] rfl T
  · refine V_ic_ge_f K 51 dX10_text_29 (by decide) c4 ?_
    refine V_aload_n K 0 dX10_text_32 rfl ?_
    refine gf_X10_25 K dX10_text_33 ?_
    refine V_bp (v := 60) K dX10_text_36 rfl ?_
    refine V_iload_n K 1 dX10_text_38 rfl ?_
    refine V_imul K dX10_text_39 ?_
    refine V_iload_n K 3 dX10_text_40 rfl ?_
    refine V_iadd K dX10_text_41 ?_
    refine V_bp (v := 32) K dX10_text_42 rfl ?_
    obtain ⟨g5, E⟩ := gd_inv E
    obtain ⟨h6, e7, E⟩ := lt_inv E
    refine V_iast K k_57 n_57 g5 dX10_text_44 ?_
    refine V_hp e7 ?_
    obtain ⟨v8, e9, E⟩ := lt_inv E
    refine V_iinc (lv' := [(3, .int v8), (0, .ref (ad x 51)), (1, .int x1), (2, .int x2)]) K 3 dX10_text_45 rfl (by rw [e9]; rfl) (by decide) rfl ?_
    refine V_goto K 27 dX10_text_48 (by decide) ?_
    cases E
    exact V_sub [1, 2, 3, 0] rfl T
def X10_text (a1 : Int32) (a2 : Int32) (h : Hp) : Option (Int32 × Hp) :=
  if (X10_isText a1) = (0 : Int32) then (some ((-1 : Int32), h))
  else (if a2 ≤ (60 : Int32) then (if (0 : Int32) ≤ a2 then (ob2 (lp (fun s : Int32 × Hp => X10_text_s27 a1 a2 s.1 s.2) FU ((0 : Int32), h)) fun v10 h11 =>
  gd (ib a1 4) (
  lt_ (up h11 58 (ix a1) a2) fun h13 =>
  some (a2, h13)))
  else (ob2 (X10_find (5 : Int32) h) fun r18 h17 =>
  some (r18, h17)))
  else (some ((-1 : Int32), h)))
set_option maxHeartbeats 4000000 in
set_option maxRecDepth 100000 in
theorem w_X10_text {x : Cx} {d : Nat} (K : Ok x cX10_text RX10 4 (some .int) (d + 2)) (a1 : Int32) (a2 : Int32) (h : Hp)  {z : Int32 × Hp} (E : X10_text a1 a2 h = some z) (T : x.2.2.2.2 = (some (.int (z.1)), z.2)) : VV x 0 [(0, .ref (ad x 51)), (1, .int a1), (2, .int a2)] [] h := by
  unfold X10_text at E
  refine V_iload_n K 1 dX10_text_0 rfl ?_
  refine iv_X10_82 K (c_X10_isText _ a1 h) dX10_text_1 (Nat.le_of_ble_eq_true rfl) ?_
  rcases if_inv E with ⟨c1, E⟩ | ⟨c1, E⟩
  · refine V_if_eq_t K 13 dX10_text_4 (by decide) c1 ?_
    refine V_ic (v := -1) K dX10_text_13 rfl ?_
    cases E
    exact V_iret K dX10_text_14 rfl T
  · refine V_if_eq_f K 13 dX10_text_4 (by decide) c1 ?_
    refine V_iload_n K 2 dX10_text_7 rfl ?_
    refine V_bp (v := 60) K dX10_text_8 rfl ?_
    rcases if_inv E with ⟨c2, E⟩ | ⟨c2, E⟩
    · refine V_ic_le_t K 15 dX10_text_10 (by decide) c2 ?_
      refine V_iload_n K 2 dX10_text_15 rfl ?_
      rcases if_inv E with ⟨c3, E⟩ | ⟨c3, E⟩
      · refine V_if_ge_t K 25 dX10_text_16 (by decide) c3 ?_
        refine V_ic (v := 0) K dX10_text_25 rfl ?_
        refine V_istore_n (lv' := [(3, .int (0 : Int32)), (0, .ref (ad x 51)), (1, .int a1), (2, .int a2)]) K dX10_text_26 (by decide) rfl ?_
        obtain ⟨v10, h11, q15, E⟩ := ob2_inv E
        refine V_sub [1, 2, 3, 0] rfl (wl_X10_text_s27 K a1 a2  _ _ _ q15 ?_)
        show VV x 51 [(0, .ref (ad x 51)), (1, .int a1), (2, .int a2), (3, .int v10)] [] h11
        refine V_aload_n K 0 dX10_text_51 rfl ?_
        refine gf_X10_28 K dX10_text_52 ?_
        refine V_iload_n K 1 dX10_text_55 rfl ?_
        refine V_iload_n K 2 dX10_text_56 rfl ?_
        obtain ⟨g12, E⟩ := gd_inv E
        obtain ⟨h13, e14, E⟩ := lt_inv E
        refine V_iast K k_58 n_58 g12 dX10_text_57 ?_
        refine V_hp e14 ?_
        refine V_iload_n K 2 dX10_text_58 rfl ?_
        cases E
        exact V_iret K dX10_text_59 rfl T
      · refine V_if_ge_f K 25 dX10_text_16 (by decide) c3 ?_
        refine V_aload_n K 0 dX10_text_19 rfl ?_
        refine V_ic (v := 5) K dX10_text_20 rfl ?_
        obtain ⟨r18, h17, q16, E⟩ := ob2_inv E
        refine iv_X10_71 K (c_X10_find _ (5 : Int32) h q16) dX10_text_21 (Nat.le_of_ble_eq_true rfl) ?_
        cases E
        exact V_iret K dX10_text_24 rfl T
    · refine V_ic_le_f K 15 dX10_text_10 (by decide) c2 ?_
      refine V_ic (v := -1) K dX10_text_13 rfl ?_
      cases E
      exact V_iret K dX10_text_14 rfl T
theorem c_X10_text (d : Nat) (a1 : Int32) (a2 : Int32) (h : Hp)  {r : Int32} {h' : Hp} (E : X10_text a1 a2 h = some (r, h')) : Runs (d + 2) yX10_text cX10_text 4 (some .int) (fun f => [.ref (f 51), .int a1, .int a2]) h (fun _ => some (.int r)) h' :=
  Runs.of (by decide +kernel) (fun _ => Nat.le_of_ble_eq_true rfl) (fun x K T => w_X10_text K  a1 a2 h  E T)
def X10_turn  (h : Hp) : Option (Int32 × Hp) :=
  if (h.1 51 2) = (0 : Int32) then (some ((-4 : Int32), h))
  else (if (h.1 51 5) = (40 : Int32) then (some ((-2 : Int32), h))
  else (ob2 (X10_begin h) fun r5 h4 =>
  ob2 (X10_plainTurn r5 h4) fun r8 h7 =>
  some (r8, h7)))
set_option maxHeartbeats 4000000 in
set_option maxRecDepth 100000 in
theorem w_X10_turn {x : Cx} {d : Nat} (K : Ok x cX10_turn RX10 1 (some .int) (d + 4))  (h : Hp)  {z : Int32 × Hp} (E : X10_turn  h = some z) (T : x.2.2.2.2 = (some (.int (z.1)), z.2)) : VV x 0 [(0, .ref (ad x 51))] [] h := by
  unfold X10_turn at E
  refine V_aload_n K 0 dX10_turn_0 rfl ?_
  refine gf_X10_120 K dX10_turn_1 ?_
  rcases if_inv E with ⟨c1, E⟩ | ⟨c1, E⟩
  · refine V_if_ne_f K 10 dX10_turn_4 (by decide) c1 ?_
    refine V_bp (v := -4) K dX10_turn_7 rfl ?_
    cases E
    exact V_iret K dX10_turn_9 rfl T
  · refine V_if_ne_t K 10 dX10_turn_4 (by decide) c1 ?_
    refine V_aload_n K 0 dX10_turn_10 rfl ?_
    refine gf_X10_129 K dX10_turn_11 ?_
    refine V_bp (v := 40) K dX10_turn_14 rfl ?_
    rcases if_inv E with ⟨c2, E⟩ | ⟨c2, E⟩
    · refine V_ic_ne_f K 24 dX10_turn_16 (by decide) c2 ?_
      refine V_bp (v := -2) K dX10_turn_19 rfl ?_
      refine V_goto K 32 dX10_turn_21 (by decide) ?_
      cases E
      exact V_iret K dX10_turn_32 rfl T
    · refine V_ic_ne_t K 24 dX10_turn_16 (by decide) c2 ?_
      refine V_aload_n K 0 dX10_turn_24 rfl ?_
      refine V_aload_n K 0 dX10_turn_25 rfl ?_
      obtain ⟨r5, h4, q3, E⟩ := ob2_inv E
      refine iv_X10_171 K (c_X10_begin _ h q3) dX10_turn_26 (Nat.le_of_ble_eq_true rfl) ?_
      obtain ⟨r8, h7, q6, E⟩ := ob2_inv E
      refine iv_X10_174 K (c_X10_plainTurn _ r5 h4 q6) dX10_turn_29 (Nat.le_of_ble_eq_true rfl) ?_
      cases E
      exact V_iret K dX10_turn_32 rfl T
theorem c_X10_turn (d : Nat)  (h : Hp)  {r : Int32} {h' : Hp} (E : X10_turn  h = some (r, h')) : Runs (d + 4) yX10_turn cX10_turn 1 (some .int) (fun f => [.ref (f 51)]) h (fun _ => some (.int r)) h' :=
  Runs.of (by decide +kernel) (fun _ => Nat.le_of_ble_eq_true rfl) (fun x K T => w_X10_turn K   h  E T)
def X10_undo (a1 : Int32) (h : Hp) : Option (Int32 × Hp) :=
  if (X10_in a1 (0 : Int32) (h.1 51 5)) = (0 : Int32) then (some ((-1 : Int32), h))
  else (lt_ ((h.1 51 5) - a1) fun v2 =>
  lt_ (up h 51 5 a1) fun h4 =>
  some (v2, h4))
set_option maxHeartbeats 4000000 in
set_option maxRecDepth 100000 in
theorem w_X10_undo {x : Cx} {d : Nat} (K : Ok x cX10_undo RX10 3 (some .int) (d + 1)) (a1 : Int32) (h : Hp)  {z : Int32 × Hp} (E : X10_undo a1 h = some z) (T : x.2.2.2.2 = (some (.int (z.1)), z.2)) : VV x 0 [(0, .ref (ad x 51)), (1, .int a1)] [] h := by
  unfold X10_undo at E
  refine V_iload_n K 1 dX10_undo_0 rfl ?_
  refine V_ic (v := 0) K dX10_undo_1 rfl ?_
  refine V_aload_n K 0 dX10_undo_2 rfl ?_
  refine gf_X10_129 K dX10_undo_3 ?_
  refine iv_X10_63 K (c_X10_in _ a1 (0 : Int32) (h.1 51 5) h) dX10_undo_6 (Nat.le_of_ble_eq_true rfl) ?_
  rcases if_inv E with ⟨c1, E⟩ | ⟨c1, E⟩
  · refine V_if_ne_f K 14 dX10_undo_9 (by decide) c1 ?_
    refine V_ic (v := -1) K dX10_undo_12 rfl ?_
    cases E
    exact V_iret K dX10_undo_13 rfl T
  · refine V_if_ne_t K 14 dX10_undo_9 (by decide) c1 ?_
    refine V_aload_n K 0 dX10_undo_14 rfl ?_
    refine gf_X10_129 K dX10_undo_15 ?_
    refine V_iload_n K 1 dX10_undo_18 rfl ?_
    refine V_isub K dX10_undo_19 ?_
    obtain ⟨v2, e3, E⟩ := lt_inv E
    refine V_top e3 ?_
    refine V_istore_n (lv' := [(2, .int v2), (0, .ref (ad x 51)), (1, .int a1)]) K dX10_undo_20 (by decide) rfl ?_
    refine V_aload_n K 1 dX10_undo_21 rfl ?_
    refine V_iload_n K 2 dX10_undo_22 rfl ?_
    obtain ⟨h4, e5, E⟩ := lt_inv E
    refine pf_X10_129 K dX10_undo_23 ?_
    refine V_hp e5 ?_
    refine V_iload_n K 0 dX10_undo_26 rfl ?_
    cases E
    exact V_iret K dX10_undo_27 rfl T
theorem c_X10_undo (d : Nat) (a1 : Int32) (h : Hp)  {r : Int32} {h' : Hp} (E : X10_undo a1 h = some (r, h')) : Runs (d + 1) yX10_undo cX10_undo 3 (some .int) (fun f => [.ref (f 51), .int a1]) h (fun _ => some (.int r)) h' :=
  Runs.of (by decide +kernel) (fun _ => Nat.le_of_ble_eq_true rfl) (fun x K T => w_X10_undo K  a1 h  E T)
def X10_upper  (h : Hp) : Int64 :=
  h.2 51 14
set_option maxHeartbeats 4000000 in
set_option maxRecDepth 100000 in
theorem w_X10_upper {x : Cx} {d : Nat} (K : Ok x cX10_upper RX10 1 (some .long) (d + 0))  (h : Hp)  {z : Int64} (E : X10_upper  h = z) (T : x.2.2.2.2 = (some (.long z), h)) : VV x 0 [(0, .ref (ad x 51))] [] h := by
  unfold X10_upper at E
  refine V_aload_n K 0 dX10_upper_0 rfl ?_
  refine gf_X10_208 K dX10_upper_1 ?_
  cases E
  exact V_lret K dX10_upper_4 T
theorem c_X10_upper (d : Nat)  (h : Hp)  : Runs (d + 0) yX10_upper cX10_upper 1 (some .long) (fun f => [.ref (f 51)]) h (fun _ => some (.long (X10_upper  h))) h :=
  Runs.of (by decide +kernel) (fun _ => Nat.le_of_ble_eq_true rfl) (fun x K T => w_X10_upper K   h  rfl T)
def X10_wind (a1 : Int32) (h : Hp) : Option (Int32 × Hp) :=
  if (X10_in a1 (0 : Int32) (2 : Int32)) = (0 : Int32) then (some ((-1 : Int32), h))
  else (if (h.1 51 2) = (0 : Int32) then (some ((-4 : Int32), h))
  else (gd (ib ((X10_now h) + (14 : Int32)) 2805) (
  if (h.1 52 (ix ((X10_now h) + (14 : Int32)))) = a1 then (some ((-4 : Int32), h))
  else (if (h.1 51 5) = (40 : Int32) then (some ((-2 : Int32), h))
  else (lt_ (h.1 52 (ix ((X10_now h) + (14 : Int32)))) fun v6 =>
  ob2 (X10_begin h) fun r10 h9 =>
  gd (ib (r10 + (14 : Int32)) 2805) (
  lt_ (up h9 52 (ix (r10 + (14 : Int32))) a1) fun h12 =>
  some (v6, h12)))))))
set_option maxHeartbeats 4000000 in
set_option maxRecDepth 100000 in
theorem w_X10_wind {x : Cx} {d : Nat} (K : Ok x cX10_wind RX10 3 (some .int) (d + 2)) (a1 : Int32) (h : Hp)  {z : Int32 × Hp} (E : X10_wind a1 h = some z) (T : x.2.2.2.2 = (some (.int (z.1)), z.2)) : VV x 0 [(0, .ref (ad x 51)), (1, .int a1)] [] h := by
  unfold X10_wind at E
  refine V_iload_n K 1 dX10_wind_0 rfl ?_
  refine V_ic (v := 0) K dX10_wind_1 rfl ?_
  refine V_ic (v := 2) K dX10_wind_2 rfl ?_
  refine iv_X10_63 K (c_X10_in _ a1 (0 : Int32) (2 : Int32) h) dX10_wind_3 (Nat.le_of_ble_eq_true rfl) ?_
  rcases if_inv E with ⟨c1, E⟩ | ⟨c1, E⟩
  · refine V_if_ne_f K 11 dX10_wind_6 (by decide) c1 ?_
    refine V_ic (v := -1) K dX10_wind_9 rfl ?_
    cases E
    exact V_iret K dX10_wind_10 rfl T
  · refine V_if_ne_t K 11 dX10_wind_6 (by decide) c1 ?_
    refine V_aload_n K 0 dX10_wind_11 rfl ?_
    refine gf_X10_120 K dX10_wind_12 ?_
    rcases if_inv E with ⟨c2, E⟩ | ⟨c2, E⟩
    · refine V_if_eq_t K 34 dX10_wind_15 (by decide) c2 ?_
      refine V_bp (v := -4) K dX10_wind_34 rfl ?_
      cases E
      exact V_iret K dX10_wind_36 rfl T
    · refine V_if_eq_f K 34 dX10_wind_15 (by decide) c2 ?_
      refine V_aload_n K 0 dX10_wind_18 rfl ?_
      refine gf_X10_7 K dX10_wind_19 ?_
      refine V_aload_n K 0 dX10_wind_22 rfl ?_
      refine iv_X10_145 K (c_X10_now _ h) dX10_wind_23 (Nat.le_of_ble_eq_true rfl) ?_
      refine V_bp (v := 14) K dX10_wind_26 rfl ?_
      refine V_iadd K dX10_wind_28 ?_
      obtain ⟨g3, E⟩ := gd_inv E
      refine V_iald K k_52 n_52 g3 dX10_wind_29 ?_
      refine V_iload_n K 1 dX10_wind_30 rfl ?_
      rcases if_inv E with ⟨c4, E⟩ | ⟨c4, E⟩
      · refine V_ic_ne_f K 37 dX10_wind_31 (by decide) c4 ?_
        refine V_bp (v := -4) K dX10_wind_34 rfl ?_
        cases E
        exact V_iret K dX10_wind_36 rfl T
      · refine V_ic_ne_t K 37 dX10_wind_31 (by decide) c4 ?_
        refine V_aload_n K 0 dX10_wind_37 rfl ?_
        refine gf_X10_129 K dX10_wind_38 ?_
        refine V_bp (v := 40) K dX10_wind_41 rfl ?_
        rcases if_inv E with ⟨c5, E⟩ | ⟨c5, E⟩
        · refine V_ic_ne_f K 49 dX10_wind_43 (by decide) c5 ?_
          refine V_bp (v := -2) K dX10_wind_46 rfl ?_
          cases E
          exact V_iret K dX10_wind_48 rfl T
        · refine V_ic_ne_t K 49 dX10_wind_43 (by decide) c5 ?_
          refine V_aload_n K 0 dX10_wind_49 rfl ?_
          refine gf_X10_7 K dX10_wind_50 ?_
          refine V_aload_n K 0 dX10_wind_53 rfl ?_
          refine iv_X10_145 K (c_X10_now _ h) dX10_wind_54 (Nat.le_of_ble_eq_true rfl) ?_
          refine V_bp (v := 14) K dX10_wind_57 rfl ?_
          refine V_iadd K dX10_wind_59 ?_
          refine V_iald K k_52 n_52 g3 dX10_wind_60 ?_
          obtain ⟨v6, e7, E⟩ := lt_inv E
          refine V_top e7 ?_
          refine V_istore_n (lv' := [(2, .int v6), (0, .ref (ad x 51)), (1, .int a1)]) K dX10_wind_61 (by decide) rfl ?_
          refine V_aload_n K 1 dX10_wind_62 rfl ?_
          refine gf_X10_7 K dX10_wind_63 ?_
          refine V_aload_n K 1 dX10_wind_66 rfl ?_
          obtain ⟨r10, h9, q8, E⟩ := ob2_inv E
          refine iv_X10_171 K (c_X10_begin _ h q8) dX10_wind_67 (Nat.le_of_ble_eq_true rfl) ?_
          refine V_bp (v := 14) K dX10_wind_70 rfl ?_
          refine V_iadd K dX10_wind_72 ?_
          refine V_iload_n K 2 dX10_wind_73 rfl ?_
          obtain ⟨g11, E⟩ := gd_inv E
          obtain ⟨h12, e13, E⟩ := lt_inv E
          refine V_iast K k_52 n_52 g11 dX10_wind_74 ?_
          refine V_hp e13 ?_
          refine V_iload_n K 0 dX10_wind_75 rfl ?_
          cases E
          exact V_iret K dX10_wind_76 rfl T
theorem c_X10_wind (d : Nat) (a1 : Int32) (h : Hp)  {r : Int32} {h' : Hp} (E : X10_wind a1 h = some (r, h')) : Runs (d + 2) yX10_wind cX10_wind 3 (some .int) (fun f => [.ref (f 51), .int a1]) h (fun _ => some (.int r)) h' :=
  Runs.of (by decide +kernel) (fun _ => Nat.le_of_ble_eq_true rfl) (fun x K T => w_X10_wind K  a1 h  E T)
def X10_winds_s40 (x1 : Int32) (x2 : Int32) (y3 : Int32) (y4 : Int32) (h : Hp) : Option ((Int32 × Int32 × Hp) ⊕ (Int32 × Int32 × Hp)) :=
  if (3 : Int32) ≤ y4 then (some (.inl (y3, y4, h)))
  else (ob (X10_copyRow (X10_now h) (2788 : Int32) h) fun h8 =>
  gd (ib (2802 : Int32) 2805) (
  lt_ (up h8 52 (ix (2802 : Int32)) y4) fun h10 =>
  gd (ib x1 6) (
  ob2 (X10_isSo x1 x2 (h10.1 53 (ix x1)) h10) fun r15 h14 =>
  ob (if r15 = (0 : Int32) then (some (0 : Int32))
  else (some ((1 : Int32) <<< (y4 &&& 31)))) fun v16 =>
  lt_ (y3 ||| v16) fun v18 =>
  lt_ (y4 + (1 : Int32)) fun v20 =>
  some (.inr (v18, v20, h14)))))
set_option maxHeartbeats 4000000 in
set_option maxRecDepth 100000 in
theorem wl_X10_winds_s40 {x : Cx} {d : Nat} (K : Ok x cX10_winds RX10 5 (some .int) (d + 4)) (x1 : Int32) (x2 : Int32)  : ∀ (n : Nat) (s : Int32 × Int32 × Hp) (r : (Int32 × Int32 × Hp)), lp (fun s : Int32 × Int32 × Hp => X10_winds_s40 x1 x2 s.1 s.2.1 s.2.2) n s = some r → (fun r : (Int32 × Int32 × Hp) => VV x 99 [(0, .ref (ad x 51)), (1, .int x1), (2, .int x2), (3, .int (r.1)), (4, .int (r.2.1))] [] r.2.2) r → (fun s : Int32 × Int32 × Hp => VV x 40 [(0, .ref (ad x 51)), (1, .int x1), (2, .int x2), (3, .int (s.1)), (4, .int (s.2.1))] [] s.2.2) s := by
  refine lp_walk ?_
  intro s z E T
  obtain ⟨y3, y4, h⟩ := s
  replace E : X10_winds_s40 x1 x2 y3 y4 h = some z := E
  unfold X10_winds_s40 at E
  show VV x 40 [(0, .ref (ad x 51)), (1, .int x1), (2, .int x2), (3, .int y3), (4, .int y4)] [] h
  refine V_iload K 4 dX10_winds_40 rfl ?_
  refine V_ic (v := 3) K dX10_winds_42 rfl ?_
  rcases if_inv E with ⟨c6, E⟩ | ⟨c6, E⟩
  · refine V_ic_ge_t K 99 dX10_winds_43 (by decide) c6 ?_
    cases E
    exact V_sub [0, 1, 2, 3, 4] rfl T
  · refine V_ic_ge_f K 99 dX10_winds_43 (by decide) c6 ?_
    refine V_aload_n K 0 dX10_winds_46 rfl ?_
    refine V_aload_n K 0 dX10_winds_47 rfl ?_
    refine iv_X10_145 K (c_X10_now _ h) dX10_winds_48 (Nat.le_of_ble_eq_true rfl) ?_
    refine V_sp (v := 2788) K dX10_winds_51 rfl ?_
    obtain ⟨h8, q7, E⟩ := ob_inv E
    refine iv_X10_167 K (c_X10_copyRow _ (X10_now h) (2788 : Int32) h q7) dX10_winds_54 (Nat.le_of_ble_eq_true rfl) ?_
    refine V_aload_n K 0 dX10_winds_57 rfl ?_
    refine gf_X10_7 K dX10_winds_58 ?_
    refine V_sp (v := 2802) K dX10_winds_61 rfl ?_
    refine V_iload K 4 dX10_winds_64 rfl ?_
    obtain ⟨g9, E⟩ := gd_inv E
    obtain ⟨h10, e11, E⟩ := lt_inv E
    refine V_iast K k_52 n_52 g9 dX10_winds_66 ?_
    refine V_hp e11 ?_
    refine V_iload_n K 3 dX10_winds_67 rfl ?_
    refine V_aload_n K 0 dX10_winds_68 rfl ?_
    refine V_iload_n K 1 dX10_winds_69 rfl ?_
    refine V_iload_n K 2 dX10_winds_70 rfl ?_
    refine V_aload_n K 0 dX10_winds_71 rfl ?_
    refine gf_X10_13 K dX10_winds_72 ?_
    refine V_iload_n K 1 dX10_winds_75 rfl ?_
    obtain ⟨g12, E⟩ := gd_inv E
    refine V_iald K k_53 n_53 g12 dX10_winds_76 ?_
    obtain ⟨r15, h14, q13, E⟩ := ob2_inv E
    refine iv_X10_193 K (c_X10_isSo _ x1 x2 (h10.1 53 (ix x1)) h10 q13) dX10_winds_77 (Nat.le_of_ble_eq_true rfl) ?_
    obtain ⟨v16, q22, E⟩ := ob_inv E
    have T9 : VV x 91 [(0, .ref (ad x 51)), (1, .int x1), (2, .int x2), (4, .int y4)] [.int v16, .int y3] h14 := by
      refine V_ior K dX10_winds_91 ?_
      obtain ⟨v18, e19, E⟩ := lt_inv E
      refine V_top e19 ?_
      refine V_istore_n (lv' := [(3, .int v18), (0, .ref (ad x 51)), (1, .int x1), (2, .int x2), (4, .int y4)]) K dX10_winds_92 (by decide) rfl ?_
      obtain ⟨v20, e21, E⟩ := lt_inv E
      refine V_iinc (lv' := [(4, .int v20), (3, .int v18), (0, .ref (ad x 51)), (1, .int x1), (2, .int x2)]) K 4 dX10_winds_93 rfl (by rw [e21]; rfl) (by decide) rfl ?_
      refine V_goto K 40 dX10_winds_96 (by decide) ?_
      cases E
      exact V_sub [2, 3, 4, 1, 0] rfl T
    have E := q22
    have T := T9
    rcases if_inv E with ⟨c17, E⟩ | ⟨c17, E⟩
    · refine V_if_eq_t K 90 dX10_winds_80 (by decide) c17 ?_
      refine V_ic (v := 0) K dX10_winds_90 rfl ?_
      cases E
      exact V_sub [0, 1, 2, 4] rfl T
    · refine V_if_eq_f K 90 dX10_winds_80 (by decide) c17 ?_
      refine V_ic (v := 1) K dX10_winds_83 rfl ?_
      refine V_iload K 4 dX10_winds_84 rfl ?_
      refine V_ishl K dX10_winds_86 ?_
      refine V_goto K 91 dX10_winds_87 (by decide) ?_
      cases E
      exact V_sub [0, 1, 2, 4] rfl T
def X10_winds (a1 : Int32) (a2 : Int32) (h : Hp) : Option (Int32 × Hp) :=
  if (X10_isOne a1 h) = (0 : Int32) then (some ((-1 : Int32), h))
  else (if (X10_isRow a2) = (0 : Int32) then (some ((-1 : Int32), h))
  else (ob (X10_wrongRow a2 h) fun r3 =>
  if r3 ≤ (0 : Int32) then (ob3 (lp (fun s : Int32 × Int32 × Hp => X10_winds_s40 a1 a2 s.1 s.2.1 s.2.2) FU ((0 : Int32), (0 : Int32), h)) fun v23 v24 h25 =>
  some (v23, h25))
  else (ob (X10_wrongRow a2 h) fun r27 =>
  ob2 (X10_find r27 h) fun r31 h30 =>
  some (r31, h30))))
set_option maxHeartbeats 4000000 in
set_option maxRecDepth 100000 in
theorem w_X10_winds {x : Cx} {d : Nat} (K : Ok x cX10_winds RX10 5 (some .int) (d + 4)) (a1 : Int32) (a2 : Int32) (h : Hp)  {z : Int32 × Hp} (E : X10_winds a1 a2 h = some z) (T : x.2.2.2.2 = (some (.int (z.1)), z.2)) : VV x 0 [(0, .ref (ad x 51)), (1, .int a1), (2, .int a2)] [] h := by
  unfold X10_winds at E
  refine V_aload_n K 0 dX10_winds_0 rfl ?_
  refine V_iload_n K 1 dX10_winds_1 rfl ?_
  refine iv_X10_152 K (c_X10_isOne _ a1 h) dX10_winds_2 (Nat.le_of_ble_eq_true rfl) ?_
  rcases if_inv E with ⟨c1, E⟩ | ⟨c1, E⟩
  · refine V_if_eq_t K 15 dX10_winds_5 (by decide) c1 ?_
    refine V_ic (v := -1) K dX10_winds_15 rfl ?_
    cases E
    exact V_iret K dX10_winds_16 rfl T
  · refine V_if_eq_f K 15 dX10_winds_5 (by decide) c1 ?_
    refine V_iload_n K 2 dX10_winds_8 rfl ?_
    refine iv_X10_67 K (c_X10_isRow _ a2 h) dX10_winds_9 (Nat.le_of_ble_eq_true rfl) ?_
    rcases if_inv E with ⟨c2, E⟩ | ⟨c2, E⟩
    · refine V_if_ne_f K 17 dX10_winds_12 (by decide) c2 ?_
      refine V_ic (v := -1) K dX10_winds_15 rfl ?_
      cases E
      exact V_iret K dX10_winds_16 rfl T
    · refine V_if_ne_t K 17 dX10_winds_12 (by decide) c2 ?_
      refine V_aload_n K 0 dX10_winds_17 rfl ?_
      refine V_iload_n K 2 dX10_winds_18 rfl ?_
      obtain ⟨r3, q4, E⟩ := ob_inv E
      refine iv_X10_196 K (c_X10_wrongRow _ a2 h q4) dX10_winds_19 (Nat.le_of_ble_eq_true rfl) ?_
      rcases if_inv E with ⟨c5, E⟩ | ⟨c5, E⟩
      · refine V_if_le_t K 35 dX10_winds_22 (by decide) c5 ?_
        refine V_ic (v := 0) K dX10_winds_35 rfl ?_
        refine V_istore_n (lv' := [(3, .int (0 : Int32)), (0, .ref (ad x 51)), (1, .int a1), (2, .int a2)]) K dX10_winds_36 (by decide) rfl ?_
        refine V_ic (v := 0) K dX10_winds_37 rfl ?_
        refine V_istore (lv' := [(4, .int (0 : Int32)), (3, .int (0 : Int32)), (0, .ref (ad x 51)), (1, .int a1), (2, .int a2)]) K dX10_winds_38 (by decide) rfl ?_
        obtain ⟨v23, v24, h25, q26, E⟩ := ob3_inv E
        refine V_sub [2, 3, 4, 1, 0] rfl (wl_X10_winds_s40 K a1 a2  _ _ _ q26 ?_)
        show VV x 99 [(0, .ref (ad x 51)), (1, .int a1), (2, .int a2), (3, .int v23), (4, .int v24)] [] h25
        refine V_iload_n K 3 dX10_winds_99 rfl ?_
        cases E
        exact V_iret K dX10_winds_100 rfl T
      · refine V_if_le_f K 35 dX10_winds_22 (by decide) c5 ?_
        refine V_aload_n K 0 dX10_winds_25 rfl ?_
        refine V_aload_n K 0 dX10_winds_26 rfl ?_
        refine V_iload_n K 2 dX10_winds_27 rfl ?_
        obtain ⟨r27, q28, E⟩ := ob_inv E
        refine iv_X10_196 K (c_X10_wrongRow _ a2 h q28) dX10_winds_28 (Nat.le_of_ble_eq_true rfl) ?_
        obtain ⟨r31, h30, q29, E⟩ := ob2_inv E
        refine iv_X10_71 K (c_X10_find _ r27 h q29) dX10_winds_31 (Nat.le_of_ble_eq_true rfl) ?_
        cases E
        exact V_iret K dX10_winds_34 rfl T
theorem c_X10_winds (d : Nat) (a1 : Int32) (a2 : Int32) (h : Hp)  {r : Int32} {h' : Hp} (E : X10_winds a1 a2 h = some (r, h')) : Runs (d + 4) yX10_winds cX10_winds 5 (some .int) (fun f => [.ref (f 51), .int a1, .int a2]) h (fun _ => some (.int r)) h' :=
  Runs.of (by decide +kernel) (fun _ => Nat.le_of_ble_eq_true rfl) (fun x K T => w_X10_winds K  a1 a2 h  E T)
