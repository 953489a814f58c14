def X10_away_s37 (x1 : Int32) (x2 : Int32) (x3 : Int32) (y4 : Int32) (y5 : Int32) (h : Hp) : Option ((Int32 × Int32 × Hp) ⊕ (Int32 × Int32 × Hp)) :=
  if ((1 : Int32) <<< ((h.1 51 2) &&& 31)) ≤ y5 then (some (.inl (y4, y5, h)))
  else (ob2 (if (X10_has y5 x1) = (0 : Int32) then (if y4 = (-9 : Int32) then (ob (X10_goOn x3 y5 h) fun h10 =>
  gd (ib ((2794 : Int32) + x1) 2805) (
  if (h10.1 52 (ix ((2794 : Int32) + x1))) < x2 then (some (y4, h10))
  else (some (y5, h10))))
  else (ob (X10_bits y5) fun r13 =>
  ob (X10_bits y4) fun r15 =>
  if r15 ≤ r13 then (some (y4, h))
  else (ob (X10_goOn x3 y5 h) fun h19 =>
  gd (ib ((2794 : Int32) + x1) 2805) (
  if (h19.1 52 (ix ((2794 : Int32) + x1))) < x2 then (some (y4, h19))
  else (some (y5, h19))))))
  else (some (y4, h))) fun v5 h6 =>
  lt_ (y5 + (1 : Int32)) fun v22 =>
  some (.inr (v5, v22, h6)))
set_option maxHeartbeats 4000000 in
set_option maxRecDepth 100000 in
theorem wl_X10_away_s37 {x : Cx} {d : Nat} (K : Ok x cX10_away RX10 6 (some .int) (d + 4)) (x1 : Int32) (x2 : Int32) (x3 : Int32)  : ∀ (n : Nat) (s : Int32 × Int32 × Hp) (r : (Int32 × Int32 × Hp)), lp (fun s : Int32 × Int32 × Hp => X10_away_s37 x1 x2 x3 s.1 s.2.1 s.2.2) n s = some r → (fun r : (Int32 × Int32 × Hp) => VV x 113 [(0, .ref (ad x 51)), (1, .int x1), (2, .int x2), (3, .int x3), (4, .int (r.1)), (5, .int (r.2.1))] [] r.2.2) r → (fun s : Int32 × Int32 × Hp => VV x 37 [(0, .ref (ad x 51)), (1, .int x1), (2, .int x2), (3, .int x3), (4, .int (s.1)), (5, .int (s.2.1))] [] s.2.2) s := by
  refine lp_walk ?_
  intro s z E T
  obtain ⟨y4, y5, h⟩ := s
  replace E : X10_away_s37 x1 x2 x3 y4 y5 h = some z := E
  unfold X10_away_s37 at E
  show VV x 37 [(0, .ref (ad x 51)), (1, .int x1), (2, .int x2), (3, .int x3), (4, .int y4), (5, .int y5)] [] h
  refine V_iload K 5 dX10_away_37 rfl ?_
  refine V_ic (v := 1) K dX10_away_39 rfl ?_
  refine V_aload_n K 0 dX10_away_40 rfl ?_
  refine gf_X10_120 K dX10_away_41 ?_
  refine V_ishl K dX10_away_44 ?_
  rcases if_inv E with ⟨c4, E⟩ | ⟨c4, E⟩
  · refine V_ic_ge_t K 113 dX10_away_45 (by decide) c4 ?_
    cases E
    exact V_sub [0, 1, 2, 3, 4, 5] rfl T
  · refine V_ic_ge_f K 113 dX10_away_45 (by decide) c4 ?_
    refine V_iload K 5 dX10_away_48 rfl ?_
    refine V_iload_n K 1 dX10_away_50 rfl ?_
    refine iv_X10_135 K (c_X10_has _ y5 x1 h) dX10_away_51 (Nat.le_of_ble_eq_true rfl) ?_
    obtain ⟨v5, h6, q24, E⟩ := ob2_inv E
    have T9 : VV x 107 [(0, .ref (ad x 51)), (1, .int x1), (2, .int x2), (3, .int x3), (4, .int v5), (5, .int y5)] [] h6 := by
      obtain ⟨v22, e23, E⟩ := lt_inv E
      refine V_iinc (lv' := [(5, .int v22), (0, .ref (ad x 51)), (1, .int x1), (2, .int x2), (3, .int x3), (4, .int v5)]) K 5 dX10_away_107 rfl (by rw [e23]; rfl) (by decide) rfl ?_
      refine V_goto K 37 dX10_away_110 (by decide) ?_
      cases E
      exact V_sub [1, 2, 3, 4, 5, 0] rfl T
    have E := q24
    have T := T9
    rcases if_inv E with ⟨c7, E⟩ | ⟨c7, E⟩
    · refine V_if_ne_f K 107 dX10_away_54 (by decide) c7 ?_
      refine V_iload K 4 dX10_away_57 rfl ?_
      refine V_bp (v := -9) K dX10_away_59 rfl ?_
      rcases if_inv E with ⟨c8, E⟩ | ⟨c8, E⟩
      · refine V_ic_eq_t K 77 dX10_away_61 (by decide) c8 ?_
        refine V_aload_n K 0 dX10_away_77 rfl ?_
        refine V_iload_n K 3 dX10_away_78 rfl ?_
        refine V_iload K 5 dX10_away_79 rfl ?_
        obtain ⟨h10, q9, E⟩ := ob_inv E
        refine iv_X10_180 K (c_X10_goOn _ x3 y5 h q9) dX10_away_81 (Nat.le_of_ble_eq_true rfl) ?_
        refine V_aload_n K 0 dX10_away_84 rfl ?_
        refine gf_X10_7 K dX10_away_85 ?_
        refine V_sp (v := 2794) K dX10_away_88 rfl ?_
        refine V_iload_n K 1 dX10_away_91 rfl ?_
        refine V_iadd K dX10_away_92 ?_
        obtain ⟨g11, E⟩ := gd_inv E
        refine V_iald K k_52 n_52 g11 dX10_away_93 ?_
        refine V_iload_n K 2 dX10_away_94 rfl ?_
        rcases if_inv E with ⟨c12, E⟩ | ⟨c12, E⟩
        · refine V_ic_lt_t K 103 dX10_away_95 (by decide) c12 ?_
          refine V_iload K 4 dX10_away_103 rfl ?_
          refine V_istore (lv' := [(4, .int y4), (0, .ref (ad x 51)), (1, .int x1), (2, .int x2), (3, .int x3), (5, .int y5)]) K dX10_away_105 (by decide) rfl ?_
          cases E
          exact V_sub [1, 2, 3, 4, 0, 5] rfl T
        · refine V_ic_lt_f K 103 dX10_away_95 (by decide) c12 ?_
          refine V_iload K 5 dX10_away_98 rfl ?_
          refine V_goto K 105 dX10_away_100 (by decide) ?_
          refine V_istore (lv' := [(4, .int y5), (0, .ref (ad x 51)), (1, .int x1), (2, .int x2), (3, .int x3), (5, .int y5)]) K dX10_away_105 (by decide) rfl ?_
          cases E
          exact V_sub [1, 2, 3, 4, 0, 5] rfl T
      · refine V_ic_eq_f K 77 dX10_away_61 (by decide) c8 ?_
        refine V_iload K 5 dX10_away_64 rfl ?_
        obtain ⟨r13, q14, E⟩ := ob_inv E
        refine iv_X10_183 K (c_X10_bits _ y5 h q14) dX10_away_66 (Nat.le_of_ble_eq_true rfl) ?_
        refine V_iload K 4 dX10_away_69 rfl ?_
        obtain ⟨r15, q16, E⟩ := ob_inv E
        refine iv_X10_183 K (c_X10_bits _ y4 h q16) dX10_away_71 (Nat.le_of_ble_eq_true rfl) ?_
        rcases if_inv E with ⟨c17, E⟩ | ⟨c17, E⟩
        · refine V_ic_ge_t K 107 dX10_away_74 (by decide) c17 ?_
          cases E
          exact V_sub [0, 1, 2, 3, 4, 5] rfl T
        · refine V_ic_ge_f K 107 dX10_away_74 (by decide) c17 ?_
          refine V_aload_n K 0 dX10_away_77 rfl ?_
          refine V_iload_n K 3 dX10_away_78 rfl ?_
          refine V_iload K 5 dX10_away_79 rfl ?_
          obtain ⟨h19, q18, E⟩ := ob_inv E
          refine iv_X10_180 K (c_X10_goOn _ x3 y5 h q18) dX10_away_81 (Nat.le_of_ble_eq_true rfl) ?_
          refine V_aload_n K 0 dX10_away_84 rfl ?_
          refine gf_X10_7 K dX10_away_85 ?_
          refine V_sp (v := 2794) K dX10_away_88 rfl ?_
          refine V_iload_n K 1 dX10_away_91 rfl ?_
          refine V_iadd K dX10_away_92 ?_
          obtain ⟨g20, E⟩ := gd_inv E
          refine V_iald K k_52 n_52 g20 dX10_away_93 ?_
          refine V_iload_n K 2 dX10_away_94 rfl ?_
          rcases if_inv E with ⟨c21, E⟩ | ⟨c21, E⟩
          · refine V_ic_lt_t K 103 dX10_away_95 (by decide) c21 ?_
            refine V_iload K 4 dX10_away_103 rfl ?_
            refine V_istore (lv' := [(4, .int y4), (0, .ref (ad x 51)), (1, .int x1), (2, .int x2), (3, .int x3), (5, .int y5)]) K dX10_away_105 (by decide) rfl ?_
            cases E
            exact V_sub [1, 2, 3, 4, 0, 5] rfl T
          · refine V_ic_lt_f K 103 dX10_away_95 (by decide) c21 ?_
            refine V_iload K 5 dX10_away_98 rfl ?_
            refine V_goto K 105 dX10_away_100 (by decide) ?_
            refine V_istore (lv' := [(4, .int y5), (0, .ref (ad x 51)), (1, .int x1), (2, .int x2), (3, .int x3), (5, .int y5)]) K dX10_away_105 (by decide) rfl ?_
            cases E
            exact V_sub [1, 2, 3, 4, 0, 5] rfl T
    · refine V_if_ne_t K 107 dX10_away_54 (by decide) c7 ?_
      cases E
      exact V_sub [0, 1, 2, 3, 4, 5] rfl T
def X10_away (a1 : Int32) (a2 : Int32) (a3 : Int32) (h : Hp) : Option (Int32 × Hp) :=
  if (X10_isOne a1 h) = (0 : Int32) then (some ((-1 : Int32), h))
  else (if (X10_in a2 (0 : Int32) (30 : Int32)) = (0 : Int32) then (some ((-1 : Int32), h))
  else (if (X10_in a3 (1 : Int32) (20 : Int32)) = (0 : Int32) then (some ((-1 : Int32), h))
  else (ob3 (lp (fun s : Int32 × Int32 × Hp => X10_away_s37 a1 a2 a3 s.1 s.2.1 s.2.2) FU ((-9 : Int32), (0 : Int32), h)) fun v25 v26 h27 =>
  if v25 = (-9 : Int32) then (some ((-9 : Int32), h27))
  else (lt_ (up h27 51 13 v25) fun h29 =>
  ob (X10_bits v25) fun r31 =>
  some (r31, h29)))))
set_option maxHeartbeats 4000000 in
set_option maxRecDepth 100000 in
theorem w_X10_away {x : Cx} {d : Nat} (K : Ok x cX10_away RX10 6 (some .int) (d + 4)) (a1 : Int32) (a2 : Int32) (a3 : Int32) (h : Hp)  {z : Int32 × Hp} (E : X10_away a1 a2 a3 h = some z) (T : x.2.2.2.2 = (some (.int (z.1)), z.2)) : VV x 0 [(0, .ref (ad x 51)), (1, .int a1), (2, .int a2), (3, .int a3)] [] h := by
  unfold X10_away at E
  refine V_aload_n K 0 dX10_away_0 rfl ?_
  refine V_iload_n K 1 dX10_away_1 rfl ?_
  refine iv_X10_152 K (c_X10_isOne _ a1 h) dX10_away_2 (Nat.le_of_ble_eq_true rfl) ?_
  rcases if_inv E with ⟨c1, E⟩ | ⟨c1, E⟩
  · refine V_if_eq_t K 28 dX10_away_5 (by decide) c1 ?_
    refine V_ic (v := -1) K dX10_away_28 rfl ?_
    cases E
    exact V_iret K dX10_away_29 rfl T
  · refine V_if_eq_f K 28 dX10_away_5 (by decide) c1 ?_
    refine V_iload_n K 2 dX10_away_8 rfl ?_
    refine V_ic (v := 0) K dX10_away_9 rfl ?_
    refine V_bp (v := 30) K dX10_away_10 rfl ?_
    refine iv_X10_63 K (c_X10_in _ a2 (0 : Int32) (30 : Int32) h) dX10_away_12 (Nat.le_of_ble_eq_true rfl) ?_
    rcases if_inv E with ⟨c2, E⟩ | ⟨c2, E⟩
    · refine V_if_eq_t K 28 dX10_away_15 (by decide) c2 ?_
      refine V_ic (v := -1) K dX10_away_28 rfl ?_
      cases E
      exact V_iret K dX10_away_29 rfl T
    · refine V_if_eq_f K 28 dX10_away_15 (by decide) c2 ?_
      refine V_iload_n K 3 dX10_away_18 rfl ?_
      refine V_ic (v := 1) K dX10_away_19 rfl ?_
      refine V_bp (v := 20) K dX10_away_20 rfl ?_
      refine iv_X10_63 K (c_X10_in _ a3 (1 : Int32) (20 : Int32) h) dX10_away_22 (Nat.le_of_ble_eq_true rfl) ?_
      rcases if_inv E with ⟨c3, E⟩ | ⟨c3, E⟩
      · refine V_if_ne_f K 30 dX10_away_25 (by decide) c3 ?_
        refine V_ic (v := -1) K dX10_away_28 rfl ?_
        cases E
        exact V_iret K dX10_away_29 rfl T
      · refine V_if_ne_t K 30 dX10_away_25 (by decide) c3 ?_
        refine V_bp (v := -9) K dX10_away_30 rfl ?_
        refine V_istore (lv' := [(4, .int (-9 : Int32)), (0, .ref (ad x 51)), (1, .int a1), (2, .int a2), (3, .int a3)]) K dX10_away_32 (by decide) rfl ?_
        refine V_ic (v := 0) K dX10_away_34 rfl ?_
        refine V_istore (lv' := [(5, .int (0 : Int32)), (4, .int (-9 : Int32)), (0, .ref (ad x 51)), (1, .int a1), (2, .int a2), (3, .int a3)]) K dX10_away_35 (by decide) rfl ?_
        obtain ⟨v25, v26, h27, q33, E⟩ := ob3_inv E
        refine V_sub [2, 3, 4, 5, 1, 0] rfl (wl_X10_away_s37 K a1 a2 a3  _ _ _ q33 ?_)
        show VV x 113 [(0, .ref (ad x 51)), (1, .int a1), (2, .int a2), (3, .int a3), (4, .int v25), (5, .int v26)] [] h27
        refine V_iload K 4 dX10_away_113 rfl ?_
        refine V_bp (v := -9) K dX10_away_115 rfl ?_
        rcases if_inv E with ⟨c28, E⟩ | ⟨c28, E⟩
        · refine V_ic_ne_f K 123 dX10_away_117 (by decide) c28 ?_
          refine V_bp (v := -9) K dX10_away_120 rfl ?_
          cases E
          exact V_iret K dX10_away_122 rfl T
        · refine V_ic_ne_t K 123 dX10_away_117 (by decide) c28 ?_
          refine V_aload_n K 0 dX10_away_123 rfl ?_
          refine V_iload K 4 dX10_away_124 rfl ?_
          obtain ⟨h29, e30, E⟩ := lt_inv E
          refine pf_X10_60 K dX10_away_126 ?_
          refine V_hp e30 ?_
          refine V_iload K 4 dX10_away_129 rfl ?_
          obtain ⟨r31, q32, E⟩ := ob_inv E
          refine iv_X10_183 K (c_X10_bits _ v25 h29 q32) dX10_away_131 (Nat.le_of_ble_eq_true rfl) ?_
          cases E
          exact V_iret K dX10_away_134 rfl T
theorem c_X10_away (d : Nat) (a1 : Int32) (a2 : Int32) (a3 : Int32) (h : Hp)  {r : Int32} {h' : Hp} (E : X10_away a1 a2 a3 h = some (r, h')) : Runs (d + 4) yX10_away cX10_away 6 (some .int) (fun f => [.ref (f 51), .int a1, .int a2, .int a3]) h (fun _ => some (.int r)) h' :=
  Runs.of (by decide +kernel) (fun _ => Nat.le_of_ble_eq_true rfl) (fun x K T => w_X10_away K  a1 a2 a3 h  E T)
def X10_begin  (h : Hp) : Option (Int32 × Hp) :=
  ob (X10_copyRow (X10_now h) ((X10_now h) + (17 : Int32)) h) fun h2 =>
  lt_ (up h2 51 5 ((h2.1 51 5) + (1 : Int32))) fun h3 =>
  some ((X10_now h3), h3)
set_option maxHeartbeats 4000000 in
set_option maxRecDepth 100000 in
theorem w_X10_begin {x : Cx} {d : Nat} (K : Ok x cX10_begin RX10 1 (some .int) (d + 1))  (h : Hp)  {z : Int32 × Hp} (E : X10_begin  h = some z) (T : x.2.2.2.2 = (some (.int (z.1)), z.2)) : VV x 0 [(0, .ref (ad x 51))] [] h := by
  unfold X10_begin at E
  refine V_aload_n K 0 dX10_begin_0 rfl ?_
  refine V_aload_n K 0 dX10_begin_1 rfl ?_
  refine iv_X10_145 K (c_X10_now _ h) dX10_begin_2 (Nat.le_of_ble_eq_true rfl) ?_
  refine V_aload_n K 0 dX10_begin_5 rfl ?_
  refine iv_X10_145 K (c_X10_now _ h) dX10_begin_6 (Nat.le_of_ble_eq_true rfl) ?_
  refine V_bp (v := 17) K dX10_begin_9 rfl ?_
  refine V_iadd K dX10_begin_11 ?_
  obtain ⟨h2, q1, E⟩ := ob_inv E
  refine iv_X10_167 K (c_X10_copyRow _ (X10_now h) ((X10_now h) + (17 : Int32)) h q1) dX10_begin_12 (Nat.le_of_ble_eq_true rfl) ?_
  refine V_aload_n K 0 dX10_begin_15 rfl ?_
  refine V_dup K dX10_begin_16 rfl ?_
  refine gf_X10_129 K dX10_begin_17 ?_
  refine V_ic (v := 1) K dX10_begin_20 rfl ?_
  refine V_iadd K dX10_begin_21 ?_
  obtain ⟨h3, e4, E⟩ := lt_inv E
  refine pf_X10_129 K dX10_begin_22 ?_
  refine V_hp e4 ?_
  refine V_aload_n K 0 dX10_begin_25 rfl ?_
  refine iv_X10_145 K (c_X10_now _ h3) dX10_begin_26 (Nat.le_of_ble_eq_true rfl) ?_
  cases E
  exact V_iret K dX10_begin_29 rfl T
theorem c_X10_begin (d : Nat)  (h : Hp)  {r : Int32} {h' : Hp} (E : X10_begin  h = some (r, h')) : Runs (d + 1) yX10_begin cX10_begin 1 (some .int) (fun f => [.ref (f 51)]) h (fun _ => some (.int r)) h' :=
  Runs.of (by decide +kernel) (fun _ => Nat.le_of_ble_eq_true rfl) (fun x K T => w_X10_begin K   h  E T)
def X10_plainTurn (a1 : Int32) (h : Hp) : Option (Int32 × Hp) :=
  ob2 (X10_turnIn a1 (0 : Int32) (-9 : Int32) (0 : Int32) h) fun r3 h2 =>
  some (r3, h2)
set_option maxHeartbeats 4000000 in
set_option maxRecDepth 100000 in
theorem w_X10_plainTurn {x : Cx} {d : Nat} (K : Ok x cX10_plainTurn RX10 2 (some .int) (d + 3)) (a1 : Int32) (h : Hp)  {z : Int32 × Hp} (E : X10_plainTurn a1 h = some z) (T : x.2.2.2.2 = (some (.int (z.1)), z.2)) : VV x 0 [(0, .ref (ad x 51)), (1, .int a1)] [] h := by
  unfold X10_plainTurn at E
  refine V_aload_n K 0 dX10_plainTurn_0 rfl ?_
  refine V_iload_n K 1 dX10_plainTurn_1 rfl ?_
  refine V_ic (v := 0) K dX10_plainTurn_2 rfl ?_
  refine V_bp (v := -9) K dX10_plainTurn_3 rfl ?_
  refine V_ic (v := 0) K dX10_plainTurn_5 rfl ?_
  obtain ⟨r3, h2, q1, E⟩ := ob2_inv E
  refine iv_X10_141 K (c_X10_turnIn _ a1 (0 : Int32) (-9 : Int32) (0 : Int32) h q1) dX10_plainTurn_6 (Nat.le_of_ble_eq_true rfl) ?_
  cases E
  exact V_iret K dX10_plainTurn_9 rfl T
theorem c_X10_plainTurn (d : Nat) (a1 : Int32) (h : Hp)  {r : Int32} {h' : Hp} (E : X10_plainTurn a1 h = some (r, h')) : Runs (d + 3) yX10_plainTurn cX10_plainTurn 2 (some .int) (fun f => [.ref (f 51), .int a1]) h (fun _ => some (.int r)) h' :=
  Runs.of (by decide +kernel) (fun _ => Nat.le_of_ble_eq_true rfl) (fun x K T => w_X10_plainTurn K  a1 h  E T)
def X10_best_s62 (x1 : Int32) (x2 : Int32) (x3 : Int32) (x4 : Int32) (x5 : Int32) (y6 : Int32) (h : Hp) : Option ((Int32 × Hp) ⊕ (Int32 × Hp)) :=
  if x2 ≤ y6 then (some (.inl (y6, h)))
  else (ob2 (X10_plainTurn (2788 : Int32) h) fun r12 h11 =>
  lt_ (y6 + (1 : Int32)) fun v13 =>
  some (.inr (v13, h11)))
set_option maxHeartbeats 4000000 in
set_option maxRecDepth 100000 in
theorem wl_X10_best_s62 {x : Cx} {d : Nat} (K : Ok x cX10_best RX10 8 (some .int) (d + 4)) (x1 : Int32) (x2 : Int32) (x3 : Int32) (x4 : Int32) (x5 : Int32)  : ∀ (n : Nat) (s : Int32 × Hp) (r : (Int32 × Hp)), lp (fun s : Int32 × Hp => X10_best_s62 x1 x2 x3 x4 x5 s.1 s.2) n s = some r → (fun r : (Int32 × Hp) => VV x 83 [(0, .ref (ad x 51)), (1, .int x1), (2, .int x2), (3, .int x3), (4, .int x4), (5, .int x5), (6, .int (r.1))] [] r.2) r → (fun s : Int32 × Hp => VV x 62 [(0, .ref (ad x 51)), (1, .int x1), (2, .int x2), (3, .int x3), (4, .int x4), (5, .int x5), (6, .int (s.1))] [] s.2) s := by
  refine lp_walk ?_
  intro s z E T
  obtain ⟨y6, h⟩ := s
  replace E : X10_best_s62 x1 x2 x3 x4 x5 y6 h = some z := E
  unfold X10_best_s62 at E
  show VV x 62 [(0, .ref (ad x 51)), (1, .int x1), (2, .int x2), (3, .int x3), (4, .int x4), (5, .int x5), (6, .int y6)] [] h
  refine V_iload K 6 dX10_best_62 rfl ?_
  refine V_iload_n K 2 dX10_best_64 rfl ?_
  rcases if_inv E with ⟨c9, E⟩ | ⟨c9, E⟩
  · refine V_ic_ge_t K 83 dX10_best_65 (by decide) c9 ?_
    cases E
    exact V_sub [0, 1, 2, 3, 4, 5, 6] rfl T
  · refine V_ic_ge_f K 83 dX10_best_65 (by decide) c9 ?_
    refine V_aload_n K 0 dX10_best_68 rfl ?_
    refine V_sp (v := 2788) K dX10_best_69 rfl ?_
    obtain ⟨r12, h11, q10, E⟩ := ob2_inv E
    refine iv_X10_174 K (c_X10_plainTurn _ (2788 : Int32) h q10) dX10_best_72 (Nat.le_of_ble_eq_true rfl) ?_
    refine V_istore (lv' := [(7, .int r12), (0, .ref (ad x 51)), (1, .int x1), (2, .int x2), (3, .int x3), (4, .int x4), (5, .int x5), (6, .int y6)]) K dX10_best_75 (by decide) rfl ?_
    obtain ⟨v13, e14, E⟩ := lt_inv E
    refine V_iinc (lv' := [(6, .int v13), (7, .int r12), (0, .ref (ad x 51)), (1, .int x1), (2, .int x2), (3, .int x3), (4, .int x4), (5, .int x5)]) K 7 dX10_best_77 rfl (by rw [e14]; rfl) (by decide) rfl ?_
    refine V_goto K 62 dX10_best_80 (by decide) ?_
    cases E
    exact V_sub [2, 3, 4, 5, 6, 7, 0] rfl T
def X10_best_s29 (x1 : Int32) (x2 : Int32) (y3 : Int32) (y4 : Int32) (y5 : Int32) (h : Hp) : Option ((Int32 × Int32 × Int32 × Hp) ⊕ (Int32 × Int32 × Int32 × Hp)) :=
  if (10 : Int32) ≤ y5 then (some (.inl (y3, y4, y5, h)))
  else (ob (X10_copyRow (X10_now h) (2788 : Int32) h) fun h5 =>
  gd (ib ((2788 : Int32) + x1) 2805) (
  lt_ (up h5 52 (ix ((2788 : Int32) + x1)) y5) fun h7 =>
  ob2 (lp (fun s : Int32 × Hp => X10_best_s62 x1 x2 y3 y4 y5 s.1 s.2) FU ((0 : Int32), h7)) fun v15 h16 =>
  gd (ib ((2794 : Int32) + x1) 2805) (
  ob (if (h16.1 52 (ix ((2794 : Int32) + x1))) ≤ y4 then (some y3)
  else (some y5)) fun v18 =>
  ob (if (h16.1 52 (ix ((2794 : Int32) + x1))) ≤ y4 then (some y4)
  else (some (h16.1 52 (ix ((2794 : Int32) + x1))))) fun v20 =>
  lt_ (y5 + (1 : Int32)) fun v22 =>
  some (.inr (v18, v20, v22, h16)))))
set_option maxHeartbeats 4000000 in
set_option maxRecDepth 100000 in
theorem wl_X10_best_s29 {x : Cx} {d : Nat} (K : Ok x cX10_best RX10 8 (some .int) (d + 4)) (x1 : Int32) (x2 : Int32)  : ∀ (n : Nat) (s : Int32 × Int32 × Int32 × Hp) (r : (Int32 × Int32 × Int32 × Hp)), lp (fun s : Int32 × Int32 × Int32 × Hp => X10_best_s29 x1 x2 s.1 s.2.1 s.2.2.1 s.2.2.2) n s = some r → (fun r : (Int32 × Int32 × Int32 × Hp) => VV x 143 [(0, .ref (ad x 51)), (1, .int x1), (2, .int x2), (3, .int (r.1)), (4, .int (r.2.1)), (5, .int (r.2.2.1))] [] r.2.2.2) r → (fun s : Int32 × Int32 × Int32 × Hp => VV x 29 [(0, .ref (ad x 51)), (1, .int x1), (2, .int x2), (3, .int (s.1)), (4, .int (s.2.1)), (5, .int (s.2.2.1))] [] s.2.2.2) s := by
  refine lp_walk ?_
  intro s z E T
  obtain ⟨y3, y4, y5, h⟩ := s
  replace E : X10_best_s29 x1 x2 y3 y4 y5 h = some z := E
  unfold X10_best_s29 at E
  show VV x 29 [(0, .ref (ad x 51)), (1, .int x1), (2, .int x2), (3, .int y3), (4, .int y4), (5, .int y5)] [] h
  refine V_iload K 5 dX10_best_29 rfl ?_
  refine V_bp (v := 10) K dX10_best_31 rfl ?_
  rcases if_inv E with ⟨c3, E⟩ | ⟨c3, E⟩
  · refine V_ic_ge_t K 143 dX10_best_33 (by decide) c3 ?_
    cases E
    exact V_sub [0, 1, 2, 3, 4, 5] rfl T
  · refine V_ic_ge_f K 143 dX10_best_33 (by decide) c3 ?_
    refine V_aload_n K 0 dX10_best_36 rfl ?_
    refine V_aload_n K 0 dX10_best_37 rfl ?_
    refine iv_X10_145 K (c_X10_now _ h) dX10_best_38 (Nat.le_of_ble_eq_true rfl) ?_
    refine V_sp (v := 2788) K dX10_best_41 rfl ?_
    obtain ⟨h5, q4, E⟩ := ob_inv E
    refine iv_X10_167 K (c_X10_copyRow _ (X10_now h) (2788 : Int32) h q4) dX10_best_44 (Nat.le_of_ble_eq_true rfl) ?_
    refine V_aload_n K 0 dX10_best_47 rfl ?_
    refine gf_X10_7 K dX10_best_48 ?_
    refine V_sp (v := 2788) K dX10_best_51 rfl ?_
    refine V_iload_n K 1 dX10_best_54 rfl ?_
    refine V_iadd K dX10_best_55 ?_
    refine V_iload K 5 dX10_best_56 rfl ?_
    obtain ⟨g6, E⟩ := gd_inv E
    obtain ⟨h7, e8, E⟩ := lt_inv E
    refine V_iast K k_52 n_52 g6 dX10_best_58 ?_
    refine V_hp e8 ?_
    refine V_ic (v := 0) K dX10_best_59 rfl ?_
    refine V_istore (lv' := [(6, .int (0 : Int32)), (0, .ref (ad x 51)), (1, .int x1), (2, .int x2), (3, .int y3), (4, .int y4), (5, .int y5)]) K dX10_best_60 (by decide) rfl ?_
    obtain ⟨v15, h16, q26, E⟩ := ob2_inv E
    refine V_sub [1, 2, 3, 4, 5, 6, 0] rfl (wl_X10_best_s62 K x1 x2 y3 y4 y5  _ _ _ q26 ?_)
    show VV x 83 [(0, .ref (ad x 51)), (1, .int x1), (2, .int x2), (3, .int y3), (4, .int y4), (5, .int y5), (6, .int v15)] [] h16
    refine V_aload_n K 0 dX10_best_83 rfl ?_
    refine gf_X10_7 K dX10_best_84 ?_
    refine V_sp (v := 2794) K dX10_best_87 rfl ?_
    refine V_iload_n K 1 dX10_best_90 rfl ?_
    refine V_iadd K dX10_best_91 ?_
    obtain ⟨g17, E⟩ := gd_inv E
    refine V_iald K k_52 n_52 g17 dX10_best_92 ?_
    refine V_iload K 4 dX10_best_93 rfl ?_
    obtain ⟨v18, q25, E⟩ := ob_inv E
    have T9 : VV x 104 [(0, .ref (ad x 51)), (1, .int x1), (2, .int x2), (4, .int y4), (5, .int y5)] [.int v18] h16 := by
      refine V_istore_n (lv' := [(3, .int v18), (0, .ref (ad x 51)), (1, .int x1), (2, .int x2), (4, .int y4), (5, .int y5)]) K dX10_best_104 (by decide) rfl ?_
      refine V_aload_n K 1 dX10_best_105 rfl ?_
      refine gf_X10_7 K dX10_best_106 ?_
      refine V_sp (v := 2794) K dX10_best_109 rfl ?_
      refine V_iload_n K 2 dX10_best_112 rfl ?_
      refine V_iadd K dX10_best_113 ?_
      refine V_iald K k_52 n_52 g17 dX10_best_114 ?_
      refine V_iload K 4 dX10_best_115 rfl ?_
      obtain ⟨v20, q24, E⟩ := ob_inv E
      have T9 : VV x 135 [(0, .ref (ad x 51)), (1, .int x1), (2, .int x2), (3, .int v18), (5, .int y5)] [.int v20] h16 := by
        refine V_istore (lv' := [(4, .int v20), (0, .ref (ad x 51)), (1, .int x1), (2, .int x2), (3, .int v18), (5, .int y5)]) K dX10_best_135 (by decide) rfl ?_
        obtain ⟨v22, e23, E⟩ := lt_inv E
        refine V_iinc (lv' := [(5, .int v22), (4, .int v20), (0, .ref (ad x 51)), (1, .int x1), (2, .int x2), (3, .int v18)]) K 5 dX10_best_137 rfl (by rw [e23]; rfl) (by decide) rfl ?_
        refine V_goto K 29 dX10_best_140 (by decide) ?_
        cases E
        exact V_sub [2, 3, 4, 5, 1, 0] rfl T
      have E := q24
      have T := T9
      rcases if_inv E with ⟨c21, E⟩ | ⟨c21, E⟩
      · refine V_ic_le_t K 133 dX10_best_117 (by decide) c21 ?_
        refine V_iload K 4 dX10_best_133 rfl ?_
        cases E
        exact V_sub [1, 2, 3, 0, 5] rfl T
      · refine V_ic_le_f K 133 dX10_best_117 (by decide) c21 ?_
        refine V_aload_n K 1 dX10_best_120 rfl ?_
        refine gf_X10_7 K dX10_best_121 ?_
        refine V_sp (v := 2794) K dX10_best_124 rfl ?_
        refine V_iload_n K 2 dX10_best_127 rfl ?_
        refine V_iadd K dX10_best_128 ?_
        refine V_iald K k_52 n_52 g17 dX10_best_129 ?_
        refine V_goto K 135 dX10_best_130 (by decide) ?_
        cases E
        exact V_sub [1, 2, 3, 0, 5] rfl T
    have E := q25
    have T := T9
    rcases if_inv E with ⟨c19, E⟩ | ⟨c19, E⟩
    · refine V_ic_le_t K 103 dX10_best_95 (by decide) c19 ?_
      refine V_iload_n K 3 dX10_best_103 rfl ?_
      cases E
      exact V_sub [0, 1, 2, 4, 5] rfl T
    · refine V_ic_le_f K 103 dX10_best_95 (by decide) c19 ?_
      refine V_iload K 5 dX10_best_98 rfl ?_
      refine V_goto K 104 dX10_best_100 (by decide) ?_
      cases E
      exact V_sub [0, 1, 2, 4, 5] rfl T
def X10_best (a1 : Int32) (a2 : Int32) (h : Hp) : Option (Int32 × Hp) :=
  if (X10_isOne a1 h) = (0 : Int32) then (some ((-1 : Int32), h))
  else (if (X10_in a2 (1 : Int32) (20 : Int32)) = (0 : Int32) then (some ((-1 : Int32), h))
  else (ob4 (lp (fun s : Int32 × Int32 × Int32 × Hp => X10_best_s29 a1 a2 s.1 s.2.1 s.2.2.1 s.2.2.2) FU ((-9 : Int32), (-1 : Int32), (0 : Int32), h)) fun v27 v28 v29 h30 =>
  lt_ (up h30 51 13 v28) fun h31 =>
  some (v27, h31)))
set_option maxHeartbeats 4000000 in
set_option maxRecDepth 100000 in
theorem w_X10_best {x : Cx} {d : Nat} (K : Ok x cX10_best RX10 8 (some .int) (d + 4)) (a1 : Int32) (a2 : Int32) (h : Hp)  {z : Int32 × Hp} (E : X10_best a1 a2 h = some z) (T : x.2.2.2.2 = (some (.int (z.1)), z.2)) : VV x 0 [(0, .ref (ad x 51)), (1, .int a1), (2, .int a2)] [] h := by
  unfold X10_best at E
  refine V_aload_n K 0 dX10_best_0 rfl ?_
  refine V_iload_n K 1 dX10_best_1 rfl ?_
  refine iv_X10_152 K (c_X10_isOne _ a1 h) dX10_best_2 (Nat.le_of_ble_eq_true rfl) ?_
  rcases if_inv E with ⟨c1, E⟩ | ⟨c1, E⟩
  · refine V_if_eq_t K 18 dX10_best_5 (by decide) c1 ?_
    refine V_ic (v := -1) K dX10_best_18 rfl ?_
    cases E
    exact V_iret K dX10_best_19 rfl T
  · refine V_if_eq_f K 18 dX10_best_5 (by decide) c1 ?_
    refine V_iload_n K 2 dX10_best_8 rfl ?_
    refine V_ic (v := 1) K dX10_best_9 rfl ?_
    refine V_bp (v := 20) K dX10_best_10 rfl ?_
    refine iv_X10_63 K (c_X10_in _ a2 (1 : Int32) (20 : Int32) h) dX10_best_12 (Nat.le_of_ble_eq_true rfl) ?_
    rcases if_inv E with ⟨c2, E⟩ | ⟨c2, E⟩
    · refine V_if_ne_f K 20 dX10_best_15 (by decide) c2 ?_
      refine V_ic (v := -1) K dX10_best_18 rfl ?_
      cases E
      exact V_iret K dX10_best_19 rfl T
    · refine V_if_ne_t K 20 dX10_best_15 (by decide) c2 ?_
      refine V_bp (v := -9) K dX10_best_20 rfl ?_
      refine V_istore_n (lv' := [(3, .int (-9 : Int32)), (0, .ref (ad x 51)), (1, .int a1), (2, .int a2)]) K dX10_best_22 (by decide) rfl ?_
      refine V_ic (v := -1) K dX10_best_23 rfl ?_
      refine V_istore (lv' := [(4, .int (-1 : Int32)), (3, .int (-9 : Int32)), (0, .ref (ad x 51)), (1, .int a1), (2, .int a2)]) K dX10_best_24 (by decide) rfl ?_
      refine V_ic (v := 0) K dX10_best_26 rfl ?_
      refine V_istore (lv' := [(5, .int (0 : Int32)), (4, .int (-1 : Int32)), (3, .int (-9 : Int32)), (0, .ref (ad x 51)), (1, .int a1), (2, .int a2)]) K dX10_best_27 (by decide) rfl ?_
      obtain ⟨v27, v28, v29, h30, q33, E⟩ := ob4_inv E
      refine V_sub [3, 4, 5, 2, 1, 0] rfl (wl_X10_best_s29 K a1 a2  _ _ _ q33 ?_)
      show VV x 143 [(0, .ref (ad x 51)), (1, .int a1), (2, .int a2), (3, .int v27), (4, .int v28), (5, .int v29)] [] h30
      refine V_aload_n K 0 dX10_best_143 rfl ?_
      refine V_iload K 4 dX10_best_144 rfl ?_
      obtain ⟨h31, e32, E⟩ := lt_inv E
      refine pf_X10_60 K dX10_best_146 ?_
      refine V_hp e32 ?_
      refine V_iload_n K 3 dX10_best_149 rfl ?_
      cases E
      exact V_iret K dX10_best_150 rfl T
theorem c_X10_best (d : Nat) (a1 : Int32) (a2 : Int32) (h : Hp)  {r : Int32} {h' : Hp} (E : X10_best a1 a2 h = some (r, h')) : Runs (d + 4) yX10_best cX10_best 8 (some .int) (fun f => [.ref (f 51), .int a1, .int a2]) h (fun _ => some (.int r)) h' :=
  Runs.of (by decide +kernel) (fun _ => Nat.le_of_ble_eq_true rfl) (fun x K T => w_X10_best K  a1 a2 h  E T)
def X10_cloud (a1 : Int32) (h : Hp) : Option (Int32 × Hp) :=
  if (X10_in a1 (0 : Int32) (40 : Int32)) = (0 : Int32) then (some ((-1 : Int32), h))
  else (if (h.1 51 2) = (0 : Int32) then (some ((-4 : Int32), h))
  else (ob (X10_goOn a1 (0 : Int32) h) fun h4 =>
  gd (ib (2801 : Int32) 2805) (
  lt_ (up h4 51 13 (h4.1 52 (ix (2801 : Int32)))) fun h6 =>
  gd (ib (2800 : Int32) 2805) (
  some (h6.1 52 (ix (2800 : Int32)), h6)))))
set_option maxHeartbeats 4000000 in
set_option maxRecDepth 100000 in
theorem w_X10_cloud {x : Cx} {d : Nat} (K : Ok x cX10_cloud RX10 2 (some .int) (d + 4)) (a1 : Int32) (h : Hp)  {z : Int32 × Hp} (E : X10_cloud a1 h = some z) (T : x.2.2.2.2 = (some (.int (z.1)), z.2)) : VV x 0 [(0, .ref (ad x 51)), (1, .int a1)] [] h := by
  unfold X10_cloud at E
  refine V_iload_n K 1 dX10_cloud_0 rfl ?_
  refine V_ic (v := 0) K dX10_cloud_1 rfl ?_
  refine V_bp (v := 40) K dX10_cloud_2 rfl ?_
  refine iv_X10_63 K (c_X10_in _ a1 (0 : Int32) (40 : Int32) h) dX10_cloud_4 (Nat.le_of_ble_eq_true rfl) ?_
  rcases if_inv E with ⟨c1, E⟩ | ⟨c1, E⟩
  · refine V_if_ne_f K 12 dX10_cloud_7 (by decide) c1 ?_
    refine V_ic (v := -1) K dX10_cloud_10 rfl ?_
    cases E
    exact V_iret K dX10_cloud_11 rfl T
  · refine V_if_ne_t K 12 dX10_cloud_7 (by decide) c1 ?_
    refine V_aload_n K 0 dX10_cloud_12 rfl ?_
    refine gf_X10_120 K dX10_cloud_13 ?_
    rcases if_inv E with ⟨c2, E⟩ | ⟨c2, E⟩
    · refine V_if_ne_f K 22 dX10_cloud_16 (by decide) c2 ?_
      refine V_bp (v := -4) K dX10_cloud_19 rfl ?_
      cases E
      exact V_iret K dX10_cloud_21 rfl T
    · refine V_if_ne_t K 22 dX10_cloud_16 (by decide) c2 ?_
      refine V_aload_n K 0 dX10_cloud_22 rfl ?_
      refine V_iload_n K 1 dX10_cloud_23 rfl ?_
      refine V_ic (v := 0) K dX10_cloud_24 rfl ?_
      obtain ⟨h4, q3, E⟩ := ob_inv E
      refine iv_X10_180 K (c_X10_goOn _ a1 (0 : Int32) h q3) dX10_cloud_25 (Nat.le_of_ble_eq_true rfl) ?_
      refine V_aload_n K 0 dX10_cloud_28 rfl ?_
      refine V_aload_n K 0 dX10_cloud_29 rfl ?_
      refine gf_X10_7 K dX10_cloud_30 ?_
      refine V_sp (v := 2801) K dX10_cloud_33 rfl ?_
      obtain ⟨g5, E⟩ := gd_inv E
      refine V_iald K k_52 n_52 g5 dX10_cloud_36 ?_
      obtain ⟨h6, e7, E⟩ := lt_inv E
      refine pf_X10_60 K dX10_cloud_37 ?_
      refine V_hp e7 ?_
      refine V_aload_n K 0 dX10_cloud_40 rfl ?_
      refine gf_X10_7 K dX10_cloud_41 ?_
      refine V_sp (v := 2800) K dX10_cloud_44 rfl ?_
      obtain ⟨g8, E⟩ := gd_inv E
      refine V_iald K k_52 n_52 g8 dX10_cloud_47 ?_
      cases E
      exact V_iret K dX10_cloud_48 rfl T
theorem c_X10_cloud (d : Nat) (a1 : Int32) (h : Hp)  {r : Int32} {h' : Hp} (E : X10_cloud a1 h = some (r, h')) : Runs (d + 4) yX10_cloud cX10_cloud 2 (some .int) (fun f => [.ref (f 51), .int a1]) h (fun _ => some (.int r)) h' :=
  Runs.of (by decide +kernel) (fun _ => Nat.le_of_ble_eq_true rfl) (fun x K T => w_X10_cloud K  a1 h  E T)
def X10_copy_s124 (x1 : Int32) (x2 : Int32) (x3 : Int32) (x4 : Int32) (x5 : Int32) (x6 : Int32) (y7 : Int32) (h : Hp) : Option ((Int32 × Hp) ⊕ (Int32 × Hp)) :=
  if x5 ≤ y7 then (some (.inl (y7, h)))
  else (ob (if x6 = (0 : Int32) then (some y7)
  else (some ((x5 - (1 : Int32)) - y7))) fun v30 =>
  gd (ib ((((40 : Int32) * x1) + x2) + v30) 240) (
  gd (ib ((((40 : Int32) * x3) + x4) + v30) 240) (
  lt_ (up h 55 (ix ((((40 : Int32) * x3) + x4) + v30)) (h.1 55 (ix ((((40 : Int32) * x1) + x2) + v30)))) fun h34 =>
  lt_ (y7 + (1 : Int32)) fun v36 =>
  some (.inr (v36, h34)))))
set_option maxHeartbeats 4000000 in
set_option maxRecDepth 100000 in
theorem wl_X10_copy_s124 {x : Cx} {d : Nat} (K : Ok x cX10_copy RX10 9 (some .int) (d + 2)) (x1 : Int32) (x2 : Int32) (x3 : Int32) (x4 : Int32) (x5 : Int32) (x6 : Int32)  : ∀ (n : Nat) (s : Int32 × Hp) (r : (Int32 × Hp)), lp (fun s : Int32 × Hp => X10_copy_s124 x1 x2 x3 x4 x5 x6 s.1 s.2) n s = some r → (fun r : (Int32 × Hp) => VV x 185 [(0, .ref (ad x 51)), (1, .int x1), (2, .int x2), (3, .int x3), (4, .int x4), (5, .int x5), (6, .int x6), (7, .int (r.1))] [] r.2) r → (fun s : Int32 × Hp => VV x 124 [(0, .ref (ad x 51)), (1, .int x1), (2, .int x2), (3, .int x3), (4, .int x4), (5, .int x5), (6, .int x6), (7, .int (s.1))] [] s.2) s := by
  refine lp_walk ?_
  intro s z E T
  obtain ⟨y7, h⟩ := s
  replace E : X10_copy_s124 x1 x2 x3 x4 x5 x6 y7 h = some z := E
  unfold X10_copy_s124 at E
  show VV x 124 [(0, .ref (ad x 51)), (1, .int x1), (2, .int x2), (3, .int x3), (4, .int x4), (5, .int x5), (6, .int x6), (7, .int y7)] [] h
  refine V_iload K 7 dX10_copy_124 rfl ?_
  refine V_iload K 5 dX10_copy_126 rfl ?_
  rcases if_inv E with ⟨c29, E⟩ | ⟨c29, E⟩
  · refine V_ic_ge_t K 185 dX10_copy_128 (by decide) c29 ?_
    cases E
    exact V_sub [0, 1, 2, 3, 4, 5, 6, 7] rfl T
  · refine V_ic_ge_f K 185 dX10_copy_128 (by decide) c29 ?_
    refine V_iload K 6 dX10_copy_131 rfl ?_
    obtain ⟨v30, q38, E⟩ := ob_inv E
    have T9 : VV x 148 [(0, .ref (ad x 51)), (1, .int x1), (2, .int x2), (3, .int x3), (4, .int x4), (5, .int x5), (6, .int x6), (7, .int y7)] [.int v30] h := by
      refine V_istore (lv' := [(8, .int v30), (0, .ref (ad x 51)), (1, .int x1), (2, .int x2), (3, .int x3), (4, .int x4), (5, .int x5), (6, .int x6), (7, .int y7)]) K dX10_copy_148 (by decide) rfl ?_
      refine V_aload_n K 1 dX10_copy_150 rfl ?_
      refine gf_X10_19 K dX10_copy_151 ?_
      refine V_bp (v := 40) K dX10_copy_154 rfl ?_
      refine V_iload_n K 4 dX10_copy_156 rfl ?_
      refine V_imul K dX10_copy_157 ?_
      refine V_iload K 5 dX10_copy_158 rfl ?_
      refine V_iadd K dX10_copy_160 ?_
      refine V_iload K 0 dX10_copy_161 rfl ?_
      refine V_iadd K dX10_copy_163 ?_
      refine V_aload_n K 1 dX10_copy_164 rfl ?_
      refine gf_X10_19 K dX10_copy_165 ?_
      refine V_bp (v := 40) K dX10_copy_168 rfl ?_
      refine V_iload_n K 2 dX10_copy_170 rfl ?_
      refine V_imul K dX10_copy_171 ?_
      refine V_iload_n K 3 dX10_copy_172 rfl ?_
      refine V_iadd K dX10_copy_173 ?_
      refine V_iload K 0 dX10_copy_174 rfl ?_
      refine V_iadd K dX10_copy_176 ?_
      obtain ⟨g32, E⟩ := gd_inv E
      refine V_iald K k_55 n_55 g32 dX10_copy_177 ?_
      obtain ⟨g33, E⟩ := gd_inv E
      obtain ⟨h34, e35, E⟩ := lt_inv E
      refine V_iast K k_55 n_55 g33 dX10_copy_178 ?_
      refine V_hp e35 ?_
      obtain ⟨v36, e37, E⟩ := lt_inv E
      refine V_iinc (lv' := [(7, .int v36), (8, .int v30), (0, .ref (ad x 51)), (1, .int x1), (2, .int x2), (3, .int x3), (4, .int x4), (5, .int x5), (6, .int x6)]) K 8 dX10_copy_179 rfl (by rw [e37]; rfl) (by decide) rfl ?_
      refine V_goto K 124 dX10_copy_182 (by decide) ?_
      cases E
      exact V_sub [2, 3, 4, 5, 6, 7, 8, 0] rfl T
    have E := q38
    have T := T9
    rcases if_inv E with ⟨c31, E⟩ | ⟨c31, E⟩
    · refine V_if_eq_t K 146 dX10_copy_133 (by decide) c31 ?_
      refine V_iload K 7 dX10_copy_146 rfl ?_
      cases E
      exact V_sub [0, 1, 2, 3, 4, 5, 6, 7] rfl T
    · refine V_if_eq_f K 146 dX10_copy_133 (by decide) c31 ?_
      refine V_iload K 5 dX10_copy_136 rfl ?_
      refine V_ic (v := 1) K dX10_copy_138 rfl ?_
      refine V_isub K dX10_copy_139 ?_
      refine V_iload K 7 dX10_copy_140 rfl ?_
      refine V_isub K dX10_copy_142 ?_
      refine V_goto K 148 dX10_copy_143 (by decide) ?_
      cases E
      exact V_sub [0, 1, 2, 3, 4, 5, 6, 7] rfl T
def X10_copy (a1 : Int32) (a2 : Int32) (a3 : Int32) (a4 : Int32) (a5 : Int32) (h : Hp) : Option (Int32 × Hp) :=
  if (X10_isRow a1) = (0 : Int32) then (some ((-1 : Int32), h))
  else (if (X10_isRow a3) = (0 : Int32) then (some ((-1 : Int32), h))
  else (if (0 : Int32) ≤ a5 then (gd (ib a1 6) (
  if (h.1 56 (ix a1)) = (-9 : Int32) then (ob2 (X10_find (1 : Int32) h) fun r8 h7 =>
  some (r8, h7))
  else (gd (ib a3 6) (
  if (h.1 56 (ix a3)) = (-9 : Int32) then (ob2 (X10_find (1 : Int32) h) fun r13 h12 =>
  some (r13, h12))
  else (if (40 : Int32) < a5 then (ob2 (X10_find (2 : Int32) h) fun r17 h16 =>
  some (r17, h16))
  else (if (X10_in a2 (0 : Int32) ((h.1 56 (ix a1)) - a5)) = (0 : Int32) then (ob2 (X10_find (2 : Int32) h) fun r21 h20 =>
  some (r21, h20))
  else (if (X10_in a4 (0 : Int32) ((h.1 56 (ix a3)) - a5)) = (0 : Int32) then (ob2 (X10_find (2 : Int32) h) fun r25 h24 =>
  some (r25, h24))
  else (ob (if a1 = a3 then (if a4 ≤ a2 then (some (0 : Int32))
  else (some (1 : Int32)))
  else (some (0 : Int32))) fun v26 =>
  ob2 (lp (fun s : Int32 × Hp => X10_copy_s124 a1 a2 a3 a4 a5 v26 s.1 s.2) FU ((0 : Int32), h)) fun v39 h40 =>
  some ((1 : Int32), h40)))))))))
  else (ob2 (X10_find (5 : Int32) h) fun r45 h44 =>
  some (r45, h44))))
set_option maxHeartbeats 4000000 in
set_option maxRecDepth 100000 in
theorem w_X10_copy {x : Cx} {d : Nat} (K : Ok x cX10_copy RX10 9 (some .int) (d + 2)) (a1 : Int32) (a2 : Int32) (a3 : Int32) (a4 : Int32) (a5 : Int32) (h : Hp)  {z : Int32 × Hp} (E : X10_copy a1 a2 a3 a4 a5 h = some z) (T : x.2.2.2.2 = (some (.int (z.1)), z.2)) : VV x 0 [(0, .ref (ad x 51)), (1, .int a1), (2, .int a2), (3, .int a3), (4, .int a4), (5, .int a5)] [] h := by
  unfold X10_copy at E
  refine V_iload_n K 1 dX10_copy_0 rfl ?_
  refine iv_X10_67 K (c_X10_isRow _ a1 h) dX10_copy_1 (Nat.le_of_ble_eq_true rfl) ?_
  rcases if_inv E with ⟨c1, E⟩ | ⟨c1, E⟩
  · refine V_if_eq_t K 14 dX10_copy_4 (by decide) c1 ?_
    refine V_ic (v := -1) K dX10_copy_14 rfl ?_
    cases E
    exact V_iret K dX10_copy_15 rfl T
  · refine V_if_eq_f K 14 dX10_copy_4 (by decide) c1 ?_
    refine V_iload_n K 3 dX10_copy_7 rfl ?_
    refine iv_X10_67 K (c_X10_isRow _ a3 h) dX10_copy_8 (Nat.le_of_ble_eq_true rfl) ?_
    rcases if_inv E with ⟨c2, E⟩ | ⟨c2, E⟩
    · refine V_if_ne_f K 16 dX10_copy_11 (by decide) c2 ?_
      refine V_ic (v := -1) K dX10_copy_14 rfl ?_
      cases E
      exact V_iret K dX10_copy_15 rfl T
    · refine V_if_ne_t K 16 dX10_copy_11 (by decide) c2 ?_
      refine V_iload K 5 dX10_copy_16 rfl ?_
      rcases if_inv E with ⟨c3, E⟩ | ⟨c3, E⟩
      · refine V_if_ge_t K 27 dX10_copy_18 (by decide) c3 ?_
        refine V_aload_n K 0 dX10_copy_27 rfl ?_
        refine gf_X10_22 K dX10_copy_28 ?_
        refine V_iload_n K 1 dX10_copy_31 rfl ?_
        obtain ⟨g4, E⟩ := gd_inv E
        refine V_iald K k_56 n_56 g4 dX10_copy_32 ?_
        refine V_bp (v := -9) K dX10_copy_33 rfl ?_
        rcases if_inv E with ⟨c5, E⟩ | ⟨c5, E⟩
        · refine V_ic_eq_t K 49 dX10_copy_35 (by decide) c5 ?_
          refine V_aload_n K 0 dX10_copy_49 rfl ?_
          refine V_ic (v := 1) K dX10_copy_50 rfl ?_
          obtain ⟨r8, h7, q6, E⟩ := ob2_inv E
          refine iv_X10_71 K (c_X10_find _ (1 : Int32) h q6) dX10_copy_51 (Nat.le_of_ble_eq_true rfl) ?_
          cases E
          exact V_iret K dX10_copy_54 rfl T
        · refine V_ic_eq_f K 49 dX10_copy_35 (by decide) c5 ?_
          refine V_aload_n K 0 dX10_copy_38 rfl ?_
          refine gf_X10_22 K dX10_copy_39 ?_
          refine V_iload_n K 3 dX10_copy_42 rfl ?_
          obtain ⟨g9, E⟩ := gd_inv E
          refine V_iald K k_56 n_56 g9 dX10_copy_43 ?_
          refine V_bp (v := -9) K dX10_copy_44 rfl ?_
          rcases if_inv E with ⟨c10, E⟩ | ⟨c10, E⟩
          · refine V_ic_ne_f K 55 dX10_copy_46 (by decide) c10 ?_
            refine V_aload_n K 0 dX10_copy_49 rfl ?_
            refine V_ic (v := 1) K dX10_copy_50 rfl ?_
            obtain ⟨r13, h12, q11, E⟩ := ob2_inv E
            refine iv_X10_71 K (c_X10_find _ (1 : Int32) h q11) dX10_copy_51 (Nat.le_of_ble_eq_true rfl) ?_
            cases E
            exact V_iret K dX10_copy_54 rfl T
          · refine V_ic_ne_t K 55 dX10_copy_46 (by decide) c10 ?_
            refine V_iload K 5 dX10_copy_55 rfl ?_
            refine V_bp (v := 40) K dX10_copy_57 rfl ?_
            rcases if_inv E with ⟨c14, E⟩ | ⟨c14, E⟩
            · refine V_ic_gt_t K 97 dX10_copy_59 (by decide) c14 ?_
              refine V_aload_n K 0 dX10_copy_97 rfl ?_
              refine V_ic (v := 2) K dX10_copy_98 rfl ?_
              obtain ⟨r17, h16, q15, E⟩ := ob2_inv E
              refine iv_X10_71 K (c_X10_find _ (2 : Int32) h q15) dX10_copy_99 (Nat.le_of_ble_eq_true rfl) ?_
              cases E
              exact V_iret K dX10_copy_102 rfl T
            · refine V_ic_gt_f K 97 dX10_copy_59 (by decide) c14 ?_
              refine V_iload_n K 2 dX10_copy_62 rfl ?_
              refine V_ic (v := 0) K dX10_copy_63 rfl ?_
              refine V_aload_n K 0 dX10_copy_64 rfl ?_
              refine gf_X10_22 K dX10_copy_65 ?_
              refine V_iload_n K 1 dX10_copy_68 rfl ?_
              refine V_iald K k_56 n_56 g4 dX10_copy_69 ?_
              refine V_iload K 5 dX10_copy_70 rfl ?_
              refine V_isub K dX10_copy_72 ?_
              refine iv_X10_63 K (c_X10_in _ a2 (0 : Int32) ((h.1 56 (ix a1)) - a5) h) dX10_copy_73 (Nat.le_of_ble_eq_true rfl) ?_
              rcases if_inv E with ⟨c18, E⟩ | ⟨c18, E⟩
              · refine V_if_eq_t K 97 dX10_copy_76 (by decide) c18 ?_
                refine V_aload_n K 0 dX10_copy_97 rfl ?_
                refine V_ic (v := 2) K dX10_copy_98 rfl ?_
                obtain ⟨r21, h20, q19, E⟩ := ob2_inv E
                refine iv_X10_71 K (c_X10_find _ (2 : Int32) h q19) dX10_copy_99 (Nat.le_of_ble_eq_true rfl) ?_
                cases E
                exact V_iret K dX10_copy_102 rfl T
              · refine V_if_eq_f K 97 dX10_copy_76 (by decide) c18 ?_
                refine V_iload K 4 dX10_copy_79 rfl ?_
                refine V_ic (v := 0) K dX10_copy_81 rfl ?_
                refine V_aload_n K 0 dX10_copy_82 rfl ?_
                refine gf_X10_22 K dX10_copy_83 ?_
                refine V_iload_n K 3 dX10_copy_86 rfl ?_
                refine V_iald K k_56 n_56 g9 dX10_copy_87 ?_
                refine V_iload K 5 dX10_copy_88 rfl ?_
                refine V_isub K dX10_copy_90 ?_
                refine iv_X10_63 K (c_X10_in _ a4 (0 : Int32) ((h.1 56 (ix a3)) - a5) h) dX10_copy_91 (Nat.le_of_ble_eq_true rfl) ?_
                rcases if_inv E with ⟨c22, E⟩ | ⟨c22, E⟩
                · refine V_if_ne_f K 103 dX10_copy_94 (by decide) c22 ?_
                  refine V_aload_n K 0 dX10_copy_97 rfl ?_
                  refine V_ic (v := 2) K dX10_copy_98 rfl ?_
                  obtain ⟨r25, h24, q23, E⟩ := ob2_inv E
                  refine iv_X10_71 K (c_X10_find _ (2 : Int32) h q23) dX10_copy_99 (Nat.le_of_ble_eq_true rfl) ?_
                  cases E
                  exact V_iret K dX10_copy_102 rfl T
                · refine V_if_ne_t K 103 dX10_copy_94 (by decide) c22 ?_
                  refine V_iload_n K 1 dX10_copy_103 rfl ?_
                  refine V_iload_n K 3 dX10_copy_104 rfl ?_
                  obtain ⟨v26, q42, E⟩ := ob_inv E
                  have T9 : VV x 119 [(0, .ref (ad x 51)), (1, .int a1), (2, .int a2), (3, .int a3), (4, .int a4), (5, .int a5)] [.int v26] h := by
                    refine V_istore (lv' := [(6, .int v26), (0, .ref (ad x 51)), (1, .int a1), (2, .int a2), (3, .int a3), (4, .int a4), (5, .int a5)]) K dX10_copy_119 (by decide) rfl ?_
                    refine V_ic (v := 0) K dX10_copy_121 rfl ?_
                    refine V_istore (lv' := [(7, .int (0 : Int32)), (6, .int v26), (0, .ref (ad x 51)), (1, .int a1), (2, .int a2), (3, .int a3), (4, .int a4), (5, .int a5)]) K dX10_copy_122 (by decide) rfl ?_
                    obtain ⟨v39, h40, q41, E⟩ := ob2_inv E
                    refine V_sub [2, 3, 4, 5, 6, 7, 1, 0] rfl (wl_X10_copy_s124 K a1 a2 a3 a4 a5 v26  _ _ _ q41 ?_)
                    show VV x 185 [(0, .ref (ad x 51)), (1, .int a1), (2, .int a2), (3, .int a3), (4, .int a4), (5, .int a5), (6, .int v26), (7, .int v39)] [] h40
                    refine V_ic (v := 1) K dX10_copy_185 rfl ?_
                    cases E
                    exact V_iret K dX10_copy_186 rfl T
                  have E := q42
                  have T := T9
                  rcases if_inv E with ⟨c27, E⟩ | ⟨c27, E⟩
                  · refine V_ic_ne_f K 118 dX10_copy_105 (by decide) c27 ?_
                    refine V_iload_n K 2 dX10_copy_108 rfl ?_
                    refine V_iload K 4 dX10_copy_109 rfl ?_
                    rcases if_inv E with ⟨c28, E⟩ | ⟨c28, E⟩
                    · refine V_ic_ge_t K 118 dX10_copy_111 (by decide) c28 ?_
                      refine V_ic (v := 0) K dX10_copy_118 rfl ?_
                      cases E
                      exact V_sub [0, 1, 2, 3, 4, 5] rfl T
                    · refine V_ic_ge_f K 118 dX10_copy_111 (by decide) c28 ?_
                      refine V_ic (v := 1) K dX10_copy_114 rfl ?_
                      refine V_goto K 119 dX10_copy_115 (by decide) ?_
                      cases E
                      exact V_sub [0, 1, 2, 3, 4, 5] rfl T
                  · refine V_ic_ne_t K 118 dX10_copy_105 (by decide) c27 ?_
                    refine V_ic (v := 0) K dX10_copy_118 rfl ?_
                    cases E
                    exact V_sub [0, 1, 2, 3, 4, 5] rfl T
      · refine V_if_ge_f K 27 dX10_copy_18 (by decide) c3 ?_
        refine V_aload_n K 0 dX10_copy_21 rfl ?_
        refine V_ic (v := 5) K dX10_copy_22 rfl ?_
        obtain ⟨r45, h44, q43, E⟩ := ob2_inv E
        refine iv_X10_71 K (c_X10_find _ (5 : Int32) h q43) dX10_copy_23 (Nat.le_of_ble_eq_true rfl) ?_
        cases E
        exact V_iret K dX10_copy_26 rfl T
theorem c_X10_copy (d : Nat) (a1 : Int32) (a2 : Int32) (a3 : Int32) (a4 : Int32) (a5 : Int32) (h : Hp)  {r : Int32} {h' : Hp} (E : X10_copy a1 a2 a3 a4 a5 h = some (r, h')) : Runs (d + 2) yX10_copy cX10_copy 9 (some .int) (fun f => [.ref (f 51), .int a1, .int a2, .int a3, .int a4, .int a5]) h (fun _ => some (.int r)) h' :=
  Runs.of (by decide +kernel) (fun _ => Nat.le_of_ble_eq_true rfl) (fun x K T => w_X10_copy K  a1 a2 a3 a4 a5 h  E T)
def X10_isOf (a1 : Int32) (a2 : Int32) : Int32 :=
  if a1 = a2 then ((1 : Int32))
  else (if a1 = (4 : Int32) then (if a2 = (1 : Int32) then ((1 : Int32))
  else (if a1 = (5 : Int32) then (if a2 = (3 : Int32) then ((1 : Int32))
  else ((0 : Int32)))
  else ((0 : Int32))))
  else (if a1 = (5 : Int32) then (if a2 = (3 : Int32) then ((1 : Int32))
  else ((0 : Int32)))
  else ((0 : Int32))))
set_option maxHeartbeats 4000000 in
set_option maxRecDepth 100000 in
theorem w_X10_isOf {x : Cx} {d : Nat} (K : Ok x cX10_isOf RX10 2 (some .boolean) (d + 0)) (a1 : Int32) (a2 : Int32) (h : Hp)  {z : Int32} (E : X10_isOf a1 a2 = z) (T : x.2.2.2.2 = (some (.int z), h)) : VV x 0 [(0, .int a1), (1, .int a2)] [] h := by
  unfold X10_isOf at E
  refine V_iload_n K 0 dX10_isOf_0 rfl ?_
  refine V_iload_n K 1 dX10_isOf_1 rfl ?_
  rcases if_inv E with ⟨c1, E⟩ | ⟨c1, E⟩
  · refine V_ic_eq_t K 25 dX10_isOf_2 (by decide) c1 ?_
    refine V_ic (v := 1) K dX10_isOf_25 rfl ?_
    refine V_goto K 30 dX10_isOf_26 (by decide) ?_
    cases E
    exact V_iret K dX10_isOf_30 rfl T
  · refine V_ic_eq_f K 25 dX10_isOf_2 (by decide) c1 ?_
    refine V_iload_n K 0 dX10_isOf_5 rfl ?_
    refine V_ic (v := 4) K dX10_isOf_6 rfl ?_
    rcases if_inv E with ⟨c2, E⟩ | ⟨c2, E⟩
    · refine V_ic_ne_f K 15 dX10_isOf_7 (by decide) c2 ?_
      refine V_iload_n K 1 dX10_isOf_10 rfl ?_
      refine V_ic (v := 1) K dX10_isOf_11 rfl ?_
      rcases if_inv E with ⟨c3, E⟩ | ⟨c3, E⟩
      · refine V_ic_eq_t K 25 dX10_isOf_12 (by decide) c3 ?_
        refine V_ic (v := 1) K dX10_isOf_25 rfl ?_
        refine V_goto K 30 dX10_isOf_26 (by decide) ?_
        cases E
        exact V_iret K dX10_isOf_30 rfl T
      · refine V_ic_eq_f K 25 dX10_isOf_12 (by decide) c3 ?_
        refine V_iload_n K 0 dX10_isOf_15 rfl ?_
        refine V_ic (v := 5) K dX10_isOf_16 rfl ?_
        rcases if_inv E with ⟨c4, E⟩ | ⟨c4, E⟩
        · refine V_ic_ne_f K 29 dX10_isOf_17 (by decide) c4 ?_
          refine V_iload_n K 1 dX10_isOf_20 rfl ?_
          refine V_ic (v := 3) K dX10_isOf_21 rfl ?_
          rcases if_inv E with ⟨c5, E⟩ | ⟨c5, E⟩
          · refine V_ic_ne_f K 29 dX10_isOf_22 (by decide) c5 ?_
            refine V_ic (v := 1) K dX10_isOf_25 rfl ?_
            refine V_goto K 30 dX10_isOf_26 (by decide) ?_
            cases E
            exact V_iret K dX10_isOf_30 rfl T
          · refine V_ic_ne_t K 29 dX10_isOf_22 (by decide) c5 ?_
            refine V_ic (v := 0) K dX10_isOf_29 rfl ?_
            cases E
            exact V_iret K dX10_isOf_30 rfl T
        · refine V_ic_ne_t K 29 dX10_isOf_17 (by decide) c4 ?_
          refine V_ic (v := 0) K dX10_isOf_29 rfl ?_
          cases E
          exact V_iret K dX10_isOf_30 rfl T
    · refine V_ic_ne_t K 15 dX10_isOf_7 (by decide) c2 ?_
      refine V_iload_n K 0 dX10_isOf_15 rfl ?_
      refine V_ic (v := 5) K dX10_isOf_16 rfl ?_
      rcases if_inv E with ⟨c6, E⟩ | ⟨c6, E⟩
      · refine V_ic_ne_f K 29 dX10_isOf_17 (by decide) c6 ?_
        refine V_iload_n K 1 dX10_isOf_20 rfl ?_
        refine V_ic (v := 3) K dX10_isOf_21 rfl ?_
        rcases if_inv E with ⟨c7, E⟩ | ⟨c7, E⟩
        · refine V_ic_ne_f K 29 dX10_isOf_22 (by decide) c7 ?_
          refine V_ic (v := 1) K dX10_isOf_25 rfl ?_
          refine V_goto K 30 dX10_isOf_26 (by decide) ?_
          cases E
          exact V_iret K dX10_isOf_30 rfl T
        · refine V_ic_ne_t K 29 dX10_isOf_22 (by decide) c7 ?_
          refine V_ic (v := 0) K dX10_isOf_29 rfl ?_
          cases E
          exact V_iret K dX10_isOf_30 rfl T
      · refine V_ic_ne_t K 29 dX10_isOf_17 (by decide) c6 ?_
        refine V_ic (v := 0) K dX10_isOf_29 rfl ?_
        cases E
        exact V_iret K dX10_isOf_30 rfl T
theorem c_X10_isOf (d : Nat) (a1 : Int32) (a2 : Int32) (h : Hp)  : Runs (d + 0) yX10_isOf cX10_isOf 2 (some .boolean) (fun f => [.int a1, .int a2]) h (fun _ => some (.int (X10_isOf a1 a2))) h :=
  Runs.of (by decide +kernel) (fun _ => Nat.le_of_ble_eq_true rfl) (fun x K T => w_X10_isOf K  a1 a2 h  rfl T)
theorem bz_X10_isOf (a1 : Int32) (a2 : Int32) : narrow .boolean (.int (X10_isOf a1 a2)) = .int (X10_isOf a1 a2) := by
  unfold X10_isOf
  repeat' split
  all_goals first | rfl | exact bz_X10_in _ _ _
def X10_manyOf_s4 (x1 : Int32) (h : Hp) (y2 : Int32) (y3 : Int32) : Option ((Int32 × Int32) ⊕ (Int32 × Int32)) :=
  if (h.1 51 2) ≤ y3 then (some (.inl (y2, y3)))
  else (gd (ib y3 6) (
  ob (if (X10_isOf (h.1 53 (ix y3)) x1) = (0 : Int32) then (some (0 : Int32))
  else (some (1 : Int32))) fun v3 =>
  lt_ (y2 + v3) fun v5 =>
  lt_ (y3 + (1 : Int32)) fun v7 =>
  some (.inr (v5, v7))))
set_option maxHeartbeats 4000000 in
set_option maxRecDepth 100000 in
theorem wl_X10_manyOf_s4 {x : Cx} {d : Nat} (K : Ok x cX10_manyOf RX10 4 (some .int) (d + 1)) (x1 : Int32) (h : Hp)  : ∀ (n : Nat) (s : Int32 × Int32) (r : (Int32 × Int32)), lp (fun s : Int32 × Int32 => X10_manyOf_s4 x1 h s.1 s.2) n s = some r → (fun r : (Int32 × Int32) => VV x 39 [(0, .ref (ad x 51)), (1, .int x1), (2, .int (r.1)), (3, .int (r.2))] [] h) r → (fun s : Int32 × Int32 => VV x 4 [(0, .ref (ad x 51)), (1, .int x1), (2, .int (s.1)), (3, .int (s.2))] [] h) s := by
  refine lp_walk ?_
  intro s z E T
  obtain ⟨y2, y3⟩ := s
  replace E : X10_manyOf_s4 x1 h y2 y3 = some z := E
  unfold X10_manyOf_s4 at E
  show VV x 4 [(0, .ref (ad x 51)), (1, .int x1), (2, .int y2), (3, .int y3)] [] h
  refine V_iload_n K 3 dX10_manyOf_4 rfl ?_
  refine V_aload_n K 0 dX10_manyOf_5 rfl ?_
  refine gf_X10_120 K dX10_manyOf_6 ?_
  rcases if_inv E with ⟨c1, E⟩ | ⟨c1, E⟩
  · refine V_ic_ge_t K 39 dX10_manyOf_9 (by decide) c1 ?_
    cases E
    exact V_sub [0, 1, 2, 3] rfl T
  · refine V_ic_ge_f K 39 dX10_manyOf_9 (by decide) c1 ?_
    refine V_iload_n K 2 dX10_manyOf_12 rfl ?_
    refine V_aload_n K 0 dX10_manyOf_13 rfl ?_
    refine gf_X10_13 K dX10_manyOf_14 ?_
    refine V_iload_n K 3 dX10_manyOf_17 rfl ?_
    obtain ⟨g2, E⟩ := gd_inv E
    refine V_iald K k_53 n_53 g2 dX10_manyOf_18 ?_
    refine V_iload_n K 1 dX10_manyOf_19 rfl ?_
    refine iv_X10_158 K (c_X10_isOf _ (h.1 53 (ix y3)) x1 h) dX10_manyOf_20 (Nat.le_of_ble_eq_true rfl) ?_
    obtain ⟨v3, q9, E⟩ := ob_inv E
    have T9 : VV x 31 [(0, .ref (ad x 51)), (1, .int x1), (3, .int y3)] [.int v3, .int y2] h := by
      refine V_iadd K dX10_manyOf_31 ?_
      obtain ⟨v5, e6, E⟩ := lt_inv E
      refine V_top e6 ?_
      refine V_istore_n (lv' := [(2, .int v5), (0, .ref (ad x 51)), (1, .int x1), (3, .int y3)]) K dX10_manyOf_32 (by decide) rfl ?_
      obtain ⟨v7, e8, E⟩ := lt_inv E
      refine V_iinc (lv' := [(3, .int v7), (2, .int v5), (0, .ref (ad x 51)), (1, .int x1)]) K 3 dX10_manyOf_33 rfl (by rw [e8]; rfl) (by decide) rfl ?_
      refine V_goto K 4 dX10_manyOf_36 (by decide) ?_
      cases E
      exact V_sub [2, 3, 1, 0] rfl T
    have E := q9
    have T := T9
    rcases if_inv E with ⟨c4, E⟩ | ⟨c4, E⟩
    · refine V_if_eq_t K 30 dX10_manyOf_23 (by decide) c4 ?_
      refine V_ic (v := 0) K dX10_manyOf_30 rfl ?_
      cases E
      exact V_sub [0, 1, 3] rfl T
    · refine V_if_eq_f K 30 dX10_manyOf_23 (by decide) c4 ?_
      refine V_ic (v := 1) K dX10_manyOf_26 rfl ?_
      refine V_goto K 31 dX10_manyOf_27 (by decide) ?_
      cases E
      exact V_sub [0, 1, 3] rfl T
def X10_manyOf (a1 : Int32) (h : Hp) : Option Int32 :=
  ob2 (lp (fun s : Int32 × Int32 => X10_manyOf_s4 a1 h s.1 s.2) FU ((0 : Int32), (0 : Int32))) fun v10 v11 =>
  some v10
set_option maxHeartbeats 4000000 in
set_option maxRecDepth 100000 in
theorem w_X10_manyOf {x : Cx} {d : Nat} (K : Ok x cX10_manyOf RX10 4 (some .int) (d + 1)) (a1 : Int32) (h : Hp)  {z : Int32} (E : X10_manyOf a1 h = some z) (T : x.2.2.2.2 = (some (.int z), h)) : VV x 0 [(0, .ref (ad x 51)), (1, .int a1)] [] h := by
  unfold X10_manyOf at E
  refine V_ic (v := 0) K dX10_manyOf_0 rfl ?_
  refine V_istore_n (lv' := [(2, .int (0 : Int32)), (0, .ref (ad x 51)), (1, .int a1)]) K dX10_manyOf_1 (by decide) rfl ?_
  refine V_ic (v := 0) K dX10_manyOf_2 rfl ?_
  refine V_istore_n (lv' := [(3, .int (0 : Int32)), (2, .int (0 : Int32)), (0, .ref (ad x 51)), (1, .int a1)]) K dX10_manyOf_3 (by decide) rfl ?_
  obtain ⟨v10, v11, q12, E⟩ := ob2_inv E
  refine V_sub [2, 3, 1, 0] rfl (wl_X10_manyOf_s4 K a1 h  _ _ _ q12 ?_)
  show VV x 39 [(0, .ref (ad x 51)), (1, .int a1), (2, .int v10), (3, .int v11)] [] h
  refine V_iload_n K 2 dX10_manyOf_39 rfl ?_
  cases E
  exact V_iret K dX10_manyOf_40 rfl T
theorem c_X10_manyOf (d : Nat) (a1 : Int32) (h : Hp)  {r : Int32} (E : X10_manyOf a1 h = some r) : Runs (d + 1) yX10_manyOf cX10_manyOf 4 (some .int) (fun f => [.ref (f 51), .int a1]) h (fun _ => some (.int r)) h :=
  Runs.of (by decide +kernel) (fun _ => Nat.le_of_ble_eq_true rfl) (fun x K T => w_X10_manyOf K  a1 h  E T)
def X10_rowsThere_s4 (h : Hp) (y1 : Int32) (y2 : Int32) : Option ((Int32 × Int32) ⊕ (Int32 × Int32)) :=
  if (6 : Int32) ≤ y2 then (some (.inl (y1, y2)))
  else (gd (ib y2 6) (
  ob (if (h.1 56 (ix y2)) = (-9 : Int32) then (some (0 : Int32))
  else (some (1 : Int32))) fun v3 =>
  lt_ (y1 + v3) fun v5 =>
  lt_ (y2 + (1 : Int32)) fun v7 =>
  some (.inr (v5, v7))))
set_option maxHeartbeats 4000000 in
set_option maxRecDepth 100000 in
theorem wl_X10_rowsThere_s4 {x : Cx} {d : Nat} (K : Ok x cX10_rowsThere RX10 3 (some .int) (d + 0)) (h : Hp)  : ∀ (n : Nat) (s : Int32 × Int32) (r : (Int32 × Int32)), lp (fun s : Int32 × Int32 => X10_rowsThere_s4 h s.1 s.2) n s = some r → (fun r : (Int32 × Int32) => VV x 35 [(0, .ref (ad x 51)), (1, .int (r.1)), (2, .int (r.2))] [] h) r → (fun s : Int32 × Int32 => VV x 4 [(0, .ref (ad x 51)), (1, .int (s.1)), (2, .int (s.2))] [] h) s := by
  refine lp_walk ?_
  intro s z E T
  obtain ⟨y1, y2⟩ := s
  replace E : X10_rowsThere_s4 h y1 y2 = some z := E
  unfold X10_rowsThere_s4 at E
  show VV x 4 [(0, .ref (ad x 51)), (1, .int y1), (2, .int y2)] [] h
  refine V_iload_n K 2 dX10_rowsThere_4 rfl ?_
  refine V_bp (v := 6) K dX10_rowsThere_5 rfl ?_
  rcases if_inv E with ⟨c1, E⟩ | ⟨c1, E⟩
  · refine V_ic_ge_t K 35 dX10_rowsThere_7 (by decide) c1 ?_
    cases E
    exact V_sub [0, 1, 2] rfl T
  · refine V_ic_ge_f K 35 dX10_rowsThere_7 (by decide) c1 ?_
    refine V_iload_n K 1 dX10_rowsThere_10 rfl ?_
    refine V_aload_n K 0 dX10_rowsThere_11 rfl ?_
    refine gf_X10_22 K dX10_rowsThere_12 ?_
    refine V_iload_n K 2 dX10_rowsThere_15 rfl ?_
    obtain ⟨g2, E⟩ := gd_inv E
    refine V_iald K k_56 n_56 g2 dX10_rowsThere_16 ?_
    refine V_bp (v := -9) K dX10_rowsThere_17 rfl ?_
    obtain ⟨v3, q9, E⟩ := ob_inv E
    have T9 : VV x 27 [(0, .ref (ad x 51)), (2, .int y2)] [.int v3, .int y1] h := by
      refine V_iadd K dX10_rowsThere_27 ?_
      obtain ⟨v5, e6, E⟩ := lt_inv E
      refine V_top e6 ?_
      refine V_istore_n (lv' := [(1, .int v5), (0, .ref (ad x 51)), (2, .int y2)]) K dX10_rowsThere_28 (by decide) rfl ?_
      obtain ⟨v7, e8, E⟩ := lt_inv E
      refine V_iinc (lv' := [(2, .int v7), (1, .int v5), (0, .ref (ad x 51))]) K 2 dX10_rowsThere_29 rfl (by rw [e8]; rfl) (by decide) rfl ?_
      refine V_goto K 4 dX10_rowsThere_32 (by decide) ?_
      cases E
      exact V_sub [2, 1, 0] rfl T
    have E := q9
    have T := T9
    rcases if_inv E with ⟨c4, E⟩ | ⟨c4, E⟩
    · refine V_ic_ne_f K 26 dX10_rowsThere_19 (by decide) c4 ?_
      refine V_ic (v := 0) K dX10_rowsThere_22 rfl ?_
      refine V_goto K 27 dX10_rowsThere_23 (by decide) ?_
      cases E
      exact V_sub [0, 2] rfl T
    · refine V_ic_ne_t K 26 dX10_rowsThere_19 (by decide) c4 ?_
      refine V_ic (v := 1) K dX10_rowsThere_26 rfl ?_
      cases E
      exact V_sub [0, 2] rfl T
def X10_rowsThere  (h : Hp) : Option Int32 :=
  ob2 (lp (fun s : Int32 × Int32 => X10_rowsThere_s4 h s.1 s.2) FU ((0 : Int32), (0 : Int32))) fun v10 v11 =>
  some v10
set_option maxHeartbeats 4000000 in
set_option maxRecDepth 100000 in
theorem w_X10_rowsThere {x : Cx} {d : Nat} (K : Ok x cX10_rowsThere RX10 3 (some .int) (d + 0))  (h : Hp)  {z : Int32} (E : X10_rowsThere  h = some z) (T : x.2.2.2.2 = (some (.int z), h)) : VV x 0 [(0, .ref (ad x 51))] [] h := by
  unfold X10_rowsThere at E
  refine V_ic (v := 0) K dX10_rowsThere_0 rfl ?_
  refine V_istore_n (lv' := [(1, .int (0 : Int32)), (0, .ref (ad x 51))]) K dX10_rowsThere_1 (by decide) rfl ?_
  refine V_ic (v := 0) K dX10_rowsThere_2 rfl ?_
  refine V_istore_n (lv' := [(2, .int (0 : Int32)), (1, .int (0 : Int32)), (0, .ref (ad x 51))]) K dX10_rowsThere_3 (by decide) rfl ?_
  obtain ⟨v10, v11, q12, E⟩ := ob2_inv E
  refine V_sub [2, 1, 0] rfl (wl_X10_rowsThere_s4 K h  _ _ _ q12 ?_)
  show VV x 35 [(0, .ref (ad x 51)), (1, .int v10), (2, .int v11)] [] h
  refine V_iload_n K 1 dX10_rowsThere_35 rfl ?_
  cases E
  exact V_iret K dX10_rowsThere_36 rfl T
theorem c_X10_rowsThere (d : Nat)  (h : Hp)  {r : Int32} (E : X10_rowsThere  h = some r) : Runs (d + 0) yX10_rowsThere cX10_rowsThere 3 (some .int) (fun f => [.ref (f 51)]) h (fun _ => some (.int r)) h :=
  Runs.of (by decide +kernel) (fun _ => Nat.le_of_ble_eq_true rfl) (fun x K T => w_X10_rowsThere K   h  E T)
def X10_textsThere_s4 (h : Hp) (y1 : Int32) (y2 : Int32) : Option ((Int32 × Int32) ⊕ (Int32 × Int32)) :=
  if (4 : Int32) ≤ y2 then (some (.inl (y1, y2)))
  else (gd (ib y2 4) (
  ob (if (h.1 58 (ix y2)) = (-9 : Int32) then (some (0 : Int32))
  else (some (1 : Int32))) fun v3 =>
  lt_ (y1 + v3) fun v5 =>
  lt_ (y2 + (1 : Int32)) fun v7 =>
  some (.inr (v5, v7))))
set_option maxHeartbeats 4000000 in
set_option maxRecDepth 100000 in
theorem wl_X10_textsThere_s4 {x : Cx} {d : Nat} (K : Ok x cX10_textsThere RX10 3 (some .int) (d + 0)) (h : Hp)  : ∀ (n : Nat) (s : Int32 × Int32) (r : (Int32 × Int32)), lp (fun s : Int32 × Int32 => X10_textsThere_s4 h s.1 s.2) n s = some r → (fun r : (Int32 × Int32) => VV x 34 [(0, .ref (ad x 51)), (1, .int (r.1)), (2, .int (r.2))] [] h) r → (fun s : Int32 × Int32 => VV x 4 [(0, .ref (ad x 51)), (1, .int (s.1)), (2, .int (s.2))] [] h) s := by
  refine lp_walk ?_
  intro s z E T
  obtain ⟨y1, y2⟩ := s
  replace E : X10_textsThere_s4 h y1 y2 = some z := E
  unfold X10_textsThere_s4 at E
  show VV x 4 [(0, .ref (ad x 51)), (1, .int y1), (2, .int y2)] [] h
  refine V_iload_n K 2 dX10_textsThere_4 rfl ?_
  refine V_ic (v := 4) K dX10_textsThere_5 rfl ?_
  rcases if_inv E with ⟨c1, E⟩ | ⟨c1, E⟩
  · refine V_ic_ge_t K 34 dX10_textsThere_6 (by decide) c1 ?_
    cases E
    exact V_sub [0, 1, 2] rfl T
  · refine V_ic_ge_f K 34 dX10_textsThere_6 (by decide) c1 ?_
    refine V_iload_n K 1 dX10_textsThere_9 rfl ?_
    refine V_aload_n K 0 dX10_textsThere_10 rfl ?_
    refine gf_X10_28 K dX10_textsThere_11 ?_
    refine V_iload_n K 2 dX10_textsThere_14 rfl ?_
    obtain ⟨g2, E⟩ := gd_inv E
    refine V_iald K k_58 n_58 g2 dX10_textsThere_15 ?_
    refine V_bp (v := -9) K dX10_textsThere_16 rfl ?_
    obtain ⟨v3, q9, E⟩ := ob_inv E
    have T9 : VV x 26 [(0, .ref (ad x 51)), (2, .int y2)] [.int v3, .int y1] h := by
      refine V_iadd K dX10_textsThere_26 ?_
      obtain ⟨v5, e6, E⟩ := lt_inv E
      refine V_top e6 ?_
      refine V_istore_n (lv' := [(1, .int v5), (0, .ref (ad x 51)), (2, .int y2)]) K dX10_textsThere_27 (by decide) rfl ?_
      obtain ⟨v7, e8, E⟩ := lt_inv E
      refine V_iinc (lv' := [(2, .int v7), (1, .int v5), (0, .ref (ad x 51))]) K 2 dX10_textsThere_28 rfl (by rw [e8]; rfl) (by decide) rfl ?_
      refine V_goto K 4 dX10_textsThere_31 (by decide) ?_
      cases E
      exact V_sub [2, 1, 0] rfl T
    have E := q9
    have T := T9
    rcases if_inv E with ⟨c4, E⟩ | ⟨c4, E⟩
    · refine V_ic_ne_f K 25 dX10_textsThere_18 (by decide) c4 ?_
      refine V_ic (v := 0) K dX10_textsThere_21 rfl ?_
      refine V_goto K 26 dX10_textsThere_22 (by decide) ?_
      cases E
      exact V_sub [0, 2] rfl T
    · refine V_ic_ne_t K 25 dX10_textsThere_18 (by decide) c4 ?_
      refine V_ic (v := 1) K dX10_textsThere_25 rfl ?_
      cases E
      exact V_sub [0, 2] rfl T
def X10_textsThere  (h : Hp) : Option Int32 :=
  ob2 (lp (fun s : Int32 × Int32 => X10_textsThere_s4 h s.1 s.2) FU ((0 : Int32), (0 : Int32))) fun v10 v11 =>
  some v10
set_option maxHeartbeats 4000000 in
set_option maxRecDepth 100000 in
theorem w_X10_textsThere {x : Cx} {d : Nat} (K : Ok x cX10_textsThere RX10 3 (some .int) (d + 0))  (h : Hp)  {z : Int32} (E : X10_textsThere  h = some z) (T : x.2.2.2.2 = (some (.int z), h)) : VV x 0 [(0, .ref (ad x 51))] [] h := by
  unfold X10_textsThere at E
  refine V_ic (v := 0) K dX10_textsThere_0 rfl ?_
  refine V_istore_n (lv' := [(1, .int (0 : Int32)), (0, .ref (ad x 51))]) K dX10_textsThere_1 (by decide) rfl ?_
  refine V_ic (v := 0) K dX10_textsThere_2 rfl ?_
  refine V_istore_n (lv' := [(2, .int (0 : Int32)), (1, .int (0 : Int32)), (0, .ref (ad x 51))]) K dX10_textsThere_3 (by decide) rfl ?_
  obtain ⟨v10, v11, q12, E⟩ := ob2_inv E
  refine V_sub [2, 1, 0] rfl (wl_X10_textsThere_s4 K h  _ _ _ q12 ?_)
  show VV x 34 [(0, .ref (ad x 51)), (1, .int v10), (2, .int v11)] [] h
  refine V_iload_n K 1 dX10_textsThere_34 rfl ?_
  cases E
  exact V_iret K dX10_textsThere_35 rfl T
theorem c_X10_textsThere (d : Nat)  (h : Hp)  {r : Int32} (E : X10_textsThere  h = some r) : Runs (d + 0) yX10_textsThere cX10_textsThere 3 (some .int) (fun f => [.ref (f 51)]) h (fun _ => some (.int r)) h :=
  Runs.of (by decide +kernel) (fun _ => Nat.le_of_ble_eq_true rfl) (fun x K T => w_X10_textsThere K   h  E T)
