def X9_tear (a1 : Int32) (h : Hp) : Option (Int32 × Hp) :=
  ob2 (X9_refusedRow a1 h) fun r3 h2 =>
  if r3 = (0 : Int32) then (gd (ib a1 6) (
  lt_ (up h2 8 (ix a1) (-1 : Int32)) fun h6 =>
  some ((1 : Int32), h6)))
  else (some (r3, h2))
set_option maxHeartbeats 4000000 in
set_option maxRecDepth 100000 in
theorem w_X9_tear {x : Cx} {d : Nat} (K : Ok x cX9_tear RX9 3 (some .int) (d + 2)) (a1 : Int32) (h : Hp)  {z : Int32 × Hp} (E : X9_tear a1 h = some z) (T : x.2.2.2.2 = (some (.int (z.1)), z.2)) : VV x 0 [(0, .ref (ad x 0)), (1, .int a1)] [] h := by
  unfold X9_tear at E
  refine V_aload_n K 0 dX9_tear_0 rfl ?_
  refine V_iload_n K 1 dX9_tear_1 rfl ?_
  obtain ⟨r3, h2, q1, E⟩ := ob2_inv E
  refine iv_X9_95 K (c_X9_refusedRow _ a1 h q1) dX9_tear_2 (Nat.le_of_ble_eq_true rfl) ?_
  refine V_istore_n (lv' := [(2, .int r3), (0, .ref (ad x 0)), (1, .int a1)]) K dX9_tear_5 (by decide) rfl ?_
  refine V_iload_n K 0 dX9_tear_6 rfl ?_
  rcases if_inv E with ⟨c4, E⟩ | ⟨c4, E⟩
  · refine V_if_eq_t K 12 dX9_tear_7 (by decide) c4 ?_
    refine V_aload_n K 1 dX9_tear_12 rfl ?_
    refine gf_X9_14 K dX9_tear_13 ?_
    refine V_iload_n K 2 dX9_tear_16 rfl ?_
    refine V_ic (v := -1) K dX9_tear_17 rfl ?_
    obtain ⟨g5, E⟩ := gd_inv E
    obtain ⟨h6, e7, E⟩ := lt_inv E
    refine V_iast K k_8 n_8 g5 dX9_tear_18 ?_
    refine V_hp e7 ?_
    refine V_ic (v := 1) K dX9_tear_19 rfl ?_
    cases E
    exact V_iret K dX9_tear_20 rfl T
  · refine V_if_eq_f K 12 dX9_tear_7 (by decide) c4 ?_
    refine V_iload_n K 0 dX9_tear_10 rfl ?_
    cases E
    exact V_iret K dX9_tear_11 rfl T
theorem c_X9_tear (d : Nat) (a1 : Int32) (h : Hp)  {r : Int32} {h' : Hp} (E : X9_tear a1 h = some (r, h')) : Runs (d + 2) yX9_tear cX9_tear 3 (some .int) (fun f => [.ref (f 0), .int a1]) h (fun _ => some (.int r)) h' :=
  Runs.of (by decide +kernel) (fun _ => Nat.le_of_ble_eq_true rfl) (fun x K T => w_X9_tear K  a1 h  E T)
def X9_text (a1 : Int32) (a2 : Int32) (h : Hp) : Option (Int32 × Hp) :=
  if (X9_isText a1) = (0 : Int32) then (some ((-1 : Int32), h))
  else (if a2 ≤ (60 : Int32) then (if (0 : Int32) ≤ a2 then (gd (ib a1 4) (
  ob (J7_fill_031fb (10 + ix a1) (32 : Int32) h) fun h6 =>
  lt_ (up h6 14 (ix a1) a2) fun h7 =>
  some (a2, h7)))
  else (ob2 (X9_answerFinding (5 : Int32) h) fun r11 h10 =>
  some (r11, h10)))
  else (some ((-1 : Int32), h)))
set_option maxHeartbeats 4000000 in
set_option maxRecDepth 100000 in
theorem w_X9_text {x : Cx} {d : Nat} (K : Ok x cX9_text RX9 3 (some .int) (d + 1)) (a1 : Int32) (a2 : Int32) (h : Hp)  {z : Int32 × Hp} (E : X9_text a1 a2 h = some z) (T : x.2.2.2.2 = (some (.int (z.1)), z.2)) : VV x 0 [(0, .ref (ad x 0)), (1, .int a1), (2, .int a2)] [] h := by
  unfold X9_text at E
  refine V_iload_n K 1 dX9_text_0 rfl ?_
  refine iv_X9_108 K (c_X9_isText _ a1 h) dX9_text_1 (Nat.le_of_ble_eq_true rfl) ?_
  rcases if_inv E with ⟨c1, E⟩ | ⟨c1, E⟩
  · refine V_if_eq_t K 13 dX9_text_4 (by decide) c1 ?_
    refine V_ic (v := -1) K dX9_text_13 rfl ?_
    cases E
    exact V_iret K dX9_text_14 rfl T
  · refine V_if_eq_f K 13 dX9_text_4 (by decide) c1 ?_
    refine V_iload_n K 2 dX9_text_7 rfl ?_
    refine V_bp (v := 60) K dX9_text_8 rfl ?_
    rcases if_inv E with ⟨c2, E⟩ | ⟨c2, E⟩
    · refine V_ic_le_t K 15 dX9_text_10 (by decide) c2 ?_
      refine V_iload_n K 2 dX9_text_15 rfl ?_
      rcases if_inv E with ⟨c3, E⟩ | ⟨c3, E⟩
      · refine V_if_ge_t K 25 dX9_text_16 (by decide) c3 ?_
        refine V_aload_n K 0 dX9_text_25 rfl ?_
        refine gf_X9_20 K dX9_text_26 ?_
        refine V_iload_n K 1 dX9_text_29 rfl ?_
        obtain ⟨g4, E⟩ := gd_inv E
        refine V_aaload14 K k_9 g4 (txtR g4) dX9_text_30 ?_
        refine V_bp (v := 32) K dX9_text_31 rfl ?_
        obtain ⟨h6, q5, E⟩ := ob_inv E
        refine iv_X9_111 K (c_J7_fill_031fb _ (10 + ix a1) (32 : Int32) h (txtK g4) q5) dX9_text_33 (Nat.le_of_ble_eq_true rfl) ?_
        refine V_aload_n K 0 dX9_text_36 rfl ?_
        refine gf_X9_23 K dX9_text_37 ?_
        refine V_iload_n K 1 dX9_text_40 rfl ?_
        refine V_iload_n K 2 dX9_text_41 rfl ?_
        obtain ⟨h7, e8, E⟩ := lt_inv E
        refine V_iast K k_14 n_14 g4 dX9_text_42 ?_
        refine V_hp e8 ?_
        refine V_iload_n K 2 dX9_text_43 rfl ?_
        cases E
        exact V_iret K dX9_text_44 rfl T
      · refine V_if_ge_f K 25 dX9_text_16 (by decide) c3 ?_
        refine V_aload_n K 0 dX9_text_19 rfl ?_
        refine V_ic (v := 5) K dX9_text_20 rfl ?_
        obtain ⟨r11, h10, q9, E⟩ := ob2_inv E
        refine iv_X9_87 K (c_X9_answerFinding _ (5 : Int32) h q9) dX9_text_21 (Nat.le_of_ble_eq_true rfl) ?_
        cases E
        exact V_iret K dX9_text_24 rfl T
    · refine V_ic_le_f K 15 dX9_text_10 (by decide) c2 ?_
      refine V_ic (v := -1) K dX9_text_13 rfl ?_
      cases E
      exact V_iret K dX9_text_14 rfl T
theorem c_X9_text (d : Nat) (a1 : Int32) (a2 : Int32) (h : Hp)  {r : Int32} {h' : Hp} (E : X9_text a1 a2 h = some (r, h')) : Runs (d + 1) yX9_text cX9_text 3 (some .int) (fun f => [.ref (f 0), .int a1, .int a2]) h (fun _ => some (.int r)) h' :=
  Runs.of (by decide +kernel) (fun _ => Nat.le_of_ble_eq_true rfl) (fun x K T => w_X9_text K  a1 a2 h  E T)
def X9_turn  (h : Hp) : Option (Int32 × Hp) :=
  if (h.1 19 6) = (0 : Int32) then (some ((-4 : Int32), h))
  else (if (X3_isFull 27 h) = (0 : Int32) then (ob2 (X9_doDeed (0 : Int32) (0 : Int32) h) fun r5 h4 =>
  some (r5, h4))
  else (some ((-2 : Int32), h)))
set_option maxHeartbeats 4000000 in
set_option maxRecDepth 100000 in
theorem w_X9_turn {x : Cx} {d : Nat} (K : Ok x cX9_turn RX9 1 (some .int) (d + 7))  (h : Hp)  {z : Int32 × Hp} (E : X9_turn  h = some z) (T : x.2.2.2.2 = (some (.int (z.1)), z.2)) : VV x 0 [(0, .ref (ad x 0))] [] h := by
  unfold X9_turn at E
  refine V_aload_n K 0 dX9_turn_0 rfl ?_
  refine gf_X9_71 K dX9_turn_1 ?_
  refine gf_X9_127 K k_19 dX9_turn_4 ?_
  rcases if_inv E with ⟨c1, E⟩ | ⟨c1, E⟩
  · refine V_if_ne_f K 13 dX9_turn_7 (by decide) c1 ?_
    refine V_bp (v := -4) K dX9_turn_10 rfl ?_
    cases E
    exact V_iret K dX9_turn_12 rfl T
  · refine V_if_ne_t K 13 dX9_turn_7 (by decide) c1 ?_
    refine V_aload_n K 0 dX9_turn_13 rfl ?_
    refine gf_X9_31 K dX9_turn_14 ?_
    refine iv_X9_169 K k_27 (c_X3_isFull _ 27 h k_27) dX9_turn_17 (Nat.le_of_ble_eq_true rfl) ?_
    rcases if_inv E with ⟨c2, E⟩ | ⟨c2, E⟩
    · refine V_if_eq_t K 26 dX9_turn_20 (by decide) c2 ?_
      refine V_aload_n K 0 dX9_turn_26 rfl ?_
      refine V_ic (v := 0) K dX9_turn_27 rfl ?_
      refine V_ic (v := 0) K dX9_turn_28 rfl ?_
      obtain ⟨r5, h4, q3, E⟩ := ob2_inv E
      refine iv_X9_173 K (c_X9_doDeed _ (0 : Int32) (0 : Int32) h q3) dX9_turn_29 (Nat.le_of_ble_eq_true rfl) ?_
      cases E
      exact V_iret K dX9_turn_32 rfl T
    · refine V_if_eq_f K 26 dX9_turn_20 (by decide) c2 ?_
      refine V_bp (v := -2) K dX9_turn_23 rfl ?_
      cases E
      exact V_iret K dX9_turn_25 rfl T
theorem c_X9_turn (d : Nat)  (h : Hp)  {r : Int32} {h' : Hp} (E : X9_turn  h = some (r, h')) : Runs (d + 7) yX9_turn cX9_turn 1 (some .int) (fun f => [.ref (f 0)]) h (fun _ => some (.int r)) h' :=
  Runs.of (by decide +kernel) (fun _ => Nat.le_of_ble_eq_true rfl) (fun x K T => w_X9_turn K   h  E T)
def X9_undo (a1 : Int32) (h : Hp) : Option (Int32 × Hp) :=
  if a1 < (0 : Int32) then (some ((-1 : Int32), h))
  else (if a1 ≤ (h.1 27 1) then (lt_ ((h.1 27 1) - a1) fun v3 =>
  lt_ (up h 27 1 a1) fun h5 =>
  ob (X9_doAllAgain h5) fun h8 =>
  some (v3, h8))
  else (some ((-1 : Int32), h)))
set_option maxHeartbeats 4000000 in
set_option maxRecDepth 100000 in
theorem w_X9_undo {x : Cx} {d : Nat} (K : Ok x cX9_undo RX9 3 (some .int) (d + 7)) (a1 : Int32) (h : Hp)  {z : Int32 × Hp} (E : X9_undo a1 h = some z) (T : x.2.2.2.2 = (some (.int (z.1)), z.2)) : VV x 0 [(0, .ref (ad x 0)), (1, .int a1)] [] h := by
  unfold X9_undo at E
  refine V_iload_n K 1 dX9_undo_0 rfl ?_
  rcases if_inv E with ⟨c1, E⟩ | ⟨c1, E⟩
  · refine V_if_lt_t K 15 dX9_undo_1 (by decide) c1 ?_
    refine V_ic (v := -1) K dX9_undo_15 rfl ?_
    cases E
    exact V_iret K dX9_undo_16 rfl T
  · refine V_if_lt_f K 15 dX9_undo_1 (by decide) c1 ?_
    refine V_iload_n K 1 dX9_undo_4 rfl ?_
    refine V_aload_n K 0 dX9_undo_5 rfl ?_
    refine gf_X9_31 K dX9_undo_6 ?_
    refine gf_X9_124 K k_27 dX9_undo_9 ?_
    rcases if_inv E with ⟨c2, E⟩ | ⟨c2, E⟩
    · refine V_ic_le_t K 17 dX9_undo_12 (by decide) c2 ?_
      refine V_aload_n K 0 dX9_undo_17 rfl ?_
      refine gf_X9_31 K dX9_undo_18 ?_
      refine gf_X9_124 K k_27 dX9_undo_21 ?_
      refine V_iload_n K 1 dX9_undo_24 rfl ?_
      refine V_isub K dX9_undo_25 ?_
      obtain ⟨v3, e4, E⟩ := lt_inv E
      refine V_top e4 ?_
      refine V_istore_n (lv' := [(2, .int v3), (0, .ref (ad x 0)), (1, .int a1)]) K dX9_undo_26 (by decide) rfl ?_
      refine V_aload_n K 1 dX9_undo_27 rfl ?_
      refine gf_X9_31 K dX9_undo_28 ?_
      refine V_iload_n K 2 dX9_undo_31 rfl ?_
      obtain ⟨h5, e6, E⟩ := lt_inv E
      refine pf_X9_124 K k_27 dX9_undo_32 ?_
      refine V_hp e6 ?_
      refine V_aload_n K 1 dX9_undo_35 rfl ?_
      obtain ⟨h8, q7, E⟩ := ob_inv E
      refine iv_X9_185 K (c_X9_doAllAgain _ h5 q7) dX9_undo_36 (Nat.le_of_ble_eq_true rfl) ?_
      refine V_iload_n K 0 dX9_undo_39 rfl ?_
      cases E
      exact V_iret K dX9_undo_40 rfl T
    · refine V_ic_le_f K 17 dX9_undo_12 (by decide) c2 ?_
      refine V_ic (v := -1) K dX9_undo_15 rfl ?_
      cases E
      exact V_iret K dX9_undo_16 rfl T
theorem c_X9_undo (d : Nat) (a1 : Int32) (h : Hp)  {r : Int32} {h' : Hp} (E : X9_undo a1 h = some (r, h')) : Runs (d + 7) yX9_undo cX9_undo 3 (some .int) (fun f => [.ref (f 0), .int a1]) h (fun _ => some (.int r)) h' :=
  Runs.of (by decide +kernel) (fun _ => Nat.le_of_ble_eq_true rfl) (fun x K T => w_X9_undo K  a1 h  E T)
def X9_upper  (h : Hp) : Int64 :=
  h.2 0 13
set_option maxHeartbeats 4000000 in
set_option maxRecDepth 100000 in
theorem w_X9_upper {x : Cx} {d : Nat} (K : Ok x cX9_upper RX9 1 (some .long) (d + 0))  (h : Hp)  {z : Int64} (E : X9_upper  h = z) (T : x.2.2.2.2 = (some (.long z), h)) : VV x 0 [(0, .ref (ad x 0))] [] h := by
  unfold X9_upper at E
  refine V_aload_n K 0 dX9_upper_0 rfl ?_
  refine gf_X9_52 K dX9_upper_1 ?_
  cases E
  exact V_lret K dX9_upper_4 T
theorem c_X9_upper (d : Nat)  (h : Hp)  : Runs (d + 0) yX9_upper cX9_upper 1 (some .long) (fun f => [.ref (f 0)]) h (fun _ => some (.long (X9_upper  h))) h :=
  Runs.of (by decide +kernel) (fun _ => Nat.le_of_ble_eq_true rfl) (fun x K T => w_X9_upper K   h  rfl T)
def X9_wind (a1 : Int32) (h : Hp) : Option (Int32 × Hp) :=
  if a1 < (0 : Int32) then (some ((-1 : Int32), h))
  else (if a1 ≤ (2 : Int32) then (if (h.1 19 6) = (0 : Int32) then (some ((-4 : Int32), h))
  else (if (h.1 19 9) = a1 then (some ((-4 : Int32), h))
  else (if (X3_isFull 27 h) = (0 : Int32) then (lt_ (h.1 19 9) fun v6 =>
  ob2 (X9_doDeed (2 : Int32) a1 h) fun r10 h9 =>
  some (v6, h9))
  else (some ((-2 : Int32), h)))))
  else (some ((-1 : Int32), h)))
set_option maxHeartbeats 4000000 in
set_option maxRecDepth 100000 in
theorem w_X9_wind {x : Cx} {d : Nat} (K : Ok x cX9_wind RX9 3 (some .int) (d + 7)) (a1 : Int32) (h : Hp)  {z : Int32 × Hp} (E : X9_wind a1 h = some z) (T : x.2.2.2.2 = (some (.int (z.1)), z.2)) : VV x 0 [(0, .ref (ad x 0)), (1, .int a1)] [] h := by
  unfold X9_wind at E
  refine V_iload_n K 1 dX9_wind_0 rfl ?_
  rcases if_inv E with ⟨c1, E⟩ | ⟨c1, E⟩
  · refine V_if_lt_t K 9 dX9_wind_1 (by decide) c1 ?_
    refine V_ic (v := -1) K dX9_wind_9 rfl ?_
    cases E
    exact V_iret K dX9_wind_10 rfl T
  · refine V_if_lt_f K 9 dX9_wind_1 (by decide) c1 ?_
    refine V_iload_n K 1 dX9_wind_4 rfl ?_
    refine V_ic (v := 2) K dX9_wind_5 rfl ?_
    rcases if_inv E with ⟨c2, E⟩ | ⟨c2, E⟩
    · refine V_ic_le_t K 11 dX9_wind_6 (by decide) c2 ?_
      refine V_aload_n K 0 dX9_wind_11 rfl ?_
      refine gf_X9_71 K dX9_wind_12 ?_
      refine gf_X9_127 K k_19 dX9_wind_15 ?_
      rcases if_inv E with ⟨c3, E⟩ | ⟨c3, E⟩
      · refine V_if_eq_t K 32 dX9_wind_18 (by decide) c3 ?_
        refine V_bp (v := -4) K dX9_wind_32 rfl ?_
        cases E
        exact V_iret K dX9_wind_34 rfl T
      · refine V_if_eq_f K 32 dX9_wind_18 (by decide) c3 ?_
        refine V_aload_n K 0 dX9_wind_21 rfl ?_
        refine gf_X9_71 K dX9_wind_22 ?_
        refine gf_X9_176 K k_19 dX9_wind_25 ?_
        refine V_iload_n K 1 dX9_wind_28 rfl ?_
        rcases if_inv E with ⟨c4, E⟩ | ⟨c4, E⟩
        · refine V_ic_ne_f K 35 dX9_wind_29 (by decide) c4 ?_
          refine V_bp (v := -4) K dX9_wind_32 rfl ?_
          cases E
          exact V_iret K dX9_wind_34 rfl T
        · refine V_ic_ne_t K 35 dX9_wind_29 (by decide) c4 ?_
          refine V_aload_n K 0 dX9_wind_35 rfl ?_
          refine gf_X9_31 K dX9_wind_36 ?_
          refine iv_X9_169 K k_27 (c_X3_isFull _ 27 h k_27) dX9_wind_39 (Nat.le_of_ble_eq_true rfl) ?_
          rcases if_inv E with ⟨c5, E⟩ | ⟨c5, E⟩
          · refine V_if_eq_t K 48 dX9_wind_42 (by decide) c5 ?_
            refine V_aload_n K 0 dX9_wind_48 rfl ?_
            refine gf_X9_71 K dX9_wind_49 ?_
            refine gf_X9_176 K k_19 dX9_wind_52 ?_
            obtain ⟨v6, e7, E⟩ := lt_inv E
            refine V_top e7 ?_
            refine V_istore_n (lv' := [(2, .int v6), (0, .ref (ad x 0)), (1, .int a1)]) K dX9_wind_55 (by decide) rfl ?_
            refine V_aload_n K 1 dX9_wind_56 rfl ?_
            refine V_ic (v := 2) K dX9_wind_57 rfl ?_
            refine V_iload_n K 2 dX9_wind_58 rfl ?_
            obtain ⟨r10, h9, q8, E⟩ := ob2_inv E
            refine iv_X9_173 K (c_X9_doDeed _ (2 : Int32) a1 h q8) dX9_wind_59 (Nat.le_of_ble_eq_true rfl) ?_
            refine V_pop K dX9_wind_62 rfl ?_
            refine V_iload_n K 0 dX9_wind_63 rfl ?_
            cases E
            exact V_iret K dX9_wind_64 rfl T
          · refine V_if_eq_f K 48 dX9_wind_42 (by decide) c5 ?_
            refine V_bp (v := -2) K dX9_wind_45 rfl ?_
            cases E
            exact V_iret K dX9_wind_47 rfl T
    · refine V_ic_le_f K 11 dX9_wind_6 (by decide) c2 ?_
      refine V_ic (v := -1) K dX9_wind_9 rfl ?_
      cases E
      exact V_iret K dX9_wind_10 rfl T
theorem c_X9_wind (d : Nat) (a1 : Int32) (h : Hp)  {r : Int32} {h' : Hp} (E : X9_wind a1 h = some (r, h')) : Runs (d + 7) yX9_wind cX9_wind 3 (some .int) (fun f => [.ref (f 0), .int a1]) h (fun _ => some (.int r)) h' :=
  Runs.of (by decide +kernel) (fun _ => Nat.le_of_ble_eq_true rfl) (fun x K T => w_X9_wind K  a1 h  E T)
def X9_winds_s19 (x1 : Int32) (x2 : Int32) (y4 : Int32) (y5 : Int32) (h : Hp) : Option ((Int32 × Int32 × Hp) ⊕ (Int32 × Int32 × Hp)) :=
  if (2 : Int32) < y5 then (some (.inl (y4, y5, h)))
  else (ob (X4_become 23 19 h) fun h7 =>
  lt_ (up h7 23 9 y5) fun h8 =>
  ob2 (X9_asideFits x1 x2 h8) fun r12 h11 =>
  ob (if r12 = (0 : Int32) then (some y4)
  else (lt_ (y4 ||| ((1 : Int32) <<< (y5 &&& 31))) fun v15 =>
  some v15)) fun v13 =>
  lt_ (y5 + (1 : Int32)) fun v17 =>
  some (.inr (v13, v17, h11)))
set_option maxHeartbeats 4000000 in
set_option maxRecDepth 100000 in
theorem wl_X9_winds_s19 {x : Cx} {d : Nat} (K : Ok x cX9_winds RX9 6 (some .int) (d + 6)) (x1 : Int32) (x2 : Int32)  : ∀ (n : Nat) (s : Int32 × Int32 × Hp) (r : (Int32 × Int32 × Hp)), lp (fun s : Int32 × Int32 × Hp => X9_winds_s19 x1 x2 s.1 s.2.1 s.2.2) n s = some r → (fun r : (Int32 × Int32 × Hp) => VV x 69 [(0, .ref (ad x 0)), (1, .int x1), (2, .int x2), (4, .int (r.1)), (5, .int (r.2.1))] [] r.2.2) r → (fun s : Int32 × Int32 × Hp => VV x 19 [(0, .ref (ad x 0)), (1, .int x1), (2, .int x2), (4, .int (s.1)), (5, .int (s.2.1))] [] s.2.2) s := by
  refine lp_walk ?_
  intro s z E T
  obtain ⟨y4, y5, h⟩ := s
  replace E : X9_winds_s19 x1 x2 y4 y5 h = some z := E
  unfold X9_winds_s19 at E
  show VV x 19 [(0, .ref (ad x 0)), (1, .int x1), (2, .int x2), (4, .int y4), (5, .int y5)] [] h
  refine V_iload K 4 dX9_winds_19 rfl ?_
  refine V_ic (v := 2) K dX9_winds_21 rfl ?_
  rcases if_inv E with ⟨c5, E⟩ | ⟨c5, E⟩
  · refine V_ic_gt_t K 69 dX9_winds_22 (by decide) c5 ?_
    cases E
    exact V_sub [0, 1, 2, 3, 4] rfl T
  · refine V_ic_gt_f K 69 dX9_winds_22 (by decide) c5 ?_
    refine V_aload_n K 0 dX9_winds_25 rfl ?_
    refine gf_X9_74 K dX9_winds_26 ?_
    refine V_aload_n K 0 dX9_winds_29 rfl ?_
    refine gf_X9_71 K dX9_winds_30 ?_
    obtain ⟨h7, q6, E⟩ := ob_inv E
    refine iv_X9_120 K k_23 (c_X4_become _ 23 19 h k_23 k_19 q6) dX9_winds_33 (Nat.le_of_ble_eq_true rfl) ?_
    refine V_aload_n K 0 dX9_winds_36 rfl ?_
    refine gf_X9_74 K dX9_winds_37 ?_
    refine V_iload K 4 dX9_winds_40 rfl ?_
    obtain ⟨h8, e9, E⟩ := lt_inv E
    refine pf_X9_176 K k_23 dX9_winds_42 ?_
    refine V_hp e9 ?_
    refine V_aload_n K 0 dX9_winds_45 rfl ?_
    refine V_iload_n K 1 dX9_winds_46 rfl ?_
    refine V_iload_n K 2 dX9_winds_47 rfl ?_
    obtain ⟨r12, h11, q10, E⟩ := ob2_inv E
    refine iv_X9_227 K (c_X9_asideFits _ x1 x2 h8 q10) dX9_winds_48 (Nat.le_of_ble_eq_true rfl) ?_
    obtain ⟨v13, q19, E⟩ := ob_inv E
    have T9 : VV x 63 [(0, .ref (ad x 0)), (1, .int x1), (2, .int x2), (4, .int v13), (5, .int y5)] [] h11 := by
      obtain ⟨v17, e18, E⟩ := lt_inv E
      refine V_iinc (lv' := [(5, .int v17), (0, .ref (ad x 0)), (1, .int x1), (2, .int x2), (4, .int v13)]) K 4 dX9_winds_63 rfl (by rw [e18]; rfl) (by decide) rfl ?_
      refine V_goto K 19 dX9_winds_66 (by decide) ?_
      cases E
      exact V_sub [1, 2, 3, 4, 0] rfl T
    have E := q19
    have T := T9
    rcases if_inv E with ⟨c14, E⟩ | ⟨c14, E⟩
    · refine V_if_eq_t K 63 dX9_winds_51 (by decide) c14 ?_
      cases E
      exact V_sub [0, 1, 2, 3, 4] rfl T
    · refine V_if_eq_f K 63 dX9_winds_51 (by decide) c14 ?_
      refine V_iload K 3 dX9_winds_54 rfl ?_
      refine V_ic (v := 1) K dX9_winds_56 rfl ?_
      refine V_iload K 4 dX9_winds_57 rfl ?_
      refine V_ishl K dX9_winds_59 ?_
      refine V_ior K dX9_winds_60 ?_
      obtain ⟨v15, e16, E⟩ := lt_inv E
      refine V_top e16 ?_
      refine V_istore (lv' := [(4, .int v15), (0, .ref (ad x 0)), (1, .int x1), (2, .int x2), (5, .int y5)]) K dX9_winds_61 (by decide) rfl ?_
      cases E
      exact V_sub [1, 2, 3, 0, 4] rfl T
def X9_winds (a1 : Int32) (a2 : Int32) (h : Hp) : Option (Int32 × Hp) :=
  ob2 (X9_refusedHad a1 a2 h) fun r3 h2 =>
  if r3 = (0 : Int32) then (ob3 (lp (fun s : Int32 × Int32 × Hp => X9_winds_s19 a1 a2 s.1 s.2.1 s.2.2) FU ((0 : Int32), (0 : Int32), h2)) fun v20 v21 h22 =>
  some (v20, h22))
  else (some (r3, h2))
set_option maxHeartbeats 4000000 in
set_option maxRecDepth 100000 in
theorem w_X9_winds {x : Cx} {d : Nat} (K : Ok x cX9_winds RX9 6 (some .int) (d + 6)) (a1 : Int32) (a2 : Int32) (h : Hp)  {z : Int32 × Hp} (E : X9_winds a1 a2 h = some z) (T : x.2.2.2.2 = (some (.int (z.1)), z.2)) : VV x 0 [(0, .ref (ad x 0)), (1, .int a1), (2, .int a2)] [] h := by
  unfold X9_winds at E
  refine V_aload_n K 0 dX9_winds_0 rfl ?_
  refine V_iload_n K 1 dX9_winds_1 rfl ?_
  refine V_iload_n K 2 dX9_winds_2 rfl ?_
  obtain ⟨r3, h2, q1, E⟩ := ob2_inv E
  refine iv_X9_221 K (c_X9_refusedHad _ a1 a2 h q1) dX9_winds_3 (Nat.le_of_ble_eq_true rfl) ?_
  refine V_istore_n (lv' := [(3, .int r3), (0, .ref (ad x 0)), (1, .int a1), (2, .int a2)]) K dX9_winds_6 (by decide) rfl ?_
  refine V_iload_n K 0 dX9_winds_7 rfl ?_
  rcases if_inv E with ⟨c4, E⟩ | ⟨c4, E⟩
  · refine V_if_eq_t K 13 dX9_winds_8 (by decide) c4 ?_
    refine V_ic (v := 0) K dX9_winds_13 rfl ?_
    refine V_istore (lv' := [(4, .int (0 : Int32)), (3, .int r3), (0, .ref (ad x 0)), (1, .int a1), (2, .int a2)]) K dX9_winds_14 (by decide) rfl ?_
    refine V_ic (v := 0) K dX9_winds_16 rfl ?_
    refine V_istore (lv' := [(5, .int (0 : Int32)), (4, .int (0 : Int32)), (3, .int r3), (0, .ref (ad x 0)), (1, .int a1), (2, .int a2)]) K dX9_winds_17 (by decide) rfl ?_
    obtain ⟨v20, v21, h22, q23, E⟩ := ob3_inv E
    refine V_sub [3, 4, 5, 1, 0] rfl (wl_X9_winds_s19 K a1 a2  _ _ _ q23 ?_)
    show VV x 69 [(0, .ref (ad x 0)), (1, .int a1), (2, .int a2), (4, .int v20), (5, .int v21)] [] h22
    refine V_iload K 3 dX9_winds_69 rfl ?_
    cases E
    exact V_iret K dX9_winds_71 rfl T
  · refine V_if_eq_f K 13 dX9_winds_8 (by decide) c4 ?_
    refine V_iload_n K 0 dX9_winds_11 rfl ?_
    cases E
    exact V_iret K dX9_winds_12 rfl T
theorem c_X9_winds (d : Nat) (a1 : Int32) (a2 : Int32) (h : Hp)  {r : Int32} {h' : Hp} (E : X9_winds a1 a2 h = some (r, h')) : Runs (d + 6) yX9_winds cX9_winds 6 (some .int) (fun f => [.ref (f 0), .int a1, .int a2]) h (fun _ => some (.int r)) h' :=
  Runs.of (by decide +kernel) (fun _ => Nat.le_of_ble_eq_true rfl) (fun x K T => w_X9_winds K  a1 a2 h  E T)
