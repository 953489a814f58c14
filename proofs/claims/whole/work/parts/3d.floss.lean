def X9_readFront_s103 (r2 : Nat) (x3 : Int32) (y4 : Int32) (y6 : Int32) (h : Hp) : Option (((Int32 × Hp) ⊕ (Int32 × Int32 × Hp)) ⊕ (Int32 × Int32 × Hp)) :=
  if (6 : Int32) < y6 then (some (.inl (.inr (y4, y6, h))))
  else (if x3 ≤ y4 then (some (.inl (.inr (y4, y6, h))))
  else (ob2 (X9_readOne r2 x3 y4 h) fun r22 h21 =>
  if r22 = (-9 : Int32) then (ob (X9_pastBlanks r2 x3 (y4 + (4 : Int32)) h21) fun r24 =>
  lt_ (y6 + (1 : Int32)) fun v26 =>
  some (.inr (r24, v26, h21)))
  else (some (.inl (.inl (r22, h21))))))
set_option maxHeartbeats 4000000 in
set_option maxRecDepth 100000 in
theorem wl_X9_readFront_s103 {x : Cx} {d : Nat} (K : Ok x cX9_readFront RX9 8 (some .int) (d + 2)) (r2 : Nat) (x3 : Int32) (hr2 : shK r2 = 11) : ∀ (n : Nat) (s : Int32 × Int32 × Hp) (r : ((Int32 × Hp) ⊕ (Int32 × Int32 × Hp))), lp (fun s : Int32 × Int32 × Hp => X9_readFront_s103 r2 x3 s.1 s.2.1 s.2.2) n s = some r → (fun r : ((Int32 × Hp) ⊕ (Int32 × Int32 × Hp)) => match r with | .inl q => x.2.2.2.2 = (some (.int (q.1)), q.2) | .inr r => VV x 153 [(0, .ref (ad x 0)), (2, .ref (ad x r2)), (3, .int x3), (4, .int (r.1)), (6, .int (r.2.1))] [] r.2.2) r → (fun s : Int32 × Int32 × Hp => VV x 103 [(0, .ref (ad x 0)), (2, .ref (ad x r2)), (3, .int x3), (4, .int (s.1)), (6, .int (s.2.1))] [] s.2.2) s := by
  refine lp_walk ?_
  intro s z E T
  obtain ⟨y4, y6, h⟩ := s
  replace E : X9_readFront_s103 r2 x3 y4 y6 h = some z := E
  unfold X9_readFront_s103 at E
  show VV x 103 [(0, .ref (ad x 0)), (2, .ref (ad x r2)), (3, .int x3), (4, .int y4), (6, .int y6)] [] h
  refine V_iload K 4 dX9_readFront_103 rfl ?_
  refine V_bp (v := 6) K dX9_readFront_105 rfl ?_
  rcases if_inv E with ⟨c18, E⟩ | ⟨c18, E⟩
  · refine V_ic_gt_t K 153 dX9_readFront_107 (by decide) c18 ?_
    cases E
    exact V_sub [0, 1, 2, 3, 4] rfl T
  · refine V_ic_gt_f K 153 dX9_readFront_107 (by decide) c18 ?_
    refine V_iload K 3 dX9_readFront_110 rfl ?_
    refine V_iload_n K 2 dX9_readFront_112 rfl ?_
    rcases if_inv E with ⟨c19, E⟩ | ⟨c19, E⟩
    · refine V_ic_ge_t K 153 dX9_readFront_113 (by decide) c19 ?_
      cases E
      exact V_sub [0, 1, 2, 3, 4] rfl T
    · refine V_ic_ge_f K 153 dX9_readFront_113 (by decide) c19 ?_
      refine V_aload_n K 0 dX9_readFront_116 rfl ?_
      refine V_aload_n K 1 dX9_readFront_117 rfl ?_
      refine V_iload_n K 2 dX9_readFront_118 rfl ?_
      refine V_iload K 3 dX9_readFront_119 rfl ?_
      obtain ⟨r22, h21, q20, E⟩ := ob2_inv E
      refine iv_X9_313 K (c_X9_readOne _ r2 x3 y4 h hr2 q20) dX9_readFront_121 (Nat.le_of_ble_eq_true rfl) ?_
      refine V_istore (lv' := [(7, .int r22), (0, .ref (ad x 0)), (2, .ref (ad x r2)), (3, .int x3), (4, .int y4), (6, .int y6)]) K dX9_readFront_124 (by decide) rfl ?_
      refine V_iload K 0 dX9_readFront_126 rfl ?_
      refine V_bp (v := -9) K dX9_readFront_128 rfl ?_
      rcases if_inv E with ⟨c23, E⟩ | ⟨c23, E⟩
      · refine V_ic_eq_t K 136 dX9_readFront_130 (by decide) c23 ?_
        refine V_aload_n K 2 dX9_readFront_136 rfl ?_
        refine V_iload_n K 3 dX9_readFront_137 rfl ?_
        refine V_iload K 4 dX9_readFront_138 rfl ?_
        refine V_ic (v := 4) K dX9_readFront_140 rfl ?_
        refine V_iadd K dX9_readFront_141 ?_
        obtain ⟨r24, q25, E⟩ := ob_inv E
        refine iv_X9_298 K (c_X9_pastBlanks _ r2 x3 (y4 + (4 : Int32)) h21 hr2 q25) dX9_readFront_142 (Nat.le_of_ble_eq_true rfl) ?_
        refine V_istore (lv' := [(4, .int r24), (7, .int r22), (0, .ref (ad x 0)), (2, .ref (ad x r2)), (3, .int x3), (6, .int y6)]) K dX9_readFront_145 (by decide) rfl ?_
        obtain ⟨v26, e27, E⟩ := lt_inv E
        refine V_iinc (lv' := [(6, .int v26), (4, .int r24), (7, .int r22), (0, .ref (ad x 0)), (2, .ref (ad x r2)), (3, .int x3)]) K 5 dX9_readFront_147 rfl (by rw [e27]; rfl) (by decide) rfl ?_
        refine V_goto K 103 dX9_readFront_150 (by decide) ?_
        cases E
        exact V_sub [3, 4, 5, 1, 0] rfl T
      · refine V_ic_eq_f K 136 dX9_readFront_130 (by decide) c23 ?_
        refine V_iload K 0 dX9_readFront_133 rfl ?_
        cases E
        exact V_iret K dX9_readFront_135 rfl T
def X9_readFront (a1 : Int32) (h : Hp) : Option (Int32 × Hp) :=
  gd (ib a1 4) (
  lt_ (h.1 14 (ix a1)) fun v2 =>
  ob (X9_pastBlanks (10 + ix a1) v2 (0 : Int32) h) fun r4 =>
  if v2 ≤ r4 then (some (r4, h))
  else (gd (ib r4 60) (
  if (h.1 (10 + ix a1) (ix r4)) = (100 : Int32) then (ob (X9_pastFigures (10 + ix a1) v2 (r4 + (1 : Int32)) (2 : Int32) h) fun r9 =>
  if (r4 + (3 : Int32)) ≤ r9 then (gd (ib (r4 + (1 : Int32)) 60) (
  gd (ib (r4 + (2 : Int32)) 60) (
  ob (X4_begin 23 (X9_figure (h.1 (10 + ix a1) (ix (r4 + (1 : Int32))))) (X9_figure (h.1 (10 + ix a1) (ix (r4 + (2 : Int32))))) h) fun h15 =>
  ob (X9_pastBlanks (10 + ix a1) v2 (r4 + (3 : Int32)) h15) fun r16 =>
  obS3 (lp (fun s : Int32 × Int32 × Hp => X9_readFront_s103 (10 + ix a1) v2 s.1 s.2.1 s.2.2) FU (r16, (0 : Int32), h15)) (fun q => some q) fun v28 v29 h30 =>
  if (h30.1 23 6) = (0 : Int32) then (some (v2, h30))
  else (some ((-9 : Int32), h30)))))
  else (some (r9, h)))
  else (some (r4, h)))))
set_option maxHeartbeats 4000000 in
set_option maxRecDepth 100000 in
theorem w_X9_readFront {x : Cx} {d : Nat} (K : Ok x cX9_readFront RX9 8 (some .int) (d + 2)) (a1 : Int32) (h : Hp)  {z : Int32 × Hp} (E : X9_readFront a1 h = some z) (T : x.2.2.2.2 = (some (.int (z.1)), z.2)) : VV x 0 [(0, .ref (ad x 0)), (1, .int a1)] [] h := by
  unfold X9_readFront at E
  refine V_aload_n K 0 dX9_readFront_0 rfl ?_
  refine gf_X9_20 K dX9_readFront_1 ?_
  refine V_iload_n K 1 dX9_readFront_4 rfl ?_
  obtain ⟨g1, E⟩ := gd_inv E
  refine V_aaload14 K k_9 g1 (txtR g1) dX9_readFront_5 ?_
  refine V_astore_n (lv' := [(2, .ref (ad x (10 + ix a1))), (0, .ref (ad x 0)), (1, .int a1)]) K dX9_readFront_6 (by decide) rfl ?_
  refine V_aload_n K 1 dX9_readFront_7 rfl ?_
  refine gf_X9_23 K dX9_readFront_8 ?_
  refine V_iload_n K 2 dX9_readFront_11 rfl ?_
  refine V_iald K k_14 n_14 g1 dX9_readFront_12 ?_
  obtain ⟨v2, e3, E⟩ := lt_inv E
  refine V_top e3 ?_
  refine V_istore_n (lv' := [(3, .int v2), (2, .ref (ad x (10 + ix a1))), (0, .ref (ad x 0)), (1, .int a1)]) K dX9_readFront_13 (by decide) rfl ?_
  refine V_aload_n K 1 dX9_readFront_14 rfl ?_
  refine V_iload_n K 0 dX9_readFront_15 rfl ?_
  refine V_ic (v := 0) K dX9_readFront_16 rfl ?_
  obtain ⟨r4, q5, E⟩ := ob_inv E
  refine iv_X9_298 K (c_X9_pastBlanks _ (10 + ix a1) v2 (0 : Int32) h (txtK g1) q5) dX9_readFront_17 (Nat.le_of_ble_eq_true rfl) ?_
  refine V_istore (lv' := [(4, .int r4), (3, .int v2), (2, .ref (ad x (10 + ix a1))), (0, .ref (ad x 0)), (1, .int a1)]) K dX9_readFront_20 (by decide) rfl ?_
  refine V_iload K 0 dX9_readFront_22 rfl ?_
  refine V_iload_n K 1 dX9_readFront_24 rfl ?_
  rcases if_inv E with ⟨c6, E⟩ | ⟨c6, E⟩
  · refine V_ic_ge_t K 37 dX9_readFront_25 (by decide) c6 ?_
    refine V_iload K 0 dX9_readFront_37 rfl ?_
    cases E
    exact V_iret K dX9_readFront_39 rfl T
  · refine V_ic_ge_f K 37 dX9_readFront_25 (by decide) c6 ?_
    refine V_aload_n K 2 dX9_readFront_28 rfl ?_
    refine V_iload K 0 dX9_readFront_29 rfl ?_
    obtain ⟨g7, E⟩ := gd_inv E
    refine V_bald K (txtK g1) (txtN g1) g7 dX9_readFront_31 ?_
    refine V_bp (v := 100) K dX9_readFront_32 rfl ?_
    rcases if_inv E with ⟨c8, E⟩ | ⟨c8, E⟩
    · refine V_ic_eq_t K 40 dX9_readFront_34 (by decide) c8 ?_
      refine V_aload_n K 2 dX9_readFront_40 rfl ?_
      refine V_iload_n K 1 dX9_readFront_41 rfl ?_
      refine V_iload K 0 dX9_readFront_42 rfl ?_
      refine V_ic (v := 1) K dX9_readFront_44 rfl ?_
      refine V_iadd K dX9_readFront_45 ?_
      refine V_ic (v := 2) K dX9_readFront_46 rfl ?_
      obtain ⟨r9, q10, E⟩ := ob_inv E
      refine iv_X9_302 K (c_X9_pastFigures _ (10 + ix a1) v2 (r4 + (1 : Int32)) (2 : Int32) h (txtK g1) q10) dX9_readFront_47 (Nat.le_of_ble_eq_true rfl) ?_
      refine V_istore (lv' := [(5, .int r9), (4, .int r4), (3, .int v2), (2, .ref (ad x (10 + ix a1))), (0, .ref (ad x 0)), (1, .int a1)]) K dX9_readFront_50 (by decide) rfl ?_
      refine V_iload K 0 dX9_readFront_52 rfl ?_
      refine V_iload K 1 dX9_readFront_54 rfl ?_
      refine V_ic (v := 3) K dX9_readFront_56 rfl ?_
      refine V_iadd K dX9_readFront_57 ?_
      rcases if_inv E with ⟨c11, E⟩ | ⟨c11, E⟩
      · refine V_ic_ge_t K 64 dX9_readFront_58 (by decide) c11 ?_
        refine V_aload_n K 4 dX9_readFront_64 rfl ?_
        refine gf_X9_74 K dX9_readFront_65 ?_
        refine V_aload_n K 3 dX9_readFront_68 rfl ?_
        refine V_iload K 1 dX9_readFront_69 rfl ?_
        refine V_ic (v := 1) K dX9_readFront_71 rfl ?_
        refine V_iadd K dX9_readFront_72 ?_
        obtain ⟨g12, E⟩ := gd_inv E
        refine V_bald K (txtK g1) (txtN g1) g12 dX9_readFront_73 ?_
        refine iv_X9_306 K (c_X9_figure _ (h.1 (10 + ix a1) (ix (r4 + (1 : Int32)))) h) dX9_readFront_74 (Nat.le_of_ble_eq_true rfl) ?_
        refine V_aload_n K 3 dX9_readFront_77 rfl ?_
        refine V_iload K 1 dX9_readFront_78 rfl ?_
        refine V_ic (v := 2) K dX9_readFront_80 rfl ?_
        refine V_iadd K dX9_readFront_81 ?_
        obtain ⟨g13, E⟩ := gd_inv E
        refine V_bald K (txtK g1) (txtN g1) g13 dX9_readFront_82 ?_
        refine iv_X9_306 K (c_X9_figure _ (h.1 (10 + ix a1) (ix (r4 + (2 : Int32)))) h) dX9_readFront_83 (Nat.le_of_ble_eq_true rfl) ?_
        obtain ⟨h15, q14, E⟩ := ob_inv E
        refine iv_X9_310 K k_23 (c_X4_begin _ 23 (X9_figure (h.1 (10 + ix a1) (ix (r4 + (1 : Int32))))) (X9_figure (h.1 (10 + ix a1) (ix (r4 + (2 : Int32))))) h k_23 q14) dX9_readFront_86 (Nat.le_of_ble_eq_true rfl) ?_
        refine V_aload_n K 3 dX9_readFront_89 rfl ?_
        refine V_iload_n K 2 dX9_readFront_90 rfl ?_
        refine V_iload K 1 dX9_readFront_91 rfl ?_
        refine V_ic (v := 3) K dX9_readFront_93 rfl ?_
        refine V_iadd K dX9_readFront_94 ?_
        obtain ⟨r16, q17, E⟩ := ob_inv E
        refine iv_X9_298 K (c_X9_pastBlanks _ (10 + ix a1) v2 (r4 + (3 : Int32)) h15 (txtK g1) q17) dX9_readFront_95 (Nat.le_of_ble_eq_true rfl) ?_
        refine V_istore (lv' := [(4, .int r16), (5, .int r9), (3, .int v2), (2, .ref (ad x (10 + ix a1))), (0, .ref (ad x 0)), (1, .int a1)]) K dX9_readFront_98 (by decide) rfl ?_
        refine V_ic (v := 0) K dX9_readFront_100 rfl ?_
        refine V_istore (lv' := [(6, .int (0 : Int32)), (4, .int r16), (5, .int r9), (3, .int v2), (2, .ref (ad x (10 + ix a1))), (0, .ref (ad x 0)), (1, .int a1)]) K dX9_readFront_101 (by decide) rfl ?_
        rcases obS3_inv E with ⟨q, q32, E⟩ | ⟨v28, v29, h30, q32, E⟩
        · cases E
          exact V_sub [5, 4, 3, 1, 0] rfl (wl_X9_readFront_s103 K (10 + ix a1) v2 (txtK g1) _ _ _ q32 T)
        · refine V_sub [5, 4, 3, 1, 0] rfl (wl_X9_readFront_s103 K (10 + ix a1) v2 (txtK g1) _ _ _ q32 ?_)
          show VV x 153 [(0, .ref (ad x 0)), (2, .ref (ad x (10 + ix a1))), (3, .int v2), (4, .int v28), (6, .int v29)] [] h30
          refine V_aload_n K 0 dX9_readFront_153 rfl ?_
          refine gf_X9_74 K dX9_readFront_154 ?_
          refine gf_X9_127 K k_23 dX9_readFront_157 ?_
          rcases if_inv E with ⟨c31, E⟩ | ⟨c31, E⟩
          · refine V_if_ne_f K 167 dX9_readFront_160 (by decide) c31 ?_
            refine V_iload_n K 2 dX9_readFront_163 rfl ?_
            refine V_goto K 169 dX9_readFront_164 (by decide) ?_
            cases E
            exact V_iret K dX9_readFront_169 rfl T
          · refine V_if_ne_t K 167 dX9_readFront_160 (by decide) c31 ?_
            refine V_bp (v := -9) K dX9_readFront_167 rfl ?_
            cases E
            exact V_iret K dX9_readFront_169 rfl T
      · refine V_ic_ge_f K 64 dX9_readFront_58 (by decide) c11 ?_
        refine V_iload K 0 dX9_readFront_61 rfl ?_
        cases E
        exact V_iret K dX9_readFront_63 rfl T
    · refine V_ic_eq_f K 40 dX9_readFront_34 (by decide) c8 ?_
      refine V_iload K 0 dX9_readFront_37 rfl ?_
      cases E
      exact V_iret K dX9_readFront_39 rfl T
theorem c_X9_readFront (d : Nat) (a1 : Int32) (h : Hp)  {r : Int32} {h' : Hp} (E : X9_readFront a1 h = some (r, h')) : Runs (d + 2) yX9_readFront cX9_readFront 8 (some .int) (fun f => [.ref (f 0), .int a1]) h (fun _ => some (.int r)) h' :=
  Runs.of (by decide +kernel) (fun _ => Nat.le_of_ble_eq_true rfl) (fun x K T => w_X9_readFront K  a1 h  E T)
def X9_fault (a1 : Int32) (h : Hp) : Option (Int32 × Hp) :=
  ob2 (X9_refusedText a1 h) fun r3 h2 =>
  if r3 = (0 : Int32) then (ob2 (X9_readFront a1 h2) fun r7 h6 =>
  some (r7, h6))
  else (some (r3, h2))
set_option maxHeartbeats 4000000 in
set_option maxRecDepth 100000 in
theorem w_X9_fault {x : Cx} {d : Nat} (K : Ok x cX9_fault RX9 3 (some .int) (d + 3)) (a1 : Int32) (h : Hp)  {z : Int32 × Hp} (E : X9_fault a1 h = some z) (T : x.2.2.2.2 = (some (.int (z.1)), z.2)) : VV x 0 [(0, .ref (ad x 0)), (1, .int a1)] [] h := by
  unfold X9_fault at E
  refine V_aload_n K 0 dX9_fault_0 rfl ?_
  refine V_iload_n K 1 dX9_fault_1 rfl ?_
  obtain ⟨r3, h2, q1, E⟩ := ob2_inv E
  refine iv_X9_114 K (c_X9_refusedText _ a1 h q1) dX9_fault_2 (Nat.le_of_ble_eq_true rfl) ?_
  refine V_istore_n (lv' := [(2, .int r3), (0, .ref (ad x 0)), (1, .int a1)]) K dX9_fault_5 (by decide) rfl ?_
  refine V_iload_n K 0 dX9_fault_6 rfl ?_
  rcases if_inv E with ⟨c4, E⟩ | ⟨c4, E⟩
  · refine V_if_eq_t K 12 dX9_fault_7 (by decide) c4 ?_
    refine V_aload_n K 1 dX9_fault_12 rfl ?_
    refine V_iload_n K 2 dX9_fault_13 rfl ?_
    obtain ⟨r7, h6, q5, E⟩ := ob2_inv E
    refine iv_X9_117 K (c_X9_readFront _ a1 h2 q5) dX9_fault_14 (Nat.le_of_ble_eq_true rfl) ?_
    cases E
    exact V_iret K dX9_fault_17 rfl T
  · refine V_if_eq_f K 12 dX9_fault_7 (by decide) c4 ?_
    refine V_iload_n K 0 dX9_fault_10 rfl ?_
    cases E
    exact V_iret K dX9_fault_11 rfl T
theorem c_X9_fault (d : Nat) (a1 : Int32) (h : Hp)  {r : Int32} {h' : Hp} (E : X9_fault a1 h = some (r, h')) : Runs (d + 3) yX9_fault cX9_fault 3 (some .int) (fun f => [.ref (f 0), .int a1]) h (fun _ => some (.int r)) h' :=
  Runs.of (by decide +kernel) (fun _ => Nat.le_of_ble_eq_true rfl) (fun x K T => w_X9_fault K  a1 h  E T)
def X9_finding  (h : Hp) : Int32 :=
  h.1 0 11
set_option maxHeartbeats 4000000 in
set_option maxRecDepth 100000 in
theorem w_X9_finding {x : Cx} {d : Nat} (K : Ok x cX9_finding RX9 1 (some .int) (d + 0))  (h : Hp)  {z : Int32} (E : X9_finding  h = z) (T : x.2.2.2.2 = (some (.int z), h)) : VV x 0 [(0, .ref (ad x 0))] [] h := by
  unfold X9_finding at E
  refine V_aload_n K 0 dX9_finding_0 rfl ?_
  refine gf_X9_45 K dX9_finding_1 ?_
  cases E
  exact V_iret K dX9_finding_4 rfl T
theorem c_X9_finding (d : Nat)  (h : Hp)  : Runs (d + 0) yX9_finding cX9_finding 1 (some .int) (fun f => [.ref (f 0)]) h (fun _ => some (.int (X9_finding  h))) h :=
  Runs.of (by decide +kernel) (fun _ => Nat.le_of_ble_eq_true rfl) (fun x K T => w_X9_finding K   h  rfl T)
def X9_findings (a1 : Int32) (h : Hp) : Option Int32 :=
  if a1 < (1 : Int32) then (some (-1 : Int32))
  else (if a1 ≤ (5 : Int32) then (gd (ib a1 6) (
  some (h.1 43 (ix a1))))
  else (some (-1 : Int32)))
set_option maxHeartbeats 4000000 in
set_option maxRecDepth 100000 in
theorem w_X9_findings {x : Cx} {d : Nat} (K : Ok x cX9_findings RX9 2 (some .int) (d + 0)) (a1 : Int32) (h : Hp)  {z : Int32} (E : X9_findings a1 h = some z) (T : x.2.2.2.2 = (some (.int z), h)) : VV x 0 [(0, .ref (ad x 0)), (1, .int a1)] [] h := by
  unfold X9_findings at E
  refine V_iload_n K 1 dX9_findings_0 rfl ?_
  refine V_ic (v := 1) K dX9_findings_1 rfl ?_
  rcases if_inv E with ⟨c1, E⟩ | ⟨c1, E⟩
  · refine V_ic_lt_t K 10 dX9_findings_2 (by decide) c1 ?_
    refine V_ic (v := -1) K dX9_findings_10 rfl ?_
    cases E
    exact V_iret K dX9_findings_11 rfl T
  · refine V_ic_lt_f K 10 dX9_findings_2 (by decide) c1 ?_
    refine V_iload_n K 1 dX9_findings_5 rfl ?_
    refine V_ic (v := 5) K dX9_findings_6 rfl ?_
    rcases if_inv E with ⟨c2, E⟩ | ⟨c2, E⟩
    · refine V_ic_le_t K 12 dX9_findings_7 (by decide) c2 ?_
      refine V_aload_n K 0 dX9_findings_12 rfl ?_
      refine gf_X9_42 K dX9_findings_13 ?_
      refine V_iload_n K 1 dX9_findings_16 rfl ?_
      obtain ⟨g3, E⟩ := gd_inv E
      refine V_iald K k_43 n_43 g3 dX9_findings_17 ?_
      cases E
      exact V_iret K dX9_findings_18 rfl T
    · refine V_ic_le_f K 12 dX9_findings_7 (by decide) c2 ?_
      refine V_ic (v := -1) K dX9_findings_10 rfl ?_
      cases E
      exact V_iret K dX9_findings_11 rfl T
theorem c_X9_findings (d : Nat) (a1 : Int32) (h : Hp)  {r : Int32} (E : X9_findings a1 h = some r) : Runs (d + 0) yX9_findings cX9_findings 2 (some .int) (fun f => [.ref (f 0), .int a1]) h (fun _ => some (.int r)) h :=
  Runs.of (by decide +kernel) (fun _ => Nat.le_of_ble_eq_true rfl) (fun x K T => w_X9_findings K  a1 h  E T)
def X9_first_s26 (x1 : Int32) (y2 : Int32) (h : Hp) : Option (((Int32 × Hp) ⊕ (Int32 × Hp)) ⊕ (Int32 × Hp)) :=
  if (40 : Int32) < y2 then (some (.inl (.inr (y2, h))))
  else (ob2 (X4_pass 23 (0 : Int32) h) fun r7 h6 =>
  if ((r7 >>> (x1 &&& 31)) &&& (1 : Int32)) = (1 : Int32) then (some (.inl (.inl (y2, h6))))
  else (lt_ (y2 + (1 : Int32)) fun v9 =>
  some (.inr (v9, h6))))
set_option maxHeartbeats 4000000 in
set_option maxRecDepth 100000 in
theorem wl_X9_first_s26 {x : Cx} {d : Nat} (K : Ok x cX9_first RX9 3 (some .int) (d + 5)) (x1 : Int32)  : ∀ (n : Nat) (s : Int32 × Hp) (r : ((Int32 × Hp) ⊕ (Int32 × Hp))), lp (fun s : Int32 × Hp => X9_first_s26 x1 s.1 s.2) n s = some r → (fun r : ((Int32 × Hp) ⊕ (Int32 × Hp)) => match r with | .inl q => x.2.2.2.2 = (some (.int (q.1)), q.2) | .inr r => VV x 56 [(0, .ref (ad x 0)), (1, .int x1), (2, .int (r.1))] [] r.2) r → (fun s : Int32 × Hp => VV x 26 [(0, .ref (ad x 0)), (1, .int x1), (2, .int (s.1))] [] s.2) s := by
  refine lp_walk ?_
  intro s z E T
  obtain ⟨y2, h⟩ := s
  replace E : X9_first_s26 x1 y2 h = some z := E
  unfold X9_first_s26 at E
  show VV x 26 [(0, .ref (ad x 0)), (1, .int x1), (2, .int y2)] [] h
  refine V_iload_n K 2 dX9_first_26 rfl ?_
  refine V_bp (v := 40) K dX9_first_27 rfl ?_
  rcases if_inv E with ⟨c4, E⟩ | ⟨c4, E⟩
  · refine V_ic_gt_t K 56 dX9_first_29 (by decide) c4 ?_
    cases E
    exact V_sub [0, 1, 2] rfl T
  · refine V_ic_gt_f K 56 dX9_first_29 (by decide) c4 ?_
    refine V_aload_n K 0 dX9_first_32 rfl ?_
    refine gf_X9_74 K dX9_first_33 ?_
    refine V_ic (v := 0) K dX9_first_36 rfl ?_
    obtain ⟨r7, h6, q5, E⟩ := ob2_inv E
    refine iv_X9_203 K k_23 (c_X4_pass _ 23 (0 : Int32) h k_23 q5) dX9_first_37 (Nat.le_of_ble_eq_true rfl) ?_
    refine V_iload_n K 1 dX9_first_40 rfl ?_
    refine V_ishr K dX9_first_41 ?_
    refine V_ic (v := 1) K dX9_first_42 rfl ?_
    refine V_iand K dX9_first_43 ?_
    refine V_ic (v := 1) K dX9_first_44 rfl ?_
    rcases if_inv E with ⟨c8, E⟩ | ⟨c8, E⟩
    · refine V_ic_ne_f K 50 dX9_first_45 (by decide) c8 ?_
      refine V_iload_n K 2 dX9_first_48 rfl ?_
      cases E
      exact V_iret K dX9_first_49 rfl T
    · refine V_ic_ne_t K 50 dX9_first_45 (by decide) c8 ?_
      obtain ⟨v9, e10, E⟩ := lt_inv E
      refine V_iinc (lv' := [(2, .int v9), (0, .ref (ad x 0)), (1, .int x1)]) K 2 dX9_first_50 rfl (by rw [e10]; rfl) (by decide) rfl ?_
      refine V_goto K 26 dX9_first_53 (by decide) ?_
      cases E
      exact V_sub [1, 2, 0] rfl T
def X9_first (a1 : Int32) (h : Hp) : Option (Int32 × Hp) :=
  if (X4_isOne 19 a1 h) = (0 : Int32) then (some ((-1 : Int32), h))
  else (ob (X4_become 23 19 h) fun h3 =>
  obS2 (lp (fun s : Int32 × Hp => X9_first_s26 a1 s.1 s.2) FU ((1 : Int32), h3)) (fun q => some q) fun v11 h12 =>
  some ((-9 : Int32), h12))
set_option maxHeartbeats 4000000 in
set_option maxRecDepth 100000 in
theorem w_X9_first {x : Cx} {d : Nat} (K : Ok x cX9_first RX9 3 (some .int) (d + 5)) (a1 : Int32) (h : Hp)  {z : Int32 × Hp} (E : X9_first a1 h = some z) (T : x.2.2.2.2 = (some (.int (z.1)), z.2)) : VV x 0 [(0, .ref (ad x 0)), (1, .int a1)] [] h := by
  unfold X9_first at E
  refine V_aload_n K 0 dX9_first_0 rfl ?_
  refine gf_X9_71 K dX9_first_1 ?_
  refine V_iload_n K 1 dX9_first_4 rfl ?_
  refine iv_X9_130 K k_19 (c_X4_isOne _ 19 a1 h k_19) dX9_first_5 (Nat.le_of_ble_eq_true rfl) ?_
  rcases if_inv E with ⟨c1, E⟩ | ⟨c1, E⟩
  · refine V_if_ne_f K 13 dX9_first_8 (by decide) c1 ?_
    refine V_ic (v := -1) K dX9_first_11 rfl ?_
    cases E
    exact V_iret K dX9_first_12 rfl T
  · refine V_if_ne_t K 13 dX9_first_8 (by decide) c1 ?_
    refine V_aload_n K 0 dX9_first_13 rfl ?_
    refine gf_X9_74 K dX9_first_14 ?_
    refine V_aload_n K 0 dX9_first_17 rfl ?_
    refine gf_X9_71 K dX9_first_18 ?_
    obtain ⟨h3, q2, E⟩ := ob_inv E
    refine iv_X9_120 K k_23 (c_X4_become _ 23 19 h k_23 k_19 q2) dX9_first_21 (Nat.le_of_ble_eq_true rfl) ?_
    refine V_ic (v := 1) K dX9_first_24 rfl ?_
    refine V_istore_n (lv' := [(2, .int (1 : Int32)), (0, .ref (ad x 0)), (1, .int a1)]) K dX9_first_25 (by decide) rfl ?_
    rcases obS2_inv E with ⟨q, q13, E⟩ | ⟨v11, h12, q13, E⟩
    · cases E
      exact V_sub [1, 2, 0] rfl (wl_X9_first_s26 K a1  _ _ _ q13 T)
    · refine V_sub [1, 2, 0] rfl (wl_X9_first_s26 K a1  _ _ _ q13 ?_)
      show VV x 56 [(0, .ref (ad x 0)), (1, .int a1), (2, .int v11)] [] h12
      refine V_bp (v := -9) K dX9_first_56 rfl ?_
      cases E
      exact V_iret K dX9_first_58 rfl T
theorem c_X9_first (d : Nat) (a1 : Int32) (h : Hp)  {r : Int32} {h' : Hp} (E : X9_first a1 h = some (r, h')) : Runs (d + 5) yX9_first cX9_first 3 (some .int) (fun f => [.ref (f 0), .int a1]) h (fun _ => some (.int r)) h' :=
  Runs.of (by decide +kernel) (fun _ => Nat.le_of_ble_eq_true rfl) (fun x K T => w_X9_first K  a1 h  E T)
def X9_fittingSizes_s5 (x1 : Int32) (x2 : Int32) (y3 : Int32) (y4 : Int32) (h : Hp) : Option ((Int32 × Int32 × Hp) ⊕ (Int32 × Int32 × Hp)) :=
  if (30 : Int32) < y4 then (some (.inl (y3, y4, h)))
  else (ob (X4_become 23 19 h) fun h3 =>
  ob (X4_beOfSize 23 y4 h3) fun h5 =>
  ob2 (X9_asideFits x1 x2 h5) fun r8 h7 =>
  ob (if r8 = (0 : Int32) then (some y3)
  else (lt_ (y3 ||| ((1 : Int32) <<< (y4 &&& 31))) fun v11 =>
  some v11)) fun v9 =>
  lt_ (y4 + (1 : Int32)) fun v13 =>
  some (.inr (v9, v13, h7)))
set_option maxHeartbeats 4000000 in
set_option maxRecDepth 100000 in
theorem wl_X9_fittingSizes_s5 {x : Cx} {d : Nat} (K : Ok x cX9_fittingSizes RX9 5 (some .int) (d + 6)) (x1 : Int32) (x2 : Int32)  : ∀ (n : Nat) (s : Int32 × Int32 × Hp) (r : (Int32 × Int32 × Hp)), lp (fun s : Int32 × Int32 × Hp => X9_fittingSizes_s5 x1 x2 s.1 s.2.1 s.2.2) n s = some r → (fun r : (Int32 × Int32 × Hp) => VV x 54 [(0, .ref (ad x 0)), (1, .int x1), (2, .int x2), (3, .int (r.1)), (4, .int (r.2.1))] [] r.2.2) r → (fun s : Int32 × Int32 × Hp => VV x 5 [(0, .ref (ad x 0)), (1, .int x1), (2, .int x2), (3, .int (s.1)), (4, .int (s.2.1))] [] s.2.2) s := by
  refine lp_walk ?_
  intro s z E T
  obtain ⟨y3, y4, h⟩ := s
  replace E : X9_fittingSizes_s5 x1 x2 y3 y4 h = some z := E
  unfold X9_fittingSizes_s5 at E
  show VV x 5 [(0, .ref (ad x 0)), (1, .int x1), (2, .int x2), (3, .int y3), (4, .int y4)] [] h
  refine V_iload K 4 dX9_fittingSizes_5 rfl ?_
  refine V_bp (v := 30) K dX9_fittingSizes_7 rfl ?_
  rcases if_inv E with ⟨c1, E⟩ | ⟨c1, E⟩
  · refine V_ic_gt_t K 54 dX9_fittingSizes_9 (by decide) c1 ?_
    cases E
    exact V_sub [0, 1, 2, 3, 4] rfl T
  · refine V_ic_gt_f K 54 dX9_fittingSizes_9 (by decide) c1 ?_
    refine V_aload_n K 0 dX9_fittingSizes_12 rfl ?_
    refine gf_X9_74 K dX9_fittingSizes_13 ?_
    refine V_aload_n K 0 dX9_fittingSizes_16 rfl ?_
    refine gf_X9_71 K dX9_fittingSizes_17 ?_
    obtain ⟨h3, q2, E⟩ := ob_inv E
    refine iv_X9_120 K k_23 (c_X4_become _ 23 19 h k_23 k_19 q2) dX9_fittingSizes_20 (Nat.le_of_ble_eq_true rfl) ?_
    refine V_aload_n K 0 dX9_fittingSizes_23 rfl ?_
    refine gf_X9_74 K dX9_fittingSizes_24 ?_
    refine V_iload K 4 dX9_fittingSizes_27 rfl ?_
    obtain ⟨h5, q4, E⟩ := ob_inv E
    refine iv_X9_341 K k_23 (c_X4_beOfSize _ 23 y4 h3 k_23 q4) dX9_fittingSizes_29 (Nat.le_of_ble_eq_true rfl) ?_
    refine V_aload_n K 0 dX9_fittingSizes_32 rfl ?_
    refine V_iload_n K 1 dX9_fittingSizes_33 rfl ?_
    refine V_iload_n K 2 dX9_fittingSizes_34 rfl ?_
    obtain ⟨r8, h7, q6, E⟩ := ob2_inv E
    refine iv_X9_227 K (c_X9_asideFits _ x1 x2 h5 q6) dX9_fittingSizes_35 (Nat.le_of_ble_eq_true rfl) ?_
    obtain ⟨v9, q15, E⟩ := ob_inv E
    have T9 : VV x 48 [(0, .ref (ad x 0)), (1, .int x1), (2, .int x2), (3, .int v9), (4, .int y4)] [] h7 := by
      obtain ⟨v13, e14, E⟩ := lt_inv E
      refine V_iinc (lv' := [(4, .int v13), (0, .ref (ad x 0)), (1, .int x1), (2, .int x2), (3, .int v9)]) K 4 dX9_fittingSizes_48 rfl (by rw [e14]; rfl) (by decide) rfl ?_
      refine V_goto K 5 dX9_fittingSizes_51 (by decide) ?_
      cases E
      exact V_sub [1, 2, 3, 4, 0] rfl T
    have E := q15
    have T := T9
    rcases if_inv E with ⟨c10, E⟩ | ⟨c10, E⟩
    · refine V_if_eq_t K 48 dX9_fittingSizes_38 (by decide) c10 ?_
      cases E
      exact V_sub [0, 1, 2, 3, 4] rfl T
    · refine V_if_eq_f K 48 dX9_fittingSizes_38 (by decide) c10 ?_
      refine V_iload_n K 3 dX9_fittingSizes_41 rfl ?_
      refine V_ic (v := 1) K dX9_fittingSizes_42 rfl ?_
      refine V_iload K 4 dX9_fittingSizes_43 rfl ?_
      refine V_ishl K dX9_fittingSizes_45 ?_
      refine V_ior K dX9_fittingSizes_46 ?_
      obtain ⟨v11, e12, E⟩ := lt_inv E
      refine V_top e12 ?_
      refine V_istore_n (lv' := [(3, .int v11), (0, .ref (ad x 0)), (1, .int x1), (2, .int x2), (4, .int y4)]) K dX9_fittingSizes_47 (by decide) rfl ?_
      cases E
      exact V_sub [1, 2, 3, 0, 4] rfl T
def X9_fittingSizes (a1 : Int32) (a2 : Int32) (h : Hp) : Option (Int32 × Hp) :=
  ob3 (lp (fun s : Int32 × Int32 × Hp => X9_fittingSizes_s5 a1 a2 s.1 s.2.1 s.2.2) FU ((0 : Int32), (0 : Int32), h)) fun v16 v17 h18 =>
  some (v16, h18)
set_option maxHeartbeats 4000000 in
set_option maxRecDepth 100000 in
theorem w_X9_fittingSizes {x : Cx} {d : Nat} (K : Ok x cX9_fittingSizes RX9 5 (some .int) (d + 6)) (a1 : Int32) (a2 : Int32) (h : Hp)  {z : Int32 × Hp} (E : X9_fittingSizes a1 a2 h = some z) (T : x.2.2.2.2 = (some (.int (z.1)), z.2)) : VV x 0 [(0, .ref (ad x 0)), (1, .int a1), (2, .int a2)] [] h := by
  unfold X9_fittingSizes at E
  refine V_ic (v := 0) K dX9_fittingSizes_0 rfl ?_
  refine V_istore_n (lv' := [(3, .int (0 : Int32)), (0, .ref (ad x 0)), (1, .int a1), (2, .int a2)]) K dX9_fittingSizes_1 (by decide) rfl ?_
  refine V_ic (v := 0) K dX9_fittingSizes_2 rfl ?_
  refine V_istore (lv' := [(4, .int (0 : Int32)), (3, .int (0 : Int32)), (0, .ref (ad x 0)), (1, .int a1), (2, .int a2)]) K dX9_fittingSizes_3 (by decide) rfl ?_
  obtain ⟨v16, v17, h18, q19, E⟩ := ob3_inv E
  refine V_sub [2, 3, 4, 1, 0] rfl (wl_X9_fittingSizes_s5 K a1 a2  _ _ _ q19 ?_)
  show VV x 54 [(0, .ref (ad x 0)), (1, .int a1), (2, .int a2), (3, .int v16), (4, .int v17)] [] h18
  refine V_iload_n K 3 dX9_fittingSizes_54 rfl ?_
  cases E
  exact V_iret K dX9_fittingSizes_55 rfl T
theorem c_X9_fittingSizes (d : Nat) (a1 : Int32) (a2 : Int32) (h : Hp)  {r : Int32} {h' : Hp} (E : X9_fittingSizes a1 a2 h = some (r, h')) : Runs (d + 6) yX9_fittingSizes cX9_fittingSizes 5 (some .int) (fun f => [.ref (f 0), .int a1, .int a2]) h (fun _ => some (.int r)) h' :=
  Runs.of (by decide +kernel) (fun _ => Nat.le_of_ble_eq_true rfl) (fun x K T => w_X9_fittingSizes K  a1 a2 h  E T)
def X9_front_s57  (y3 : Int32) (h : Hp) : Option ((Int32 × Hp) ⊕ (Int32 × Hp)) :=
  if (3 : Int32) ≤ y3 then (some (.inl (y3, h)))
  else (gd (ib y3 3) (
  lt_ (up h (30 + 2 * ix y3) 1 (-1 : Int32)) fun h17 =>
  lt_ (y3 + (1 : Int32)) fun v19 =>
  some (.inr (v19, h17))))
set_option maxHeartbeats 4000000 in
set_option maxRecDepth 100000 in
theorem wl_X9_front_s57 {x : Cx} {d : Nat} (K : Ok x cX9_front RX9 4 (some .int) (d + 3))   : ∀ (n : Nat) (s : Int32 × Hp) (r : (Int32 × Hp)), lp (fun s : Int32 × Hp => X9_front_s57  s.1 s.2) n s = some r → (fun r : (Int32 × Hp) => VV x 78 [(0, .ref (ad x 0)), (3, .int (r.1))] [] r.2) r → (fun s : Int32 × Hp => VV x 57 [(0, .ref (ad x 0)), (3, .int (s.1))] [] s.2) s := by
  refine lp_walk ?_
  intro s z E T
  obtain ⟨y3, h⟩ := s
  replace E : X9_front_s57  y3 h = some z := E
  unfold X9_front_s57 at E
  show VV x 57 [(0, .ref (ad x 0)), (3, .int y3)] [] h
  refine V_iload_n K 1 dX9_front_57 rfl ?_
  refine V_ic (v := 3) K dX9_front_58 rfl ?_
  rcases if_inv E with ⟨c15, E⟩ | ⟨c15, E⟩
  · refine V_ic_ge_t K 78 dX9_front_59 (by decide) c15 ?_
    cases E
    exact V_sub [0, 1] rfl T
  · refine V_ic_ge_f K 78 dX9_front_59 (by decide) c15 ?_
    refine V_aload_n K 0 dX9_front_62 rfl ?_
    refine gf_X9_35 K dX9_front_63 ?_
    refine V_iload_n K 1 dX9_front_66 rfl ?_
    obtain ⟨g16, E⟩ := gd_inv E
    refine V_aaload13 K k_29 g16 (kepR g16) dX9_front_67 ?_
    refine V_ic (v := -1) K dX9_front_68 rfl ?_
    obtain ⟨h17, e18, E⟩ := lt_inv E
    refine pf_X9_124 K (kepK g16) dX9_front_69 ?_
    refine V_hp e18 ?_
    obtain ⟨v19, e20, E⟩ := lt_inv E
    refine V_iinc (lv' := [(3, .int v19), (0, .ref (ad x 0))]) K 1 dX9_front_72 rfl (by rw [e20]; rfl) (by decide) rfl ?_
    refine V_goto K 57 dX9_front_75 (by decide) ?_
    cases E
    exact V_sub [1, 0] rfl T
def X9_front (a1 : Int32) (h : Hp) : Option (Int32 × Hp) :=
  ob2 (X9_refusedText a1 h) fun r3 h2 =>
  if r3 = (0 : Int32) then (ob2 (X9_readFront a1 h2) fun r7 h6 =>
  if r7 = (-9 : Int32) then (ob (X4_become 15 23 h6) fun h10 =>
  ob (X4_become 19 23 h10) fun h12 =>
  lt_ (up h12 27 1 (0 : Int32)) fun h13 =>
  ob2 (lp (fun s : Int32 × Hp => X9_front_s57  s.1 s.2) FU ((0 : Int32), h13)) fun v21 h22 =>
  some (h22.1 19 6, h22))
  else (some ((-4 : Int32), h6)))
  else (some (r3, h2))
set_option maxHeartbeats 4000000 in
set_option maxRecDepth 100000 in
theorem w_X9_front {x : Cx} {d : Nat} (K : Ok x cX9_front RX9 4 (some .int) (d + 3)) (a1 : Int32) (h : Hp)  {z : Int32 × Hp} (E : X9_front a1 h = some z) (T : x.2.2.2.2 = (some (.int (z.1)), z.2)) : VV x 0 [(0, .ref (ad x 0)), (1, .int a1)] [] h := by
  unfold X9_front at E
  refine V_aload_n K 0 dX9_front_0 rfl ?_
  refine V_iload_n K 1 dX9_front_1 rfl ?_
  obtain ⟨r3, h2, q1, E⟩ := ob2_inv E
  refine iv_X9_114 K (c_X9_refusedText _ a1 h q1) dX9_front_2 (Nat.le_of_ble_eq_true rfl) ?_
  refine V_istore_n (lv' := [(2, .int r3), (0, .ref (ad x 0)), (1, .int a1)]) K dX9_front_5 (by decide) rfl ?_
  refine V_iload_n K 0 dX9_front_6 rfl ?_
  rcases if_inv E with ⟨c4, E⟩ | ⟨c4, E⟩
  · refine V_if_eq_t K 12 dX9_front_7 (by decide) c4 ?_
    refine V_aload_n K 1 dX9_front_12 rfl ?_
    refine V_iload_n K 2 dX9_front_13 rfl ?_
    obtain ⟨r7, h6, q5, E⟩ := ob2_inv E
    refine iv_X9_117 K (c_X9_readFront _ a1 h2 q5) dX9_front_14 (Nat.le_of_ble_eq_true rfl) ?_
    refine V_bp (v := -9) K dX9_front_17 rfl ?_
    rcases if_inv E with ⟨c8, E⟩ | ⟨c8, E⟩
    · refine V_ic_eq_t K 25 dX9_front_19 (by decide) c8 ?_
      refine V_aload_n K 1 dX9_front_25 rfl ?_
      refine gf_X9_67 K dX9_front_26 ?_
      refine V_aload_n K 1 dX9_front_29 rfl ?_
      refine gf_X9_74 K dX9_front_30 ?_
      obtain ⟨h10, q9, E⟩ := ob_inv E
      refine iv_X9_120 K k_15 (c_X4_become _ 15 23 h6 k_15 k_23 q9) dX9_front_33 (Nat.le_of_ble_eq_true rfl) ?_
      refine V_aload_n K 1 dX9_front_36 rfl ?_
      refine gf_X9_71 K dX9_front_37 ?_
      refine V_aload_n K 1 dX9_front_40 rfl ?_
      refine gf_X9_74 K dX9_front_41 ?_
      obtain ⟨h12, q11, E⟩ := ob_inv E
      refine iv_X9_120 K k_19 (c_X4_become _ 19 23 h10 k_19 k_23 q11) dX9_front_44 (Nat.le_of_ble_eq_true rfl) ?_
      refine V_aload_n K 1 dX9_front_47 rfl ?_
      refine gf_X9_31 K dX9_front_48 ?_
      refine V_ic (v := 0) K dX9_front_51 rfl ?_
      obtain ⟨h13, e14, E⟩ := lt_inv E
      refine pf_X9_124 K k_27 dX9_front_52 ?_
      refine V_hp e14 ?_
      refine V_ic (v := 0) K dX9_front_55 rfl ?_
      refine V_istore_n (lv' := [(3, .int (0 : Int32)), (2, .int r3), (0, .ref (ad x 0)), (1, .int a1)]) K dX9_front_56 (by decide) rfl ?_
      obtain ⟨v21, h22, q23, E⟩ := ob2_inv E
      refine V_sub [2, 0] rfl (wl_X9_front_s57 K   _ _ _ q23 ?_)
      show VV x 78 [(0, .ref (ad x 0)), (3, .int v21)] [] h22
      refine V_aload_n K 0 dX9_front_78 rfl ?_
      refine gf_X9_71 K dX9_front_79 ?_
      refine gf_X9_127 K k_19 dX9_front_82 ?_
      cases E
      exact V_iret K dX9_front_85 rfl T
    · refine V_ic_eq_f K 25 dX9_front_19 (by decide) c8 ?_
      refine V_bp (v := -4) K dX9_front_22 rfl ?_
      cases E
      exact V_iret K dX9_front_24 rfl T
  · refine V_if_eq_f K 12 dX9_front_7 (by decide) c4 ?_
    refine V_iload_n K 0 dX9_front_10 rfl ?_
    cases E
    exact V_iret K dX9_front_11 rfl T
theorem c_X9_front (d : Nat) (a1 : Int32) (h : Hp)  {r : Int32} {h' : Hp} (E : X9_front a1 h = some (r, h')) : Runs (d + 3) yX9_front cX9_front 4 (some .int) (fun f => [.ref (f 0), .int a1]) h (fun _ => some (.int r)) h' :=
  Runs.of (by decide +kernel) (fun _ => Nat.le_of_ble_eq_true rfl) (fun x K T => w_X9_front K  a1 h  E T)
def X9_gatherersBy_s24 (x2 : Int32) (y3 : Int32) (y4 : Int32) (h : Hp) : Option ((Int32 × Int32 × Hp) ⊕ (Int32 × Int32 × Hp)) :=
  if x2 ≤ y4 then (some (.inl (y3, y4, h)))
  else (ob2 (X4_pass 23 (0 : Int32) h) fun r8 h7 =>
  lt_ (y3 ||| r8) fun v9 =>
  lt_ (y4 + (1 : Int32)) fun v11 =>
  some (.inr (v9, v11, h7)))
set_option maxHeartbeats 4000000 in
set_option maxRecDepth 100000 in
theorem wl_X9_gatherersBy_s24 {x : Cx} {d : Nat} (K : Ok x cX9_gatherersBy RX9 5 (some .int) (d + 5)) (x2 : Int32)  : ∀ (n : Nat) (s : Int32 × Int32 × Hp) (r : (Int32 × Int32 × Hp)), lp (fun s : Int32 × Int32 × Hp => X9_gatherersBy_s24 x2 s.1 s.2.1 s.2.2) n s = some r → (fun r : (Int32 × Int32 × Hp) => VV x 47 [(0, .ref (ad x 0)), (2, .int x2), (3, .int (r.1)), (4, .int (r.2.1))] [] r.2.2) r → (fun s : Int32 × Int32 × Hp => VV x 24 [(0, .ref (ad x 0)), (2, .int x2), (3, .int (s.1)), (4, .int (s.2.1))] [] s.2.2) s := by
  refine lp_walk ?_
  intro s z E T
  obtain ⟨y3, y4, h⟩ := s
  replace E : X9_gatherersBy_s24 x2 y3 y4 h = some z := E
  unfold X9_gatherersBy_s24 at E
  show VV x 24 [(0, .ref (ad x 0)), (2, .int x2), (3, .int y3), (4, .int y4)] [] h
  refine V_iload K 3 dX9_gatherersBy_24 rfl ?_
  refine V_iload_n K 1 dX9_gatherersBy_26 rfl ?_
  rcases if_inv E with ⟨c5, E⟩ | ⟨c5, E⟩
  · refine V_ic_ge_t K 47 dX9_gatherersBy_27 (by decide) c5 ?_
    cases E
    exact V_sub [0, 1, 2, 3] rfl T
  · refine V_ic_ge_f K 47 dX9_gatherersBy_27 (by decide) c5 ?_
    refine V_iload_n K 2 dX9_gatherersBy_30 rfl ?_
    refine V_aload_n K 0 dX9_gatherersBy_31 rfl ?_
    refine gf_X9_74 K dX9_gatherersBy_32 ?_
    refine V_ic (v := 0) K dX9_gatherersBy_35 rfl ?_
    obtain ⟨r8, h7, q6, E⟩ := ob2_inv E
    refine iv_X9_203 K k_23 (c_X4_pass _ 23 (0 : Int32) h k_23 q6) dX9_gatherersBy_36 (Nat.le_of_ble_eq_true rfl) ?_
    refine V_ior K dX9_gatherersBy_39 ?_
    obtain ⟨v9, e10, E⟩ := lt_inv E
    refine V_top e10 ?_
    refine V_istore_n (lv' := [(3, .int v9), (0, .ref (ad x 0)), (2, .int x2), (4, .int y4)]) K dX9_gatherersBy_40 (by decide) rfl ?_
    obtain ⟨v11, e12, E⟩ := lt_inv E
    refine V_iinc (lv' := [(4, .int v11), (3, .int v9), (0, .ref (ad x 0)), (2, .int x2)]) K 3 dX9_gatherersBy_41 rfl (by rw [e12]; rfl) (by decide) rfl ?_
    refine V_goto K 24 dX9_gatherersBy_44 (by decide) ?_
    cases E
    exact V_sub [2, 3, 1, 0] rfl T
def X9_gatherersBy (a1 : Int32) (a2 : Int32) (h : Hp) : Option (Int32 × Hp) :=
  ob (X4_become 23 19 h) fun h2 =>
  ob (X4_putIn 23 a1 h2) fun h4 =>
  ob3 (lp (fun s : Int32 × Int32 × Hp => X9_gatherersBy_s24 a2 s.1 s.2.1 s.2.2) FU ((0 : Int32), (0 : Int32), h4)) fun v13 v14 h15 =>
  some (v13, h15)
set_option maxHeartbeats 4000000 in
set_option maxRecDepth 100000 in
theorem w_X9_gatherersBy {x : Cx} {d : Nat} (K : Ok x cX9_gatherersBy RX9 5 (some .int) (d + 5)) (a1 : Int32) (a2 : Int32) (h : Hp)  {z : Int32 × Hp} (E : X9_gatherersBy a1 a2 h = some z) (T : x.2.2.2.2 = (some (.int (z.1)), z.2)) : VV x 0 [(0, .ref (ad x 0)), (1, .int a1), (2, .int a2)] [] h := by
  unfold X9_gatherersBy at E
  refine V_aload_n K 0 dX9_gatherersBy_0 rfl ?_
  refine gf_X9_74 K dX9_gatherersBy_1 ?_
  refine V_aload_n K 0 dX9_gatherersBy_4 rfl ?_
  refine gf_X9_71 K dX9_gatherersBy_5 ?_
  obtain ⟨h2, q1, E⟩ := ob_inv E
  refine iv_X9_120 K k_23 (c_X4_become _ 23 19 h k_23 k_19 q1) dX9_gatherersBy_8 (Nat.le_of_ble_eq_true rfl) ?_
  refine V_aload_n K 0 dX9_gatherersBy_11 rfl ?_
  refine gf_X9_74 K dX9_gatherersBy_12 ?_
  refine V_iload_n K 1 dX9_gatherersBy_15 rfl ?_
  obtain ⟨h4, q3, E⟩ := ob_inv E
  refine iv_X9_338 K k_23 (c_X4_putIn _ 23 a1 h2 k_23 q3) dX9_gatherersBy_16 (Nat.le_of_ble_eq_true rfl) ?_
  refine V_ic (v := 0) K dX9_gatherersBy_19 rfl ?_
  refine V_istore_n (lv' := [(3, .int (0 : Int32)), (0, .ref (ad x 0)), (1, .int a1), (2, .int a2)]) K dX9_gatherersBy_20 (by decide) rfl ?_
  refine V_ic (v := 0) K dX9_gatherersBy_21 rfl ?_
  refine V_istore (lv' := [(4, .int (0 : Int32)), (3, .int (0 : Int32)), (0, .ref (ad x 0)), (1, .int a1), (2, .int a2)]) K dX9_gatherersBy_22 (by decide) rfl ?_
  obtain ⟨v13, v14, h15, q16, E⟩ := ob3_inv E
  refine V_sub [2, 4, 1, 0] rfl (wl_X9_gatherersBy_s24 K a2  _ _ _ q16 ?_)
  show VV x 47 [(0, .ref (ad x 0)), (2, .int a2), (3, .int v13), (4, .int v14)] [] h15
  refine V_iload_n K 2 dX9_gatherersBy_47 rfl ?_
  cases E
  exact V_iret K dX9_gatherersBy_48 rfl T
theorem c_X9_gatherersBy (d : Nat) (a1 : Int32) (a2 : Int32) (h : Hp)  {r : Int32} {h' : Hp} (E : X9_gatherersBy a1 a2 h = some (r, h')) : Runs (d + 5) yX9_gatherersBy cX9_gatherersBy 5 (some .int) (fun f => [.ref (f 0), .int a1, .int a2]) h (fun _ => some (.int r)) h' :=
  Runs.of (by decide +kernel) (fun _ => Nat.le_of_ble_eq_true rfl) (fun x K T => w_X9_gatherersBy K  a1 a2 h  E T)
def X9_gathers (a1 : Int32) (a2 : Int32) (h : Hp) : Option Int32 :=
  if (X4_isOne 19 a1 h) = (0 : Int32) then (some (-1 : Int32))
  else (if a2 < (0 : Int32) then (some (-1 : Int32))
  else (if a2 ≤ (60 : Int32) then (ob (X4_partFor 19 a1 a2 h) fun r4 =>
  some r4)
  else (some (-1 : Int32))))
set_option maxHeartbeats 4000000 in
set_option maxRecDepth 100000 in
theorem w_X9_gathers {x : Cx} {d : Nat} (K : Ok x cX9_gathers RX9 3 (some .int) (d + 4)) (a1 : Int32) (a2 : Int32) (h : Hp)  {z : Int32} (E : X9_gathers a1 a2 h = some z) (T : x.2.2.2.2 = (some (.int z), h)) : VV x 0 [(0, .ref (ad x 0)), (1, .int a1), (2, .int a2)] [] h := by
  unfold X9_gathers at E
  refine V_aload_n K 0 dX9_gathers_0 rfl ?_
  refine gf_X9_71 K dX9_gathers_1 ?_
  refine V_iload_n K 1 dX9_gathers_4 rfl ?_
  refine iv_X9_130 K k_19 (c_X4_isOne _ 19 a1 h k_19) dX9_gathers_5 (Nat.le_of_ble_eq_true rfl) ?_
  rcases if_inv E with ⟨c1, E⟩ | ⟨c1, E⟩
  · refine V_if_eq_t K 21 dX9_gathers_8 (by decide) c1 ?_
    refine V_ic (v := -1) K dX9_gathers_21 rfl ?_
    cases E
    exact V_iret K dX9_gathers_22 rfl T
  · refine V_if_eq_f K 21 dX9_gathers_8 (by decide) c1 ?_
    refine V_iload_n K 2 dX9_gathers_11 rfl ?_
    rcases if_inv E with ⟨c2, E⟩ | ⟨c2, E⟩
    · refine V_if_lt_t K 21 dX9_gathers_12 (by decide) c2 ?_
      refine V_ic (v := -1) K dX9_gathers_21 rfl ?_
      cases E
      exact V_iret K dX9_gathers_22 rfl T
    · refine V_if_lt_f K 21 dX9_gathers_12 (by decide) c2 ?_
      refine V_iload_n K 2 dX9_gathers_15 rfl ?_
      refine V_bp (v := 60) K dX9_gathers_16 rfl ?_
      rcases if_inv E with ⟨c3, E⟩ | ⟨c3, E⟩
      · refine V_ic_le_t K 23 dX9_gathers_18 (by decide) c3 ?_
        refine V_aload_n K 0 dX9_gathers_23 rfl ?_
        refine gf_X9_71 K dX9_gathers_24 ?_
        refine V_iload_n K 1 dX9_gathers_27 rfl ?_
        refine V_iload_n K 2 dX9_gathers_28 rfl ?_
        obtain ⟨r4, q5, E⟩ := ob_inv E
        refine iv_X9_194 K k_19 (c_X4_partFor _ 19 a1 a2 h k_19 q5) dX9_gathers_29 (Nat.le_of_ble_eq_true rfl) ?_
        cases E
        exact V_iret K dX9_gathers_32 rfl T
      · refine V_ic_le_f K 23 dX9_gathers_18 (by decide) c3 ?_
        refine V_ic (v := -1) K dX9_gathers_21 rfl ?_
        cases E
        exact V_iret K dX9_gathers_22 rfl T
theorem c_X9_gathers (d : Nat) (a1 : Int32) (a2 : Int32) (h : Hp)  {r : Int32} (E : X9_gathers a1 a2 h = some r) : Runs (d + 4) yX9_gathers cX9_gathers 3 (some .int) (fun f => [.ref (f 0), .int a1, .int a2]) h (fun _ => some (.int r)) h :=
  Runs.of (by decide +kernel) (fun _ => Nat.le_of_ble_eq_true rfl) (fun x K T => w_X9_gathers K  a1 a2 h  E T)
def X9_greatestOf_s10 (r2 : Nat) (x3 : Int32) (h : Hp) (y1 : Int32) (y4 : Int32) : Option ((Int32 × Int32) ⊕ (Int32 × Int32)) :=
  if x3 ≤ y4 then (some (.inl (y1, y4)))
  else (gd (ib y4 (shN r2)) (
  lt_ (h.1 r2 (ix y4)) fun v5 =>
  lt_ (mxI y1 v5) fun v7 =>
  lt_ (y4 + (1 : Int32)) fun v9 =>
  some (.inr (v7, v9))))
set_option maxHeartbeats 4000000 in
set_option maxRecDepth 100000 in
theorem wl_X9_greatestOf_s10 {x : Cx} {d : Nat} (K : Ok x cX9_greatestOf RX9 6 (some .int) (d + 1)) (r2 : Nat) (x3 : Int32) (h : Hp) (hr2 : shK r2 = 12) : ∀ (n : Nat) (s : Int32 × Int32) (r : (Int32 × Int32)), lp (fun s : Int32 × Int32 => X9_greatestOf_s10 r2 x3 h s.1 s.2) n s = some r → (fun r : (Int32 × Int32) => VV x 35 [(1, .int (r.1)), (2, .ref (ad x r2)), (3, .int x3), (4, .int (r.2))] [] h) r → (fun s : Int32 × Int32 => VV x 10 [(1, .int (s.1)), (2, .ref (ad x r2)), (3, .int x3), (4, .int (s.2))] [] h) s := by
  refine lp_walk ?_
  intro s z E T
  obtain ⟨y1, y4⟩ := s
  replace E : X9_greatestOf_s10 r2 x3 h y1 y4 = some z := E
  unfold X9_greatestOf_s10 at E
  show VV x 10 [(1, .int y1), (2, .ref (ad x r2)), (3, .int x3), (4, .int y4)] [] h
  refine V_iload K 3 dX9_greatestOf_10 rfl ?_
  refine V_iload_n K 2 dX9_greatestOf_12 rfl ?_
  rcases if_inv E with ⟨c3, E⟩ | ⟨c3, E⟩
  · refine V_ic_ge_t K 35 dX9_greatestOf_13 (by decide) c3 ?_
    cases E
    exact V_sub [0, 1, 2, 3] rfl T
  · refine V_ic_ge_f K 35 dX9_greatestOf_13 (by decide) c3 ?_
    refine V_aload_n K 1 dX9_greatestOf_16 rfl ?_
    refine V_iload K 3 dX9_greatestOf_17 rfl ?_
    obtain ⟨g4, E⟩ := gd_inv E
    refine V_iald K hr2 rfl g4 dX9_greatestOf_19 ?_
    obtain ⟨v5, e6, E⟩ := lt_inv E
    refine V_top e6 ?_
    refine V_istore (lv' := [(5, .int v5), (1, .int y1), (2, .ref (ad x r2)), (3, .int x3), (4, .int y4)]) K dX9_greatestOf_20 (by decide) rfl ?_
    refine V_iload_n K 1 dX9_greatestOf_22 rfl ?_
    refine V_iload K 0 dX9_greatestOf_23 rfl ?_
    refine V_max K tb_446 tb_447 tb_5 tb_448 (Nat.le_of_ble_eq_true rfl) dX9_greatestOf_25 ?_
    obtain ⟨v7, e8, E⟩ := lt_inv E
    refine V_top e8 ?_
    refine V_istore_n (lv' := [(1, .int v7), (5, .int v5), (2, .ref (ad x r2)), (3, .int x3), (4, .int y4)]) K dX9_greatestOf_28 (by decide) rfl ?_
    obtain ⟨v9, e10, E⟩ := lt_inv E
    refine V_iinc (lv' := [(4, .int v9), (1, .int v7), (5, .int v5), (2, .ref (ad x r2)), (3, .int x3)]) K 4 dX9_greatestOf_29 rfl (by rw [e10]; rfl) (by decide) rfl ?_
    refine V_goto K 10 dX9_greatestOf_32 (by decide) ?_
    cases E
    exact V_sub [1, 3, 4, 0] rfl T
def X9_greatestOf (a1 : Nat) (h : Hp) : Option Int32 :=
  lt_ (Int32.ofNat (shN a1)) fun v1 =>
  ob2 (lp (fun s : Int32 × Int32 => X9_greatestOf_s10 a1 v1 h s.1 s.2) FU ((0 : Int32), (0 : Int32))) fun v11 v12 =>
  some v11
set_option maxHeartbeats 4000000 in
set_option maxRecDepth 100000 in
theorem w_X9_greatestOf {x : Cx} {d : Nat} (K : Ok x cX9_greatestOf RX9 6 (some .int) (d + 1)) (a1 : Nat) (h : Hp) (ha1 : shK a1 = 12) {z : Int32} (E : X9_greatestOf a1 h = some z) (T : x.2.2.2.2 = (some (.int z), h)) : VV x 0 [(0, .ref (ad x a1))] [] h := by
  unfold X9_greatestOf at E
  refine V_ic (v := 0) K dX9_greatestOf_0 rfl ?_
  refine V_istore_n (lv' := [(1, .int (0 : Int32)), (0, .ref (ad x a1))]) K dX9_greatestOf_1 (by decide) rfl ?_
  refine V_aload_n K 1 dX9_greatestOf_2 rfl ?_
  refine V_astore_n (lv' := [(2, .ref (ad x a1)), (1, .int (0 : Int32)), (0, .ref (ad x a1))]) K dX9_greatestOf_3 (by decide) rfl ?_
  refine V_aload_n K 0 dX9_greatestOf_4 rfl ?_
  refine V_alen K (Or.inl ha1) dX9_greatestOf_5 ?_
  obtain ⟨v1, e2, E⟩ := lt_inv E
  refine V_top e2 ?_
  refine V_istore_n (lv' := [(3, .int v1), (2, .ref (ad x a1)), (1, .int (0 : Int32)), (0, .ref (ad x a1))]) K dX9_greatestOf_6 (by decide) rfl ?_
  refine V_ic (v := 0) K dX9_greatestOf_7 rfl ?_
  refine V_istore (lv' := [(4, .int (0 : Int32)), (3, .int v1), (2, .ref (ad x a1)), (1, .int (0 : Int32)), (0, .ref (ad x a1))]) K dX9_greatestOf_8 (by decide) rfl ?_
  obtain ⟨v11, v12, q13, E⟩ := ob2_inv E
  refine V_sub [3, 2, 1, 0] rfl (wl_X9_greatestOf_s10 K a1 v1 h ha1 _ _ _ q13 ?_)
  show VV x 35 [(1, .int v11), (2, .ref (ad x a1)), (3, .int v1), (4, .int v12)] [] h
  refine V_iload_n K 0 dX9_greatestOf_35 rfl ?_
  cases E
  exact V_iret K dX9_greatestOf_36 rfl T
theorem c_X9_greatestOf (d : Nat) (a1 : Nat) (h : Hp) (ha1 : shK a1 = 12) {r : Int32} (E : X9_greatestOf a1 h = some r) : Runs (d + 1) yX9_greatestOf cX9_greatestOf 6 (some .int) (fun f => [.ref (f a1)]) h (fun _ => some (.int r)) h :=
  Runs.of (by decide +kernel) (fun _ => Nat.le_of_ble_eq_true rfl) (fun x K T => w_X9_greatestOf K  a1 h ha1 E T)
def X9_isKeepingPlace (a1 : Int32) : Int32 :=
  if a1 < (0 : Int32) then ((0 : Int32))
  else (if (3 : Int32) ≤ a1 then ((0 : Int32))
  else ((1 : Int32)))
set_option maxHeartbeats 4000000 in
set_option maxRecDepth 100000 in
theorem w_X9_isKeepingPlace {x : Cx} {d : Nat} (K : Ok x cX9_isKeepingPlace RX9 1 (some .boolean) (d + 0)) (a1 : Int32) (h : Hp)  {z : Int32} (E : X9_isKeepingPlace a1 = z) (T : x.2.2.2.2 = (some (.int z), h)) : VV x 0 [(0, .int a1)] [] h := by
  unfold X9_isKeepingPlace at E
  refine V_iload_n K 0 dX9_isKeepingPlace_0 rfl ?_
  rcases if_inv E with ⟨c1, E⟩ | ⟨c1, E⟩
  · refine V_if_lt_t K 13 dX9_isKeepingPlace_1 (by decide) c1 ?_
    refine V_ic (v := 0) K dX9_isKeepingPlace_13 rfl ?_
    cases E
    exact V_iret K dX9_isKeepingPlace_14 rfl T
  · refine V_if_lt_f K 13 dX9_isKeepingPlace_1 (by decide) c1 ?_
    refine V_iload_n K 0 dX9_isKeepingPlace_4 rfl ?_
    refine V_ic (v := 3) K dX9_isKeepingPlace_5 rfl ?_
    rcases if_inv E with ⟨c2, E⟩ | ⟨c2, E⟩
    · refine V_ic_ge_t K 13 dX9_isKeepingPlace_6 (by decide) c2 ?_
      refine V_ic (v := 0) K dX9_isKeepingPlace_13 rfl ?_
      cases E
      exact V_iret K dX9_isKeepingPlace_14 rfl T
    · refine V_ic_ge_f K 13 dX9_isKeepingPlace_6 (by decide) c2 ?_
      refine V_ic (v := 1) K dX9_isKeepingPlace_9 rfl ?_
      refine V_goto K 14 dX9_isKeepingPlace_10 (by decide) ?_
      cases E
      exact V_iret K dX9_isKeepingPlace_14 rfl T
theorem c_X9_isKeepingPlace (d : Nat) (a1 : Int32) (h : Hp)  : Runs (d + 0) yX9_isKeepingPlace cX9_isKeepingPlace 1 (some .boolean) (fun f => [.int a1]) h (fun _ => some (.int (X9_isKeepingPlace a1))) h :=
  Runs.of (by decide +kernel) (fun _ => Nat.le_of_ble_eq_true rfl) (fun x K T => w_X9_isKeepingPlace K  a1 h  rfl T)
theorem bz_X9_isKeepingPlace (a1 : Int32) : narrow .boolean (.int (X9_isKeepingPlace a1)) = .int (X9_isKeepingPlace a1) := by
  unfold X9_isKeepingPlace
  repeat' split
  all_goals first | rfl | exact bz_X10_in _ _ _
def X9_keep (a1 : Int32) (h : Hp) : Option (Int32 × Hp) :=
  if (X9_isKeepingPlace a1) = (0 : Int32) then (some ((-1 : Int32), h))
  else (if (h.1 19 6) = (0 : Int32) then (some ((-4 : Int32), h))
  else (gd (ib a1 3) (
  ob (X3_become (30 + 2 * ix a1) 27 h) fun h5 =>
  some (h5.1 27 1, h5))))
set_option maxHeartbeats 4000000 in
set_option maxRecDepth 100000 in
theorem w_X9_keep {x : Cx} {d : Nat} (K : Ok x cX9_keep RX9 2 (some .int) (d + 2)) (a1 : Int32) (h : Hp)  {z : Int32 × Hp} (E : X9_keep a1 h = some z) (T : x.2.2.2.2 = (some (.int (z.1)), z.2)) : VV x 0 [(0, .ref (ad x 0)), (1, .int a1)] [] h := by
  unfold X9_keep at E
  refine V_iload_n K 1 dX9_keep_0 rfl ?_
  refine iv_X9_188 K (c_X9_isKeepingPlace _ a1 h) dX9_keep_1 (Nat.le_of_ble_eq_true rfl) ?_
  rcases if_inv E with ⟨c1, E⟩ | ⟨c1, E⟩
  · refine V_if_ne_f K 9 dX9_keep_4 (by decide) c1 ?_
    refine V_ic (v := -1) K dX9_keep_7 rfl ?_
    cases E
    exact V_iret K dX9_keep_8 rfl T
  · refine V_if_ne_t K 9 dX9_keep_4 (by decide) c1 ?_
    refine V_aload_n K 0 dX9_keep_9 rfl ?_
    refine gf_X9_71 K dX9_keep_10 ?_
    refine gf_X9_127 K k_19 dX9_keep_13 ?_
    rcases if_inv E with ⟨c2, E⟩ | ⟨c2, E⟩
    · refine V_if_ne_f K 22 dX9_keep_16 (by decide) c2 ?_
      refine V_bp (v := -4) K dX9_keep_19 rfl ?_
      cases E
      exact V_iret K dX9_keep_21 rfl T
    · refine V_if_ne_t K 22 dX9_keep_16 (by decide) c2 ?_
      refine V_aload_n K 0 dX9_keep_22 rfl ?_
      refine gf_X9_35 K dX9_keep_23 ?_
      refine V_iload_n K 1 dX9_keep_26 rfl ?_
      obtain ⟨g3, E⟩ := gd_inv E
      refine V_aaload13 K k_29 g3 (kepR g3) dX9_keep_27 ?_
      refine V_aload_n K 0 dX9_keep_28 rfl ?_
      refine gf_X9_31 K dX9_keep_29 ?_
      obtain ⟨h5, q4, E⟩ := ob_inv E
      refine iv_X9_191 K (kepK g3) (c_X3_become _ (30 + 2 * ix a1) 27 h (kepK g3) k_27 q4) dX9_keep_32 (Nat.le_of_ble_eq_true rfl) ?_
      refine V_aload_n K 0 dX9_keep_35 rfl ?_
      refine gf_X9_31 K dX9_keep_36 ?_
      refine gf_X9_124 K k_27 dX9_keep_39 ?_
      cases E
      exact V_iret K dX9_keep_42 rfl T
theorem c_X9_keep (d : Nat) (a1 : Int32) (h : Hp)  {r : Int32} {h' : Hp} (E : X9_keep a1 h = some (r, h')) : Runs (d + 2) yX9_keep cX9_keep 2 (some .int) (fun f => [.ref (f 0), .int a1]) h (fun _ => some (.int r)) h' :=
  Runs.of (by decide +kernel) (fun _ => Nat.le_of_ble_eq_true rfl) (fun x K T => w_X9_keep K  a1 h  E T)
def X9_refusedHad_s55 (x2 : Int32) (h : Hp) (y4 : Int32) : Option (((Int32 × Hp) ⊕ (Int32)) ⊕ (Int32)) :=
  gd (ib x2 6) (
  if (h.1 8 (ix x2)) ≤ y4 then (some (.inl (.inr y4)))
  else (gd (ib y4 40) (
  if (h.1 (2 + ix x2) (ix y4)) < (0 : Int32) then (ob2 (X9_answerFinding (3 : Int32) h) fun r18 h17 =>
  some (.inl (.inl (r18, h17))))
  else (if (h.1 (2 + ix x2) (ix y4)) ≤ (30 : Int32) then (lt_ (y4 + (1 : Int32)) fun v20 =>
  some (.inr v20))
  else (ob2 (X9_answerFinding (3 : Int32) h) fun r24 h23 =>
  some (.inl (.inl (r24, h23))))))))
set_option maxHeartbeats 4000000 in
set_option maxRecDepth 100000 in
theorem wl_X9_refusedHad_s55 {x : Cx} {d : Nat} (K : Ok x cX9_refusedHad RX9 5 (some .int) (d + 2)) (x2 : Int32) (h : Hp)  : ∀ (n : Nat) (s : Int32) (r : ((Int32 × Hp) ⊕ (Int32))), lp (fun s : Int32 => X9_refusedHad_s55 x2 h s) n s = some r → (fun r : ((Int32 × Hp) ⊕ (Int32)) => match r with | .inl q => x.2.2.2.2 = (some (.int (q.1)), q.2) | .inr r => VV x 104 [(0, .ref (ad x 0)), (2, .int x2), (4, .int r)] [] h) r → (fun s : Int32 => VV x 55 [(0, .ref (ad x 0)), (2, .int x2), (4, .int s)] [] h) s := by
  refine lp_walk ?_
  intro s z E T
  obtain ⟨y4, e0⟩ : ∃ q, q = s := ⟨_, rfl⟩
  subst e0
  replace E : X9_refusedHad_s55 x2 h y4 = some z := E
  unfold X9_refusedHad_s55 at E
  show VV x 55 [(0, .ref (ad x 0)), (2, .int x2), (4, .int y4)] [] h
  refine V_iload K 2 dX9_refusedHad_55 rfl ?_
  refine V_aload_n K 0 dX9_refusedHad_57 rfl ?_
  refine gf_X9_14 K dX9_refusedHad_58 ?_
  refine V_iload_n K 1 dX9_refusedHad_61 rfl ?_
  obtain ⟨g12, E⟩ := gd_inv E
  refine V_iald K k_8 n_8 g12 dX9_refusedHad_62 ?_
  rcases if_inv E with ⟨c13, E⟩ | ⟨c13, E⟩
  · refine V_ic_ge_t K 104 dX9_refusedHad_63 (by decide) c13 ?_
    cases E
    exact V_sub [0, 1, 2] rfl T
  · refine V_ic_ge_f K 104 dX9_refusedHad_63 (by decide) c13 ?_
    refine V_aload_n K 0 dX9_refusedHad_66 rfl ?_
    refine gf_X9_11 K dX9_refusedHad_67 ?_
    refine V_iload_n K 1 dX9_refusedHad_70 rfl ?_
    refine V_aaload15 K k_1 g12 (rowR g12) dX9_refusedHad_71 ?_
    refine V_iload K 2 dX9_refusedHad_72 rfl ?_
    obtain ⟨g14, E⟩ := gd_inv E
    refine V_iald K (rowK g12) (rowN g12) g14 dX9_refusedHad_74 ?_
    rcases if_inv E with ⟨c15, E⟩ | ⟨c15, E⟩
    · refine V_if_lt_t K 92 dX9_refusedHad_75 (by decide) c15 ?_
      refine V_aload_n K 0 dX9_refusedHad_92 rfl ?_
      refine V_ic (v := 3) K dX9_refusedHad_93 rfl ?_
      obtain ⟨r18, h17, q16, E⟩ := ob2_inv E
      refine iv_X9_87 K (c_X9_answerFinding _ (3 : Int32) h q16) dX9_refusedHad_94 (Nat.le_of_ble_eq_true rfl) ?_
      cases E
      exact V_iret K dX9_refusedHad_97 rfl T
    · refine V_if_lt_f K 92 dX9_refusedHad_75 (by decide) c15 ?_
      refine V_aload_n K 0 dX9_refusedHad_78 rfl ?_
      refine gf_X9_11 K dX9_refusedHad_79 ?_
      refine V_iload_n K 1 dX9_refusedHad_82 rfl ?_
      refine V_aaload15 K k_1 g12 (rowR g12) dX9_refusedHad_83 ?_
      refine V_iload K 2 dX9_refusedHad_84 rfl ?_
      refine V_iald K (rowK g12) (rowN g12) g14 dX9_refusedHad_86 ?_
      refine V_bp (v := 30) K dX9_refusedHad_87 rfl ?_
      rcases if_inv E with ⟨c19, E⟩ | ⟨c19, E⟩
      · refine V_ic_le_t K 98 dX9_refusedHad_89 (by decide) c19 ?_
        obtain ⟨v20, e21, E⟩ := lt_inv E
        refine V_iinc (lv' := [(4, .int v20), (0, .ref (ad x 0)), (2, .int x2)]) K 2 dX9_refusedHad_98 rfl (by rw [e21]; rfl) (by decide) rfl ?_
        refine V_goto K 55 dX9_refusedHad_101 (by decide) ?_
        cases E
        exact V_sub [1, 2, 0] rfl T
      · refine V_ic_le_f K 98 dX9_refusedHad_89 (by decide) c19 ?_
        refine V_aload_n K 0 dX9_refusedHad_92 rfl ?_
        refine V_ic (v := 3) K dX9_refusedHad_93 rfl ?_
        obtain ⟨r24, h23, q22, E⟩ := ob2_inv E
        refine iv_X9_87 K (c_X9_answerFinding _ (3 : Int32) h q22) dX9_refusedHad_94 (Nat.le_of_ble_eq_true rfl) ?_
        cases E
        exact V_iret K dX9_refusedHad_97 rfl T
def X9_refusedHad (a1 : Int32) (a2 : Int32) (h : Hp) : Option (Int32 × Hp) :=
  if (X4_isOne 19 a1 h) = (0 : Int32) then (some ((-1 : Int32), h))
  else (ob2 (X9_refusedRow a2 h) fun r4 h3 =>
  if r4 = (0 : Int32) then (gd (ib a2 6) (
  if (h3.1 8 (ix a2)) < (1 : Int32) then (ob2 (X9_answerFinding (5 : Int32) h3) fun r10 h9 =>
  some (r10, h9))
  else (if (h3.1 8 (ix a2)) ≤ (10 : Int32) then (obS1 (lp (fun s : Int32 => X9_refusedHad_s55 a2 h3 s) FU (0 : Int32)) (fun q => some q) fun v25 =>
  some ((0 : Int32), h3))
  else (ob2 (X9_answerFinding (5 : Int32) h3) fun r29 h28 =>
  some (r29, h28)))))
  else (some (r4, h3)))
set_option maxHeartbeats 4000000 in
set_option maxRecDepth 100000 in
theorem w_X9_refusedHad {x : Cx} {d : Nat} (K : Ok x cX9_refusedHad RX9 5 (some .int) (d + 2)) (a1 : Int32) (a2 : Int32) (h : Hp)  {z : Int32 × Hp} (E : X9_refusedHad a1 a2 h = some z) (T : x.2.2.2.2 = (some (.int (z.1)), z.2)) : VV x 0 [(0, .ref (ad x 0)), (1, .int a1), (2, .int a2)] [] h := by
  unfold X9_refusedHad at E
  refine V_aload_n K 0 dX9_refusedHad_0 rfl ?_
  refine gf_X9_71 K dX9_refusedHad_1 ?_
  refine V_iload_n K 1 dX9_refusedHad_4 rfl ?_
  refine iv_X9_130 K k_19 (c_X4_isOne _ 19 a1 h k_19) dX9_refusedHad_5 (Nat.le_of_ble_eq_true rfl) ?_
  rcases if_inv E with ⟨c1, E⟩ | ⟨c1, E⟩
  · refine V_if_ne_f K 13 dX9_refusedHad_8 (by decide) c1 ?_
    refine V_ic (v := -1) K dX9_refusedHad_11 rfl ?_
    cases E
    exact V_iret K dX9_refusedHad_12 rfl T
  · refine V_if_ne_t K 13 dX9_refusedHad_8 (by decide) c1 ?_
    refine V_aload_n K 0 dX9_refusedHad_13 rfl ?_
    refine V_iload_n K 2 dX9_refusedHad_14 rfl ?_
    obtain ⟨r4, h3, q2, E⟩ := ob2_inv E
    refine iv_X9_95 K (c_X9_refusedRow _ a2 h q2) dX9_refusedHad_15 (Nat.le_of_ble_eq_true rfl) ?_
    refine V_istore_n (lv' := [(3, .int r4), (0, .ref (ad x 0)), (1, .int a1), (2, .int a2)]) K dX9_refusedHad_18 (by decide) rfl ?_
    refine V_iload_n K 0 dX9_refusedHad_19 rfl ?_
    rcases if_inv E with ⟨c5, E⟩ | ⟨c5, E⟩
    · refine V_if_eq_t K 25 dX9_refusedHad_20 (by decide) c5 ?_
      refine V_aload_n K 1 dX9_refusedHad_25 rfl ?_
      refine gf_X9_14 K dX9_refusedHad_26 ?_
      refine V_iload_n K 3 dX9_refusedHad_29 rfl ?_
      obtain ⟨g6, E⟩ := gd_inv E
      refine V_iald K k_8 n_8 g6 dX9_refusedHad_30 ?_
      refine V_ic (v := 1) K dX9_refusedHad_31 rfl ?_
      rcases if_inv E with ⟨c7, E⟩ | ⟨c7, E⟩
      · refine V_ic_lt_t K 46 dX9_refusedHad_32 (by decide) c7 ?_
        refine V_aload_n K 1 dX9_refusedHad_46 rfl ?_
        refine V_ic (v := 5) K dX9_refusedHad_47 rfl ?_
        obtain ⟨r10, h9, q8, E⟩ := ob2_inv E
        refine iv_X9_87 K (c_X9_answerFinding _ (5 : Int32) h3 q8) dX9_refusedHad_48 (Nat.le_of_ble_eq_true rfl) ?_
        cases E
        exact V_iret K dX9_refusedHad_51 rfl T
      · refine V_ic_lt_f K 46 dX9_refusedHad_32 (by decide) c7 ?_
        refine V_aload_n K 1 dX9_refusedHad_35 rfl ?_
        refine gf_X9_14 K dX9_refusedHad_36 ?_
        refine V_iload_n K 3 dX9_refusedHad_39 rfl ?_
        refine V_iald K k_8 n_8 g6 dX9_refusedHad_40 ?_
        refine V_bp (v := 10) K dX9_refusedHad_41 rfl ?_
        rcases if_inv E with ⟨c11, E⟩ | ⟨c11, E⟩
        · refine V_ic_le_t K 52 dX9_refusedHad_43 (by decide) c11 ?_
          refine V_ic (v := 0) K dX9_refusedHad_52 rfl ?_
          refine V_istore (lv' := [(4, .int (0 : Int32)), (3, .int r4), (0, .ref (ad x 0)), (1, .int a1), (2, .int a2)]) K dX9_refusedHad_53 (by decide) rfl ?_
          rcases obS1_inv E with ⟨q, q26, E⟩ | ⟨v25, q26, E⟩
          · cases E
            exact V_sub [2, 4, 0] rfl (wl_X9_refusedHad_s55 K a2 h3  _ _ _ q26 T)
          · refine V_sub [2, 4, 0] rfl (wl_X9_refusedHad_s55 K a2 h3  _ _ _ q26 ?_)
            show VV x 104 [(0, .ref (ad x 0)), (2, .int a2), (4, .int v25)] [] h3
            refine V_ic (v := 0) K dX9_refusedHad_104 rfl ?_
            cases E
            exact V_iret K dX9_refusedHad_105 rfl T
        · refine V_ic_le_f K 52 dX9_refusedHad_43 (by decide) c11 ?_
          refine V_aload_n K 1 dX9_refusedHad_46 rfl ?_
          refine V_ic (v := 5) K dX9_refusedHad_47 rfl ?_
          obtain ⟨r29, h28, q27, E⟩ := ob2_inv E
          refine iv_X9_87 K (c_X9_answerFinding _ (5 : Int32) h3 q27) dX9_refusedHad_48 (Nat.le_of_ble_eq_true rfl) ?_
          cases E
          exact V_iret K dX9_refusedHad_51 rfl T
    · refine V_if_eq_f K 25 dX9_refusedHad_20 (by decide) c5 ?_
      refine V_iload_n K 0 dX9_refusedHad_23 rfl ?_
      cases E
      exact V_iret K dX9_refusedHad_24 rfl T
theorem c_X9_refusedHad (d : Nat) (a1 : Int32) (a2 : Int32) (h : Hp)  {r : Int32} {h' : Hp} (E : X9_refusedHad a1 a2 h = some (r, h')) : Runs (d + 2) yX9_refusedHad cX9_refusedHad 5 (some .int) (fun f => [.ref (f 0), .int a1, .int a2]) h (fun _ => some (.int r)) h' :=
  Runs.of (by decide +kernel) (fun _ => Nat.le_of_ble_eq_true rfl) (fun x K T => w_X9_refusedHad K  a1 a2 h  E T)
def X9_kinds_s19 (x1 : Int32) (x2 : Int32) (y4 : Int32) (y5 : Int32) (h : Hp) : Option ((Int32 × Int32 × Hp) ⊕ (Int32 × Int32 × Hp)) :=
  if (6 : Int32) ≤ y5 then (some (.inl (y4, y5, h)))
  else (ob (X4_become 23 19 h) fun h7 =>
  gd (ib x1 6) (
  lt_ (up h7 24 (ix x1) y5) fun h9 =>
  ob2 (X9_asideFits x1 x2 h9) fun r13 h12 =>
  ob (if r13 = (0 : Int32) then (some y4)
  else (lt_ (y4 ||| ((1 : Int32) <<< (y5 &&& 31))) fun v16 =>
  some v16)) fun v14 =>
  lt_ (y5 + (1 : Int32)) fun v18 =>
  some (.inr (v14, v18, h12))))
set_option maxHeartbeats 4000000 in
set_option maxRecDepth 100000 in
theorem wl_X9_kinds_s19 {x : Cx} {d : Nat} (K : Ok x cX9_kinds RX9 6 (some .int) (d + 6)) (x1 : Int32) (x2 : Int32)  : ∀ (n : Nat) (s : Int32 × Int32 × Hp) (r : (Int32 × Int32 × Hp)), lp (fun s : Int32 × Int32 × Hp => X9_kinds_s19 x1 x2 s.1 s.2.1 s.2.2) n s = some r → (fun r : (Int32 × Int32 × Hp) => VV x 72 [(0, .ref (ad x 0)), (1, .int x1), (2, .int x2), (4, .int (r.1)), (5, .int (r.2.1))] [] r.2.2) r → (fun s : Int32 × Int32 × Hp => VV x 19 [(0, .ref (ad x 0)), (1, .int x1), (2, .int x2), (4, .int (s.1)), (5, .int (s.2.1))] [] s.2.2) s := by
  refine lp_walk ?_
  intro s z E T
  obtain ⟨y4, y5, h⟩ := s
  replace E : X9_kinds_s19 x1 x2 y4 y5 h = some z := E
  unfold X9_kinds_s19 at E
  show VV x 19 [(0, .ref (ad x 0)), (1, .int x1), (2, .int x2), (4, .int y4), (5, .int y5)] [] h
  refine V_iload K 4 dX9_kinds_19 rfl ?_
  refine V_bp (v := 6) K dX9_kinds_21 rfl ?_
  rcases if_inv E with ⟨c5, E⟩ | ⟨c5, E⟩
  · refine V_ic_ge_t K 72 dX9_kinds_23 (by decide) c5 ?_
    cases E
    exact V_sub [0, 1, 2, 3, 4] rfl T
  · refine V_ic_ge_f K 72 dX9_kinds_23 (by decide) c5 ?_
    refine V_aload_n K 0 dX9_kinds_26 rfl ?_
    refine gf_X9_74 K dX9_kinds_27 ?_
    refine V_aload_n K 0 dX9_kinds_30 rfl ?_
    refine gf_X9_71 K dX9_kinds_31 ?_
    obtain ⟨h7, q6, E⟩ := ob_inv E
    refine iv_X9_120 K k_23 (c_X4_become _ 23 19 h k_23 k_19 q6) dX9_kinds_34 (Nat.le_of_ble_eq_true rfl) ?_
    refine V_aload_n K 0 dX9_kinds_37 rfl ?_
    refine gf_X9_74 K dX9_kinds_38 ?_
    refine gf_X9_231 K k_23 dX9_kinds_41 ?_
    refine V_iload_n K 1 dX9_kinds_44 rfl ?_
    refine V_iload K 4 dX9_kinds_45 rfl ?_
    obtain ⟨g8, E⟩ := gd_inv E
    obtain ⟨h9, e10, E⟩ := lt_inv E
    refine V_iast K k_24 n_24 g8 dX9_kinds_47 ?_
    refine V_hp e10 ?_
    refine V_aload_n K 0 dX9_kinds_48 rfl ?_
    refine V_iload_n K 1 dX9_kinds_49 rfl ?_
    refine V_iload_n K 2 dX9_kinds_50 rfl ?_
    obtain ⟨r13, h12, q11, E⟩ := ob2_inv E
    refine iv_X9_227 K (c_X9_asideFits _ x1 x2 h9 q11) dX9_kinds_51 (Nat.le_of_ble_eq_true rfl) ?_
    obtain ⟨v14, q20, E⟩ := ob_inv E
    have T9 : VV x 66 [(0, .ref (ad x 0)), (1, .int x1), (2, .int x2), (4, .int v14), (5, .int y5)] [] h12 := by
      obtain ⟨v18, e19, E⟩ := lt_inv E
      refine V_iinc (lv' := [(5, .int v18), (0, .ref (ad x 0)), (1, .int x1), (2, .int x2), (4, .int v14)]) K 4 dX9_kinds_66 rfl (by rw [e19]; rfl) (by decide) rfl ?_
      refine V_goto K 19 dX9_kinds_69 (by decide) ?_
      cases E
      exact V_sub [1, 2, 3, 4, 0] rfl T
    have E := q20
    have T := T9
    rcases if_inv E with ⟨c15, E⟩ | ⟨c15, E⟩
    · refine V_if_eq_t K 66 dX9_kinds_54 (by decide) c15 ?_
      cases E
      exact V_sub [0, 1, 2, 3, 4] rfl T
    · refine V_if_eq_f K 66 dX9_kinds_54 (by decide) c15 ?_
      refine V_iload K 3 dX9_kinds_57 rfl ?_
      refine V_ic (v := 1) K dX9_kinds_59 rfl ?_
      refine V_iload K 4 dX9_kinds_60 rfl ?_
      refine V_ishl K dX9_kinds_62 ?_
      refine V_ior K dX9_kinds_63 ?_
      obtain ⟨v16, e17, E⟩ := lt_inv E
      refine V_top e17 ?_
      refine V_istore (lv' := [(4, .int v16), (0, .ref (ad x 0)), (1, .int x1), (2, .int x2), (5, .int y5)]) K dX9_kinds_64 (by decide) rfl ?_
      cases E
      exact V_sub [1, 2, 3, 0, 4] rfl T
def X9_kinds (a1 : Int32) (a2 : Int32) (h : Hp) : Option (Int32 × Hp) :=
  ob2 (X9_refusedHad a1 a2 h) fun r3 h2 =>
  if r3 = (0 : Int32) then (ob3 (lp (fun s : Int32 × Int32 × Hp => X9_kinds_s19 a1 a2 s.1 s.2.1 s.2.2) FU ((0 : Int32), (0 : Int32), h2)) fun v21 v22 h23 =>
  some (v21, h23))
  else (some (r3, h2))
set_option maxHeartbeats 4000000 in
set_option maxRecDepth 100000 in
theorem w_X9_kinds {x : Cx} {d : Nat} (K : Ok x cX9_kinds RX9 6 (some .int) (d + 6)) (a1 : Int32) (a2 : Int32) (h : Hp)  {z : Int32 × Hp} (E : X9_kinds a1 a2 h = some z) (T : x.2.2.2.2 = (some (.int (z.1)), z.2)) : VV x 0 [(0, .ref (ad x 0)), (1, .int a1), (2, .int a2)] [] h := by
  unfold X9_kinds at E
  refine V_aload_n K 0 dX9_kinds_0 rfl ?_
  refine V_iload_n K 1 dX9_kinds_1 rfl ?_
  refine V_iload_n K 2 dX9_kinds_2 rfl ?_
  obtain ⟨r3, h2, q1, E⟩ := ob2_inv E
  refine iv_X9_221 K (c_X9_refusedHad _ a1 a2 h q1) dX9_kinds_3 (Nat.le_of_ble_eq_true rfl) ?_
  refine V_istore_n (lv' := [(3, .int r3), (0, .ref (ad x 0)), (1, .int a1), (2, .int a2)]) K dX9_kinds_6 (by decide) rfl ?_
  refine V_iload_n K 0 dX9_kinds_7 rfl ?_
  rcases if_inv E with ⟨c4, E⟩ | ⟨c4, E⟩
  · refine V_if_eq_t K 13 dX9_kinds_8 (by decide) c4 ?_
    refine V_ic (v := 0) K dX9_kinds_13 rfl ?_
    refine V_istore (lv' := [(4, .int (0 : Int32)), (3, .int r3), (0, .ref (ad x 0)), (1, .int a1), (2, .int a2)]) K dX9_kinds_14 (by decide) rfl ?_
    refine V_ic (v := 0) K dX9_kinds_16 rfl ?_
    refine V_istore (lv' := [(5, .int (0 : Int32)), (4, .int (0 : Int32)), (3, .int r3), (0, .ref (ad x 0)), (1, .int a1), (2, .int a2)]) K dX9_kinds_17 (by decide) rfl ?_
    obtain ⟨v21, v22, h23, q24, E⟩ := ob3_inv E
    refine V_sub [3, 4, 5, 1, 0] rfl (wl_X9_kinds_s19 K a1 a2  _ _ _ q24 ?_)
    show VV x 72 [(0, .ref (ad x 0)), (1, .int a1), (2, .int a2), (4, .int v21), (5, .int v22)] [] h23
    refine V_iload K 3 dX9_kinds_72 rfl ?_
    cases E
    exact V_iret K dX9_kinds_74 rfl T
  · refine V_if_eq_f K 13 dX9_kinds_8 (by decide) c4 ?_
    refine V_iload_n K 0 dX9_kinds_11 rfl ?_
    cases E
    exact V_iret K dX9_kinds_12 rfl T
theorem c_X9_kinds (d : Nat) (a1 : Int32) (a2 : Int32) (h : Hp)  {r : Int32} {h' : Hp} (E : X9_kinds a1 a2 h = some (r, h')) : Runs (d + 6) yX9_kinds cX9_kinds 6 (some .int) (fun f => [.ref (f 0), .int a1, .int a2]) h (fun _ => some (.int r)) h' :=
  Runs.of (by decide +kernel) (fun _ => Nat.le_of_ble_eq_true rfl) (fun x K T => w_X9_kinds K  a1 a2 h  E T)
