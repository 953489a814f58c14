def X10_duel_s57 (x1 : Int32) (x2 : Int32) (x3 : Int32) (x4 : Int32) (y5 : Int32) (h : Hp) : Option ((Int32 × Hp) ⊕ (Int32 × Hp)) :=
  if x4 ≤ y5 then (some (.inl (y5, h)))
  else (ob2 (X10_endOf x1 x2 y5 ((2 : Int32) * x3) h) fun r11 h10 =>
  gd (ib y5 81) (
  lt_ (up h10 64 (ix y5) r11) fun h13 =>
  lt_ (y5 + (1 : Int32)) fun v15 =>
  some (.inr (v15, h13))))
set_option maxHeartbeats 4000000 in
set_option maxRecDepth 100000 in
theorem wl_X10_duel_s57 {x : Cx} {d : Nat} (K : Ok x cX10_duel RX10 11 (some .int) (d + 5)) (x1 : Int32) (x2 : Int32) (x3 : Int32) (x4 : Int32)  : ∀ (n : Nat) (s : Int32 × Hp) (r : (Int32 × Hp)), lp (fun s : Int32 × Hp => X10_duel_s57 x1 x2 x3 x4 s.1 s.2) n s = some r → (fun r : (Int32 × Hp) => VV x 88 [(0, .ref (ad x 51)), (1, .int x1), (2, .int x2), (3, .int x3), (4, .int x4), (5, .int (r.1))] [] r.2) r → (fun s : Int32 × Hp => VV x 57 [(0, .ref (ad x 51)), (1, .int x1), (2, .int x2), (3, .int x3), (4, .int x4), (5, .int (s.1))] [] s.2) s := by
  refine lp_walk ?_
  intro s z E T
  obtain ⟨y5, h⟩ := s
  replace E : X10_duel_s57 x1 x2 x3 x4 y5 h = some z := E
  unfold X10_duel_s57 at E
  show VV x 57 [(0, .ref (ad x 51)), (1, .int x1), (2, .int x2), (3, .int x3), (4, .int x4), (5, .int y5)] [] h
  refine V_iload K 5 dX10_duel_57 rfl ?_
  refine V_iload K 4 dX10_duel_59 rfl ?_
  rcases if_inv E with ⟨c8, E⟩ | ⟨c8, E⟩
  · refine V_ic_ge_t K 88 dX10_duel_61 (by decide) c8 ?_
    cases E
    exact V_sub [0, 1, 2, 3, 4, 5] rfl T
  · refine V_ic_ge_f K 88 dX10_duel_61 (by decide) c8 ?_
    refine V_aload_n K 0 dX10_duel_64 rfl ?_
    refine gf_X10_50 K dX10_duel_65 ?_
    refine V_iload K 5 dX10_duel_68 rfl ?_
    refine V_aload_n K 0 dX10_duel_70 rfl ?_
    refine V_iload_n K 1 dX10_duel_71 rfl ?_
    refine V_iload_n K 2 dX10_duel_72 rfl ?_
    refine V_iload K 5 dX10_duel_73 rfl ?_
    refine V_ic (v := 2) K dX10_duel_75 rfl ?_
    refine V_iload_n K 3 dX10_duel_76 rfl ?_
    refine V_imul K dX10_duel_77 ?_
    obtain ⟨r11, h10, q9, E⟩ := ob2_inv E
    refine iv_X10_211 K (c_X10_endOf _ x1 x2 y5 ((2 : Int32) * x3) h q9) dX10_duel_78 (Nat.le_of_ble_eq_true rfl) ?_
    obtain ⟨g12, E⟩ := gd_inv E
    obtain ⟨h13, e14, E⟩ := lt_inv E
    refine V_iast K k_64 n_64 g12 dX10_duel_81 ?_
    refine V_hp e14 ?_
    obtain ⟨v15, e16, E⟩ := lt_inv E
    refine V_iinc (lv' := [(5, .int v15), (0, .ref (ad x 51)), (1, .int x1), (2, .int x2), (3, .int x3), (4, .int x4)]) K 5 dX10_duel_82 rfl (by rw [e16]; rfl) (by decide) rfl ?_
    refine V_goto K 57 dX10_duel_85 (by decide) ?_
    cases E
    exact V_sub [1, 2, 3, 4, 5, 0] rfl T
def X10_duel_s130 (x4 : Int32) (x5 : Int32) (x6 : Int32) (h : Hp) (y7 : Int32) (y8 : Int32) : Option ((Int32 × Int32) ⊕ (Int32 × Int32)) :=
  if (3 : Int32) ≤ y8 then (some (.inl (y7, y8)))
  else (gd (ib (((3 : Int32) * x6) + y8) 81) (
  lt_ (h.1 64 (ix (((3 : Int32) * x6) + y8))) fun v30 =>
  ob (if (irm x5 (2 : Int32)) = (0 : Int32) then (if v30 ≤ y7 then (some (0 : Int32))
  else (some (1 : Int32)))
  else (if y7 ≤ v30 then (some (0 : Int32))
  else (some (1 : Int32)))) fun v32 =>
  ob (if v32 = (0 : Int32) then (some y7)
  else (some v30)) fun v36 =>
  lt_ (y8 + (1 : Int32)) fun v38 =>
  some (.inr (v36, v38))))
set_option maxHeartbeats 4000000 in
set_option maxRecDepth 100000 in
theorem wl_X10_duel_s130 {x : Cx} {d : Nat} (K : Ok x cX10_duel RX10 11 (some .int) (d + 5)) (x4 : Int32) (x5 : Int32) (x6 : Int32) (h : Hp)  : ∀ (n : Nat) (s : Int32 × Int32) (r : (Int32 × Int32)), lp (fun s : Int32 × Int32 => X10_duel_s130 x4 x5 x6 h s.1 s.2) n s = some r → (fun r : (Int32 × Int32) => VV x 206 [(0, .ref (ad x 51)), (4, .int x4), (5, .int x5), (6, .int x6), (7, .int (r.1)), (8, .int (r.2))] [] h) r → (fun s : Int32 × Int32 => VV x 130 [(0, .ref (ad x 51)), (4, .int x4), (5, .int x5), (6, .int x6), (7, .int (s.1)), (8, .int (s.2))] [] h) s := by
  refine lp_walk ?_
  intro s z E T
  obtain ⟨y7, y8⟩ := s
  replace E : X10_duel_s130 x4 x5 x6 h y7 y8 = some z := E
  unfold X10_duel_s130 at E
  show VV x 130 [(0, .ref (ad x 51)), (4, .int x4), (5, .int x5), (6, .int x6), (7, .int y7), (8, .int y8)] [] h
  refine V_iload K 5 dX10_duel_130 rfl ?_
  refine V_ic (v := 3) K dX10_duel_132 rfl ?_
  rcases if_inv E with ⟨c28, E⟩ | ⟨c28, E⟩
  · refine V_ic_ge_t K 206 dX10_duel_133 (by decide) c28 ?_
    cases E
    exact V_sub [0, 1, 2, 3, 4, 5] rfl T
  · refine V_ic_ge_f K 206 dX10_duel_133 (by decide) c28 ?_
    refine V_aload_n K 0 dX10_duel_136 rfl ?_
    refine gf_X10_50 K dX10_duel_137 ?_
    refine V_ic (v := 3) K dX10_duel_140 rfl ?_
    refine V_iload K 3 dX10_duel_141 rfl ?_
    refine V_imul K dX10_duel_143 ?_
    refine V_iload K 5 dX10_duel_144 rfl ?_
    refine V_iadd K dX10_duel_146 ?_
    obtain ⟨g29, E⟩ := gd_inv E
    refine V_iald K k_64 n_64 g29 dX10_duel_147 ?_
    obtain ⟨v30, e31, E⟩ := lt_inv E
    refine V_top e31 ?_
    refine V_istore (lv' := [(9, .int v30), (0, .ref (ad x 51)), (4, .int x4), (5, .int x5), (6, .int x6), (7, .int y7), (8, .int y8)]) K dX10_duel_148 (by decide) rfl ?_
    refine V_iload K 3 dX10_duel_150 rfl ?_
    refine V_ic (v := 2) K dX10_duel_152 rfl ?_
    refine V_irem K dX10_duel_153 (by decide) ?_
    obtain ⟨v32, q41, E⟩ := ob_inv E
    have T9 : VV x 184 [(0, .ref (ad x 51)), (4, .int x4), (5, .int x5), (6, .int x6), (7, .int y7), (8, .int y8), (9, .int v30)] [.int v32] h := by
      refine V_istore (lv' := [(10, .int v32), (0, .ref (ad x 51)), (4, .int x4), (5, .int x5), (6, .int x6), (7, .int y7), (8, .int y8), (9, .int v30)]) K dX10_duel_184 (by decide) rfl ?_
      refine V_iload K 0 dX10_duel_186 rfl ?_
      obtain ⟨v36, q40, E⟩ := ob_inv E
      have T9 : VV x 198 [(0, .ref (ad x 51)), (4, .int x4), (5, .int x5), (6, .int x6), (8, .int y8)] [.int v36] h := by
        refine V_istore (lv' := [(7, .int v36), (0, .ref (ad x 51)), (4, .int x4), (5, .int x5), (6, .int x6), (8, .int y8)]) K dX10_duel_198 (by decide) rfl ?_
        obtain ⟨v38, e39, E⟩ := lt_inv E
        refine V_iinc (lv' := [(8, .int v38), (7, .int v36), (0, .ref (ad x 51)), (4, .int x4), (5, .int x5), (6, .int x6)]) K 5 dX10_duel_200 rfl (by rw [e39]; rfl) (by decide) rfl ?_
        refine V_goto K 130 dX10_duel_203 (by decide) ?_
        cases E
        exact V_sub [2, 3, 4, 5, 1, 0] rfl T
      have E := q40
      have T := T9
      rcases if_inv E with ⟨c37, E⟩ | ⟨c37, E⟩
      · refine V_if_eq_t K 196 dX10_duel_188 (by decide) c37 ?_
        refine V_iload K 5 dX10_duel_196 rfl ?_
        cases E
        exact V_sub [1, 2, 3, 4, 6] rfl T
      · refine V_if_eq_f K 196 dX10_duel_188 (by decide) c37 ?_
        refine V_iload K 7 dX10_duel_191 rfl ?_
        refine V_goto K 198 dX10_duel_193 (by decide) ?_
        cases E
        exact V_sub [1, 2, 3, 4, 6] rfl T
    have E := q41
    have T := T9
    rcases if_inv E with ⟨c33, E⟩ | ⟨c33, E⟩
    · refine V_if_ne_f K 172 dX10_duel_154 (by decide) c33 ?_
      refine V_iload K 0 dX10_duel_157 rfl ?_
      refine V_iload K 5 dX10_duel_159 rfl ?_
      rcases if_inv E with ⟨c34, E⟩ | ⟨c34, E⟩
      · refine V_ic_le_t K 168 dX10_duel_161 (by decide) c34 ?_
        refine V_ic (v := 0) K dX10_duel_168 rfl ?_
        refine V_goto K 184 dX10_duel_169 (by decide) ?_
        cases E
        exact V_sub [1, 2, 3, 4, 5, 6, 0] rfl T
      · refine V_ic_le_f K 168 dX10_duel_161 (by decide) c34 ?_
        refine V_ic (v := 1) K dX10_duel_164 rfl ?_
        refine V_goto K 184 dX10_duel_165 (by decide) ?_
        cases E
        exact V_sub [1, 2, 3, 4, 5, 6, 0] rfl T
    · refine V_if_ne_t K 172 dX10_duel_154 (by decide) c33 ?_
      refine V_iload K 0 dX10_duel_172 rfl ?_
      refine V_iload K 5 dX10_duel_174 rfl ?_
      rcases if_inv E with ⟨c35, E⟩ | ⟨c35, E⟩
      · refine V_ic_ge_t K 183 dX10_duel_176 (by decide) c35 ?_
        refine V_ic (v := 0) K dX10_duel_183 rfl ?_
        cases E
        exact V_sub [1, 2, 3, 4, 5, 6, 0] rfl T
      · refine V_ic_ge_f K 183 dX10_duel_176 (by decide) c35 ?_
        refine V_ic (v := 1) K dX10_duel_179 rfl ?_
        refine V_goto K 184 dX10_duel_180 (by decide) ?_
        cases E
        exact V_sub [1, 2, 3, 4, 5, 6, 0] rfl T
def X10_duel_s109 (x4 : Int32) (x5 : Int32) (y6 : Int32) (h : Hp) : Option ((Int32 × Hp) ⊕ (Int32 × Hp)) :=
  if x4 ≤ y6 then (some (.inl (y6, h)))
  else (gd (ib ((3 : Int32) * y6) 81) (
  lt_ (h.1 64 (ix ((3 : Int32) * y6))) fun v26 =>
  ob2 (lp (fun s : Int32 × Int32 => X10_duel_s130 x4 x5 y6 h s.1 s.2) FU (v26, (1 : Int32))) fun v42 v43 =>
  gd (ib y6 81) (
  lt_ (up h 64 (ix y6) v42) fun h45 =>
  lt_ (y6 + (1 : Int32)) fun v47 =>
  some (.inr (v47, h45)))))
set_option maxHeartbeats 4000000 in
set_option maxRecDepth 100000 in
theorem wl_X10_duel_s109 {x : Cx} {d : Nat} (K : Ok x cX10_duel RX10 11 (some .int) (d + 5)) (x4 : Int32) (x5 : Int32)  : ∀ (n : Nat) (s : Int32 × Hp) (r : (Int32 × Hp)), lp (fun s : Int32 × Hp => X10_duel_s109 x4 x5 s.1 s.2) n s = some r → (fun r : (Int32 × Hp) => VV x 221 [(0, .ref (ad x 51)), (4, .int x4), (5, .int x5), (6, .int (r.1))] [] r.2) r → (fun s : Int32 × Hp => VV x 109 [(0, .ref (ad x 51)), (4, .int x4), (5, .int x5), (6, .int (s.1))] [] s.2) s := by
  refine lp_walk ?_
  intro s z E T
  obtain ⟨y6, h⟩ := s
  replace E : X10_duel_s109 x4 x5 y6 h = some z := E
  unfold X10_duel_s109 at E
  show VV x 109 [(0, .ref (ad x 51)), (4, .int x4), (5, .int x5), (6, .int y6)] [] h
  refine V_iload K 3 dX10_duel_109 rfl ?_
  refine V_iload K 1 dX10_duel_111 rfl ?_
  rcases if_inv E with ⟨c24, E⟩ | ⟨c24, E⟩
  · refine V_ic_ge_t K 221 dX10_duel_113 (by decide) c24 ?_
    cases E
    exact V_sub [0, 1, 2, 3] rfl T
  · refine V_ic_ge_f K 221 dX10_duel_113 (by decide) c24 ?_
    refine V_aload_n K 0 dX10_duel_116 rfl ?_
    refine gf_X10_50 K dX10_duel_117 ?_
    refine V_ic (v := 3) K dX10_duel_120 rfl ?_
    refine V_iload K 3 dX10_duel_121 rfl ?_
    refine V_imul K dX10_duel_123 ?_
    obtain ⟨g25, E⟩ := gd_inv E
    refine V_iald K k_64 n_64 g25 dX10_duel_124 ?_
    obtain ⟨v26, e27, E⟩ := lt_inv E
    refine V_top e27 ?_
    refine V_istore (lv' := [(7, .int v26), (0, .ref (ad x 51)), (4, .int x4), (5, .int x5), (6, .int y6)]) K dX10_duel_125 (by decide) rfl ?_
    refine V_ic (v := 1) K dX10_duel_127 rfl ?_
    refine V_istore (lv' := [(8, .int (1 : Int32)), (7, .int v26), (0, .ref (ad x 51)), (4, .int x4), (5, .int x5), (6, .int y6)]) K dX10_duel_128 (by decide) rfl ?_
    obtain ⟨v42, v43, q49, E⟩ := ob2_inv E
    refine V_sub [2, 3, 4, 5, 1, 0] rfl (wl_X10_duel_s130 K x4 x5 y6 h  _ _ _ q49 ?_)
    show VV x 206 [(0, .ref (ad x 51)), (4, .int x4), (5, .int x5), (6, .int y6), (7, .int v42), (8, .int v43)] [] h
    refine V_aload_n K 0 dX10_duel_206 rfl ?_
    refine gf_X10_50 K dX10_duel_207 ?_
    refine V_iload K 3 dX10_duel_210 rfl ?_
    refine V_iload K 4 dX10_duel_212 rfl ?_
    obtain ⟨g44, E⟩ := gd_inv E
    obtain ⟨h45, e46, E⟩ := lt_inv E
    refine V_iast K k_64 n_64 g44 dX10_duel_214 ?_
    refine V_hp e46 ?_
    obtain ⟨v47, e48, E⟩ := lt_inv E
    refine V_iinc (lv' := [(6, .int v47), (0, .ref (ad x 51)), (4, .int x4), (5, .int x5), (7, .int v42), (8, .int v43)]) K 3 dX10_duel_215 rfl (by rw [e48]; rfl) (by decide) rfl ?_
    refine V_goto K 109 dX10_duel_218 (by decide) ?_
    cases E
    exact V_sub [1, 2, 3, 0] rfl T
def X10_duel_s95  (y4 : Int32) (y5 : Int32) (h : Hp) : Option ((Int32 × Int32 × Hp) ⊕ (Int32 × Int32 × Hp)) :=
  if y5 < (0 : Int32) then (some (.inl (y4, y5, h)))
  else (lt_ (y4 / (3 : Int32)) fun v22 =>
  ob2 (lp (fun s : Int32 × Hp => X10_duel_s109 v22 y5 s.1 s.2) FU ((0 : Int32), h)) fun v50 h51 =>
  lt_ (y5 + (-1 : Int32)) fun v52 =>
  some (.inr (v22, v52, h51)))
set_option maxHeartbeats 4000000 in
set_option maxRecDepth 100000 in
theorem wl_X10_duel_s95 {x : Cx} {d : Nat} (K : Ok x cX10_duel RX10 11 (some .int) (d + 5))   : ∀ (n : Nat) (s : Int32 × Int32 × Hp) (r : (Int32 × Int32 × Hp)), lp (fun s : Int32 × Int32 × Hp => X10_duel_s95  s.1 s.2.1 s.2.2) n s = some r → (fun r : (Int32 × Int32 × Hp) => VV x 227 [(0, .ref (ad x 51)), (4, .int (r.1)), (5, .int (r.2.1))] [] r.2.2) r → (fun s : Int32 × Int32 × Hp => VV x 95 [(0, .ref (ad x 51)), (4, .int (s.1)), (5, .int (s.2.1))] [] s.2.2) s := by
  refine lp_walk ?_
  intro s z E T
  obtain ⟨y4, y5, h⟩ := s
  replace E : X10_duel_s95  y4 y5 h = some z := E
  unfold X10_duel_s95 at E
  show VV x 95 [(0, .ref (ad x 51)), (4, .int y4), (5, .int y5)] [] h
  refine V_iload K 2 dX10_duel_95 rfl ?_
  rcases if_inv E with ⟨c21, E⟩ | ⟨c21, E⟩
  · refine V_if_lt_t K 227 dX10_duel_97 (by decide) c21 ?_
    cases E
    exact V_sub [0, 1, 2] rfl T
  · refine V_if_lt_f K 227 dX10_duel_97 (by decide) c21 ?_
    refine V_iload K 1 dX10_duel_100 rfl ?_
    refine V_ic (v := 3) K dX10_duel_102 rfl ?_
    refine V_idiv K dX10_duel_103 (by decide) ?_
    obtain ⟨v22, e23, E⟩ := lt_inv E
    refine V_top e23 ?_
    refine V_istore (lv' := [(4, .int v22), (0, .ref (ad x 51)), (5, .int y5)]) K dX10_duel_104 (by decide) rfl ?_
    refine V_ic (v := 0) K dX10_duel_106 rfl ?_
    refine V_istore (lv' := [(6, .int (0 : Int32)), (4, .int v22), (0, .ref (ad x 51)), (5, .int y5)]) K dX10_duel_107 (by decide) rfl ?_
    obtain ⟨v50, h51, q54, E⟩ := ob2_inv E
    refine V_sub [2, 1, 3, 0] rfl (wl_X10_duel_s109 K v22 y5  _ _ _ q54 ?_)
    show VV x 221 [(0, .ref (ad x 51)), (4, .int v22), (5, .int y5), (6, .int v50)] [] h51
    obtain ⟨v52, e53, E⟩ := lt_inv E
    refine V_iinc (lv' := [(5, .int v52), (0, .ref (ad x 51)), (4, .int v22), (6, .int v50)]) K 2 dX10_duel_221 rfl (by rw [e53]; rfl) (by decide) rfl ?_
    refine V_goto K 95 dX10_duel_224 (by decide) ?_
    cases E
    exact V_sub [1, 2, 0] rfl T
def X10_duel (a1 : Int32) (a2 : Int32) (a3 : Int32) (h : Hp) : Option (Int32 × Hp) :=
  if (X10_isOne a1 h) = (0 : Int32) then (some ((-1 : Int32), h))
  else (if (X10_isOne a2 h) = (0 : Int32) then (some ((-1 : Int32), h))
  else (if a1 = a2 then (some ((-1 : Int32), h))
  else (if (X10_in a3 (0 : Int32) (2 : Int32)) = (0 : Int32) then (some ((-1 : Int32), h))
  else (ob (if a3 = (0 : Int32) then (some (1 : Int32))
  else (if a3 = (1 : Int32) then (some (9 : Int32))
  else (some (81 : Int32)))) fun v5 =>
  ob2 (lp (fun s : Int32 × Hp => X10_duel_s57 a1 a2 a3 v5 s.1 s.2) FU ((0 : Int32), h)) fun v17 h18 =>
  lt_ (((2 : Int32) * a3) - (1 : Int32)) fun v19 =>
  ob3 (lp (fun s : Int32 × Int32 × Hp => X10_duel_s95  s.1 s.2.1 s.2.2) FU (v5, v19, h18)) fun v55 v56 h57 =>
  gd (ib (0 : Int32) 81) (
  ob2 (X10_tell (h57.1 64 (ix (0 : Int32))) h57) fun r61 h60 =>
  some (r61, h60))))))
set_option maxHeartbeats 4000000 in
set_option maxRecDepth 100000 in
theorem w_X10_duel {x : Cx} {d : Nat} (K : Ok x cX10_duel RX10 11 (some .int) (d + 5)) (a1 : Int32) (a2 : Int32) (a3 : Int32) (h : Hp)  {z : Int32 × Hp} (E : X10_duel a1 a2 a3 h = some z) (T : x.2.2.2.2 = (some (.int (z.1)), z.2)) : VV x 0 [(0, .ref (ad x 51)), (1, .int a1), (2, .int a2), (3, .int a3)] [] h := by
  unfold X10_duel at E
  refine V_aload_n K 0 dX10_duel_0 rfl ?_
  refine V_iload_n K 1 dX10_duel_1 rfl ?_
  refine iv_X10_152 K (c_X10_isOne _ a1 h) dX10_duel_2 (Nat.le_of_ble_eq_true rfl) ?_
  rcases if_inv E with ⟨c1, E⟩ | ⟨c1, E⟩
  · refine V_if_eq_t K 30 dX10_duel_5 (by decide) c1 ?_
    refine V_ic (v := -1) K dX10_duel_30 rfl ?_
    cases E
    exact V_iret K dX10_duel_31 rfl T
  · refine V_if_eq_f K 30 dX10_duel_5 (by decide) c1 ?_
    refine V_aload_n K 0 dX10_duel_8 rfl ?_
    refine V_iload_n K 2 dX10_duel_9 rfl ?_
    refine iv_X10_152 K (c_X10_isOne _ a2 h) dX10_duel_10 (Nat.le_of_ble_eq_true rfl) ?_
    rcases if_inv E with ⟨c2, E⟩ | ⟨c2, E⟩
    · refine V_if_eq_t K 30 dX10_duel_13 (by decide) c2 ?_
      refine V_ic (v := -1) K dX10_duel_30 rfl ?_
      cases E
      exact V_iret K dX10_duel_31 rfl T
    · refine V_if_eq_f K 30 dX10_duel_13 (by decide) c2 ?_
      refine V_iload_n K 1 dX10_duel_16 rfl ?_
      refine V_iload_n K 2 dX10_duel_17 rfl ?_
      rcases if_inv E with ⟨c3, E⟩ | ⟨c3, E⟩
      · refine V_ic_eq_t K 30 dX10_duel_18 (by decide) c3 ?_
        refine V_ic (v := -1) K dX10_duel_30 rfl ?_
        cases E
        exact V_iret K dX10_duel_31 rfl T
      · refine V_ic_eq_f K 30 dX10_duel_18 (by decide) c3 ?_
        refine V_iload_n K 3 dX10_duel_21 rfl ?_
        refine V_ic (v := 0) K dX10_duel_22 rfl ?_
        refine V_ic (v := 2) K dX10_duel_23 rfl ?_
        refine iv_X10_63 K (c_X10_in _ a3 (0 : Int32) (2 : Int32) h) dX10_duel_24 (Nat.le_of_ble_eq_true rfl) ?_
        rcases if_inv E with ⟨c4, E⟩ | ⟨c4, E⟩
        · refine V_if_ne_f K 32 dX10_duel_27 (by decide) c4 ?_
          refine V_ic (v := -1) K dX10_duel_30 rfl ?_
          cases E
          exact V_iret K dX10_duel_31 rfl T
        · refine V_if_ne_t K 32 dX10_duel_27 (by decide) c4 ?_
          refine V_iload_n K 3 dX10_duel_32 rfl ?_
          obtain ⟨v5, q64, E⟩ := ob_inv E
          have T9 : VV x 52 [(0, .ref (ad x 51)), (1, .int a1), (2, .int a2), (3, .int a3)] [.int v5] h := by
            refine V_istore (lv' := [(4, .int v5), (0, .ref (ad x 51)), (1, .int a1), (2, .int a2), (3, .int a3)]) K dX10_duel_52 (by decide) rfl ?_
            refine V_ic (v := 0) K dX10_duel_54 rfl ?_
            refine V_istore (lv' := [(5, .int (0 : Int32)), (4, .int v5), (0, .ref (ad x 51)), (1, .int a1), (2, .int a2), (3, .int a3)]) K dX10_duel_55 (by decide) rfl ?_
            obtain ⟨v17, h18, q63, E⟩ := ob2_inv E
            refine V_sub [2, 3, 4, 5, 1, 0] rfl (wl_X10_duel_s57 K a1 a2 a3 v5  _ _ _ q63 ?_)
            show VV x 88 [(0, .ref (ad x 51)), (1, .int a1), (2, .int a2), (3, .int a3), (4, .int v5), (5, .int v17)] [] h18
            refine V_ic (v := 2) K dX10_duel_88 rfl ?_
            refine V_iload_n K 3 dX10_duel_89 rfl ?_
            refine V_imul K dX10_duel_90 ?_
            refine V_ic (v := 1) K dX10_duel_91 rfl ?_
            refine V_isub K dX10_duel_92 ?_
            obtain ⟨v19, e20, E⟩ := lt_inv E
            refine V_top e20 ?_
            refine V_istore (lv' := [(5, .int v19), (0, .ref (ad x 51)), (1, .int a1), (2, .int a2), (3, .int a3), (4, .int v5)]) K dX10_duel_93 (by decide) rfl ?_
            obtain ⟨v55, v56, h57, q62, E⟩ := ob3_inv E
            refine V_sub [1, 5, 0] rfl (wl_X10_duel_s95 K   _ _ _ q62 ?_)
            show VV x 227 [(0, .ref (ad x 51)), (4, .int v55), (5, .int v56)] [] h57
            refine V_aload_n K 0 dX10_duel_227 rfl ?_
            refine V_aload_n K 0 dX10_duel_228 rfl ?_
            refine gf_X10_50 K dX10_duel_229 ?_
            refine V_ic (v := 0) K dX10_duel_232 rfl ?_
            obtain ⟨g58, E⟩ := gd_inv E
            refine V_iald K k_64 n_64 g58 dX10_duel_233 ?_
            obtain ⟨r61, h60, q59, E⟩ := ob2_inv E
            refine iv_X10_79 K (c_X10_tell _ (h57.1 64 (ix (0 : Int32))) h57 q59) dX10_duel_234 (Nat.le_of_ble_eq_true rfl) ?_
            cases E
            exact V_iret K dX10_duel_237 rfl T
          have E := q64
          have T := T9
          rcases if_inv E with ⟨c6, E⟩ | ⟨c6, E⟩
          · refine V_if_ne_f K 40 dX10_duel_33 (by decide) c6 ?_
            refine V_ic (v := 1) K dX10_duel_36 rfl ?_
            refine V_goto K 52 dX10_duel_37 (by decide) ?_
            cases E
            exact V_sub [0, 1, 2, 3] rfl T
          · refine V_if_ne_t K 40 dX10_duel_33 (by decide) c6 ?_
            refine V_iload_n K 3 dX10_duel_40 rfl ?_
            refine V_ic (v := 1) K dX10_duel_41 rfl ?_
            rcases if_inv E with ⟨c7, E⟩ | ⟨c7, E⟩
            · refine V_ic_ne_f K 50 dX10_duel_42 (by decide) c7 ?_
              refine V_bp (v := 9) K dX10_duel_45 rfl ?_
              refine V_goto K 52 dX10_duel_47 (by decide) ?_
              cases E
              exact V_sub [0, 1, 2, 3] rfl T
            · refine V_ic_ne_t K 50 dX10_duel_42 (by decide) c7 ?_
              refine V_bp (v := 81) K dX10_duel_50 rfl ?_
              cases E
              exact V_sub [0, 1, 2, 3] rfl T
theorem c_X10_duel (d : Nat) (a1 : Int32) (a2 : Int32) (a3 : Int32) (h : Hp)  {r : Int32} {h' : Hp} (E : X10_duel a1 a2 a3 h = some (r, h')) : Runs (d + 5) yX10_duel cX10_duel 11 (some .int) (fun f => [.ref (f 51), .int a1, .int a2, .int a3]) h (fun _ => some (.int r)) h' :=
  Runs.of (by decide +kernel) (fun _ => Nat.le_of_ble_eq_true rfl) (fun x K T => w_X10_duel K  a1 a2 a3 h  E T)
def X10_isText (a1 : Int32) : Int32 :=
  (X10_in a1 (0 : Int32) (3 : Int32))
set_option maxHeartbeats 4000000 in
set_option maxRecDepth 100000 in
theorem w_X10_isText {x : Cx} {d : Nat} (K : Ok x cX10_isText RX10 1 (some .boolean) (d + 1)) (a1 : Int32) (h : Hp)  {z : Int32} (E : X10_isText a1 = z) (T : x.2.2.2.2 = (some (.int z), h)) : VV x 0 [(0, .int a1)] [] h := by
  unfold X10_isText at E
  refine V_iload_n K 0 dX10_isText_0 rfl ?_
  refine V_ic (v := 0) K dX10_isText_1 rfl ?_
  refine V_ic (v := 3) K dX10_isText_2 rfl ?_
  refine iv_X10_63 K (c_X10_in _ a1 (0 : Int32) (3 : Int32) h) dX10_isText_3 (Nat.le_of_ble_eq_true rfl) ?_
  cases E
  exact V_iret K dX10_isText_6 (bz_X10_in a1 (0 : Int32) (3 : Int32)) T
theorem c_X10_isText (d : Nat) (a1 : Int32) (h : Hp)  : Runs (d + 1) yX10_isText cX10_isText 1 (some .boolean) (fun f => [.int a1]) h (fun _ => some (.int (X10_isText a1))) h :=
  Runs.of (by decide +kernel) (fun _ => Nat.le_of_ble_eq_true rfl) (fun x K T => w_X10_isText K  a1 h  rfl T)
theorem bz_X10_isText (a1 : Int32) : narrow .boolean (.int (X10_isText a1)) = .int (X10_isText a1) := by
  unfold X10_isText
  repeat' split
  all_goals first | rfl | exact bz_X10_in _ _ _
def X10_letterAt (a1 : Int32) (a2 : Int32) (h : Hp) : Option Int32 :=
  gd (ib a1 4) (
  if (h.1 58 (ix a1)) ≤ a2 then (some (-9 : Int32))
  else (gd (ib (((60 : Int32) * a1) + a2) 240) (
  some (h.1 57 (ix (((60 : Int32) * a1) + a2))))))
set_option maxHeartbeats 4000000 in
set_option maxRecDepth 100000 in
theorem w_X10_letterAt {x : Cx} {d : Nat} (K : Ok x cX10_letterAt RX10 3 (some .int) (d + 0)) (a1 : Int32) (a2 : Int32) (h : Hp)  {z : Int32} (E : X10_letterAt a1 a2 h = some z) (T : x.2.2.2.2 = (some (.int z), h)) : VV x 0 [(0, .ref (ad x 51)), (1, .int a1), (2, .int a2)] [] h := by
  unfold X10_letterAt at E
  refine V_iload_n K 2 dX10_letterAt_0 rfl ?_
  refine V_aload_n K 0 dX10_letterAt_1 rfl ?_
  refine gf_X10_28 K dX10_letterAt_2 ?_
  refine V_iload_n K 1 dX10_letterAt_5 rfl ?_
  obtain ⟨g1, E⟩ := gd_inv E
  refine V_iald K k_58 n_58 g1 dX10_letterAt_6 ?_
  rcases if_inv E with ⟨c2, E⟩ | ⟨c2, E⟩
  · refine V_ic_ge_t K 24 dX10_letterAt_7 (by decide) c2 ?_
    refine V_bp (v := -9) K dX10_letterAt_24 rfl ?_
    cases E
    exact V_iret K dX10_letterAt_26 rfl T
  · refine V_ic_ge_f K 24 dX10_letterAt_7 (by decide) c2 ?_
    refine V_aload_n K 0 dX10_letterAt_10 rfl ?_
    refine gf_X10_25 K dX10_letterAt_11 ?_
    refine V_bp (v := 60) K dX10_letterAt_14 rfl ?_
    refine V_iload_n K 1 dX10_letterAt_16 rfl ?_
    refine V_imul K dX10_letterAt_17 ?_
    refine V_iload_n K 2 dX10_letterAt_18 rfl ?_
    refine V_iadd K dX10_letterAt_19 ?_
    obtain ⟨g3, E⟩ := gd_inv E
    refine V_iald K k_57 n_57 g3 dX10_letterAt_20 ?_
    refine V_goto K 26 dX10_letterAt_21 (by decide) ?_
    cases E
    exact V_iret K dX10_letterAt_26 rfl T
theorem c_X10_letterAt (d : Nat) (a1 : Int32) (a2 : Int32) (h : Hp)  {r : Int32} (E : X10_letterAt a1 a2 h = some r) : Runs (d + 0) yX10_letterAt cX10_letterAt 3 (some .int) (fun f => [.ref (f 51), .int a1, .int a2]) h (fun _ => some (.int r)) h :=
  Runs.of (by decide +kernel) (fun _ => Nat.le_of_ble_eq_true rfl) (fun x K T => w_X10_letterAt K  a1 a2 h  E T)
def X10_skipBlanks_s0 (x1 : Int32) (h : Hp) : Option ((Hp) ⊕ (Hp)) :=
  ob (X10_letterAt x1 (h.1 51 16) h) fun r1 =>
  if r1 = (32 : Int32) then (lt_ (up h 51 16 ((h.1 51 16) + (1 : Int32))) fun h4 =>
  some (.inr h4))
  else (some (.inl h))
set_option maxHeartbeats 4000000 in
set_option maxRecDepth 100000 in
theorem wl_X10_skipBlanks_s0 {x : Cx} {d : Nat} (K : Ok x cX10_skipBlanks RX10 2 none (d + 1)) (x1 : Int32)  : ∀ (n : Nat) (s : Hp) (r : (Hp)), lp (fun s : Hp => X10_skipBlanks_s0 x1 s) n s = some r → (fun r : (Hp) => VV x 27 [(0, .ref (ad x 51)), (1, .int x1)] [] r) r → (fun s : Hp => VV x 0 [(0, .ref (ad x 51)), (1, .int x1)] [] s) s := by
  refine lp_walk ?_
  intro s z E T
  obtain ⟨h, e0⟩ : ∃ q, q = s := ⟨_, rfl⟩
  subst e0
  replace E : X10_skipBlanks_s0 x1 h = some z := E
  unfold X10_skipBlanks_s0 at E
  show VV x 0 [(0, .ref (ad x 51)), (1, .int x1)] [] h
  refine V_aload_n K 0 dX10_skipBlanks_0 rfl ?_
  refine V_iload_n K 1 dX10_skipBlanks_1 rfl ?_
  refine V_aload_n K 0 dX10_skipBlanks_2 rfl ?_
  refine gf_X10_88 K dX10_skipBlanks_3 ?_
  obtain ⟨r1, q2, E⟩ := ob_inv E
  refine iv_X10_85 K (c_X10_letterAt _ x1 (h.1 51 16) h q2) dX10_skipBlanks_6 (Nat.le_of_ble_eq_true rfl) ?_
  refine V_bp (v := 32) K dX10_skipBlanks_9 rfl ?_
  rcases if_inv E with ⟨c3, E⟩ | ⟨c3, E⟩
  · refine V_ic_ne_f K 27 dX10_skipBlanks_11 (by decide) c3 ?_
    refine V_aload_n K 0 dX10_skipBlanks_14 rfl ?_
    refine V_dup K dX10_skipBlanks_15 rfl ?_
    refine gf_X10_88 K dX10_skipBlanks_16 ?_
    refine V_ic (v := 1) K dX10_skipBlanks_19 rfl ?_
    refine V_iadd K dX10_skipBlanks_20 ?_
    obtain ⟨h4, e5, E⟩ := lt_inv E
    refine pf_X10_88 K dX10_skipBlanks_21 ?_
    refine V_hp e5 ?_
    refine V_goto K 0 dX10_skipBlanks_24 (by decide) ?_
    cases E
    exact V_sub [0, 1] rfl T
  · refine V_ic_ne_t K 27 dX10_skipBlanks_11 (by decide) c3 ?_
    cases E
    exact V_sub [0, 1] rfl T
def X10_skipBlanks (a1 : Int32) (h : Hp) : Option Hp :=
  ob (lp (fun s : Hp => X10_skipBlanks_s0 a1 s) FU h) fun h6 =>
  some h6
set_option maxHeartbeats 4000000 in
set_option maxRecDepth 100000 in
theorem w_X10_skipBlanks {x : Cx} {d : Nat} (K : Ok x cX10_skipBlanks RX10 2 none (d + 1)) (a1 : Int32) (h : Hp)  {z : Hp} (E : X10_skipBlanks a1 h = some z) (T : x.2.2.2.2 = (none, z)) : VV x 0 [(0, .ref (ad x 51)), (1, .int a1)] [] h := by
  unfold X10_skipBlanks at E
  obtain ⟨h6, q7, E⟩ := ob_inv E
  refine V_sub [0, 1] rfl (wl_X10_skipBlanks_s0 K a1  _ _ _ q7 ?_)
  show VV x 27 [(0, .ref (ad x 51)), (1, .int a1)] [] h6
  cases E
  exact V_vret K dX10_skipBlanks_27 T
theorem c_X10_skipBlanks (d : Nat) (a1 : Int32) (h : Hp)  {h' : Hp} (E : X10_skipBlanks a1 h = some h') : Runs (d + 1) yX10_skipBlanks cX10_skipBlanks 2 none (fun f => [.ref (f 51), .int a1]) h (fun _ => none) h' :=
  Runs.of (by decide +kernel) (fun _ => Nat.le_of_ble_eq_true rfl) (fun x K T => w_X10_skipBlanks K  a1 h  E T)
def X10_isFigure (a1 : Int32) (a2 : Int32) (h : Hp) : Option Int32 :=
  ob (X10_letterAt a1 a2 h) fun r1 =>
  some (X10_in r1 (48 : Int32) (57 : Int32))
set_option maxHeartbeats 4000000 in
set_option maxRecDepth 100000 in
theorem w_X10_isFigure {x : Cx} {d : Nat} (K : Ok x cX10_isFigure RX10 3 (some .boolean) (d + 1)) (a1 : Int32) (a2 : Int32) (h : Hp)  {z : Int32} (E : X10_isFigure a1 a2 h = some z) (T : x.2.2.2.2 = (some (.int z), h)) : VV x 0 [(0, .ref (ad x 51)), (1, .int a1), (2, .int a2)] [] h := by
  unfold X10_isFigure at E
  refine V_aload_n K 0 dX10_isFigure_0 rfl ?_
  refine V_iload_n K 1 dX10_isFigure_1 rfl ?_
  refine V_iload_n K 2 dX10_isFigure_2 rfl ?_
  obtain ⟨r1, q2, E⟩ := ob_inv E
  refine iv_X10_85 K (c_X10_letterAt _ a1 a2 h q2) dX10_isFigure_3 (Nat.le_of_ble_eq_true rfl) ?_
  refine V_bp (v := 48) K dX10_isFigure_6 rfl ?_
  refine V_bp (v := 57) K dX10_isFigure_8 rfl ?_
  refine iv_X10_63 K (c_X10_in _ r1 (48 : Int32) (57 : Int32) h) dX10_isFigure_10 (Nat.le_of_ble_eq_true rfl) ?_
  cases E
  exact V_iret K dX10_isFigure_13 (bz_X10_in r1 (48 : Int32) (57 : Int32)) T
theorem c_X10_isFigure (d : Nat) (a1 : Int32) (a2 : Int32) (h : Hp)  {r : Int32} (E : X10_isFigure a1 a2 h = some r) : Runs (d + 1) yX10_isFigure cX10_isFigure 3 (some .boolean) (fun f => [.ref (f 51), .int a1, .int a2]) h (fun _ => some (.int r)) h :=
  Runs.of (by decide +kernel) (fun _ => Nat.le_of_ble_eq_true rfl) (fun x K T => w_X10_isFigure K  a1 a2 h  E T)
def X10_figure (a1 : Int32) (a2 : Int32) (h : Hp) : Option Int32 :=
  ob (X10_letterAt a1 a2 h) fun r1 =>
  some (r1 - (48 : Int32))
set_option maxHeartbeats 4000000 in
set_option maxRecDepth 100000 in
theorem w_X10_figure {x : Cx} {d : Nat} (K : Ok x cX10_figure RX10 3 (some .int) (d + 1)) (a1 : Int32) (a2 : Int32) (h : Hp)  {z : Int32} (E : X10_figure a1 a2 h = some z) (T : x.2.2.2.2 = (some (.int z), h)) : VV x 0 [(0, .ref (ad x 51)), (1, .int a1), (2, .int a2)] [] h := by
  unfold X10_figure at E
  refine V_aload_n K 0 dX10_figure_0 rfl ?_
  refine V_iload_n K 1 dX10_figure_1 rfl ?_
  refine V_iload_n K 2 dX10_figure_2 rfl ?_
  obtain ⟨r1, q2, E⟩ := ob_inv E
  refine iv_X10_85 K (c_X10_letterAt _ a1 a2 h q2) dX10_figure_3 (Nat.le_of_ble_eq_true rfl) ?_
  refine V_bp (v := 48) K dX10_figure_6 rfl ?_
  refine V_isub K dX10_figure_8 ?_
  cases E
  exact V_iret K dX10_figure_9 rfl T
theorem c_X10_figure (d : Nat) (a1 : Int32) (a2 : Int32) (h : Hp)  {r : Int32} (E : X10_figure a1 a2 h = some r) : Runs (d + 1) yX10_figure cX10_figure 3 (some .int) (fun f => [.ref (f 51), .int a1, .int a2]) h (fun _ => some (.int r)) h :=
  Runs.of (by decide +kernel) (fun _ => Nat.le_of_ble_eq_true rfl) (fun x K T => w_X10_figure K  a1 a2 h  E T)
def X10_kindOf (a1 : Int32) : Int32 :=
  if a1 = (98 : Int32) then ((1 : Int32))
  else (if a1 = (103 : Int32) then ((2 : Int32))
  else (if a1 = (105 : Int32) then ((4 : Int32))
  else (if a1 = (108 : Int32) then ((5 : Int32))
  else (if a1 = (112 : Int32) then ((0 : Int32))
  else (if a1 = (119 : Int32) then ((3 : Int32))
  else ((-9 : Int32)))))))
set_option maxHeartbeats 4000000 in
set_option maxRecDepth 100000 in
theorem w_X10_kindOf {x : Cx} {d : Nat} (K : Ok x cX10_kindOf RX10 1 (some .int) (d + 0)) (a1 : Int32) (h : Hp)  {z : Int32} (E : X10_kindOf a1 = z) (T : x.2.2.2.2 = (some (.int z), h)) : VV x 0 [(0, .int a1)] [] h := by
  unfold X10_kindOf at E
  refine V_iload_n K 0 dX10_kindOf_0 rfl ?_
  rcases if_inv E with ⟨c1, E⟩ | ⟨c1, E⟩
  · refine V_lookup (off := 61) K 62 dX10_kindOf_1 (by decide) (by rw [c1]; decide) (by decide) ?_
    refine V_ic (v := 1) K dX10_kindOf_62 rfl ?_
    cases E
    exact V_iret K dX10_kindOf_63 rfl T
  · rcases if_inv E with ⟨c2, E⟩ | ⟨c2, E⟩
    · refine V_lookup (off := 63) K 64 dX10_kindOf_1 (by decide) (by rw [c2]; decide) (by decide) ?_
      refine V_ic (v := 2) K dX10_kindOf_64 rfl ?_
      cases E
      exact V_iret K dX10_kindOf_65 rfl T
    · rcases if_inv E with ⟨c3, E⟩ | ⟨c3, E⟩
      · refine V_lookup (off := 67) K 68 dX10_kindOf_1 (by decide) (by rw [c3]; decide) (by decide) ?_
        refine V_ic (v := 4) K dX10_kindOf_68 rfl ?_
        cases E
        exact V_iret K dX10_kindOf_69 rfl T
      · rcases if_inv E with ⟨c4, E⟩ | ⟨c4, E⟩
        · refine V_lookup (off := 69) K 70 dX10_kindOf_1 (by decide) (by rw [c4]; decide) (by decide) ?_
          refine V_ic (v := 5) K dX10_kindOf_70 rfl ?_
          cases E
          exact V_iret K dX10_kindOf_71 rfl T
        · rcases if_inv E with ⟨c5, E⟩ | ⟨c5, E⟩
          · refine V_lookup (off := 59) K 60 dX10_kindOf_1 (by decide) (by rw [c5]; decide) (by decide) ?_
            refine V_ic (v := 0) K dX10_kindOf_60 rfl ?_
            cases E
            exact V_iret K dX10_kindOf_61 rfl T
          · rcases if_inv E with ⟨c6, E⟩ | ⟨c6, E⟩
            · refine V_lookup (off := 65) K 66 dX10_kindOf_1 (by decide) (by rw [c6]; decide) (by decide) ?_
              refine V_ic (v := 3) K dX10_kindOf_66 rfl ?_
              cases E
              exact V_iret K dX10_kindOf_67 rfl T
            · refine V_lookup (off := 71) K 72 dX10_kindOf_1 (by decide) (by show Op.lookupswitch.offset [(98, 61), (103, 63), (105, 67), (108, 69), (112, 59), (119, 65)] (71) a1.toInt = 71; rw [lv_osw c1 (by decide), lv_osw c2 (by decide), lv_osw c3 (by decide), lv_osw c4 (by decide), lv_osw c5 (by decide), lv_osw c6 (by decide)]; rfl) (by decide) ?_
              refine V_bp (v := -9) K dX10_kindOf_72 rfl ?_
              cases E
              exact V_iret K dX10_kindOf_74 rfl T
theorem c_X10_kindOf (d : Nat) (a1 : Int32) (h : Hp)  : Runs (d + 0) yX10_kindOf cX10_kindOf 1 (some .int) (fun f => [.int a1]) h (fun _ => some (.int (X10_kindOf a1))) h :=
  Runs.of (by decide +kernel) (fun _ => Nat.le_of_ble_eq_true rfl) (fun x K T => w_X10_kindOf K  a1 h  rfl T)
def X10_readOne_s35 (x1 : Int32) (x2 : Int32) (h : Hp) (y3 : Int32) : Option (((Int32 × Hp) ⊕ (Int32)) ⊕ (Int32)) :=
  if (3 : Int32) < y3 then (some (.inl (.inr y3)))
  else (ob (X10_isFigure x1 ((h.1 51 16) + y3) h) fun r8 =>
  if r8 = (0 : Int32) then (some (.inl (.inl (((h.1 51 16) + y3), h))))
  else (lt_ (y3 + (1 : Int32)) fun v11 =>
  some (.inr v11)))
set_option maxHeartbeats 4000000 in
set_option maxRecDepth 100000 in
theorem wl_X10_readOne_s35 {x : Cx} {d : Nat} (K : Ok x cX10_readOne RX10 4 (some .int) (d + 2)) (x1 : Int32) (x2 : Int32) (h : Hp)  : ∀ (n : Nat) (s : Int32) (r : ((Int32 × Hp) ⊕ (Int32))), lp (fun s : Int32 => X10_readOne_s35 x1 x2 h s) n s = some r → (fun r : ((Int32 × Hp) ⊕ (Int32)) => match r with | .inl q => x.2.2.2.2 = (some (.int (q.1)), q.2) | .inr r => VV x 67 [(0, .ref (ad x 51)), (1, .int x1), (2, .int x2), (3, .int r)] [] h) r → (fun s : Int32 => VV x 35 [(0, .ref (ad x 51)), (1, .int x1), (2, .int x2), (3, .int s)] [] h) s := by
  refine lp_walk ?_
  intro s z E T
  obtain ⟨y3, e0⟩ : ∃ q, q = s := ⟨_, rfl⟩
  subst e0
  replace E : X10_readOne_s35 x1 x2 h y3 = some z := E
  unfold X10_readOne_s35 at E
  show VV x 35 [(0, .ref (ad x 51)), (1, .int x1), (2, .int x2), (3, .int y3)] [] h
  refine V_iload_n K 3 dX10_readOne_35 rfl ?_
  refine V_ic (v := 3) K dX10_readOne_36 rfl ?_
  rcases if_inv E with ⟨c7, E⟩ | ⟨c7, E⟩
  · refine V_ic_gt_t K 67 dX10_readOne_37 (by decide) c7 ?_
    cases E
    exact V_sub [0, 1, 2, 3] rfl T
  · refine V_ic_gt_f K 67 dX10_readOne_37 (by decide) c7 ?_
    refine V_aload_n K 0 dX10_readOne_40 rfl ?_
    refine V_iload_n K 1 dX10_readOne_41 rfl ?_
    refine V_aload_n K 0 dX10_readOne_42 rfl ?_
    refine gf_X10_88 K dX10_readOne_43 ?_
    refine V_iload_n K 3 dX10_readOne_46 rfl ?_
    refine V_iadd K dX10_readOne_47 ?_
    obtain ⟨r8, q9, E⟩ := ob_inv E
    refine iv_X10_97 K (c_X10_isFigure _ x1 ((h.1 51 16) + y3) h q9) dX10_readOne_48 (Nat.le_of_ble_eq_true rfl) ?_
    rcases if_inv E with ⟨c10, E⟩ | ⟨c10, E⟩
    · refine V_if_ne_f K 61 dX10_readOne_51 (by decide) c10 ?_
      refine V_aload_n K 0 dX10_readOne_54 rfl ?_
      refine gf_X10_88 K dX10_readOne_55 ?_
      refine V_iload_n K 3 dX10_readOne_58 rfl ?_
      refine V_iadd K dX10_readOne_59 ?_
      cases E
      exact V_iret K dX10_readOne_60 rfl T
    · refine V_if_ne_t K 61 dX10_readOne_51 (by decide) c10 ?_
      obtain ⟨v11, e12, E⟩ := lt_inv E
      refine V_iinc (lv' := [(3, .int v11), (0, .ref (ad x 51)), (1, .int x1), (2, .int x2)]) K 3 dX10_readOne_61 rfl (by rw [e12]; rfl) (by decide) rfl ?_
      refine V_goto K 35 dX10_readOne_64 (by decide) ?_
      cases E
      exact V_sub [1, 2, 3, 0] rfl T
def X10_readOne (a1 : Int32) (h : Hp) : Option (Int32 × Hp) :=
  ob (X10_letterAt a1 (h.1 51 16) h) fun r1 =>
  lt_ (X10_kindOf r1) fun v3 =>
  if v3 = (-9 : Int32) then (some (h.1 51 16, h))
  else (if (h.1 51 19) = (6 : Int32) then (some (h.1 51 16, h))
  else (obS1 (lp (fun s : Int32 => X10_readOne_s35 a1 v3 h s) FU (1 : Int32)) (fun q => some q) fun v13 =>
  ob (X10_figure a1 ((h.1 51 16) + (2 : Int32)) h) fun r14 =>
  ob (X10_figure a1 ((h.1 51 16) + (3 : Int32)) h) fun r16 =>
  lt_ (((10 : Int32) * r14) + r16) fun v18 =>
  if v18 ≤ (30 : Int32) then (gd (ib (h.1 51 19) 6) (
  lt_ (up h 60 (ix (h.1 51 19)) v3) fun h22 =>
  ob (X10_figure a1 ((h22.1 51 16) + (1 : Int32)) h22) fun r24 =>
  gd (ib (h22.1 51 19) 6) (
  lt_ (up h22 61 (ix (h22.1 51 19)) r24) fun h27 =>
  gd (ib (h27.1 51 19) 6) (
  lt_ (up h27 62 (ix (h27.1 51 19)) v18) fun h30 =>
  lt_ (up h30 51 19 ((h30.1 51 19) + (1 : Int32))) fun h32 =>
  lt_ (up h32 51 16 ((h32.1 51 16) + (4 : Int32))) fun h34 =>
  some ((-9 : Int32), h34)))))
  else (some (((h.1 51 16) + (2 : Int32)), h))))
set_option maxHeartbeats 4000000 in
set_option maxRecDepth 100000 in
theorem w_X10_readOne {x : Cx} {d : Nat} (K : Ok x cX10_readOne RX10 4 (some .int) (d + 2)) (a1 : Int32) (h : Hp)  {z : Int32 × Hp} (E : X10_readOne a1 h = some z) (T : x.2.2.2.2 = (some (.int (z.1)), z.2)) : VV x 0 [(0, .ref (ad x 51)), (1, .int a1)] [] h := by
  unfold X10_readOne at E
  refine V_aload_n K 0 dX10_readOne_0 rfl ?_
  refine V_iload_n K 1 dX10_readOne_1 rfl ?_
  refine V_aload_n K 0 dX10_readOne_2 rfl ?_
  refine gf_X10_88 K dX10_readOne_3 ?_
  obtain ⟨r1, q2, E⟩ := ob_inv E
  refine iv_X10_85 K (c_X10_letterAt _ a1 (h.1 51 16) h q2) dX10_readOne_6 (Nat.le_of_ble_eq_true rfl) ?_
  refine iv_X10_91 K (c_X10_kindOf _ r1 h) dX10_readOne_9 (Nat.le_of_ble_eq_true rfl) ?_
  obtain ⟨v3, e4, E⟩ := lt_inv E
  refine V_top e4 ?_
  refine V_istore_n (lv' := [(2, .int v3), (0, .ref (ad x 51)), (1, .int a1)]) K dX10_readOne_12 (by decide) rfl ?_
  refine V_iload_n K 0 dX10_readOne_13 rfl ?_
  refine V_bp (v := -9) K dX10_readOne_14 rfl ?_
  rcases if_inv E with ⟨c5, E⟩ | ⟨c5, E⟩
  · refine V_ic_eq_t K 28 dX10_readOne_16 (by decide) c5 ?_
    refine V_aload_n K 1 dX10_readOne_28 rfl ?_
    refine gf_X10_88 K dX10_readOne_29 ?_
    cases E
    exact V_iret K dX10_readOne_32 rfl T
  · refine V_ic_eq_f K 28 dX10_readOne_16 (by decide) c5 ?_
    refine V_aload_n K 1 dX10_readOne_19 rfl ?_
    refine gf_X10_94 K dX10_readOne_20 ?_
    refine V_bp (v := 6) K dX10_readOne_23 rfl ?_
    rcases if_inv E with ⟨c6, E⟩ | ⟨c6, E⟩
    · refine V_ic_ne_f K 33 dX10_readOne_25 (by decide) c6 ?_
      refine V_aload_n K 1 dX10_readOne_28 rfl ?_
      refine gf_X10_88 K dX10_readOne_29 ?_
      cases E
      exact V_iret K dX10_readOne_32 rfl T
    · refine V_ic_ne_t K 33 dX10_readOne_25 (by decide) c6 ?_
      refine V_ic (v := 1) K dX10_readOne_33 rfl ?_
      refine V_istore_n (lv' := [(3, .int (1 : Int32)), (2, .int v3), (0, .ref (ad x 51)), (1, .int a1)]) K dX10_readOne_34 (by decide) rfl ?_
      rcases obS1_inv E with ⟨q, q36, E⟩ | ⟨v13, q36, E⟩
      · cases E
        exact V_sub [2, 3, 1, 0] rfl (wl_X10_readOne_s35 K a1 v3 h  _ _ _ q36 T)
      · refine V_sub [2, 3, 1, 0] rfl (wl_X10_readOne_s35 K a1 v3 h  _ _ _ q36 ?_)
        show VV x 67 [(0, .ref (ad x 51)), (1, .int a1), (2, .int v3), (3, .int v13)] [] h
        refine V_bp (v := 10) K dX10_readOne_67 rfl ?_
        refine V_aload_n K 0 dX10_readOne_69 rfl ?_
        refine V_iload_n K 1 dX10_readOne_70 rfl ?_
        refine V_aload_n K 0 dX10_readOne_71 rfl ?_
        refine gf_X10_88 K dX10_readOne_72 ?_
        refine V_ic (v := 2) K dX10_readOne_75 rfl ?_
        refine V_iadd K dX10_readOne_76 ?_
        obtain ⟨r14, q15, E⟩ := ob_inv E
        refine iv_X10_101 K (c_X10_figure _ a1 ((h.1 51 16) + (2 : Int32)) h q15) dX10_readOne_77 (Nat.le_of_ble_eq_true rfl) ?_
        refine V_imul K dX10_readOne_80 ?_
        refine V_aload_n K 0 dX10_readOne_81 rfl ?_
        refine V_iload_n K 1 dX10_readOne_82 rfl ?_
        refine V_aload_n K 0 dX10_readOne_83 rfl ?_
        refine gf_X10_88 K dX10_readOne_84 ?_
        refine V_ic (v := 3) K dX10_readOne_87 rfl ?_
        refine V_iadd K dX10_readOne_88 ?_
        obtain ⟨r16, q17, E⟩ := ob_inv E
        refine iv_X10_101 K (c_X10_figure _ a1 ((h.1 51 16) + (3 : Int32)) h q17) dX10_readOne_89 (Nat.le_of_ble_eq_true rfl) ?_
        refine V_iadd K dX10_readOne_92 ?_
        obtain ⟨v18, e19, E⟩ := lt_inv E
        refine V_top e19 ?_
        refine V_istore_n (lv' := [(3, .int v18), (0, .ref (ad x 51)), (1, .int a1), (2, .int v3)]) K dX10_readOne_93 (by decide) rfl ?_
        refine V_iload_n K 0 dX10_readOne_94 rfl ?_
        refine V_bp (v := 30) K dX10_readOne_95 rfl ?_
        rcases if_inv E with ⟨c20, E⟩ | ⟨c20, E⟩
        · refine V_ic_le_t K 107 dX10_readOne_97 (by decide) c20 ?_
          refine V_aload_n K 1 dX10_readOne_107 rfl ?_
          refine gf_X10_38 K dX10_readOne_108 ?_
          refine V_aload_n K 1 dX10_readOne_111 rfl ?_
          refine gf_X10_94 K dX10_readOne_112 ?_
          refine V_iload_n K 3 dX10_readOne_115 rfl ?_
          obtain ⟨g21, E⟩ := gd_inv E
          obtain ⟨h22, e23, E⟩ := lt_inv E
          refine V_iast K k_60 n_60 g21 dX10_readOne_116 ?_
          refine V_hp e23 ?_
          refine V_aload_n K 1 dX10_readOne_117 rfl ?_
          refine gf_X10_41 K dX10_readOne_118 ?_
          refine V_aload_n K 1 dX10_readOne_121 rfl ?_
          refine gf_X10_94 K dX10_readOne_122 ?_
          refine V_aload_n K 1 dX10_readOne_125 rfl ?_
          refine V_iload_n K 2 dX10_readOne_126 rfl ?_
          refine V_aload_n K 1 dX10_readOne_127 rfl ?_
          refine gf_X10_88 K dX10_readOne_128 ?_
          refine V_ic (v := 1) K dX10_readOne_131 rfl ?_
          refine V_iadd K dX10_readOne_132 ?_
          obtain ⟨r24, q25, E⟩ := ob_inv E
          refine iv_X10_101 K (c_X10_figure _ a1 ((h22.1 51 16) + (1 : Int32)) h22 q25) dX10_readOne_133 (Nat.le_of_ble_eq_true rfl) ?_
          obtain ⟨g26, E⟩ := gd_inv E
          obtain ⟨h27, e28, E⟩ := lt_inv E
          refine V_iast K k_61 n_61 g26 dX10_readOne_136 ?_
          refine V_hp e28 ?_
          refine V_aload_n K 1 dX10_readOne_137 rfl ?_
          refine gf_X10_44 K dX10_readOne_138 ?_
          refine V_aload_n K 1 dX10_readOne_141 rfl ?_
          refine gf_X10_94 K dX10_readOne_142 ?_
          refine V_iload_n K 0 dX10_readOne_145 rfl ?_
          obtain ⟨g29, E⟩ := gd_inv E
          obtain ⟨h30, e31, E⟩ := lt_inv E
          refine V_iast K k_62 n_62 g29 dX10_readOne_146 ?_
          refine V_hp e31 ?_
          refine V_aload_n K 1 dX10_readOne_147 rfl ?_
          refine V_dup K dX10_readOne_148 rfl ?_
          refine gf_X10_94 K dX10_readOne_149 ?_
          refine V_ic (v := 1) K dX10_readOne_152 rfl ?_
          refine V_iadd K dX10_readOne_153 ?_
          obtain ⟨h32, e33, E⟩ := lt_inv E
          refine pf_X10_94 K dX10_readOne_154 ?_
          refine V_hp e33 ?_
          refine V_aload_n K 1 dX10_readOne_157 rfl ?_
          refine V_dup K dX10_readOne_158 rfl ?_
          refine gf_X10_88 K dX10_readOne_159 ?_
          refine V_ic (v := 4) K dX10_readOne_162 rfl ?_
          refine V_iadd K dX10_readOne_163 ?_
          obtain ⟨h34, e35, E⟩ := lt_inv E
          refine pf_X10_88 K dX10_readOne_164 ?_
          refine V_hp e35 ?_
          refine V_bp (v := -9) K dX10_readOne_167 rfl ?_
          cases E
          exact V_iret K dX10_readOne_169 rfl T
        · refine V_ic_le_f K 107 dX10_readOne_97 (by decide) c20 ?_
          refine V_aload_n K 1 dX10_readOne_100 rfl ?_
          refine gf_X10_88 K dX10_readOne_101 ?_
          refine V_ic (v := 2) K dX10_readOne_104 rfl ?_
          refine V_iadd K dX10_readOne_105 ?_
          cases E
          exact V_iret K dX10_readOne_106 rfl T
theorem c_X10_readOne (d : Nat) (a1 : Int32) (h : Hp)  {r : Int32} {h' : Hp} (E : X10_readOne a1 h = some (r, h')) : Runs (d + 2) yX10_readOne cX10_readOne 4 (some .int) (fun f => [.ref (f 51), .int a1]) h (fun _ => some (.int r)) h' :=
  Runs.of (by decide +kernel) (fun _ => Nat.le_of_ble_eq_true rfl) (fun x K T => w_X10_readOne K  a1 h  E T)
def X10_faultOf_s36 (x1 : Int32) (h : Hp) (y2 : Int32) : Option (((Int32 × Hp) ⊕ (Int32)) ⊕ (Int32)) :=
  if (2 : Int32) < y2 then (some (.inl (.inr y2)))
  else (ob (X10_isFigure x1 ((h.1 51 16) + y2) h) fun r11 =>
  if r11 = (0 : Int32) then (some (.inl (.inl (((h.1 51 16) + y2), h))))
  else (lt_ (y2 + (1 : Int32)) fun v14 =>
  some (.inr v14)))
set_option maxHeartbeats 4000000 in
set_option maxRecDepth 100000 in
theorem wl_X10_faultOf_s36 {x : Cx} {d : Nat} (K : Ok x cX10_faultOf RX10 3 (some .int) (d + 3)) (x1 : Int32) (h : Hp)  : ∀ (n : Nat) (s : Int32) (r : ((Int32 × Hp) ⊕ (Int32))), lp (fun s : Int32 => X10_faultOf_s36 x1 h s) n s = some r → (fun r : ((Int32 × Hp) ⊕ (Int32)) => match r with | .inl q => x.2.2.2.2 = (some (.int (q.1)), q.2) | .inr r => VV x 68 [(0, .ref (ad x 51)), (1, .int x1), (2, .int r)] [] h) r → (fun s : Int32 => VV x 36 [(0, .ref (ad x 51)), (1, .int x1), (2, .int s)] [] h) s := by
  refine lp_walk ?_
  intro s z E T
  obtain ⟨y2, e0⟩ : ∃ q, q = s := ⟨_, rfl⟩
  subst e0
  replace E : X10_faultOf_s36 x1 h y2 = some z := E
  unfold X10_faultOf_s36 at E
  show VV x 36 [(0, .ref (ad x 51)), (1, .int x1), (2, .int y2)] [] h
  refine V_iload_n K 2 dX10_faultOf_36 rfl ?_
  refine V_ic (v := 2) K dX10_faultOf_37 rfl ?_
  rcases if_inv E with ⟨c10, E⟩ | ⟨c10, E⟩
  · refine V_ic_gt_t K 68 dX10_faultOf_38 (by decide) c10 ?_
    cases E
    exact V_sub [0, 1, 2] rfl T
  · refine V_ic_gt_f K 68 dX10_faultOf_38 (by decide) c10 ?_
    refine V_aload_n K 0 dX10_faultOf_41 rfl ?_
    refine V_iload_n K 1 dX10_faultOf_42 rfl ?_
    refine V_aload_n K 0 dX10_faultOf_43 rfl ?_
    refine gf_X10_88 K dX10_faultOf_44 ?_
    refine V_iload_n K 2 dX10_faultOf_47 rfl ?_
    refine V_iadd K dX10_faultOf_48 ?_
    obtain ⟨r11, q12, E⟩ := ob_inv E
    refine iv_X10_97 K (c_X10_isFigure _ x1 ((h.1 51 16) + y2) h q12) dX10_faultOf_49 (Nat.le_of_ble_eq_true rfl) ?_
    rcases if_inv E with ⟨c13, E⟩ | ⟨c13, E⟩
    · refine V_if_ne_f K 62 dX10_faultOf_52 (by decide) c13 ?_
      refine V_aload_n K 0 dX10_faultOf_55 rfl ?_
      refine gf_X10_88 K dX10_faultOf_56 ?_
      refine V_iload_n K 2 dX10_faultOf_59 rfl ?_
      refine V_iadd K dX10_faultOf_60 ?_
      cases E
      exact V_iret K dX10_faultOf_61 rfl T
    · refine V_if_ne_t K 62 dX10_faultOf_52 (by decide) c13 ?_
      obtain ⟨v14, e15, E⟩ := lt_inv E
      refine V_iinc (lv' := [(2, .int v14), (0, .ref (ad x 51)), (1, .int x1)]) K 2 dX10_faultOf_62 rfl (by rw [e15]; rfl) (by decide) rfl ?_
      refine V_goto K 36 dX10_faultOf_65 (by decide) ?_
      cases E
      exact V_sub [1, 2, 0] rfl T
def X10_faultOf_s113 (x1 : Int32) (h : Hp) : Option (((Int32 × Hp) ⊕ (Hp)) ⊕ (Hp)) :=
  gd (ib x1 4) (
  if (h.1 51 16) < (h.1 58 (ix x1)) then (ob2 (X10_readOne x1 h) fun r33 h32 =>
  if r33 = (-9 : Int32) then (ob (X10_skipBlanks x1 h32) fun h36 =>
  some (.inr h36))
  else (some (.inl (.inl (r33, h32)))))
  else (if (h.1 51 19) = (0 : Int32) then (ob2 (X10_readOne x1 h) fun r40 h39 =>
  if r40 = (-9 : Int32) then (ob (X10_skipBlanks x1 h39) fun h43 =>
  some (.inr h43))
  else (some (.inl (.inl (r40, h39)))))
  else (some (.inl (.inr h)))))
set_option maxHeartbeats 4000000 in
set_option maxRecDepth 100000 in
theorem wl_X10_faultOf_s113 {x : Cx} {d : Nat} (K : Ok x cX10_faultOf RX10 3 (some .int) (d + 3)) (x1 : Int32)  : ∀ (n : Nat) (s : Hp) (r : ((Int32 × Hp) ⊕ (Hp))), lp (fun s : Hp => X10_faultOf_s113 x1 s) n s = some r → (fun r : ((Int32 × Hp) ⊕ (Hp)) => match r with | .inl q => x.2.2.2.2 = (some (.int (q.1)), q.2) | .inr r => VV x 155 [(0, .ref (ad x 51)), (1, .int x1)] [] r) r → (fun s : Hp => VV x 113 [(0, .ref (ad x 51)), (1, .int x1)] [] s) s := by
  refine lp_walk ?_
  intro s z E T
  obtain ⟨h, e0⟩ : ∃ q, q = s := ⟨_, rfl⟩
  subst e0
  replace E : X10_faultOf_s113 x1 h = some z := E
  unfold X10_faultOf_s113 at E
  show VV x 113 [(0, .ref (ad x 51)), (1, .int x1)] [] h
  refine V_aload_n K 0 dX10_faultOf_113 rfl ?_
  refine gf_X10_88 K dX10_faultOf_114 ?_
  refine V_aload_n K 0 dX10_faultOf_117 rfl ?_
  refine gf_X10_28 K dX10_faultOf_118 ?_
  refine V_iload_n K 1 dX10_faultOf_121 rfl ?_
  obtain ⟨g29, E⟩ := gd_inv E
  refine V_iald K k_58 n_58 g29 dX10_faultOf_122 ?_
  rcases if_inv E with ⟨c30, E⟩ | ⟨c30, E⟩
  · refine V_ic_lt_t K 133 dX10_faultOf_123 (by decide) c30 ?_
    refine V_aload_n K 0 dX10_faultOf_133 rfl ?_
    refine V_iload_n K 1 dX10_faultOf_134 rfl ?_
    obtain ⟨r33, h32, q31, E⟩ := ob2_inv E
    refine iv_X10_114 K (c_X10_readOne _ x1 h q31) dX10_faultOf_135 (Nat.le_of_ble_eq_true rfl) ?_
    refine V_istore_n (lv' := [(2, .int r33), (0, .ref (ad x 51)), (1, .int x1)]) K dX10_faultOf_138 (by decide) rfl ?_
    refine V_iload_n K 0 dX10_faultOf_139 rfl ?_
    refine V_bp (v := -9) K dX10_faultOf_140 rfl ?_
    rcases if_inv E with ⟨c34, E⟩ | ⟨c34, E⟩
    · refine V_ic_eq_t K 147 dX10_faultOf_142 (by decide) c34 ?_
      refine V_aload_n K 1 dX10_faultOf_147 rfl ?_
      refine V_iload_n K 2 dX10_faultOf_148 rfl ?_
      obtain ⟨h36, q35, E⟩ := ob_inv E
      refine iv_X10_104 K (c_X10_skipBlanks _ x1 h32 q35) dX10_faultOf_149 (Nat.le_of_ble_eq_true rfl) ?_
      refine V_goto K 113 dX10_faultOf_152 (by decide) ?_
      cases E
      exact V_sub [1, 2] rfl T
    · refine V_ic_eq_f K 147 dX10_faultOf_142 (by decide) c34 ?_
      refine V_iload_n K 0 dX10_faultOf_145 rfl ?_
      cases E
      exact V_iret K dX10_faultOf_146 rfl T
  · refine V_ic_lt_f K 133 dX10_faultOf_123 (by decide) c30 ?_
    refine V_aload_n K 0 dX10_faultOf_126 rfl ?_
    refine gf_X10_94 K dX10_faultOf_127 ?_
    rcases if_inv E with ⟨c37, E⟩ | ⟨c37, E⟩
    · refine V_if_ne_f K 155 dX10_faultOf_130 (by decide) c37 ?_
      refine V_aload_n K 0 dX10_faultOf_133 rfl ?_
      refine V_iload_n K 1 dX10_faultOf_134 rfl ?_
      obtain ⟨r40, h39, q38, E⟩ := ob2_inv E
      refine iv_X10_114 K (c_X10_readOne _ x1 h q38) dX10_faultOf_135 (Nat.le_of_ble_eq_true rfl) ?_
      refine V_istore_n (lv' := [(2, .int r40), (0, .ref (ad x 51)), (1, .int x1)]) K dX10_faultOf_138 (by decide) rfl ?_
      refine V_iload_n K 0 dX10_faultOf_139 rfl ?_
      refine V_bp (v := -9) K dX10_faultOf_140 rfl ?_
      rcases if_inv E with ⟨c41, E⟩ | ⟨c41, E⟩
      · refine V_ic_eq_t K 147 dX10_faultOf_142 (by decide) c41 ?_
        refine V_aload_n K 1 dX10_faultOf_147 rfl ?_
        refine V_iload_n K 2 dX10_faultOf_148 rfl ?_
        obtain ⟨h43, q42, E⟩ := ob_inv E
        refine iv_X10_104 K (c_X10_skipBlanks _ x1 h39 q42) dX10_faultOf_149 (Nat.le_of_ble_eq_true rfl) ?_
        refine V_goto K 113 dX10_faultOf_152 (by decide) ?_
        cases E
        exact V_sub [1, 2] rfl T
      · refine V_ic_eq_f K 147 dX10_faultOf_142 (by decide) c41 ?_
        refine V_iload_n K 0 dX10_faultOf_145 rfl ?_
        cases E
        exact V_iret K dX10_faultOf_146 rfl T
    · refine V_if_ne_t K 155 dX10_faultOf_130 (by decide) c37 ?_
      cases E
      exact V_sub [0, 1] rfl T
def X10_faultOf (a1 : Int32) (h : Hp) : Option (Int32 × Hp) :=
  lt_ (up h 51 16 (0 : Int32)) fun h1 =>
  lt_ (up h1 51 19 (0 : Int32)) fun h3 =>
  ob (X10_skipBlanks a1 h3) fun h6 =>
  ob (X10_letterAt a1 (h6.1 51 16) h6) fun r7 =>
  if r7 = (100 : Int32) then (obS1 (lp (fun s : Int32 => X10_faultOf_s36 a1 h6 s) FU (1 : Int32)) (fun q => some q) fun v16 =>
  ob (X10_figure a1 ((h6.1 51 16) + (1 : Int32)) h6) fun r17 =>
  lt_ (up h6 51 17 r17) fun h19 =>
  ob (X10_figure a1 ((h19.1 51 16) + (2 : Int32)) h19) fun r21 =>
  lt_ (up h19 51 18 r21) fun h23 =>
  lt_ (up h23 51 16 ((h23.1 51 16) + (3 : Int32))) fun h25 =>
  ob (X10_skipBlanks a1 h25) fun h28 =>
  obS1 (lp (fun s : Hp => X10_faultOf_s113 a1 s) FU h28) (fun q => some q) fun h44 =>
  some ((-9 : Int32), h44))
  else (some (h6.1 51 16, h6))
set_option maxHeartbeats 4000000 in
set_option maxRecDepth 100000 in
theorem w_X10_faultOf {x : Cx} {d : Nat} (K : Ok x cX10_faultOf RX10 3 (some .int) (d + 3)) (a1 : Int32) (h : Hp)  {z : Int32 × Hp} (E : X10_faultOf a1 h = some z) (T : x.2.2.2.2 = (some (.int (z.1)), z.2)) : VV x 0 [(0, .ref (ad x 51)), (1, .int a1)] [] h := by
  unfold X10_faultOf at E
  refine V_aload_n K 0 dX10_faultOf_0 rfl ?_
  refine V_ic (v := 0) K dX10_faultOf_1 rfl ?_
  obtain ⟨h1, e2, E⟩ := lt_inv E
  refine pf_X10_88 K dX10_faultOf_2 ?_
  refine V_hp e2 ?_
  refine V_aload_n K 0 dX10_faultOf_5 rfl ?_
  refine V_ic (v := 0) K dX10_faultOf_6 rfl ?_
  obtain ⟨h3, e4, E⟩ := lt_inv E
  refine pf_X10_94 K dX10_faultOf_7 ?_
  refine V_hp e4 ?_
  refine V_aload_n K 0 dX10_faultOf_10 rfl ?_
  refine V_iload_n K 1 dX10_faultOf_11 rfl ?_
  obtain ⟨h6, q5, E⟩ := ob_inv E
  refine iv_X10_104 K (c_X10_skipBlanks _ a1 h3 q5) dX10_faultOf_12 (Nat.le_of_ble_eq_true rfl) ?_
  refine V_aload_n K 0 dX10_faultOf_15 rfl ?_
  refine V_iload_n K 1 dX10_faultOf_16 rfl ?_
  refine V_aload_n K 0 dX10_faultOf_17 rfl ?_
  refine gf_X10_88 K dX10_faultOf_18 ?_
  obtain ⟨r7, q8, E⟩ := ob_inv E
  refine iv_X10_85 K (c_X10_letterAt _ a1 (h6.1 51 16) h6 q8) dX10_faultOf_21 (Nat.le_of_ble_eq_true rfl) ?_
  refine V_bp (v := 100) K dX10_faultOf_24 rfl ?_
  rcases if_inv E with ⟨c9, E⟩ | ⟨c9, E⟩
  · refine V_ic_eq_t K 34 dX10_faultOf_26 (by decide) c9 ?_
    refine V_ic (v := 1) K dX10_faultOf_34 rfl ?_
    refine V_istore_n (lv' := [(2, .int (1 : Int32)), (0, .ref (ad x 51)), (1, .int a1)]) K dX10_faultOf_35 (by decide) rfl ?_
    rcases obS1_inv E with ⟨q, q46, E⟩ | ⟨v16, q46, E⟩
    · cases E
      exact V_sub [1, 2, 0] rfl (wl_X10_faultOf_s36 K a1 h6  _ _ _ q46 T)
    · refine V_sub [1, 2, 0] rfl (wl_X10_faultOf_s36 K a1 h6  _ _ _ q46 ?_)
      show VV x 68 [(0, .ref (ad x 51)), (1, .int a1), (2, .int v16)] [] h6
      refine V_aload_n K 0 dX10_faultOf_68 rfl ?_
      refine V_aload_n K 0 dX10_faultOf_69 rfl ?_
      refine V_iload_n K 1 dX10_faultOf_70 rfl ?_
      refine V_aload_n K 0 dX10_faultOf_71 rfl ?_
      refine gf_X10_88 K dX10_faultOf_72 ?_
      refine V_ic (v := 1) K dX10_faultOf_75 rfl ?_
      refine V_iadd K dX10_faultOf_76 ?_
      obtain ⟨r17, q18, E⟩ := ob_inv E
      refine iv_X10_101 K (c_X10_figure _ a1 ((h6.1 51 16) + (1 : Int32)) h6 q18) dX10_faultOf_77 (Nat.le_of_ble_eq_true rfl) ?_
      obtain ⟨h19, e20, E⟩ := lt_inv E
      refine pf_X10_108 K dX10_faultOf_80 ?_
      refine V_hp e20 ?_
      refine V_aload_n K 0 dX10_faultOf_83 rfl ?_
      refine V_aload_n K 0 dX10_faultOf_84 rfl ?_
      refine V_iload_n K 1 dX10_faultOf_85 rfl ?_
      refine V_aload_n K 0 dX10_faultOf_86 rfl ?_
      refine gf_X10_88 K dX10_faultOf_87 ?_
      refine V_ic (v := 2) K dX10_faultOf_90 rfl ?_
      refine V_iadd K dX10_faultOf_91 ?_
      obtain ⟨r21, q22, E⟩ := ob_inv E
      refine iv_X10_101 K (c_X10_figure _ a1 ((h19.1 51 16) + (2 : Int32)) h19 q22) dX10_faultOf_92 (Nat.le_of_ble_eq_true rfl) ?_
      obtain ⟨h23, e24, E⟩ := lt_inv E
      refine pf_X10_111 K dX10_faultOf_95 ?_
      refine V_hp e24 ?_
      refine V_aload_n K 0 dX10_faultOf_98 rfl ?_
      refine V_dup K dX10_faultOf_99 rfl ?_
      refine gf_X10_88 K dX10_faultOf_100 ?_
      refine V_ic (v := 3) K dX10_faultOf_103 rfl ?_
      refine V_iadd K dX10_faultOf_104 ?_
      obtain ⟨h25, e26, E⟩ := lt_inv E
      refine pf_X10_88 K dX10_faultOf_105 ?_
      refine V_hp e26 ?_
      refine V_aload_n K 0 dX10_faultOf_108 rfl ?_
      refine V_iload_n K 1 dX10_faultOf_109 rfl ?_
      obtain ⟨h28, q27, E⟩ := ob_inv E
      refine iv_X10_104 K (c_X10_skipBlanks _ a1 h25 q27) dX10_faultOf_110 (Nat.le_of_ble_eq_true rfl) ?_
      rcases obS1_inv E with ⟨q, q45, E⟩ | ⟨h44, q45, E⟩
      · cases E
        exact V_sub [0, 1] rfl (wl_X10_faultOf_s113 K a1  _ _ _ q45 T)
      · refine V_sub [0, 1] rfl (wl_X10_faultOf_s113 K a1  _ _ _ q45 ?_)
        show VV x 155 [(0, .ref (ad x 51)), (1, .int a1)] [] h44
        refine V_bp (v := -9) K dX10_faultOf_155 rfl ?_
        cases E
        exact V_iret K dX10_faultOf_157 rfl T
  · refine V_ic_eq_f K 34 dX10_faultOf_26 (by decide) c9 ?_
    refine V_aload_n K 0 dX10_faultOf_29 rfl ?_
    refine gf_X10_88 K dX10_faultOf_30 ?_
    cases E
    exact V_iret K dX10_faultOf_33 rfl T
theorem c_X10_faultOf (d : Nat) (a1 : Int32) (h : Hp)  {r : Int32} {h' : Hp} (E : X10_faultOf a1 h = some (r, h')) : Runs (d + 3) yX10_faultOf cX10_faultOf 3 (some .int) (fun f => [.ref (f 51), .int a1]) h (fun _ => some (.int r)) h' :=
  Runs.of (by decide +kernel) (fun _ => Nat.le_of_ble_eq_true rfl) (fun x K T => w_X10_faultOf K  a1 h  E T)
def X10_fault (a1 : Int32) (h : Hp) : Option (Int32 × Hp) :=
  if (X10_isText a1) = (0 : Int32) then (some ((-1 : Int32), h))
  else (gd (ib a1 4) (
  if (h.1 58 (ix a1)) = (-9 : Int32) then (ob2 (X10_find (1 : Int32) h) fun r6 h5 =>
  some (r6, h5))
  else (ob2 (X10_faultOf a1 h) fun r9 h8 =>
  some (r9, h8))))
set_option maxHeartbeats 4000000 in
set_option maxRecDepth 100000 in
theorem w_X10_fault {x : Cx} {d : Nat} (K : Ok x cX10_fault RX10 2 (some .int) (d + 4)) (a1 : Int32) (h : Hp)  {z : Int32 × Hp} (E : X10_fault a1 h = some z) (T : x.2.2.2.2 = (some (.int (z.1)), z.2)) : VV x 0 [(0, .ref (ad x 51)), (1, .int a1)] [] h := by
  unfold X10_fault at E
  refine V_iload_n K 1 dX10_fault_0 rfl ?_
  refine iv_X10_82 K (c_X10_isText _ a1 h) dX10_fault_1 (Nat.le_of_ble_eq_true rfl) ?_
  rcases if_inv E with ⟨c1, E⟩ | ⟨c1, E⟩
  · refine V_if_ne_f K 9 dX10_fault_4 (by decide) c1 ?_
    refine V_ic (v := -1) K dX10_fault_7 rfl ?_
    cases E
    exact V_iret K dX10_fault_8 rfl T
  · refine V_if_ne_t K 9 dX10_fault_4 (by decide) c1 ?_
    refine V_aload_n K 0 dX10_fault_9 rfl ?_
    refine gf_X10_28 K dX10_fault_10 ?_
    refine V_iload_n K 1 dX10_fault_13 rfl ?_
    obtain ⟨g2, E⟩ := gd_inv E
    refine V_iald K k_58 n_58 g2 dX10_fault_14 ?_
    refine V_bp (v := -9) K dX10_fault_15 rfl ?_
    rcases if_inv E with ⟨c3, E⟩ | ⟨c3, E⟩
    · refine V_ic_ne_f K 28 dX10_fault_17 (by decide) c3 ?_
      refine V_aload_n K 0 dX10_fault_20 rfl ?_
      refine V_ic (v := 1) K dX10_fault_21 rfl ?_
      obtain ⟨r6, h5, q4, E⟩ := ob2_inv E
      refine iv_X10_71 K (c_X10_find _ (1 : Int32) h q4) dX10_fault_22 (Nat.le_of_ble_eq_true rfl) ?_
      refine V_goto K 33 dX10_fault_25 (by decide) ?_
      cases E
      exact V_iret K dX10_fault_33 rfl T
    · refine V_ic_ne_t K 28 dX10_fault_17 (by decide) c3 ?_
      refine V_aload_n K 0 dX10_fault_28 rfl ?_
      refine V_iload_n K 1 dX10_fault_29 rfl ?_
      obtain ⟨r9, h8, q7, E⟩ := ob2_inv E
      refine iv_X10_117 K (c_X10_faultOf _ a1 h q7) dX10_fault_30 (Nat.le_of_ble_eq_true rfl) ?_
      cases E
      exact V_iret K dX10_fault_33 rfl T
theorem c_X10_fault (d : Nat) (a1 : Int32) (h : Hp)  {r : Int32} {h' : Hp} (E : X10_fault a1 h = some (r, h')) : Runs (d + 4) yX10_fault cX10_fault 2 (some .int) (fun f => [.ref (f 51), .int a1]) h (fun _ => some (.int r)) h' :=
  Runs.of (by decide +kernel) (fun _ => Nat.le_of_ble_eq_true rfl) (fun x K T => w_X10_fault K  a1 h  E T)
def X10_finding  (h : Hp) : Int32 :=
  h.1 51 12
set_option maxHeartbeats 4000000 in
set_option maxRecDepth 100000 in
theorem w_X10_finding {x : Cx} {d : Nat} (K : Ok x cX10_finding RX10 1 (some .int) (d + 0))  (h : Hp)  {z : Int32} (E : X10_finding  h = z) (T : x.2.2.2.2 = (some (.int z), h)) : VV x 0 [(0, .ref (ad x 51))] [] h := by
  unfold X10_finding at E
  refine V_aload_n K 0 dX10_finding_0 rfl ?_
  refine gf_X10_56 K dX10_finding_1 ?_
  cases E
  exact V_iret K dX10_finding_4 rfl T
theorem c_X10_finding (d : Nat)  (h : Hp)  : Runs (d + 0) yX10_finding cX10_finding 1 (some .int) (fun f => [.ref (f 51)]) h (fun _ => some (.int (X10_finding  h))) h :=
  Runs.of (by decide +kernel) (fun _ => Nat.le_of_ble_eq_true rfl) (fun x K T => w_X10_finding K   h  rfl T)
def X10_findings (a1 : Int32) (h : Hp) : Option Int32 :=
  if (X10_in a1 (1 : Int32) (5 : Int32)) = (0 : Int32) then (some (-1 : Int32))
  else (gd (ib a1 6) (
  some (h.1 59 (ix a1))))
set_option maxHeartbeats 4000000 in
set_option maxRecDepth 100000 in
theorem w_X10_findings {x : Cx} {d : Nat} (K : Ok x cX10_findings RX10 2 (some .int) (d + 1)) (a1 : Int32) (h : Hp)  {z : Int32} (E : X10_findings a1 h = some z) (T : x.2.2.2.2 = (some (.int z), h)) : VV x 0 [(0, .ref (ad x 51)), (1, .int a1)] [] h := by
  unfold X10_findings at E
  refine V_iload_n K 1 dX10_findings_0 rfl ?_
  refine V_ic (v := 1) K dX10_findings_1 rfl ?_
  refine V_ic (v := 5) K dX10_findings_2 rfl ?_
  refine iv_X10_63 K (c_X10_in _ a1 (1 : Int32) (5 : Int32) h) dX10_findings_3 (Nat.le_of_ble_eq_true rfl) ?_
  rcases if_inv E with ⟨c1, E⟩ | ⟨c1, E⟩
  · refine V_if_eq_t K 18 dX10_findings_6 (by decide) c1 ?_
    refine V_ic (v := -1) K dX10_findings_18 rfl ?_
    cases E
    exact V_iret K dX10_findings_19 rfl T
  · refine V_if_eq_f K 18 dX10_findings_6 (by decide) c1 ?_
    refine V_aload_n K 0 dX10_findings_9 rfl ?_
    refine gf_X10_31 K dX10_findings_10 ?_
    refine V_iload_n K 1 dX10_findings_13 rfl ?_
    obtain ⟨g2, E⟩ := gd_inv E
    refine V_iald K k_59 n_59 g2 dX10_findings_14 ?_
    refine V_goto K 19 dX10_findings_15 (by decide) ?_
    cases E
    exact V_iret K dX10_findings_19 rfl T
theorem c_X10_findings (d : Nat) (a1 : Int32) (h : Hp)  {r : Int32} (E : X10_findings a1 h = some r) : Runs (d + 1) yX10_findings cX10_findings 2 (some .int) (fun f => [.ref (f 51), .int a1]) h (fun _ => some (.int r)) h :=
  Runs.of (by decide +kernel) (fun _ => Nat.le_of_ble_eq_true rfl) (fun x K T => w_X10_findings K  a1 h  E T)
