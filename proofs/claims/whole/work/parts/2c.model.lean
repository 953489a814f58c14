def X10_frontsThere_s4 (h : Hp) (y1 : Int32) (y2 : Int32) : Option ((Int32 × Int32) ⊕ (Int32 × Int32)) :=
  if (3 : Int32) ≤ y2 then (some (.inl (y1, y2)))
  else (gd (ib y2 3) (
  ob (if (h.1 54 (ix y2)) = (-9 : Int32) then (some (0 : Int32))
  else (some (1 : Int32))) fun v3 =>
  lt_ (y1 + v3) fun v5 =>
  lt_ (y2 + (1 : Int32)) fun v7 =>
  some (.inr (v5, v7))))
set_option maxHeartbeats 4000000 in
set_option maxRecDepth 100000 in
theorem wl_X10_frontsThere_s4 {x : Cx} {d : Nat} (K : Ok x cX10_frontsThere RX10 3 (some .int) (d + 0)) (h : Hp)  : ∀ (n : Nat) (s : Int32 × Int32) (r : (Int32 × Int32)), lp (fun s : Int32 × Int32 => X10_frontsThere_s4 h s.1 s.2) n s = some r → (fun r : (Int32 × Int32) => VV x 34 [(0, .ref (ad x 51)), (1, .int (r.1)), (2, .int (r.2))] [] h) r → (fun s : Int32 × Int32 => VV x 4 [(0, .ref (ad x 51)), (1, .int (s.1)), (2, .int (s.2))] [] h) s := by
  refine lp_walk ?_
  intro s z E T
  obtain ⟨y1, y2⟩ := s
  replace E : X10_frontsThere_s4 h y1 y2 = some z := E
  unfold X10_frontsThere_s4 at E
  show VV x 4 [(0, .ref (ad x 51)), (1, .int y1), (2, .int y2)] [] h
  refine V_iload_n K 2 dX10_frontsThere_4 rfl ?_
  refine V_ic (v := 3) K dX10_frontsThere_5 rfl ?_
  rcases if_inv E with ⟨c1, E⟩ | ⟨c1, E⟩
  · refine V_ic_ge_t K 34 dX10_frontsThere_6 (by decide) c1 ?_
    cases E
    exact V_sub [0, 1, 2] rfl T
  · refine V_ic_ge_f K 34 dX10_frontsThere_6 (by decide) c1 ?_
    refine V_iload_n K 1 dX10_frontsThere_9 rfl ?_
    refine V_aload_n K 0 dX10_frontsThere_10 rfl ?_
    refine gf_X10_16 K dX10_frontsThere_11 ?_
    refine V_iload_n K 2 dX10_frontsThere_14 rfl ?_
    obtain ⟨g2, E⟩ := gd_inv E
    refine V_iald K k_54 n_54 g2 dX10_frontsThere_15 ?_
    refine V_bp (v := -9) K dX10_frontsThere_16 rfl ?_
    obtain ⟨v3, q9, E⟩ := ob_inv E
    have T9 : VV x 26 [(0, .ref (ad x 51)), (2, .int y2)] [.int v3, .int y1] h := by
      refine V_iadd K dX10_frontsThere_26 ?_
      obtain ⟨v5, e6, E⟩ := lt_inv E
      refine V_top e6 ?_
      refine V_istore_n (lv' := [(1, .int v5), (0, .ref (ad x 51)), (2, .int y2)]) K dX10_frontsThere_27 (by decide) rfl ?_
      obtain ⟨v7, e8, E⟩ := lt_inv E
      refine V_iinc (lv' := [(2, .int v7), (1, .int v5), (0, .ref (ad x 51))]) K 2 dX10_frontsThere_28 rfl (by rw [e8]; rfl) (by decide) rfl ?_
      refine V_goto K 4 dX10_frontsThere_31 (by decide) ?_
      cases E
      exact V_sub [2, 1, 0] rfl T
    have E := q9
    have T := T9
    rcases if_inv E with ⟨c4, E⟩ | ⟨c4, E⟩
    · refine V_ic_ne_f K 25 dX10_frontsThere_18 (by decide) c4 ?_
      refine V_ic (v := 0) K dX10_frontsThere_21 rfl ?_
      refine V_goto K 26 dX10_frontsThere_22 (by decide) ?_
      cases E
      exact V_sub [0, 2] rfl T
    · refine V_ic_ne_t K 25 dX10_frontsThere_18 (by decide) c4 ?_
      refine V_ic (v := 1) K dX10_frontsThere_25 rfl ?_
      cases E
      exact V_sub [0, 2] rfl T
def X10_frontsThere  (h : Hp) : Option Int32 :=
  ob2 (lp (fun s : Int32 × Int32 => X10_frontsThere_s4 h s.1 s.2) FU ((0 : Int32), (0 : Int32))) fun v10 v11 =>
  some v10
set_option maxHeartbeats 4000000 in
set_option maxRecDepth 100000 in
theorem w_X10_frontsThere {x : Cx} {d : Nat} (K : Ok x cX10_frontsThere RX10 3 (some .int) (d + 0))  (h : Hp)  {z : Int32} (E : X10_frontsThere  h = some z) (T : x.2.2.2.2 = (some (.int z), h)) : VV x 0 [(0, .ref (ad x 51))] [] h := by
  unfold X10_frontsThere at E
  refine V_ic (v := 0) K dX10_frontsThere_0 rfl ?_
  refine V_istore_n (lv' := [(1, .int (0 : Int32)), (0, .ref (ad x 51))]) K dX10_frontsThere_1 (by decide) rfl ?_
  refine V_ic (v := 0) K dX10_frontsThere_2 rfl ?_
  refine V_istore_n (lv' := [(2, .int (0 : Int32)), (1, .int (0 : Int32)), (0, .ref (ad x 51))]) K dX10_frontsThere_3 (by decide) rfl ?_
  obtain ⟨v10, v11, q12, E⟩ := ob2_inv E
  refine V_sub [2, 1, 0] rfl (wl_X10_frontsThere_s4 K h  _ _ _ q12 ?_)
  show VV x 34 [(0, .ref (ad x 51)), (1, .int v10), (2, .int v11)] [] h
  refine V_iload_n K 1 dX10_frontsThere_34 rfl ?_
  cases E
  exact V_iret K dX10_frontsThere_35 rfl T
theorem c_X10_frontsThere (d : Nat)  (h : Hp)  {r : Int32} (E : X10_frontsThere  h = some r) : Runs (d + 0) yX10_frontsThere cX10_frontsThere 3 (some .int) (fun f => [.ref (f 51)]) h (fun _ => some (.int r)) h :=
  Runs.of (by decide +kernel) (fun _ => Nat.le_of_ble_eq_true rfl) (fun x K T => w_X10_frontsThere K   h  E T)
def X10_count (a1 : Int32) (h : Hp) : Option Int32 :=
  if a1 = (0 : Int32) then (some (h.1 51 2))
  else (if a1 = (1 : Int32) then (gd (ib ((X10_now h) + (12 : Int32)) 2805) (
  some (h.1 52 (ix ((X10_now h) + (12 : Int32))))))
  else (if a1 = (2 : Int32) then (gd (ib ((X10_now h) + (13 : Int32)) 2805) (
  some (h.1 52 (ix ((X10_now h) + (13 : Int32))))))
  else (if a1 = (3 : Int32) then (gd (ib ((X10_now h) + (14 : Int32)) 2805) (
  some (h.1 52 (ix ((X10_now h) + (14 : Int32))))))
  else (if a1 = (4 : Int32) then (gd (ib ((X10_now h) + (15 : Int32)) 2805) (
  some (h.1 52 (ix ((X10_now h) + (15 : Int32))))))
  else (if a1 = (5 : Int32) then (gd (ib ((X10_now h) + (16 : Int32)) 2805) (
  some (h.1 52 (ix ((X10_now h) + (16 : Int32))))))
  else (if a1 = (6 : Int32) then (some (h.1 51 5))
  else (if a1 = (7 : Int32) then (some (h.1 51 3))
  else (if a1 = (8 : Int32) then (some (h.1 51 4))
  else (if a1 = (9 : Int32) then (ob (X10_allHave (X10_now h) h) fun r16 =>
  some r16)
  else (if a1 = (10 : Int32) then (ob (X10_manyOf (1 : Int32) h) fun r19 =>
  some r19)
  else (if a1 = (11 : Int32) then (ob (X10_manyOf (3 : Int32) h) fun r22 =>
  some r22)
  else (if a1 = (12 : Int32) then (ob (X10_rowsThere h) fun r25 =>
  some r25)
  else (if a1 = (13 : Int32) then (ob (X10_textsThere h) fun r28 =>
  some r28)
  else (if a1 = (14 : Int32) then (ob (X10_frontsThere h) fun r31 =>
  some r31)
  else (some (-1 : Int32))))))))))))))))
set_option maxHeartbeats 4000000 in
set_option maxRecDepth 100000 in
theorem w_X10_count {x : Cx} {d : Nat} (K : Ok x cX10_count RX10 2 (some .int) (d + 2)) (a1 : Int32) (h : Hp)  {z : Int32} (E : X10_count a1 h = some z) (T : x.2.2.2.2 = (some (.int z), h)) : VV x 0 [(0, .ref (ad x 51)), (1, .int a1)] [] h := by
  unfold X10_count at E
  refine V_iload_n K 1 dX10_count_0 rfl ?_
  rcases if_inv E with ⟨c1, E⟩ | ⟨c1, E⟩
  · refine V_tin (off := 75) K 76 dX10_count_1 (by rw [c1]; decide) (by rw [c1]; decide) (by rw [c1]; rfl) (by decide) ?_
    refine V_aload_n K 0 dX10_count_76 rfl ?_
    refine gf_X10_120 K dX10_count_77 ?_
    cases E
    exact V_iret K dX10_count_80 rfl T
  · rcases if_inv E with ⟨c2, E⟩ | ⟨c2, E⟩
    · refine V_tin (off := 80) K 81 dX10_count_1 (by rw [c2]; decide) (by rw [c2]; decide) (by rw [c2]; rfl) (by decide) ?_
      refine V_aload_n K 0 dX10_count_81 rfl ?_
      refine gf_X10_7 K dX10_count_82 ?_
      refine V_aload_n K 0 dX10_count_85 rfl ?_
      refine iv_X10_145 K (c_X10_now _ h) dX10_count_86 (Nat.le_of_ble_eq_true rfl) ?_
      refine V_bp (v := 12) K dX10_count_89 rfl ?_
      refine V_iadd K dX10_count_91 ?_
      obtain ⟨g3, E⟩ := gd_inv E
      refine V_iald K k_52 n_52 g3 dX10_count_92 ?_
      cases E
      exact V_iret K dX10_count_93 rfl T
    · rcases if_inv E with ⟨c4, E⟩ | ⟨c4, E⟩
      · refine V_tin (off := 93) K 94 dX10_count_1 (by rw [c4]; decide) (by rw [c4]; decide) (by rw [c4]; rfl) (by decide) ?_
        refine V_aload_n K 0 dX10_count_94 rfl ?_
        refine gf_X10_7 K dX10_count_95 ?_
        refine V_aload_n K 0 dX10_count_98 rfl ?_
        refine iv_X10_145 K (c_X10_now _ h) dX10_count_99 (Nat.le_of_ble_eq_true rfl) ?_
        refine V_bp (v := 13) K dX10_count_102 rfl ?_
        refine V_iadd K dX10_count_104 ?_
        obtain ⟨g5, E⟩ := gd_inv E
        refine V_iald K k_52 n_52 g5 dX10_count_105 ?_
        cases E
        exact V_iret K dX10_count_106 rfl T
      · rcases if_inv E with ⟨c6, E⟩ | ⟨c6, E⟩
        · refine V_tin (off := 106) K 107 dX10_count_1 (by rw [c6]; decide) (by rw [c6]; decide) (by rw [c6]; rfl) (by decide) ?_
          refine V_aload_n K 0 dX10_count_107 rfl ?_
          refine gf_X10_7 K dX10_count_108 ?_
          refine V_aload_n K 0 dX10_count_111 rfl ?_
          refine iv_X10_145 K (c_X10_now _ h) dX10_count_112 (Nat.le_of_ble_eq_true rfl) ?_
          refine V_bp (v := 14) K dX10_count_115 rfl ?_
          refine V_iadd K dX10_count_117 ?_
          obtain ⟨g7, E⟩ := gd_inv E
          refine V_iald K k_52 n_52 g7 dX10_count_118 ?_
          cases E
          exact V_iret K dX10_count_119 rfl T
        · rcases if_inv E with ⟨c8, E⟩ | ⟨c8, E⟩
          · refine V_tin (off := 119) K 120 dX10_count_1 (by rw [c8]; decide) (by rw [c8]; decide) (by rw [c8]; rfl) (by decide) ?_
            refine V_aload_n K 0 dX10_count_120 rfl ?_
            refine gf_X10_7 K dX10_count_121 ?_
            refine V_aload_n K 0 dX10_count_124 rfl ?_
            refine iv_X10_145 K (c_X10_now _ h) dX10_count_125 (Nat.le_of_ble_eq_true rfl) ?_
            refine V_bp (v := 15) K dX10_count_128 rfl ?_
            refine V_iadd K dX10_count_130 ?_
            obtain ⟨g9, E⟩ := gd_inv E
            refine V_iald K k_52 n_52 g9 dX10_count_131 ?_
            cases E
            exact V_iret K dX10_count_132 rfl T
          · rcases if_inv E with ⟨c10, E⟩ | ⟨c10, E⟩
            · refine V_tin (off := 132) K 133 dX10_count_1 (by rw [c10]; decide) (by rw [c10]; decide) (by rw [c10]; rfl) (by decide) ?_
              refine V_aload_n K 0 dX10_count_133 rfl ?_
              refine gf_X10_7 K dX10_count_134 ?_
              refine V_aload_n K 0 dX10_count_137 rfl ?_
              refine iv_X10_145 K (c_X10_now _ h) dX10_count_138 (Nat.le_of_ble_eq_true rfl) ?_
              refine V_bp (v := 16) K dX10_count_141 rfl ?_
              refine V_iadd K dX10_count_143 ?_
              obtain ⟨g11, E⟩ := gd_inv E
              refine V_iald K k_52 n_52 g11 dX10_count_144 ?_
              cases E
              exact V_iret K dX10_count_145 rfl T
            · rcases if_inv E with ⟨c12, E⟩ | ⟨c12, E⟩
              · refine V_tin (off := 145) K 146 dX10_count_1 (by rw [c12]; decide) (by rw [c12]; decide) (by rw [c12]; rfl) (by decide) ?_
                refine V_aload_n K 0 dX10_count_146 rfl ?_
                refine gf_X10_129 K dX10_count_147 ?_
                cases E
                exact V_iret K dX10_count_150 rfl T
              · rcases if_inv E with ⟨c13, E⟩ | ⟨c13, E⟩
                · refine V_tin (off := 150) K 151 dX10_count_1 (by rw [c13]; decide) (by rw [c13]; decide) (by rw [c13]; rfl) (by decide) ?_
                  refine V_aload_n K 0 dX10_count_151 rfl ?_
                  refine gf_X10_123 K dX10_count_152 ?_
                  cases E
                  exact V_iret K dX10_count_155 rfl T
                · rcases if_inv E with ⟨c14, E⟩ | ⟨c14, E⟩
                  · refine V_tin (off := 155) K 156 dX10_count_1 (by rw [c14]; decide) (by rw [c14]; decide) (by rw [c14]; rfl) (by decide) ?_
                    refine V_aload_n K 0 dX10_count_156 rfl ?_
                    refine gf_X10_126 K dX10_count_157 ?_
                    cases E
                    exact V_iret K dX10_count_160 rfl T
                  · rcases if_inv E with ⟨c15, E⟩ | ⟨c15, E⟩
                    · refine V_tin (off := 160) K 161 dX10_count_1 (by rw [c15]; decide) (by rw [c15]; decide) (by rw [c15]; rfl) (by decide) ?_
                      refine V_aload_n K 0 dX10_count_161 rfl ?_
                      refine V_aload_n K 0 dX10_count_162 rfl ?_
                      refine iv_X10_145 K (c_X10_now _ h) dX10_count_163 (Nat.le_of_ble_eq_true rfl) ?_
                      obtain ⟨r16, q17, E⟩ := ob_inv E
                      refine iv_X10_161 K (c_X10_allHave _ (X10_now h) h q17) dX10_count_166 (Nat.le_of_ble_eq_true rfl) ?_
                      cases E
                      exact V_iret K dX10_count_169 rfl T
                    · rcases if_inv E with ⟨c18, E⟩ | ⟨c18, E⟩
                      · refine V_tin (off := 169) K 170 dX10_count_1 (by rw [c18]; decide) (by rw [c18]; decide) (by rw [c18]; rfl) (by decide) ?_
                        refine V_aload_n K 0 dX10_count_170 rfl ?_
                        refine V_ic (v := 1) K dX10_count_171 rfl ?_
                        obtain ⟨r19, q20, E⟩ := ob_inv E
                        refine iv_X10_236 K (c_X10_manyOf _ (1 : Int32) h q20) dX10_count_172 (Nat.le_of_ble_eq_true rfl) ?_
                        cases E
                        exact V_iret K dX10_count_175 rfl T
                      · rcases if_inv E with ⟨c21, E⟩ | ⟨c21, E⟩
                        · refine V_tin (off := 175) K 176 dX10_count_1 (by rw [c21]; decide) (by rw [c21]; decide) (by rw [c21]; rfl) (by decide) ?_
                          refine V_aload_n K 0 dX10_count_176 rfl ?_
                          refine V_ic (v := 3) K dX10_count_177 rfl ?_
                          obtain ⟨r22, q23, E⟩ := ob_inv E
                          refine iv_X10_236 K (c_X10_manyOf _ (3 : Int32) h q23) dX10_count_178 (Nat.le_of_ble_eq_true rfl) ?_
                          cases E
                          exact V_iret K dX10_count_181 rfl T
                        · rcases if_inv E with ⟨c24, E⟩ | ⟨c24, E⟩
                          · refine V_tin (off := 181) K 182 dX10_count_1 (by rw [c24]; decide) (by rw [c24]; decide) (by rw [c24]; rfl) (by decide) ?_
                            refine V_aload_n K 0 dX10_count_182 rfl ?_
                            obtain ⟨r25, q26, E⟩ := ob_inv E
                            refine iv_X10_239 K (c_X10_rowsThere _ h q26) dX10_count_183 (Nat.le_of_ble_eq_true rfl) ?_
                            cases E
                            exact V_iret K dX10_count_186 rfl T
                          · rcases if_inv E with ⟨c27, E⟩ | ⟨c27, E⟩
                            · refine V_tin (off := 186) K 187 dX10_count_1 (by rw [c27]; decide) (by rw [c27]; decide) (by rw [c27]; rfl) (by decide) ?_
                              refine V_aload_n K 0 dX10_count_187 rfl ?_
                              obtain ⟨r28, q29, E⟩ := ob_inv E
                              refine iv_X10_242 K (c_X10_textsThere _ h q29) dX10_count_188 (Nat.le_of_ble_eq_true rfl) ?_
                              cases E
                              exact V_iret K dX10_count_191 rfl T
                            · rcases if_inv E with ⟨c30, E⟩ | ⟨c30, E⟩
                              · refine V_tin (off := 191) K 192 dX10_count_1 (by rw [c30]; decide) (by rw [c30]; decide) (by rw [c30]; rfl) (by decide) ?_
                                refine V_aload_n K 0 dX10_count_192 rfl ?_
                                obtain ⟨r31, q32, E⟩ := ob_inv E
                                refine iv_X10_245 K (c_X10_frontsThere _ h q32) dX10_count_193 (Nat.le_of_ble_eq_true rfl) ?_
                                cases E
                                exact V_iret K dX10_count_196 rfl T
                              · refine V_tout K 197 dX10_count_1 (by have n0 := lv_neT c1 (a := 0) (by decide); have n1 := lv_neT c2 (a := 1) (by decide); have n2 := lv_neT c4 (a := 2) (by decide); have n3 := lv_neT c6 (a := 3) (by decide); have n4 := lv_neT c8 (a := 4) (by decide); have n5 := lv_neT c10 (a := 5) (by decide); have n6 := lv_neT c12 (a := 6) (by decide); have n7 := lv_neT c13 (a := 7) (by decide); have n8 := lv_neT c14 (a := 8) (by decide); have n9 := lv_neT c15 (a := 9) (by decide); have n10 := lv_neT c18 (a := 10) (by decide); have n11 := lv_neT c21 (a := 11) (by decide); have n12 := lv_neT c24 (a := 12) (by decide); have n13 := lv_neT c27 (a := 13) (by decide); have n14 := lv_neT c30 (a := 14) (by decide); omega) (by decide) ?_
                                refine V_ic (v := -1) K dX10_count_197 rfl ?_
                                cases E
                                exact V_iret K dX10_count_198 rfl T
theorem c_X10_count (d : Nat) (a1 : Int32) (h : Hp)  {r : Int32} (E : X10_count a1 h = some r) : Runs (d + 2) yX10_count cX10_count 2 (some .int) (fun f => [.ref (f 51), .int a1]) h (fun _ => some (.int r)) h :=
  Runs.of (by decide +kernel) (fun _ => Nat.le_of_ble_eq_true rfl) (fun x K T => w_X10_count K  a1 h  E T)
def X10_spoonIn (a1 : Int32) (a2 : Int32) (h : Hp) : Option Hp :=
  gd (ib (a1 + (12 : Int32)) 2805) (
  lt_ (up h 52 (ix (a1 + (12 : Int32))) (X10_lesser (60 : Int32) ((h.1 52 (ix (a1 + (12 : Int32)))) + a2))) fun h2 =>
  some h2)
set_option maxHeartbeats 4000000 in
set_option maxRecDepth 100000 in
theorem w_X10_spoonIn {x : Cx} {d : Nat} (K : Ok x cX10_spoonIn RX10 3 none (d + 1)) (a1 : Int32) (a2 : Int32) (h : Hp)  {z : Hp} (E : X10_spoonIn a1 a2 h = some z) (T : x.2.2.2.2 = (none, z)) : VV x 0 [(0, .ref (ad x 51)), (1, .int a1), (2, .int a2)] [] h := by
  unfold X10_spoonIn at E
  refine V_aload_n K 0 dX10_spoonIn_0 rfl ?_
  refine gf_X10_7 K dX10_spoonIn_1 ?_
  refine V_iload_n K 1 dX10_spoonIn_4 rfl ?_
  refine V_bp (v := 12) K dX10_spoonIn_5 rfl ?_
  refine V_iadd K dX10_spoonIn_7 ?_
  refine V_bp (v := 60) K dX10_spoonIn_8 rfl ?_
  refine V_aload_n K 0 dX10_spoonIn_10 rfl ?_
  refine gf_X10_7 K dX10_spoonIn_11 ?_
  refine V_iload_n K 1 dX10_spoonIn_14 rfl ?_
  refine V_bp (v := 12) K dX10_spoonIn_15 rfl ?_
  refine V_iadd K dX10_spoonIn_17 ?_
  obtain ⟨g1, E⟩ := gd_inv E
  refine V_iald K k_52 n_52 g1 dX10_spoonIn_18 ?_
  refine V_iload_n K 2 dX10_spoonIn_19 rfl ?_
  refine V_iadd K dX10_spoonIn_20 ?_
  refine iv_X10_132 K (c_X10_lesser _ (60 : Int32) ((h.1 52 (ix (a1 + (12 : Int32)))) + a2) h) dX10_spoonIn_21 (Nat.le_of_ble_eq_true rfl) ?_
  obtain ⟨h2, e3, E⟩ := lt_inv E
  refine V_iast K k_52 n_52 g1 dX10_spoonIn_24 ?_
  refine V_hp e3 ?_
  cases E
  exact V_vret K dX10_spoonIn_25 T
theorem c_X10_spoonIn (d : Nat) (a1 : Int32) (a2 : Int32) (h : Hp)  {h' : Hp} (E : X10_spoonIn a1 a2 h = some h') : Runs (d + 1) yX10_spoonIn cX10_spoonIn 3 none (fun f => [.ref (f 51), .int a1, .int a2]) h (fun _ => none) h' :=
  Runs.of (by decide +kernel) (fun _ => Nat.le_of_ble_eq_true rfl) (fun x K T => w_X10_spoonIn K  a1 a2 h  E T)
def X10_deedBy (a1 : Int32) (a2 : Int32) (h : Hp) : Option Hp :=
  lt_ (a2 / (64 : Int32)) fun v1 =>
  lt_ (irm (a2 / (8 : Int32)) (8 : Int32)) fun v3 =>
  if v3 = (4 : Int32) then (ob (X10_spoonIn a1 ((irm v1 (9 : Int32)) + (1 : Int32)) h) fun h7 =>
  some h7)
  else (if v3 = (5 : Int32) then (gd (ib (a1 + (14 : Int32)) 2805) (
  lt_ (up h 52 (ix (a1 + (14 : Int32))) (irm v1 (3 : Int32))) fun h10 =>
  some h10))
  else (if v3 = (6 : Int32) then (gd (ib (a1 + (15 : Int32)) 2805) (
  lt_ (up h 52 (ix (a1 + (15 : Int32))) ((1 : Int32) - (h.1 52 (ix (a1 + (15 : Int32)))))) fun h14 =>
  some h14))
  else (if v3 = (7 : Int32) then (gd (nz (h.1 51 2)) (
  gd (ib (a1 + (irm a2 (h.1 51 2))) 2805) (
  lt_ (up h 52 (ix (a1 + (irm a2 (h.1 51 2)))) (irm v1 (10 : Int32))) fun h19 =>
  some h19)))
  else (ob2 (X10_plainTurn a1 h) fun r23 h22 =>
  some h22))))
set_option maxHeartbeats 4000000 in
set_option maxRecDepth 100000 in
theorem w_X10_deedBy {x : Cx} {d : Nat} (K : Ok x cX10_deedBy RX10 5 none (d + 4)) (a1 : Int32) (a2 : Int32) (h : Hp)  {z : Hp} (E : X10_deedBy a1 a2 h = some z) (T : x.2.2.2.2 = (none, z)) : VV x 0 [(0, .ref (ad x 51)), (1, .int a1), (2, .int a2)] [] h := by
  unfold X10_deedBy at E
  refine V_iload_n K 2 dX10_deedBy_0 rfl ?_
  refine V_bp (v := 64) K dX10_deedBy_1 rfl ?_
  refine V_idiv K dX10_deedBy_3 (by decide) ?_
  obtain ⟨v1, e2, E⟩ := lt_inv E
  refine V_top e2 ?_
  refine V_istore_n (lv' := [(3, .int v1), (0, .ref (ad x 51)), (1, .int a1), (2, .int a2)]) K dX10_deedBy_4 (by decide) rfl ?_
  refine V_iload_n K 3 dX10_deedBy_5 rfl ?_
  refine V_bp (v := 8) K dX10_deedBy_6 rfl ?_
  refine V_idiv K dX10_deedBy_8 (by decide) ?_
  refine V_bp (v := 8) K dX10_deedBy_9 rfl ?_
  refine V_irem K dX10_deedBy_11 (by decide) ?_
  obtain ⟨v3, e4, E⟩ := lt_inv E
  refine V_top e4 ?_
  rcases if_inv E with ⟨c5, E⟩ | ⟨c5, E⟩
  · refine V_tin (off := 32) K 44 dX10_deedBy_12 (by rw [c5]; decide) (by rw [c5]; decide) (by rw [c5]; rfl) (by decide) ?_
    refine V_aload_n K 1 dX10_deedBy_44 rfl ?_
    refine V_iload_n K 2 dX10_deedBy_45 rfl ?_
    refine V_iload_n K 0 dX10_deedBy_46 rfl ?_
    refine V_bp (v := 9) K dX10_deedBy_47 rfl ?_
    refine V_irem K dX10_deedBy_49 (by decide) ?_
    refine V_ic (v := 1) K dX10_deedBy_50 rfl ?_
    refine V_iadd K dX10_deedBy_51 ?_
    obtain ⟨h7, q6, E⟩ := ob_inv E
    refine iv_X10_177 K (c_X10_spoonIn _ a1 ((irm v1 (9 : Int32)) + (1 : Int32)) h q6) dX10_deedBy_52 (Nat.le_of_ble_eq_true rfl) ?_
    refine V_goto K 123 dX10_deedBy_55 (by decide) ?_
    cases E
    exact V_vret K dX10_deedBy_123 T
  · rcases if_inv E with ⟨c8, E⟩ | ⟨c8, E⟩
    · refine V_tin (off := 46) K 58 dX10_deedBy_12 (by rw [c8]; decide) (by rw [c8]; decide) (by rw [c8]; rfl) (by decide) ?_
      refine V_aload_n K 1 dX10_deedBy_58 rfl ?_
      refine gf_X10_7 K dX10_deedBy_59 ?_
      refine V_iload_n K 2 dX10_deedBy_62 rfl ?_
      refine V_bp (v := 14) K dX10_deedBy_63 rfl ?_
      refine V_iadd K dX10_deedBy_65 ?_
      refine V_iload_n K 0 dX10_deedBy_66 rfl ?_
      refine V_ic (v := 3) K dX10_deedBy_67 rfl ?_
      refine V_irem K dX10_deedBy_68 (by decide) ?_
      obtain ⟨g9, E⟩ := gd_inv E
      obtain ⟨h10, e11, E⟩ := lt_inv E
      refine V_iast K k_52 n_52 g9 dX10_deedBy_69 ?_
      refine V_hp e11 ?_
      refine V_goto K 123 dX10_deedBy_70 (by decide) ?_
      cases E
      exact V_vret K dX10_deedBy_123 T
    · rcases if_inv E with ⟨c12, E⟩ | ⟨c12, E⟩
      · refine V_tin (off := 61) K 73 dX10_deedBy_12 (by rw [c12]; decide) (by rw [c12]; decide) (by rw [c12]; rfl) (by decide) ?_
        refine V_aload_n K 1 dX10_deedBy_73 rfl ?_
        refine gf_X10_7 K dX10_deedBy_74 ?_
        refine V_iload_n K 2 dX10_deedBy_77 rfl ?_
        refine V_bp (v := 15) K dX10_deedBy_78 rfl ?_
        refine V_iadd K dX10_deedBy_80 ?_
        refine V_ic (v := 1) K dX10_deedBy_81 rfl ?_
        refine V_aload_n K 1 dX10_deedBy_82 rfl ?_
        refine gf_X10_7 K dX10_deedBy_83 ?_
        refine V_iload_n K 2 dX10_deedBy_86 rfl ?_
        refine V_bp (v := 15) K dX10_deedBy_87 rfl ?_
        refine V_iadd K dX10_deedBy_89 ?_
        obtain ⟨g13, E⟩ := gd_inv E
        refine V_iald K k_52 n_52 g13 dX10_deedBy_90 ?_
        refine V_isub K dX10_deedBy_91 ?_
        obtain ⟨h14, e15, E⟩ := lt_inv E
        refine V_iast K k_52 n_52 g13 dX10_deedBy_92 ?_
        refine V_hp e15 ?_
        refine V_goto K 123 dX10_deedBy_93 (by decide) ?_
        cases E
        exact V_vret K dX10_deedBy_123 T
      · rcases if_inv E with ⟨c16, E⟩ | ⟨c16, E⟩
        · refine V_tin (off := 84) K 96 dX10_deedBy_12 (by rw [c16]; decide) (by rw [c16]; decide) (by rw [c16]; rfl) (by decide) ?_
          refine V_aload_n K 1 dX10_deedBy_96 rfl ?_
          refine gf_X10_7 K dX10_deedBy_97 ?_
          refine V_iload_n K 2 dX10_deedBy_100 rfl ?_
          refine V_iload_n K 3 dX10_deedBy_101 rfl ?_
          refine V_aload_n K 1 dX10_deedBy_102 rfl ?_
          refine gf_X10_120 K dX10_deedBy_103 ?_
          obtain ⟨g17, E⟩ := gd_inv E
          refine V_irem K dX10_deedBy_106 (nz_ne g17) ?_
          refine V_iadd K dX10_deedBy_107 ?_
          refine V_iload_n K 0 dX10_deedBy_108 rfl ?_
          refine V_bp (v := 10) K dX10_deedBy_109 rfl ?_
          refine V_irem K dX10_deedBy_111 (by decide) ?_
          obtain ⟨g18, E⟩ := gd_inv E
          obtain ⟨h19, e20, E⟩ := lt_inv E
          refine V_iast K k_52 n_52 g18 dX10_deedBy_112 ?_
          refine V_hp e20 ?_
          refine V_goto K 123 dX10_deedBy_113 (by decide) ?_
          cases E
          exact V_vret K dX10_deedBy_123 T
        · refine V_tout K 116 dX10_deedBy_12 (by have n0 := lv_neT c5 (a := 4) (by decide); have n1 := lv_neT c8 (a := 5) (by decide); have n2 := lv_neT c12 (a := 6) (by decide); have n3 := lv_neT c16 (a := 7) (by decide); omega) (by decide) ?_
          refine V_aload_n K 1 dX10_deedBy_116 rfl ?_
          refine V_iload_n K 2 dX10_deedBy_117 rfl ?_
          obtain ⟨r23, h22, q21, E⟩ := ob2_inv E
          refine iv_X10_174 K (c_X10_plainTurn _ a1 h q21) dX10_deedBy_118 (Nat.le_of_ble_eq_true rfl) ?_
          refine V_istore (lv' := [(4, .int r23), (3, .int v1), (0, .ref (ad x 51)), (1, .int a1), (2, .int a2)]) K dX10_deedBy_121 (by decide) rfl ?_
          cases E
          exact V_vret K dX10_deedBy_123 T
theorem c_X10_deedBy (d : Nat) (a1 : Int32) (a2 : Int32) (h : Hp)  {h' : Hp} (E : X10_deedBy a1 a2 h = some h') : Runs (d + 4) yX10_deedBy cX10_deedBy 5 none (fun f => [.ref (f 51), .int a1, .int a2]) h (fun _ => none) h' :=
  Runs.of (by decide +kernel) (fun _ => Nat.le_of_ble_eq_true rfl) (fun x K T => w_X10_deedBy K  a1 a2 h  E T)
def X10_more (a1 : Int64) (a2 : Int32) : Int64 :=
  (((31 : Int64) * a1) + (a2.toInt64))
set_option maxHeartbeats 4000000 in
set_option maxRecDepth 100000 in
theorem w_X10_more {x : Cx} {d : Nat} (K : Ok x cX10_more RX10 3 (some .long) (d + 0)) (a1 : Int64) (a2 : Int32) (h : Hp)  {z : Int64} (E : X10_more a1 a2 = z) (T : x.2.2.2.2 = (some (.long z), h)) : VV x 0 [(0, .long a1), (2, .int a2)] [] h := by
  unfold X10_more at E
  refine V_ldc2 (v := 31) K tb_102 dX10_more_0 ?_
  refine V_lload_n K 0 dX10_more_3 rfl ?_
  refine V_lmul K dX10_more_4 ?_
  refine V_iload_n K 1 dX10_more_5 rfl ?_
  refine V_i2l K dX10_more_6 ?_
  refine V_ladd K dX10_more_7 ?_
  cases E
  exact V_lret K dX10_more_8 T
theorem c_X10_more (d : Nat) (a1 : Int64) (a2 : Int32) (h : Hp)  : Runs (d + 0) yX10_more cX10_more 3 (some .long) (fun f => [.long a1, .int a2]) h (fun _ => some (.long (X10_more a1 a2))) h :=
  Runs.of (by decide +kernel) (fun _ => Nat.le_of_ble_eq_true rfl) (fun x K T => w_X10_more K  a1 a2 h  rfl T)
def X10_distance (a1 : Int32) (h : Hp) : Option Int32 :=
  gd (ib ((X10_now h) + a1) 2805) (
  gd (ib ((X10_now h) + (13 : Int32)) 2805) (
  lt_ ((h.1 52 (ix ((X10_now h) + a1))) - (h.1 52 (ix ((X10_now h) + (13 : Int32))))) fun v3 =>
  ob (if (0 : Int32) ≤ v3 then (some v3)
  else (some (-v3))) fun v5 =>
  some (X10_lesser v5 ((10 : Int32) - v5))))
set_option maxHeartbeats 4000000 in
set_option maxRecDepth 100000 in
theorem w_X10_distance {x : Cx} {d : Nat} (K : Ok x cX10_distance RX10 3 (some .int) (d + 1)) (a1 : Int32) (h : Hp)  {z : Int32} (E : X10_distance a1 h = some z) (T : x.2.2.2.2 = (some (.int z), h)) : VV x 0 [(0, .ref (ad x 51)), (1, .int a1)] [] h := by
  unfold X10_distance at E
  refine V_aload_n K 0 dX10_distance_0 rfl ?_
  refine gf_X10_7 K dX10_distance_1 ?_
  refine V_aload_n K 0 dX10_distance_4 rfl ?_
  refine iv_X10_145 K (c_X10_now _ h) dX10_distance_5 (Nat.le_of_ble_eq_true rfl) ?_
  refine V_iload_n K 1 dX10_distance_8 rfl ?_
  refine V_iadd K dX10_distance_9 ?_
  obtain ⟨g1, E⟩ := gd_inv E
  refine V_iald K k_52 n_52 g1 dX10_distance_10 ?_
  refine V_aload_n K 0 dX10_distance_11 rfl ?_
  refine gf_X10_7 K dX10_distance_12 ?_
  refine V_aload_n K 0 dX10_distance_15 rfl ?_
  refine iv_X10_145 K (c_X10_now _ h) dX10_distance_16 (Nat.le_of_ble_eq_true rfl) ?_
  refine V_bp (v := 13) K dX10_distance_19 rfl ?_
  refine V_iadd K dX10_distance_21 ?_
  obtain ⟨g2, E⟩ := gd_inv E
  refine V_iald K k_52 n_52 g2 dX10_distance_22 ?_
  refine V_isub K dX10_distance_23 ?_
  obtain ⟨v3, e4, E⟩ := lt_inv E
  refine V_top e4 ?_
  refine V_istore_n (lv' := [(2, .int v3), (0, .ref (ad x 51)), (1, .int a1)]) K dX10_distance_24 (by decide) rfl ?_
  refine V_iload_n K 0 dX10_distance_25 rfl ?_
  obtain ⟨v5, q7, E⟩ := ob_inv E
  have T9 : VV x 35 [] [.int v5] h := by
    refine V_istore_n (lv' := [(2, .int v5)]) K dX10_distance_35 (by decide) rfl ?_
    refine V_iload_n K 0 dX10_distance_36 rfl ?_
    refine V_bp (v := 10) K dX10_distance_37 rfl ?_
    refine V_iload_n K 0 dX10_distance_39 rfl ?_
    refine V_isub K dX10_distance_40 ?_
    refine iv_X10_132 K (c_X10_lesser _ v5 ((10 : Int32) - v5) h) dX10_distance_41 (Nat.le_of_ble_eq_true rfl) ?_
    cases E
    exact V_iret K dX10_distance_44 rfl T
  have E := q7
  have T := T9
  rcases if_inv E with ⟨c6, E⟩ | ⟨c6, E⟩
  · refine V_if_ge_t K 34 dX10_distance_26 (by decide) c6 ?_
    refine V_iload_n K 0 dX10_distance_34 rfl ?_
    cases E
    exact V_sub [] rfl T
  · refine V_if_ge_f K 34 dX10_distance_26 (by decide) c6 ?_
    refine V_iload_n K 0 dX10_distance_29 rfl ?_
    refine V_ineg K dX10_distance_30 ?_
    refine V_goto K 35 dX10_distance_31 (by decide) ?_
    cases E
    exact V_sub [] rfl T
theorem c_X10_distance (d : Nat) (a1 : Int32) (h : Hp)  {r : Int32} (E : X10_distance a1 h = some r) : Runs (d + 1) yX10_distance cX10_distance 3 (some .int) (fun f => [.ref (f 51), .int a1]) h (fun _ => some (.int r)) h :=
  Runs.of (by decide +kernel) (fun _ => Nat.le_of_ble_eq_true rfl) (fun x K T => w_X10_distance K  a1 h  E T)
def X10_ofOne (a1 : Int32) (a2 : Int32) (h : Hp) : Option Int32 :=
  if a2 = (0 : Int32) then (gd (ib a1 6) (
  some (h.1 53 (ix a1))))
  else (if a2 = (1 : Int32) then (gd (ib ((X10_now h) + a1) 2805) (
  some (h.1 52 (ix ((X10_now h) + a1)))))
  else (if a2 = (2 : Int32) then (gd (ib (((X10_now h) + (6 : Int32)) + a1) 2805) (
  some (h.1 52 (ix (((X10_now h) + (6 : Int32)) + a1)))))
  else (if a2 = (3 : Int32) then (gd (ib a1 6) (
  gd (ib ((X10_now h) + (12 : Int32)) 2805) (
  some (X10_gatheredBy (h.1 53 (ix a1)) (h.1 52 (ix ((X10_now h) + (12 : Int32))))))))
  else (ob (X10_distance a1 h) fun r10 =>
  some r10))))
set_option maxHeartbeats 4000000 in
set_option maxRecDepth 100000 in
theorem w_X10_ofOne {x : Cx} {d : Nat} (K : Ok x cX10_ofOne RX10 3 (some .int) (d + 2)) (a1 : Int32) (a2 : Int32) (h : Hp)  {z : Int32} (E : X10_ofOne a1 a2 h = some z) (T : x.2.2.2.2 = (some (.int z), h)) : VV x 0 [(0, .ref (ad x 51)), (1, .int a1), (2, .int a2)] [] h := by
  unfold X10_ofOne at E
  refine V_iload_n K 2 dX10_ofOne_0 rfl ?_
  rcases if_inv E with ⟨c1, E⟩ | ⟨c1, E⟩
  · refine V_tin (off := 31) K 32 dX10_ofOne_1 (by rw [c1]; decide) (by rw [c1]; decide) (by rw [c1]; rfl) (by decide) ?_
    refine V_aload_n K 0 dX10_ofOne_32 rfl ?_
    refine gf_X10_13 K dX10_ofOne_33 ?_
    refine V_iload_n K 1 dX10_ofOne_36 rfl ?_
    obtain ⟨g2, E⟩ := gd_inv E
    refine V_iald K k_53 n_53 g2 dX10_ofOne_37 ?_
    cases E
    exact V_iret K dX10_ofOne_38 rfl T
  · rcases if_inv E with ⟨c3, E⟩ | ⟨c3, E⟩
    · refine V_tin (off := 38) K 39 dX10_ofOne_1 (by rw [c3]; decide) (by rw [c3]; decide) (by rw [c3]; rfl) (by decide) ?_
      refine V_aload_n K 0 dX10_ofOne_39 rfl ?_
      refine gf_X10_7 K dX10_ofOne_40 ?_
      refine V_aload_n K 0 dX10_ofOne_43 rfl ?_
      refine iv_X10_145 K (c_X10_now _ h) dX10_ofOne_44 (Nat.le_of_ble_eq_true rfl) ?_
      refine V_iload_n K 1 dX10_ofOne_47 rfl ?_
      refine V_iadd K dX10_ofOne_48 ?_
      obtain ⟨g4, E⟩ := gd_inv E
      refine V_iald K k_52 n_52 g4 dX10_ofOne_49 ?_
      cases E
      exact V_iret K dX10_ofOne_50 rfl T
    · rcases if_inv E with ⟨c5, E⟩ | ⟨c5, E⟩
      · refine V_tin (off := 50) K 51 dX10_ofOne_1 (by rw [c5]; decide) (by rw [c5]; decide) (by rw [c5]; rfl) (by decide) ?_
        refine V_aload_n K 0 dX10_ofOne_51 rfl ?_
        refine gf_X10_7 K dX10_ofOne_52 ?_
        refine V_aload_n K 0 dX10_ofOne_55 rfl ?_
        refine iv_X10_145 K (c_X10_now _ h) dX10_ofOne_56 (Nat.le_of_ble_eq_true rfl) ?_
        refine V_bp (v := 6) K dX10_ofOne_59 rfl ?_
        refine V_iadd K dX10_ofOne_61 ?_
        refine V_iload_n K 1 dX10_ofOne_62 rfl ?_
        refine V_iadd K dX10_ofOne_63 ?_
        obtain ⟨g6, E⟩ := gd_inv E
        refine V_iald K k_52 n_52 g6 dX10_ofOne_64 ?_
        cases E
        exact V_iret K dX10_ofOne_65 rfl T
      · rcases if_inv E with ⟨c7, E⟩ | ⟨c7, E⟩
        · refine V_tin (off := 65) K 66 dX10_ofOne_1 (by rw [c7]; decide) (by rw [c7]; decide) (by rw [c7]; rfl) (by decide) ?_
          refine V_aload_n K 0 dX10_ofOne_66 rfl ?_
          refine gf_X10_13 K dX10_ofOne_67 ?_
          refine V_iload_n K 1 dX10_ofOne_70 rfl ?_
          obtain ⟨g8, E⟩ := gd_inv E
          refine V_iald K k_53 n_53 g8 dX10_ofOne_71 ?_
          refine V_aload_n K 0 dX10_ofOne_72 rfl ?_
          refine gf_X10_7 K dX10_ofOne_73 ?_
          refine V_aload_n K 0 dX10_ofOne_76 rfl ?_
          refine iv_X10_145 K (c_X10_now _ h) dX10_ofOne_77 (Nat.le_of_ble_eq_true rfl) ?_
          refine V_bp (v := 12) K dX10_ofOne_80 rfl ?_
          refine V_iadd K dX10_ofOne_82 ?_
          obtain ⟨g9, E⟩ := gd_inv E
          refine V_iald K k_52 n_52 g9 dX10_ofOne_83 ?_
          refine iv_X10_138 K (c_X10_gatheredBy _ (h.1 53 (ix a1)) (h.1 52 (ix ((X10_now h) + (12 : Int32)))) h) dX10_ofOne_84 (Nat.le_of_ble_eq_true rfl) ?_
          cases E
          exact V_iret K dX10_ofOne_87 rfl T
        · refine V_tout K 88 dX10_ofOne_1 (by have n0 := lv_neT c1 (a := 0) (by decide); have n1 := lv_neT c3 (a := 1) (by decide); have n2 := lv_neT c5 (a := 2) (by decide); have n3 := lv_neT c7 (a := 3) (by decide); omega) (by decide) ?_
          refine V_aload_n K 0 dX10_ofOne_88 rfl ?_
          refine V_iload_n K 1 dX10_ofOne_89 rfl ?_
          obtain ⟨r10, q11, E⟩ := ob_inv E
          refine iv_X10_149 K (c_X10_distance _ a1 h q11) dX10_ofOne_90 (Nat.le_of_ble_eq_true rfl) ?_
          cases E
          exact V_iret K dX10_ofOne_93 rfl T
theorem c_X10_ofOne (d : Nat) (a1 : Int32) (a2 : Int32) (h : Hp)  {r : Int32} (E : X10_ofOne a1 a2 h = some r) : Runs (d + 2) yX10_ofOne cX10_ofOne 3 (some .int) (fun f => [.ref (f 51), .int a1, .int a2]) h (fun _ => some (.int r)) h :=
  Runs.of (by decide +kernel) (fun _ => Nat.le_of_ble_eq_true rfl) (fun x K T => w_X10_ofOne K  a1 a2 h  E T)
def X10_digest_s6 (h : Hp) (y1 : Int64) (y3 : Int32) : Option ((Int64 × Int32) ⊕ (Int64 × Int32)) :=
  if (15 : Int32) ≤ y3 then (some (.inl (y1, y3)))
  else (ob (X10_count y3 h) fun r2 =>
  lt_ (X10_more y1 r2) fun v4 =>
  lt_ (y3 + (1 : Int32)) fun v6 =>
  some (.inr (v4, v6)))
set_option maxHeartbeats 4000000 in
set_option maxRecDepth 100000 in
theorem wl_X10_digest_s6 {x : Cx} {d : Nat} (K : Ok x cX10_digest RX10 5 (some .long) (d + 3)) (h : Hp)  : ∀ (n : Nat) (s : Int64 × Int32) (r : (Int64 × Int32)), lp (fun s : Int64 × Int32 => X10_digest_s6 h s.1 s.2) n s = some r → (fun r : (Int64 × Int32) => VV x 28 [(0, .ref (ad x 51)), (1, .long (r.1)), (3, .int (r.2))] [] h) r → (fun s : Int64 × Int32 => VV x 6 [(0, .ref (ad x 51)), (1, .long (s.1)), (3, .int (s.2))] [] h) s := by
  refine lp_walk ?_
  intro s z E T
  obtain ⟨y1, y3⟩ := s
  replace E : X10_digest_s6 h y1 y3 = some z := E
  unfold X10_digest_s6 at E
  show VV x 6 [(0, .ref (ad x 51)), (1, .long y1), (3, .int y3)] [] h
  refine V_iload_n K 2 dX10_digest_6 rfl ?_
  refine V_bp (v := 15) K dX10_digest_7 rfl ?_
  rcases if_inv E with ⟨c1, E⟩ | ⟨c1, E⟩
  · refine V_ic_ge_t K 28 dX10_digest_9 (by decide) c1 ?_
    cases E
    exact V_sub [0, 1, 2] rfl T
  · refine V_ic_ge_f K 28 dX10_digest_9 (by decide) c1 ?_
    refine V_lload_n K 1 dX10_digest_12 rfl ?_
    refine V_aload_n K 0 dX10_digest_13 rfl ?_
    refine V_iload_n K 2 dX10_digest_14 rfl ?_
    obtain ⟨r2, q3, E⟩ := ob_inv E
    refine iv_X10_252 K (c_X10_count _ y3 h q3) dX10_digest_15 (Nat.le_of_ble_eq_true rfl) ?_
    refine iv_X10_255 K (c_X10_more _ y1 r2 h) dX10_digest_18 (Nat.le_of_ble_eq_true rfl) ?_
    obtain ⟨v4, e5, E⟩ := lt_inv E
    refine V_topl e5 ?_
    refine V_lstore_n (lv' := [(1, .long v4), (0, .ref (ad x 51)), (3, .int y3)]) K dX10_digest_21 (by decide) rfl ?_
    obtain ⟨v6, e7, E⟩ := lt_inv E
    refine V_iinc (lv' := [(3, .int v6), (1, .long v4), (0, .ref (ad x 51))]) K 2 dX10_digest_22 rfl (by rw [e7]; rfl) (by decide) rfl ?_
    refine V_goto K 6 dX10_digest_25 (by decide) ?_
    cases E
    exact V_sub [2, 1, 0] rfl T
def X10_digest_s41 (x3 : Int32) (h : Hp) (y1 : Int64) (y4 : Int32) : Option ((Int64 × Int32) ⊕ (Int64 × Int32)) :=
  if (5 : Int32) ≤ y4 then (some (.inl (y1, y4)))
  else (ob (X10_ofOne x3 y4 h) fun r12 =>
  lt_ (X10_more y1 r12) fun v14 =>
  lt_ (y4 + (1 : Int32)) fun v16 =>
  some (.inr (v14, v16)))
set_option maxHeartbeats 4000000 in
set_option maxRecDepth 100000 in
theorem wl_X10_digest_s41 {x : Cx} {d : Nat} (K : Ok x cX10_digest RX10 5 (some .long) (d + 3)) (x3 : Int32) (h : Hp)  : ∀ (n : Nat) (s : Int64 × Int32) (r : (Int64 × Int32)), lp (fun s : Int64 × Int32 => X10_digest_s41 x3 h s.1 s.2) n s = some r → (fun r : (Int64 × Int32) => VV x 65 [(0, .ref (ad x 51)), (1, .long (r.1)), (3, .int x3), (4, .int (r.2))] [] h) r → (fun s : Int64 × Int32 => VV x 41 [(0, .ref (ad x 51)), (1, .long (s.1)), (3, .int x3), (4, .int (s.2))] [] h) s := by
  refine lp_walk ?_
  intro s z E T
  obtain ⟨y1, y4⟩ := s
  replace E : X10_digest_s41 x3 h y1 y4 = some z := E
  unfold X10_digest_s41 at E
  show VV x 41 [(0, .ref (ad x 51)), (1, .long y1), (3, .int x3), (4, .int y4)] [] h
  refine V_iload K 3 dX10_digest_41 rfl ?_
  refine V_ic (v := 5) K dX10_digest_43 rfl ?_
  rcases if_inv E with ⟨c11, E⟩ | ⟨c11, E⟩
  · refine V_ic_ge_t K 65 dX10_digest_44 (by decide) c11 ?_
    cases E
    exact V_sub [0, 1, 2, 3] rfl T
  · refine V_ic_ge_f K 65 dX10_digest_44 (by decide) c11 ?_
    refine V_lload_n K 1 dX10_digest_47 rfl ?_
    refine V_aload_n K 0 dX10_digest_48 rfl ?_
    refine V_iload_n K 2 dX10_digest_49 rfl ?_
    refine V_iload K 3 dX10_digest_50 rfl ?_
    obtain ⟨r12, q13, E⟩ := ob_inv E
    refine iv_X10_155 K (c_X10_ofOne _ x3 y4 h q13) dX10_digest_52 (Nat.le_of_ble_eq_true rfl) ?_
    refine iv_X10_255 K (c_X10_more _ y1 r12 h) dX10_digest_55 (Nat.le_of_ble_eq_true rfl) ?_
    obtain ⟨v14, e15, E⟩ := lt_inv E
    refine V_topl e15 ?_
    refine V_lstore_n (lv' := [(1, .long v14), (0, .ref (ad x 51)), (3, .int x3), (4, .int y4)]) K dX10_digest_58 (by decide) rfl ?_
    obtain ⟨v16, e17, E⟩ := lt_inv E
    refine V_iinc (lv' := [(4, .int v16), (1, .long v14), (0, .ref (ad x 51)), (3, .int x3)]) K 3 dX10_digest_59 rfl (by rw [e17]; rfl) (by decide) rfl ?_
    refine V_goto K 41 dX10_digest_62 (by decide) ?_
    cases E
    exact V_sub [2, 1, 3, 0] rfl T
def X10_digest_s30 (h : Hp) (y1 : Int64) (y3 : Int32) : Option ((Int64 × Int32) ⊕ (Int64 × Int32)) :=
  if (h.1 51 2) ≤ y3 then (some (.inl (y1, y3)))
  else (ob2 (lp (fun s : Int64 × Int32 => X10_digest_s41 y3 h s.1 s.2) FU (y1, (0 : Int32))) fun v18 v19 =>
  lt_ (y3 + (1 : Int32)) fun v20 =>
  some (.inr (v18, v20)))
set_option maxHeartbeats 4000000 in
set_option maxRecDepth 100000 in
theorem wl_X10_digest_s30 {x : Cx} {d : Nat} (K : Ok x cX10_digest RX10 5 (some .long) (d + 3)) (h : Hp)  : ∀ (n : Nat) (s : Int64 × Int32) (r : (Int64 × Int32)), lp (fun s : Int64 × Int32 => X10_digest_s30 h s.1 s.2) n s = some r → (fun r : (Int64 × Int32) => VV x 71 [(0, .ref (ad x 51)), (1, .long (r.1)), (3, .int (r.2))] [] h) r → (fun s : Int64 × Int32 => VV x 30 [(0, .ref (ad x 51)), (1, .long (s.1)), (3, .int (s.2))] [] h) s := by
  refine lp_walk ?_
  intro s z E T
  obtain ⟨y1, y3⟩ := s
  replace E : X10_digest_s30 h y1 y3 = some z := E
  unfold X10_digest_s30 at E
  show VV x 30 [(0, .ref (ad x 51)), (1, .long y1), (3, .int y3)] [] h
  refine V_iload_n K 2 dX10_digest_30 rfl ?_
  refine V_aload_n K 0 dX10_digest_31 rfl ?_
  refine gf_X10_120 K dX10_digest_32 ?_
  rcases if_inv E with ⟨c10, E⟩ | ⟨c10, E⟩
  · refine V_ic_ge_t K 71 dX10_digest_35 (by decide) c10 ?_
    cases E
    exact V_sub [0, 1, 2] rfl T
  · refine V_ic_ge_f K 71 dX10_digest_35 (by decide) c10 ?_
    refine V_ic (v := 0) K dX10_digest_38 rfl ?_
    refine V_istore (lv' := [(4, .int (0 : Int32)), (0, .ref (ad x 51)), (1, .long y1), (3, .int y3)]) K dX10_digest_39 (by decide) rfl ?_
    obtain ⟨v18, v19, q22, E⟩ := ob2_inv E
    refine V_sub [1, 2, 3, 0] rfl (wl_X10_digest_s41 K y3 h  _ _ _ q22 ?_)
    show VV x 65 [(0, .ref (ad x 51)), (1, .long v18), (3, .int y3), (4, .int v19)] [] h
    obtain ⟨v20, e21, E⟩ := lt_inv E
    refine V_iinc (lv' := [(3, .int v20), (0, .ref (ad x 51)), (1, .long v18), (4, .int v19)]) K 2 dX10_digest_65 rfl (by rw [e21]; rfl) (by decide) rfl ?_
    refine V_goto K 30 dX10_digest_68 (by decide) ?_
    cases E
    exact V_sub [1, 2, 0] rfl T
def X10_digest_s73 (h : Hp) (y1 : Int64) (y3 : Int32) : Option ((Int64 × Int32) ⊕ (Int64 × Int32)) :=
  if (3 : Int32) ≤ y3 then (some (.inl (y1, y3)))
  else (gd (ib y3 3) (
  ob (if (h.1 54 (ix y3)) = (-9 : Int32) then (some (-1 : Int32))
  else (some (h.1 54 (ix y3)))) fun v27 =>
  lt_ (X10_more y1 v27) fun v29 =>
  lt_ (y3 + (1 : Int32)) fun v31 =>
  some (.inr (v29, v31))))
set_option maxHeartbeats 4000000 in
set_option maxRecDepth 100000 in
theorem wl_X10_digest_s73 {x : Cx} {d : Nat} (K : Ok x cX10_digest RX10 5 (some .long) (d + 3)) (h : Hp)  : ∀ (n : Nat) (s : Int64 × Int32) (r : (Int64 × Int32)), lp (fun s : Int64 × Int32 => X10_digest_s73 h s.1 s.2) n s = some r → (fun r : (Int64 × Int32) => VV x 110 [(0, .ref (ad x 51)), (1, .long (r.1)), (3, .int (r.2))] [] h) r → (fun s : Int64 × Int32 => VV x 73 [(0, .ref (ad x 51)), (1, .long (s.1)), (3, .int (s.2))] [] h) s := by
  refine lp_walk ?_
  intro s z E T
  obtain ⟨y1, y3⟩ := s
  replace E : X10_digest_s73 h y1 y3 = some z := E
  unfold X10_digest_s73 at E
  show VV x 73 [(0, .ref (ad x 51)), (1, .long y1), (3, .int y3)] [] h
  refine V_iload_n K 2 dX10_digest_73 rfl ?_
  refine V_ic (v := 3) K dX10_digest_74 rfl ?_
  rcases if_inv E with ⟨c25, E⟩ | ⟨c25, E⟩
  · refine V_ic_ge_t K 110 dX10_digest_75 (by decide) c25 ?_
    cases E
    exact V_sub [0, 1, 2] rfl T
  · refine V_ic_ge_f K 110 dX10_digest_75 (by decide) c25 ?_
    refine V_lload_n K 1 dX10_digest_78 rfl ?_
    refine V_aload_n K 0 dX10_digest_79 rfl ?_
    refine gf_X10_16 K dX10_digest_80 ?_
    refine V_iload_n K 2 dX10_digest_83 rfl ?_
    obtain ⟨g26, E⟩ := gd_inv E
    refine V_iald K k_54 n_54 g26 dX10_digest_84 ?_
    refine V_bp (v := -9) K dX10_digest_85 rfl ?_
    obtain ⟨v27, q33, E⟩ := ob_inv E
    have T9 : VV x 100 [(0, .ref (ad x 51)), (3, .int y3)] [.int v27, .long y1] h := by
      refine iv_X10_255 K (c_X10_more _ y1 v27 h) dX10_digest_100 (Nat.le_of_ble_eq_true rfl) ?_
      obtain ⟨v29, e30, E⟩ := lt_inv E
      refine V_topl e30 ?_
      refine V_lstore_n (lv' := [(1, .long v29), (0, .ref (ad x 51)), (3, .int y3)]) K dX10_digest_103 (by decide) rfl ?_
      obtain ⟨v31, e32, E⟩ := lt_inv E
      refine V_iinc (lv' := [(3, .int v31), (1, .long v29), (0, .ref (ad x 51))]) K 2 dX10_digest_104 rfl (by rw [e32]; rfl) (by decide) rfl ?_
      refine V_goto K 73 dX10_digest_107 (by decide) ?_
      cases E
      exact V_sub [2, 1, 0] rfl T
    have E := q33
    have T := T9
    rcases if_inv E with ⟨c28, E⟩ | ⟨c28, E⟩
    · refine V_ic_ne_f K 94 dX10_digest_87 (by decide) c28 ?_
      refine V_ic (v := -1) K dX10_digest_90 rfl ?_
      refine V_goto K 100 dX10_digest_91 (by decide) ?_
      cases E
      exact V_sub [0, 2] rfl T
    · refine V_ic_ne_t K 94 dX10_digest_87 (by decide) c28 ?_
      refine V_aload_n K 0 dX10_digest_94 rfl ?_
      refine gf_X10_16 K dX10_digest_95 ?_
      refine V_iload_n K 2 dX10_digest_98 rfl ?_
      refine V_iald K k_54 n_54 g26 dX10_digest_99 ?_
      cases E
      exact V_sub [0, 2] rfl T
def X10_digest_s147 (x3 : Int32) (h : Hp) (y1 : Int64) (y4 : Int32) : Option ((Int64 × Int32) ⊕ (Int64 × Int32)) :=
  gd (ib x3 6) (
  if (h.1 56 (ix x3)) ≤ y4 then (some (.inl (y1, y4)))
  else (gd (ib (((40 : Int32) * x3) + y4) 240) (
  lt_ (X10_more y1 (h.1 55 (ix (((40 : Int32) * x3) + y4)))) fun v45 =>
  lt_ (y4 + (1 : Int32)) fun v47 =>
  some (.inr (v45, v47)))))
set_option maxHeartbeats 4000000 in
set_option maxRecDepth 100000 in
theorem wl_X10_digest_s147 {x : Cx} {d : Nat} (K : Ok x cX10_digest RX10 5 (some .long) (d + 3)) (x3 : Int32) (h : Hp)  : ∀ (n : Nat) (s : Int64 × Int32) (r : (Int64 × Int32)), lp (fun s : Int64 × Int32 => X10_digest_s147 x3 h s.1 s.2) n s = some r → (fun r : (Int64 × Int32) => VV x 181 [(0, .ref (ad x 51)), (1, .long (r.1)), (3, .int x3), (4, .int (r.2))] [] h) r → (fun s : Int64 × Int32 => VV x 147 [(0, .ref (ad x 51)), (1, .long (s.1)), (3, .int x3), (4, .int (s.2))] [] h) s := by
  refine lp_walk ?_
  intro s z E T
  obtain ⟨y1, y4⟩ := s
  replace E : X10_digest_s147 x3 h y1 y4 = some z := E
  unfold X10_digest_s147 at E
  show VV x 147 [(0, .ref (ad x 51)), (1, .long y1), (3, .int x3), (4, .int y4)] [] h
  refine V_iload K 3 dX10_digest_147 rfl ?_
  refine V_aload_n K 0 dX10_digest_149 rfl ?_
  refine gf_X10_22 K dX10_digest_150 ?_
  refine V_iload_n K 2 dX10_digest_153 rfl ?_
  obtain ⟨g42, E⟩ := gd_inv E
  refine V_iald K k_56 n_56 g42 dX10_digest_154 ?_
  rcases if_inv E with ⟨c43, E⟩ | ⟨c43, E⟩
  · refine V_ic_ge_t K 181 dX10_digest_155 (by decide) c43 ?_
    cases E
    exact V_sub [0, 1, 2, 3] rfl T
  · refine V_ic_ge_f K 181 dX10_digest_155 (by decide) c43 ?_
    refine V_lload_n K 1 dX10_digest_158 rfl ?_
    refine V_aload_n K 0 dX10_digest_159 rfl ?_
    refine gf_X10_19 K dX10_digest_160 ?_
    refine V_bp (v := 40) K dX10_digest_163 rfl ?_
    refine V_iload_n K 2 dX10_digest_165 rfl ?_
    refine V_imul K dX10_digest_166 ?_
    refine V_iload K 3 dX10_digest_167 rfl ?_
    refine V_iadd K dX10_digest_169 ?_
    obtain ⟨g44, E⟩ := gd_inv E
    refine V_iald K k_55 n_55 g44 dX10_digest_170 ?_
    refine iv_X10_255 K (c_X10_more _ y1 (h.1 55 (ix (((40 : Int32) * x3) + y4))) h) dX10_digest_171 (Nat.le_of_ble_eq_true rfl) ?_
    obtain ⟨v45, e46, E⟩ := lt_inv E
    refine V_topl e46 ?_
    refine V_lstore_n (lv' := [(1, .long v45), (0, .ref (ad x 51)), (3, .int x3), (4, .int y4)]) K dX10_digest_174 (by decide) rfl ?_
    obtain ⟨v47, e48, E⟩ := lt_inv E
    refine V_iinc (lv' := [(4, .int v47), (1, .long v45), (0, .ref (ad x 51)), (3, .int x3)]) K 3 dX10_digest_175 rfl (by rw [e48]; rfl) (by decide) rfl ?_
    refine V_goto K 147 dX10_digest_178 (by decide) ?_
    cases E
    exact V_sub [2, 1, 3, 0] rfl T
def X10_digest_s112 (h : Hp) (y1 : Int64) (y3 : Int32) : Option ((Int64 × Int32) ⊕ (Int64 × Int32)) :=
  if (6 : Int32) ≤ y3 then (some (.inl (y1, y3)))
  else (gd (ib y3 6) (
  ob (if (h.1 56 (ix y3)) = (-9 : Int32) then (some (-1 : Int32))
  else (some (h.1 56 (ix y3)))) fun v38 =>
  lt_ (X10_more y1 v38) fun v40 =>
  ob2 (lp (fun s : Int64 × Int32 => X10_digest_s147 y3 h s.1 s.2) FU (v40, (0 : Int32))) fun v49 v50 =>
  lt_ (y3 + (1 : Int32)) fun v51 =>
  some (.inr (v49, v51))))
set_option maxHeartbeats 4000000 in
set_option maxRecDepth 100000 in
theorem wl_X10_digest_s112 {x : Cx} {d : Nat} (K : Ok x cX10_digest RX10 5 (some .long) (d + 3)) (h : Hp)  : ∀ (n : Nat) (s : Int64 × Int32) (r : (Int64 × Int32)), lp (fun s : Int64 × Int32 => X10_digest_s112 h s.1 s.2) n s = some r → (fun r : (Int64 × Int32) => VV x 187 [(0, .ref (ad x 51)), (1, .long (r.1)), (3, .int (r.2))] [] h) r → (fun s : Int64 × Int32 => VV x 112 [(0, .ref (ad x 51)), (1, .long (s.1)), (3, .int (s.2))] [] h) s := by
  refine lp_walk ?_
  intro s z E T
  obtain ⟨y1, y3⟩ := s
  replace E : X10_digest_s112 h y1 y3 = some z := E
  unfold X10_digest_s112 at E
  show VV x 112 [(0, .ref (ad x 51)), (1, .long y1), (3, .int y3)] [] h
  refine V_iload_n K 2 dX10_digest_112 rfl ?_
  refine V_bp (v := 6) K dX10_digest_113 rfl ?_
  rcases if_inv E with ⟨c36, E⟩ | ⟨c36, E⟩
  · refine V_ic_ge_t K 187 dX10_digest_115 (by decide) c36 ?_
    cases E
    exact V_sub [0, 1, 2] rfl T
  · refine V_ic_ge_f K 187 dX10_digest_115 (by decide) c36 ?_
    refine V_lload_n K 1 dX10_digest_118 rfl ?_
    refine V_aload_n K 0 dX10_digest_119 rfl ?_
    refine gf_X10_22 K dX10_digest_120 ?_
    refine V_iload_n K 2 dX10_digest_123 rfl ?_
    obtain ⟨g37, E⟩ := gd_inv E
    refine V_iald K k_56 n_56 g37 dX10_digest_124 ?_
    refine V_bp (v := -9) K dX10_digest_125 rfl ?_
    obtain ⟨v38, q54, E⟩ := ob_inv E
    have T9 : VV x 140 [(0, .ref (ad x 51)), (3, .int y3)] [.int v38, .long y1] h := by
      refine iv_X10_255 K (c_X10_more _ y1 v38 h) dX10_digest_140 (Nat.le_of_ble_eq_true rfl) ?_
      obtain ⟨v40, e41, E⟩ := lt_inv E
      refine V_topl e41 ?_
      refine V_lstore_n (lv' := [(1, .long v40), (0, .ref (ad x 51)), (3, .int y3)]) K dX10_digest_143 (by decide) rfl ?_
      refine V_ic (v := 0) K dX10_digest_144 rfl ?_
      refine V_istore (lv' := [(4, .int (0 : Int32)), (1, .long v40), (0, .ref (ad x 51)), (3, .int y3)]) K dX10_digest_145 (by decide) rfl ?_
      obtain ⟨v49, v50, q53, E⟩ := ob2_inv E
      refine V_sub [2, 1, 3, 0] rfl (wl_X10_digest_s147 K y3 h  _ _ _ q53 ?_)
      show VV x 181 [(0, .ref (ad x 51)), (1, .long v49), (3, .int y3), (4, .int v50)] [] h
      obtain ⟨v51, e52, E⟩ := lt_inv E
      refine V_iinc (lv' := [(3, .int v51), (0, .ref (ad x 51)), (1, .long v49), (4, .int v50)]) K 2 dX10_digest_181 rfl (by rw [e52]; rfl) (by decide) rfl ?_
      refine V_goto K 112 dX10_digest_184 (by decide) ?_
      cases E
      exact V_sub [1, 2, 0] rfl T
    have E := q54
    have T := T9
    rcases if_inv E with ⟨c39, E⟩ | ⟨c39, E⟩
    · refine V_ic_ne_f K 134 dX10_digest_127 (by decide) c39 ?_
      refine V_ic (v := -1) K dX10_digest_130 rfl ?_
      refine V_goto K 140 dX10_digest_131 (by decide) ?_
      cases E
      exact V_sub [0, 2] rfl T
    · refine V_ic_ne_t K 134 dX10_digest_127 (by decide) c39 ?_
      refine V_aload_n K 0 dX10_digest_134 rfl ?_
      refine gf_X10_22 K dX10_digest_135 ?_
      refine V_iload_n K 2 dX10_digest_138 rfl ?_
      refine V_iald K k_56 n_56 g37 dX10_digest_139 ?_
      cases E
      exact V_sub [0, 2] rfl T
def X10_digest_s223 (x3 : Int32) (h : Hp) (y1 : Int64) (y4 : Int32) : Option ((Int64 × Int32) ⊕ (Int64 × Int32)) :=
  gd (ib x3 4) (
  if (h.1 58 (ix x3)) ≤ y4 then (some (.inl (y1, y4)))
  else (gd (ib (((60 : Int32) * x3) + y4) 240) (
  lt_ (X10_more y1 (h.1 57 (ix (((60 : Int32) * x3) + y4)))) fun v66 =>
  lt_ (y4 + (1 : Int32)) fun v68 =>
  some (.inr (v66, v68)))))
set_option maxHeartbeats 4000000 in
set_option maxRecDepth 100000 in
theorem wl_X10_digest_s223 {x : Cx} {d : Nat} (K : Ok x cX10_digest RX10 5 (some .long) (d + 3)) (x3 : Int32) (h : Hp)  : ∀ (n : Nat) (s : Int64 × Int32) (r : (Int64 × Int32)), lp (fun s : Int64 × Int32 => X10_digest_s223 x3 h s.1 s.2) n s = some r → (fun r : (Int64 × Int32) => VV x 257 [(0, .ref (ad x 51)), (1, .long (r.1)), (3, .int x3), (4, .int (r.2))] [] h) r → (fun s : Int64 × Int32 => VV x 223 [(0, .ref (ad x 51)), (1, .long (s.1)), (3, .int x3), (4, .int (s.2))] [] h) s := by
  refine lp_walk ?_
  intro s z E T
  obtain ⟨y1, y4⟩ := s
  replace E : X10_digest_s223 x3 h y1 y4 = some z := E
  unfold X10_digest_s223 at E
  show VV x 223 [(0, .ref (ad x 51)), (1, .long y1), (3, .int x3), (4, .int y4)] [] h
  refine V_iload K 3 dX10_digest_223 rfl ?_
  refine V_aload_n K 0 dX10_digest_225 rfl ?_
  refine gf_X10_28 K dX10_digest_226 ?_
  refine V_iload_n K 2 dX10_digest_229 rfl ?_
  obtain ⟨g63, E⟩ := gd_inv E
  refine V_iald K k_58 n_58 g63 dX10_digest_230 ?_
  rcases if_inv E with ⟨c64, E⟩ | ⟨c64, E⟩
  · refine V_ic_ge_t K 257 dX10_digest_231 (by decide) c64 ?_
    cases E
    exact V_sub [0, 1, 2, 3] rfl T
  · refine V_ic_ge_f K 257 dX10_digest_231 (by decide) c64 ?_
    refine V_lload_n K 1 dX10_digest_234 rfl ?_
    refine V_aload_n K 0 dX10_digest_235 rfl ?_
    refine gf_X10_25 K dX10_digest_236 ?_
    refine V_bp (v := 60) K dX10_digest_239 rfl ?_
    refine V_iload_n K 2 dX10_digest_241 rfl ?_
    refine V_imul K dX10_digest_242 ?_
    refine V_iload K 3 dX10_digest_243 rfl ?_
    refine V_iadd K dX10_digest_245 ?_
    obtain ⟨g65, E⟩ := gd_inv E
    refine V_iald K k_57 n_57 g65 dX10_digest_246 ?_
    refine iv_X10_255 K (c_X10_more _ y1 (h.1 57 (ix (((60 : Int32) * x3) + y4))) h) dX10_digest_247 (Nat.le_of_ble_eq_true rfl) ?_
    obtain ⟨v66, e67, E⟩ := lt_inv E
    refine V_topl e67 ?_
    refine V_lstore_n (lv' := [(1, .long v66), (0, .ref (ad x 51)), (3, .int x3), (4, .int y4)]) K dX10_digest_250 (by decide) rfl ?_
    obtain ⟨v68, e69, E⟩ := lt_inv E
    refine V_iinc (lv' := [(4, .int v68), (1, .long v66), (0, .ref (ad x 51)), (3, .int x3)]) K 3 dX10_digest_251 rfl (by rw [e69]; rfl) (by decide) rfl ?_
    refine V_goto K 223 dX10_digest_254 (by decide) ?_
    cases E
    exact V_sub [2, 1, 3, 0] rfl T
def X10_digest_s189 (h : Hp) (y1 : Int64) (y3 : Int32) : Option ((Int64 × Int32) ⊕ (Int64 × Int32)) :=
  if (4 : Int32) ≤ y3 then (some (.inl (y1, y3)))
  else (gd (ib y3 4) (
  ob (if (h.1 58 (ix y3)) = (-9 : Int32) then (some (-1 : Int32))
  else (some (h.1 58 (ix y3)))) fun v59 =>
  lt_ (X10_more y1 v59) fun v61 =>
  ob2 (lp (fun s : Int64 × Int32 => X10_digest_s223 y3 h s.1 s.2) FU (v61, (0 : Int32))) fun v70 v71 =>
  lt_ (y3 + (1 : Int32)) fun v72 =>
  some (.inr (v70, v72))))
set_option maxHeartbeats 4000000 in
set_option maxRecDepth 100000 in
theorem wl_X10_digest_s189 {x : Cx} {d : Nat} (K : Ok x cX10_digest RX10 5 (some .long) (d + 3)) (h : Hp)  : ∀ (n : Nat) (s : Int64 × Int32) (r : (Int64 × Int32)), lp (fun s : Int64 × Int32 => X10_digest_s189 h s.1 s.2) n s = some r → (fun r : (Int64 × Int32) => VV x 263 [(0, .ref (ad x 51)), (1, .long (r.1)), (3, .int (r.2))] [] h) r → (fun s : Int64 × Int32 => VV x 189 [(0, .ref (ad x 51)), (1, .long (s.1)), (3, .int (s.2))] [] h) s := by
  refine lp_walk ?_
  intro s z E T
  obtain ⟨y1, y3⟩ := s
  replace E : X10_digest_s189 h y1 y3 = some z := E
  unfold X10_digest_s189 at E
  show VV x 189 [(0, .ref (ad x 51)), (1, .long y1), (3, .int y3)] [] h
  refine V_iload_n K 2 dX10_digest_189 rfl ?_
  refine V_ic (v := 4) K dX10_digest_190 rfl ?_
  rcases if_inv E with ⟨c57, E⟩ | ⟨c57, E⟩
  · refine V_ic_ge_t K 263 dX10_digest_191 (by decide) c57 ?_
    cases E
    exact V_sub [0, 1, 2] rfl T
  · refine V_ic_ge_f K 263 dX10_digest_191 (by decide) c57 ?_
    refine V_lload_n K 1 dX10_digest_194 rfl ?_
    refine V_aload_n K 0 dX10_digest_195 rfl ?_
    refine gf_X10_28 K dX10_digest_196 ?_
    refine V_iload_n K 2 dX10_digest_199 rfl ?_
    obtain ⟨g58, E⟩ := gd_inv E
    refine V_iald K k_58 n_58 g58 dX10_digest_200 ?_
    refine V_bp (v := -9) K dX10_digest_201 rfl ?_
    obtain ⟨v59, q75, E⟩ := ob_inv E
    have T9 : VV x 216 [(0, .ref (ad x 51)), (3, .int y3)] [.int v59, .long y1] h := by
      refine iv_X10_255 K (c_X10_more _ y1 v59 h) dX10_digest_216 (Nat.le_of_ble_eq_true rfl) ?_
      obtain ⟨v61, e62, E⟩ := lt_inv E
      refine V_topl e62 ?_
      refine V_lstore_n (lv' := [(1, .long v61), (0, .ref (ad x 51)), (3, .int y3)]) K dX10_digest_219 (by decide) rfl ?_
      refine V_ic (v := 0) K dX10_digest_220 rfl ?_
      refine V_istore (lv' := [(4, .int (0 : Int32)), (1, .long v61), (0, .ref (ad x 51)), (3, .int y3)]) K dX10_digest_221 (by decide) rfl ?_
      obtain ⟨v70, v71, q74, E⟩ := ob2_inv E
      refine V_sub [2, 1, 3, 0] rfl (wl_X10_digest_s223 K y3 h  _ _ _ q74 ?_)
      show VV x 257 [(0, .ref (ad x 51)), (1, .long v70), (3, .int y3), (4, .int v71)] [] h
      obtain ⟨v72, e73, E⟩ := lt_inv E
      refine V_iinc (lv' := [(3, .int v72), (0, .ref (ad x 51)), (1, .long v70), (4, .int v71)]) K 2 dX10_digest_257 rfl (by rw [e73]; rfl) (by decide) rfl ?_
      refine V_goto K 189 dX10_digest_260 (by decide) ?_
      cases E
      exact V_sub [1, 2, 0] rfl T
    have E := q75
    have T := T9
    rcases if_inv E with ⟨c60, E⟩ | ⟨c60, E⟩
    · refine V_ic_ne_f K 210 dX10_digest_203 (by decide) c60 ?_
      refine V_ic (v := -1) K dX10_digest_206 rfl ?_
      refine V_goto K 216 dX10_digest_207 (by decide) ?_
      cases E
      exact V_sub [0, 2] rfl T
    · refine V_ic_ne_t K 210 dX10_digest_203 (by decide) c60 ?_
      refine V_aload_n K 0 dX10_digest_210 rfl ?_
      refine gf_X10_28 K dX10_digest_211 ?_
      refine V_iload_n K 2 dX10_digest_214 rfl ?_
      refine V_iald K k_58 n_58 g58 dX10_digest_215 ?_
      cases E
      exact V_sub [0, 2] rfl T
def X10_digest  (h : Hp) : Option Int64 :=
  ob2 (lp (fun s : Int64 × Int32 => X10_digest_s6 h s.1 s.2) FU ((17 : Int64), (0 : Int32))) fun v8 v9 =>
  ob2 (lp (fun s : Int64 × Int32 => X10_digest_s30 h s.1 s.2) FU (v8, (0 : Int32))) fun v23 v24 =>
  ob2 (lp (fun s : Int64 × Int32 => X10_digest_s73 h s.1 s.2) FU (v23, (0 : Int32))) fun v34 v35 =>
  ob2 (lp (fun s : Int64 × Int32 => X10_digest_s112 h s.1 s.2) FU (v34, (0 : Int32))) fun v55 v56 =>
  ob2 (lp (fun s : Int64 × Int32 => X10_digest_s189 h s.1 s.2) FU (v55, (0 : Int32))) fun v76 v77 =>
  some v76
set_option maxHeartbeats 4000000 in
set_option maxRecDepth 100000 in
theorem w_X10_digest {x : Cx} {d : Nat} (K : Ok x cX10_digest RX10 5 (some .long) (d + 3))  (h : Hp)  {z : Int64} (E : X10_digest  h = some z) (T : x.2.2.2.2 = (some (.long z), h)) : VV x 0 [(0, .ref (ad x 51))] [] h := by
  unfold X10_digest at E
  refine V_ldc2 (v := 17) K tb_107 dX10_digest_0 ?_
  refine V_lstore_n (lv' := [(1, .long (17 : Int64)), (0, .ref (ad x 51))]) K dX10_digest_3 (by decide) rfl ?_
  refine V_ic (v := 0) K dX10_digest_4 rfl ?_
  refine V_istore_n (lv' := [(3, .int (0 : Int32)), (1, .long (17 : Int64)), (0, .ref (ad x 51))]) K dX10_digest_5 (by decide) rfl ?_
  obtain ⟨v8, v9, q82, E⟩ := ob2_inv E
  refine V_sub [2, 1, 0] rfl (wl_X10_digest_s6 K h  _ _ _ q82 ?_)
  show VV x 28 [(0, .ref (ad x 51)), (1, .long v8), (3, .int v9)] [] h
  refine V_ic (v := 0) K dX10_digest_28 rfl ?_
  refine V_istore_n (lv' := [(3, .int (0 : Int32)), (0, .ref (ad x 51)), (1, .long v8)]) K dX10_digest_29 (by decide) rfl ?_
  obtain ⟨v23, v24, q81, E⟩ := ob2_inv E
  refine V_sub [1, 2, 0] rfl (wl_X10_digest_s30 K h  _ _ _ q81 ?_)
  show VV x 71 [(0, .ref (ad x 51)), (1, .long v23), (3, .int v24)] [] h
  refine V_ic (v := 0) K dX10_digest_71 rfl ?_
  refine V_istore_n (lv' := [(3, .int (0 : Int32)), (0, .ref (ad x 51)), (1, .long v23)]) K dX10_digest_72 (by decide) rfl ?_
  obtain ⟨v34, v35, q80, E⟩ := ob2_inv E
  refine V_sub [1, 2, 0] rfl (wl_X10_digest_s73 K h  _ _ _ q80 ?_)
  show VV x 110 [(0, .ref (ad x 51)), (1, .long v34), (3, .int v35)] [] h
  refine V_ic (v := 0) K dX10_digest_110 rfl ?_
  refine V_istore_n (lv' := [(3, .int (0 : Int32)), (0, .ref (ad x 51)), (1, .long v34)]) K dX10_digest_111 (by decide) rfl ?_
  obtain ⟨v55, v56, q79, E⟩ := ob2_inv E
  refine V_sub [1, 2, 0] rfl (wl_X10_digest_s112 K h  _ _ _ q79 ?_)
  show VV x 187 [(0, .ref (ad x 51)), (1, .long v55), (3, .int v56)] [] h
  refine V_ic (v := 0) K dX10_digest_187 rfl ?_
  refine V_istore_n (lv' := [(3, .int (0 : Int32)), (0, .ref (ad x 51)), (1, .long v55)]) K dX10_digest_188 (by decide) rfl ?_
  obtain ⟨v76, v77, q78, E⟩ := ob2_inv E
  refine V_sub [1, 2, 0] rfl (wl_X10_digest_s189 K h  _ _ _ q78 ?_)
  show VV x 263 [(0, .ref (ad x 51)), (1, .long v76), (3, .int v77)] [] h
  refine V_lload_n K 1 dX10_digest_263 rfl ?_
  cases E
  exact V_lret K dX10_digest_264 T
theorem c_X10_digest (d : Nat)  (h : Hp)  {r : Int64} (E : X10_digest  h = some r) : Runs (d + 3) yX10_digest cX10_digest 5 (some .long) (fun f => [.ref (f 51)]) h (fun _ => some (.long r)) h :=
  Runs.of (by decide +kernel) (fun _ => Nat.le_of_ble_eq_true rfl) (fun x K T => w_X10_digest K   h  E T)
def X10_endOf_s20 (x1 : Int32) (x2 : Int32) (y5 : Int32) (y6 : Int32) (h : Hp) : Option ((Int32 × Int32 × Hp) ⊕ (Int32 × Int32 × Hp)) :=
  if y6 < (0 : Int32) then (some (.inl (y5, y6, h)))
  else (ob (if (irm y6 (2 : Int32)) = (0 : Int32) then (some x1)
  else (some x2)) fun v6 =>
  gd (ib ((2788 : Int32) + v6) 2805) (
  lt_ (up h 52 (ix ((2788 : Int32) + v6)) (irm (((h.1 52 (ix ((2788 : Int32) + v6))) + (irm y5 (3 : Int32))) + (9 : Int32)) (10 : Int32))) fun h9 =>
  lt_ (y5 / (3 : Int32)) fun v11 =>
  lt_ (y6 + (-1 : Int32)) fun v13 =>
  some (.inr (v11, v13, h9))))
set_option maxHeartbeats 4000000 in
set_option maxRecDepth 100000 in
theorem wl_X10_endOf_s20 {x : Cx} {d : Nat} (K : Ok x cX10_endOf RX10 8 (some .int) (d + 4)) (x1 : Int32) (x2 : Int32)  : ∀ (n : Nat) (s : Int32 × Int32 × Hp) (r : (Int32 × Int32 × Hp)), lp (fun s : Int32 × Int32 × Hp => X10_endOf_s20 x1 x2 s.1 s.2.1 s.2.2) n s = some r → (fun r : (Int32 × Int32 × Hp) => VV x 84 [(0, .ref (ad x 51)), (1, .int x1), (2, .int x2), (5, .int (r.1)), (6, .int (r.2.1))] [] r.2.2) r → (fun s : Int32 × Int32 × Hp => VV x 20 [(0, .ref (ad x 51)), (1, .int x1), (2, .int x2), (5, .int (s.1)), (6, .int (s.2.1))] [] s.2.2) s := by
  refine lp_walk ?_
  intro s z E T
  obtain ⟨y5, y6, h⟩ := s
  replace E : X10_endOf_s20 x1 x2 y5 y6 h = some z := E
  unfold X10_endOf_s20 at E
  show VV x 20 [(0, .ref (ad x 51)), (1, .int x1), (2, .int x2), (5, .int y5), (6, .int y6)] [] h
  refine V_iload K 4 dX10_endOf_20 rfl ?_
  rcases if_inv E with ⟨c5, E⟩ | ⟨c5, E⟩
  · refine V_if_lt_t K 84 dX10_endOf_22 (by decide) c5 ?_
    cases E
    exact V_sub [0, 1, 2, 3, 4] rfl T
  · refine V_if_lt_f K 84 dX10_endOf_22 (by decide) c5 ?_
    refine V_iload K 4 dX10_endOf_25 rfl ?_
    refine V_ic (v := 2) K dX10_endOf_27 rfl ?_
    refine V_irem K dX10_endOf_28 (by decide) ?_
    obtain ⟨v6, q15, E⟩ := ob_inv E
    have T9 : VV x 37 [(0, .ref (ad x 51)), (1, .int x1), (2, .int x2), (5, .int y5), (6, .int y6)] [.int v6] h := by
      refine V_istore (lv' := [(7, .int v6), (0, .ref (ad x 51)), (1, .int x1), (2, .int x2), (5, .int y5), (6, .int y6)]) K dX10_endOf_37 (by decide) rfl ?_
      refine V_aload_n K 1 dX10_endOf_39 rfl ?_
      refine gf_X10_7 K dX10_endOf_40 ?_
      refine V_sp (v := 2788) K dX10_endOf_43 rfl ?_
      refine V_iload K 0 dX10_endOf_46 rfl ?_
      refine V_iadd K dX10_endOf_48 ?_
      refine V_aload_n K 1 dX10_endOf_49 rfl ?_
      refine gf_X10_7 K dX10_endOf_50 ?_
      refine V_sp (v := 2788) K dX10_endOf_53 rfl ?_
      refine V_iload K 0 dX10_endOf_56 rfl ?_
      refine V_iadd K dX10_endOf_58 ?_
      obtain ⟨g8, E⟩ := gd_inv E
      refine V_iald K k_52 n_52 g8 dX10_endOf_59 ?_
      refine V_iload K 4 dX10_endOf_60 rfl ?_
      refine V_ic (v := 3) K dX10_endOf_62 rfl ?_
      refine V_irem K dX10_endOf_63 (by decide) ?_
      refine V_iadd K dX10_endOf_64 ?_
      refine V_bp (v := 9) K dX10_endOf_65 rfl ?_
      refine V_iadd K dX10_endOf_67 ?_
      refine V_bp (v := 10) K dX10_endOf_68 rfl ?_
      refine V_irem K dX10_endOf_70 (by decide) ?_
      obtain ⟨h9, e10, E⟩ := lt_inv E
      refine V_iast K k_52 n_52 g8 dX10_endOf_71 ?_
      refine V_hp e10 ?_
      refine V_iload K 4 dX10_endOf_72 rfl ?_
      refine V_ic (v := 3) K dX10_endOf_74 rfl ?_
      refine V_idiv K dX10_endOf_75 (by decide) ?_
      obtain ⟨v11, e12, E⟩ := lt_inv E
      refine V_top e12 ?_
      refine V_istore (lv' := [(5, .int v11), (7, .int v6), (0, .ref (ad x 51)), (1, .int x1), (2, .int x2), (6, .int y6)]) K dX10_endOf_76 (by decide) rfl ?_
      obtain ⟨v13, e14, E⟩ := lt_inv E
      refine V_iinc (lv' := [(6, .int v13), (5, .int v11), (7, .int v6), (0, .ref (ad x 51)), (1, .int x1), (2, .int x2)]) K 5 dX10_endOf_78 rfl (by rw [e14]; rfl) (by decide) rfl ?_
      refine V_goto K 20 dX10_endOf_81 (by decide) ?_
      cases E
      exact V_sub [3, 4, 5, 1, 0] rfl T
    have E := q15
    have T := T9
    rcases if_inv E with ⟨c7, E⟩ | ⟨c7, E⟩
    · refine V_if_ne_f K 36 dX10_endOf_29 (by decide) c7 ?_
      refine V_iload_n K 1 dX10_endOf_32 rfl ?_
      refine V_goto K 37 dX10_endOf_33 (by decide) ?_
      cases E
      exact V_sub [0, 1, 2, 3, 4] rfl T
    · refine V_if_ne_t K 36 dX10_endOf_29 (by decide) c7 ?_
      refine V_iload_n K 2 dX10_endOf_36 rfl ?_
      cases E
      exact V_sub [0, 1, 2, 3, 4] rfl T
def X10_endOf_s87 (x1 : Int32) (x2 : Int32) (y6 : Int32) (h : Hp) : Option ((Int32 × Hp) ⊕ (Int32 × Hp)) :=
  if (3 : Int32) ≤ y6 then (some (.inl (y6, h)))
  else (ob2 (X10_plainTurn (2788 : Int32) h) fun r22 h21 =>
  lt_ (y6 + (1 : Int32)) fun v23 =>
  some (.inr (v23, h21)))
set_option maxHeartbeats 4000000 in
set_option maxRecDepth 100000 in
theorem wl_X10_endOf_s87 {x : Cx} {d : Nat} (K : Ok x cX10_endOf RX10 8 (some .int) (d + 4)) (x1 : Int32) (x2 : Int32)  : ∀ (n : Nat) (s : Int32 × Hp) (r : (Int32 × Hp)), lp (fun s : Int32 × Hp => X10_endOf_s87 x1 x2 s.1 s.2) n s = some r → (fun r : (Int32 × Hp) => VV x 108 [(0, .ref (ad x 51)), (1, .int x1), (2, .int x2), (6, .int (r.1))] [] r.2) r → (fun s : Int32 × Hp => VV x 87 [(0, .ref (ad x 51)), (1, .int x1), (2, .int x2), (6, .int (s.1))] [] s.2) s := by
  refine lp_walk ?_
  intro s z E T
  obtain ⟨y6, h⟩ := s
  replace E : X10_endOf_s87 x1 x2 y6 h = some z := E
  unfold X10_endOf_s87 at E
  show VV x 87 [(0, .ref (ad x 51)), (1, .int x1), (2, .int x2), (6, .int y6)] [] h
  refine V_iload K 3 dX10_endOf_87 rfl ?_
  refine V_ic (v := 3) K dX10_endOf_89 rfl ?_
  rcases if_inv E with ⟨c19, E⟩ | ⟨c19, E⟩
  · refine V_ic_ge_t K 108 dX10_endOf_90 (by decide) c19 ?_
    cases E
    exact V_sub [0, 1, 2, 3] rfl T
  · refine V_ic_ge_f K 108 dX10_endOf_90 (by decide) c19 ?_
    refine V_aload_n K 0 dX10_endOf_93 rfl ?_
    refine V_sp (v := 2788) K dX10_endOf_94 rfl ?_
    obtain ⟨r22, h21, q20, E⟩ := ob2_inv E
    refine iv_X10_174 K (c_X10_plainTurn _ (2788 : Int32) h q20) dX10_endOf_97 (Nat.le_of_ble_eq_true rfl) ?_
    refine V_istore (lv' := [(7, .int r22), (0, .ref (ad x 51)), (1, .int x1), (2, .int x2), (6, .int y6)]) K dX10_endOf_100 (by decide) rfl ?_
    obtain ⟨v23, e24, E⟩ := lt_inv E
    refine V_iinc (lv' := [(6, .int v23), (7, .int r22), (0, .ref (ad x 51)), (1, .int x1), (2, .int x2)]) K 4 dX10_endOf_102 rfl (by rw [e24]; rfl) (by decide) rfl ?_
    refine V_goto K 87 dX10_endOf_105 (by decide) ?_
    cases E
    exact V_sub [2, 3, 4, 0] rfl T
def X10_endOf (a1 : Int32) (a2 : Int32) (a3 : Int32) (a4 : Int32) (h : Hp) : Option (Int32 × Hp) :=
  ob (X10_copyRow (X10_now h) (2788 : Int32) h) fun h2 =>
  lt_ (a4 - (1 : Int32)) fun v3 =>
  ob3 (lp (fun s : Int32 × Int32 × Hp => X10_endOf_s20 a1 a2 s.1 s.2.1 s.2.2) FU (a3, v3, h2)) fun v16 v17 h18 =>
  ob2 (lp (fun s : Int32 × Hp => X10_endOf_s87 a1 a2 s.1 s.2) FU ((0 : Int32), h18)) fun v25 h26 =>
  gd (ib ((2794 : Int32) + a1) 2805) (
  gd (ib ((2794 : Int32) + a2) 2805) (
  some (((h26.1 52 (ix ((2794 : Int32) + a1))) - (h26.1 52 (ix ((2794 : Int32) + a2)))), h26)))
set_option maxHeartbeats 4000000 in
set_option maxRecDepth 100000 in
theorem w_X10_endOf {x : Cx} {d : Nat} (K : Ok x cX10_endOf RX10 8 (some .int) (d + 4)) (a1 : Int32) (a2 : Int32) (a3 : Int32) (a4 : Int32) (h : Hp)  {z : Int32 × Hp} (E : X10_endOf a1 a2 a3 a4 h = some z) (T : x.2.2.2.2 = (some (.int (z.1)), z.2)) : VV x 0 [(0, .ref (ad x 51)), (1, .int a1), (2, .int a2), (3, .int a3), (4, .int a4)] [] h := by
  unfold X10_endOf at E
  refine V_aload_n K 0 dX10_endOf_0 rfl ?_
  refine V_aload_n K 0 dX10_endOf_1 rfl ?_
  refine iv_X10_145 K (c_X10_now _ h) dX10_endOf_2 (Nat.le_of_ble_eq_true rfl) ?_
  refine V_sp (v := 2788) K dX10_endOf_5 rfl ?_
  obtain ⟨h2, q1, E⟩ := ob_inv E
  refine iv_X10_167 K (c_X10_copyRow _ (X10_now h) (2788 : Int32) h q1) dX10_endOf_8 (Nat.le_of_ble_eq_true rfl) ?_
  refine V_iload_n K 3 dX10_endOf_11 rfl ?_
  refine V_istore (lv' := [(5, .int a3), (0, .ref (ad x 51)), (1, .int a1), (2, .int a2), (3, .int a3), (4, .int a4)]) K dX10_endOf_12 (by decide) rfl ?_
  refine V_iload K 5 dX10_endOf_14 rfl ?_
  refine V_ic (v := 1) K dX10_endOf_16 rfl ?_
  refine V_isub K dX10_endOf_17 ?_
  obtain ⟨v3, e4, E⟩ := lt_inv E
  refine V_top e4 ?_
  refine V_istore (lv' := [(6, .int v3), (5, .int a3), (0, .ref (ad x 51)), (1, .int a1), (2, .int a2), (3, .int a3), (4, .int a4)]) K dX10_endOf_18 (by decide) rfl ?_
  obtain ⟨v16, v17, h18, q30, E⟩ := ob3_inv E
  refine V_sub [2, 3, 4, 1, 0] rfl (wl_X10_endOf_s20 K a1 a2  _ _ _ q30 ?_)
  show VV x 84 [(0, .ref (ad x 51)), (1, .int a1), (2, .int a2), (5, .int v16), (6, .int v17)] [] h18
  refine V_ic (v := 0) K dX10_endOf_84 rfl ?_
  refine V_istore (lv' := [(6, .int (0 : Int32)), (0, .ref (ad x 51)), (1, .int a1), (2, .int a2), (5, .int v16)]) K dX10_endOf_85 (by decide) rfl ?_
  obtain ⟨v25, h26, q29, E⟩ := ob2_inv E
  refine V_sub [1, 2, 3, 0] rfl (wl_X10_endOf_s87 K a1 a2  _ _ _ q29 ?_)
  show VV x 108 [(0, .ref (ad x 51)), (1, .int a1), (2, .int a2), (6, .int v25)] [] h26
  refine V_aload_n K 0 dX10_endOf_108 rfl ?_
  refine gf_X10_7 K dX10_endOf_109 ?_
  refine V_sp (v := 2794) K dX10_endOf_112 rfl ?_
  refine V_iload_n K 1 dX10_endOf_115 rfl ?_
  refine V_iadd K dX10_endOf_116 ?_
  obtain ⟨g27, E⟩ := gd_inv E
  refine V_iald K k_52 n_52 g27 dX10_endOf_117 ?_
  refine V_aload_n K 0 dX10_endOf_118 rfl ?_
  refine gf_X10_7 K dX10_endOf_119 ?_
  refine V_sp (v := 2794) K dX10_endOf_122 rfl ?_
  refine V_iload_n K 2 dX10_endOf_125 rfl ?_
  refine V_iadd K dX10_endOf_126 ?_
  obtain ⟨g28, E⟩ := gd_inv E
  refine V_iald K k_52 n_52 g28 dX10_endOf_127 ?_
  refine V_isub K dX10_endOf_128 ?_
  cases E
  exact V_iret K dX10_endOf_129 rfl T
theorem c_X10_endOf (d : Nat) (a1 : Int32) (a2 : Int32) (a3 : Int32) (a4 : Int32) (h : Hp)  {r : Int32} {h' : Hp} (E : X10_endOf a1 a2 a3 a4 h = some (r, h')) : Runs (d + 4) yX10_endOf cX10_endOf 8 (some .int) (fun f => [.ref (f 51), .int a1, .int a2, .int a3, .int a4]) h (fun _ => some (.int r)) h' :=
  Runs.of (by decide +kernel) (fun _ => Nat.le_of_ble_eq_true rfl) (fun x K T => w_X10_endOf K  a1 a2 a3 a4 h  E T)
