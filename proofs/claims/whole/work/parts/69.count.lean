/-- two loops that hold the same -/
theorem lpe {σ ρ : Type} {f g : σ → Option (ρ ⊕ σ)} (I : Nat → σ → Prop) (n : Nat) (hn : n < 9999999)
    (hs : ∀ i s, i ≤ n → I i s → (∃ s', f s = some (.inr s') ∧ g s = some (.inr s') ∧ i < n ∧ I (i + 1) s') ∨ (∃ r, f s = some (.inl r) ∧ g s = some (.inl r))) {s : σ} (h0 : I 0 s) : ∃ r, lp f FU s = some r ∧ lp g FU s = some r := by
  obtain ⟨r, p, e1, e2, rfl⟩ := lpp (f := f) (g := g) (fun i s t => s = t ∧ I i s) (fun r p => r = p) n hn (by
    rintro i s t hi ⟨rfl, h⟩
    rcases hs i s hi h with ⟨s', a, b, c, d⟩ | ⟨r, a, b⟩
    · exact Or.inl ⟨s', s', a, b, c, rfl, d⟩
    · exact Or.inr ⟨r, r, a, b, rfl⟩) (s := s) (t := s) ⟨rfl, h0⟩
  exact ⟨r, e1, e2⟩
theorem RZ.bea {u w : Hp} {z : ZS} {d0 : DS} {cs : Nat → Nat} {n : Nat} {h g : Hp} (H : RZ u w z d0 cs n h g) : ∃ v, X9_beards h = some v ∧ X10_manyOf 1 g = some v := by
  have hp := H.zok.1
  unfold X9_beards X10_manyOf
  obtain ⟨⟨s1, s2⟩, e1, e2⟩ := lpe (f := fun s : Int32 × Int32 => X9_beards_s4 h s.1 s.2) (g := fun s : Int32 × Int32 => X10_manyOf_s4 1 g s.1 s.2)
    (fun i s => s.2 = nI i) (zp z) (by omega) (by
      rintro i ⟨s1, s2⟩ hi e
      cases e
      show (∃ s', X9_beards_s4 h s1 (nI i) = some (.inr s') ∧ X10_manyOf_s4 1 g s1 (nI i) = some (.inr s') ∧ _) ∨ ∃ r, X9_beards_s4 h s1 (nI i) = some (.inl r) ∧ X10_manyOf_s4 1 g s1 (nI i) = some (.inl r)
      unfold X9_beards_s4 X10_manyOf_s4
      rw [H.p9, H.p10]
      by_cases ci : i < zp z
      · left
        rw [if_neg (nI_ge ci (by omega)), if_neg (nI_ge ci (by omega)), H.pers ci, ob_some, gd_true (pB_c _), gd_ib (by omega) (by decide), ix_nI (by omega), H.k10 ci]
        rcases mk_1 _ (H.k6 ci) with ⟨b1, b2⟩ | ⟨b1, b2⟩
        · rw [if_pos b1, if_pos b2, ob_some, ob_some, Int32.add_zero]
          exact ⟨_, rfl, rfl, ci, nap_1 i⟩
        · rw [if_neg b1, if_neg b2, lt_eq, ob_some, ob_some]
          exact ⟨_, rfl, rfl, ci, nap_1 i⟩
      · right
        rw [if_pos (nI_le (by omega) (by omega)), if_pos (nI_le (by omega) (by omega))]
        exact ⟨_, rfl, rfl⟩) (s := ((0 : Int32), (0 : Int32))) rfl
  rw [e1, e2, ob2_some]
  exact ⟨_, rfl, rfl⟩
theorem RZ.was {u w : Hp} {z : ZS} {d0 : DS} {cs : Nat → Nat} {n : Nat} {h g : Hp} (H : RZ u w z d0 cs n h g) : ∃ v, X9_wasps h = some v ∧ X10_manyOf 3 g = some v := by
  have hp := H.zok.1
  unfold X9_wasps X10_manyOf
  obtain ⟨⟨s1, s2⟩, e1, e2⟩ := lpe (f := fun s : Int32 × Int32 => X9_wasps_s4 h s.1 s.2) (g := fun s : Int32 × Int32 => X10_manyOf_s4 3 g s.1 s.2)
    (fun i s => s.2 = nI i) (zp z) (by omega) (by
      rintro i ⟨s1, s2⟩ hi e
      cases e
      show (∃ s', X9_wasps_s4 h s1 (nI i) = some (.inr s') ∧ X10_manyOf_s4 3 g s1 (nI i) = some (.inr s') ∧ _) ∨ ∃ r, X9_wasps_s4 h s1 (nI i) = some (.inl r) ∧ X10_manyOf_s4 3 g s1 (nI i) = some (.inl r)
      unfold X9_wasps_s4 X10_manyOf_s4
      rw [H.p9, H.p10]
      by_cases ci : i < zp z
      · left
        rw [if_neg (nI_ge ci (by omega)), if_neg (nI_ge ci (by omega)), H.pers ci, ob_some, gd_true (pB_c _), gd_ib (by omega) (by decide), ix_nI (by omega), H.k10 ci]
        rcases mk_3 _ (H.k6 ci) with ⟨b1, b2⟩ | ⟨b1, b2⟩
        · rw [if_pos b1, if_pos b2, ob_some, ob_some, Int32.add_zero]
          exact ⟨_, rfl, rfl, ci, nap_1 i⟩
        · rw [if_neg b1, if_neg b2, lt_eq, ob_some, ob_some]
          exact ⟨_, rfl, rfl, ci, nap_1 i⟩
      · right
        rw [if_pos (nI_le (by omega) (by omega)), if_pos (nI_le (by omega) (by omega))]
        exact ⟨_, rfl, rfl⟩) (s := ((0 : Int32), (0 : Int32))) rfl
  rw [e1, e2, ob2_some]
  exact ⟨_, rfl, rfl⟩
theorem RZ.rth {u w : Hp} {z : ZS} {d0 : DS} {cs : Nat → Nat} {n : Nat} {h g : Hp} (H : RZ u w z d0 cs n h g) : ∃ v, X9_howManyThere 8 h = some v ∧ X10_rowsThere g = some v := by
  unfold X9_howManyThere X10_rowsThere
  rw [show Int32.ofNat (shN 8) = nI 6 by decide, lt_eq]
  obtain ⟨⟨s1, s2⟩, e1, e2⟩ := lpe (f := fun s : Int32 × Int32 => X9_howManyThere_s10 8 (nI 6) h s.1 s.2) (g := fun s : Int32 × Int32 => X10_rowsThere_s4 g s.1 s.2)
    (fun i s => s.2 = nI i) 6 (by omega) (by
      rintro i ⟨s1, s2⟩ hi e
      cases e
      show (∃ s', X9_howManyThere_s10 8 (nI 6) h s1 (nI i) = some (.inr s') ∧ X10_rowsThere_s4 g s1 (nI i) = some (.inr s') ∧ _) ∨ ∃ r, X9_howManyThere_s10 8 (nI 6) h s1 (nI i) = some (.inl r) ∧ X10_rowsThere_s4 g s1 (nI i) = some (.inl r)
      unfold X9_howManyThere_s10 X10_rowsThere_s4
      rw [show shN 8 = 6 by decide]
      by_cases ci : i < 6
      · left
        rw [if_neg (nI_ge ci (by omega)), if_neg (show ¬ (6 : Int32) ≤ nI i by rw [nel_6 (by omega)]; omega), gd_ib (by omega) (by decide), gd_ib (by omega) (by decide), ix_nI (by omega), lt_eq]
        rcases H.1 i ci with ⟨x1, x2⟩ | ⟨m, hm, x1, x2, x3⟩
        · rw [x1, x2, if_pos rfl, if_pos rfl, ob_some, ob_some, Int32.add_zero]
          exact ⟨_, rfl, rfl, ci, nap_1 i⟩
        · rw [x1, x2, if_neg (nm1 (by omega)), if_neg (nm9 (by omega)), lt_eq, ob_some, ob_some]
          exact ⟨_, rfl, rfl, ci, nap_1 i⟩
      · right
        rw [if_pos (nI_le (by omega) (by omega)), if_pos (show (6 : Int32) ≤ nI i by rw [nel_6 (by omega)]; omega)]
        exact ⟨_, rfl, rfl⟩) (s := ((0 : Int32), (0 : Int32))) rfl
  rw [e1, e2, ob2_some]
  exact ⟨_, rfl, rfl⟩
theorem RZ.tth {u w : Hp} {z : ZS} {d0 : DS} {cs : Nat → Nat} {n : Nat} {h g : Hp} (H : RZ u w z d0 cs n h g) : ∃ v, X9_howManyThere 14 h = some v ∧ X10_textsThere g = some v := by
  unfold X9_howManyThere X10_textsThere
  rw [show Int32.ofNat (shN 14) = nI 4 by decide, lt_eq]
  obtain ⟨⟨s1, s2⟩, e1, e2⟩ := lpe (f := fun s : Int32 × Int32 => X9_howManyThere_s10 14 (nI 4) h s.1 s.2) (g := fun s : Int32 × Int32 => X10_textsThere_s4 g s.1 s.2)
    (fun i s => s.2 = nI i) 4 (by omega) (by
      rintro i ⟨s1, s2⟩ hi e
      cases e
      show (∃ s', X9_howManyThere_s10 14 (nI 4) h s1 (nI i) = some (.inr s') ∧ X10_textsThere_s4 g s1 (nI i) = some (.inr s') ∧ _) ∨ ∃ r, X9_howManyThere_s10 14 (nI 4) h s1 (nI i) = some (.inl r) ∧ X10_textsThere_s4 g s1 (nI i) = some (.inl r)
      unfold X9_howManyThere_s10 X10_textsThere_s4
      rw [show shN 14 = 4 by decide]
      by_cases ci : i < 4
      · left
        rw [if_neg (nI_ge ci (by omega)), if_neg (show ¬ (4 : Int32) ≤ nI i by rw [nel_4 (by omega)]; omega), gd_ib (by omega) (by decide), gd_ib (by omega) (by decide), ix_nI (by omega), lt_eq]
        rcases H.2.1 i ci with ⟨x1, x2⟩ | ⟨m, hm, x1, x2, x3⟩
        · rw [x1, x2, if_pos rfl, if_pos rfl, ob_some, ob_some, Int32.add_zero]
          exact ⟨_, rfl, rfl, ci, nap_1 i⟩
        · rw [x1, x2, if_neg (nm1 (by omega)), if_neg (nm9 (by omega)), lt_eq, ob_some, ob_some]
          exact ⟨_, rfl, rfl, ci, nap_1 i⟩
      · right
        rw [if_pos (nI_le (by omega) (by omega)), if_pos (show (4 : Int32) ≤ nI i by rw [nel_4 (by omega)]; omega)]
        exact ⟨_, rfl, rfl⟩) (s := ((0 : Int32), (0 : Int32))) rfl
  rw [e1, e2, ob2_some]
  exact ⟨_, rfl, rfl⟩
theorem RZ.kpt {u w : Hp} {z : ZS} {d0 : DS} {cs : Nat → Nat} {n : Nat} {h g : Hp} (H : RZ u w z d0 cs n h g) (k : Nat) (hk : k < 3) : (h.1 (30 + 2 * k) 1 = (-1 : Int32) ∧ g.1 54 k = (-9 : Int32)) ∨ ∃ m, m ≤ 40 ∧ h.1 (30 + 2 * k) 1 = nI m ∧ g.1 54 k = nI m := by
  rcases H.2.2.2.1.2.2.2.2.2.2.2 k hk with q | ⟨cs', m, q1, q2⟩
  · exact Or.inl q
  · exact Or.inr ⟨m, q1.1, q1.2.1, q2⟩
theorem RZ.kth {u w : Hp} {z : ZS} {d0 : DS} {cs : Nat → Nat} {n : Nat} {h g : Hp} (H : RZ u w z d0 cs n h g) : ∃ v, X9_howManyKept h = some v ∧ X10_frontsThere g = some v := by
  unfold X9_howManyKept X10_frontsThere
  rw [show Int32.ofNat (shN 29) = nI 3 by decide, lt_eq]
  obtain ⟨⟨s1, s2⟩, e1, e2⟩ := lpe (f := fun s : Int32 × Int32 => X9_howManyKept_s13 (nI 3) h s.1 s.2) (g := fun s : Int32 × Int32 => X10_frontsThere_s4 g s.1 s.2)
    (fun i s => s.2 = nI i) 3 (by omega) (by
      rintro i ⟨s1, s2⟩ hi e
      cases e
      show (∃ s', X9_howManyKept_s13 (nI 3) h s1 (nI i) = some (.inr s') ∧ X10_frontsThere_s4 g s1 (nI i) = some (.inr s') ∧ _) ∨ ∃ r, X9_howManyKept_s13 (nI 3) h s1 (nI i) = some (.inl r) ∧ X10_frontsThere_s4 g s1 (nI i) = some (.inl r)
      unfold X9_howManyKept_s13 X10_frontsThere_s4
      by_cases ci : i < 3
      · left
        rw [if_neg (nI_ge ci (by omega)), if_neg (show ¬ (3 : Int32) ≤ nI i by rw [nel_3 (by omega)]; omega), gd_ib (by omega) (by decide), gd_ib (by omega) (by decide), ix_nI (by omega)]
        rcases H.kpt i ci with ⟨x1, x2⟩ | ⟨m, hm, x1, x2⟩
        · rw [x1, x2, if_pos rfl, if_pos rfl, ob_some, ob_some, Int32.add_zero]
          exact ⟨_, rfl, rfl, ci, nap_1 i⟩
        · rw [x1, x2, if_neg (nm1 (by omega)), if_neg (nm9 (by omega)), lt_eq, ob_some, ob_some]
          exact ⟨_, rfl, rfl, ci, nap_1 i⟩
      · right
        rw [if_pos (nI_le (by omega) (by omega)), if_pos (show (3 : Int32) ≤ nI i by rw [nel_3 (by omega)]; omega)]
        exact ⟨_, rfl, rfl⟩) (s := ((0 : Int32), (0 : Int32))) rfl
  rw [e1, e2, ob2_some]
  exact ⟨_, rfl, rfl⟩
theorem ite_ex {c : Prop} [Decidable c] {x y : Option Int32} (hx : ∃ v, x = some v) (hy : ∃ v, y = some v) : ∃ v, (if c then x else y) = some v := by
  split
  · exact hx
  · exact hy
theorem k_count (a : Int32) : LkP (X9_count a) (X10_count a) := by
  rintro u w h g ⟨z, d0, cs, n, H⟩
  have hp := H.zok.1
  have h40 := H.n40
  obtain ⟨v9, e9, f9⟩ := H.all
  obtain ⟨v10, e10, f10⟩ := H.bea
  obtain ⟨v11, e11, f11⟩ := H.was
  obtain ⟨v12, e12, f12⟩ := H.rth
  obtain ⟨v13, e13, f13⟩ := H.tth
  obtain ⟨v14, e14, f14⟩ := H.kth
  unfold X9_count X10_count
  rw [e9, f9, e10, f10, e11, f11, e12, f12, e13, f13, e14, f14, H.now, H.p9, H.p10, H.d9, H.d10]
  simp only [ob_some]
  rw [nap_12, nap_13, nap_14, nap_15, nap_16]
  rw [gd_ib (a := 17 * n + 12) (by omega) (by decide), ix_nI (i := 17 * n + 12) (by omega), gd_ib (a := 17 * n + 13) (by omega) (by decide), ix_nI (i := 17 * n + 13) (by omega), gd_ib (a := 17 * n + 14) (by omega) (by decide), ix_nI (i := 17 * n + 14) (by omega), gd_ib (a := 17 * n + 15) (by omega) (by decide), ix_nI (i := 17 * n + 15) (by omega), gd_ib (a := 17 * n + 16) (by omega) (by decide), ix_nI (i := 17 * n + 16) (by omega)]
  rw [H.row.2.2.1, H.row.2.2.2.1, H.row.2.2.2.2.1, H.row.2.2.2.2.2.1, H.row.2.2.2.2.2.2, H.f19.1, H.f19.2.1, H.f19.2.2.2.2.2.2.1, H.f19.2.2.2.2.2.2.2.1, H.f19.2.2.2.2.2.2.2.2.1, H.f19.2.2.2.2.2.2.2.2.2.1, H.f19.2.2.2.2.2.2.2.2.2.2, H.mz.2.1, H.mz.2.2.1]
  have key : ∀ x : Option Int32, (∃ v, x = some v) → ∃ r, x = some r ∧ x = some r := fun x ⟨v, e⟩ => ⟨v, e, e⟩
  apply key
  repeat' apply ite_ex
  all_goals exact ⟨_, rfl⟩
theorem k_digest : LkP X9_digest X10_digest := by
  rintro u w h g ⟨z, d0, cs, n, H⟩
  have hp := H.zok.1
  unfold X9_digest X10_digest
  obtain ⟨⟨s1, s2⟩, e1, e2⟩ := lpe (f := fun s : Int64 × Int32 => X9_digest_s6 h s.1 s.2) (g := fun s : Int64 × Int32 => X10_digest_s6 g s.1 s.2)
    (fun i s => s.2 = nI i) 15 (by omega) (by
      rintro i ⟨s1, s2⟩ hi e
      cases e
      show (∃ s', X9_digest_s6 h s1 (nI i) = some (.inr s') ∧ X10_digest_s6 g s1 (nI i) = some (.inr s') ∧ _) ∨ ∃ r, X9_digest_s6 h s1 (nI i) = some (.inl r) ∧ X10_digest_s6 g s1 (nI i) = some (.inl r)
      unfold X9_digest_s6 X10_digest_s6
      by_cases ci : i < 15
      · left
        obtain ⟨v, x1, x2⟩ := k_count (nI i) u w h g H.rr
        rw [if_neg (show ¬ (15 : Int32) ≤ nI i by rw [nel_15 (by omega)]; omega), if_neg (show ¬ (15 : Int32) ≤ nI i by rw [nel_15 (by omega)]; omega), x1, x2, ob_some, ob_some]
        exact ⟨_, rfl, rfl, ci, nap_1 i⟩
      · right
        rw [if_pos (show (15 : Int32) ≤ nI i by rw [nel_15 (by omega)]; omega), if_pos (show (15 : Int32) ≤ nI i by rw [nel_15 (by omega)]; omega)]
        exact ⟨_, rfl, rfl⟩) (s := ((17 : Int64), (0 : Int32))) rfl
  rw [e1, e2, ob2_some, ob2_some]
  obtain ⟨⟨p1, p2⟩, e1, e2⟩ := lpe (f := fun s : Int64 × Int32 => X9_digest_s33 h s.1 s.2) (g := fun s : Int64 × Int32 => X10_digest_s30 g s.1 s.2)
    (fun i s => s.2 = nI i) (zp z) (by omega) (by
      rintro i ⟨s1, s2⟩ hi e
      cases e
      show (∃ s', X9_digest_s33 h s1 (nI i) = some (.inr s') ∧ X10_digest_s30 g s1 (nI i) = some (.inr s') ∧ _) ∨ ∃ r, X9_digest_s33 h s1 (nI i) = some (.inl r) ∧ X10_digest_s30 g s1 (nI i) = some (.inl r)
      unfold X9_digest_s33 X10_digest_s30
      rw [H.p9, H.p10]
      by_cases ci : i < zp z
      · left
        obtain ⟨⟨q1, q2⟩, x1, x2⟩ := lpe (f := fun s : Int64 × Int32 => X9_digest_s47 (nI i) h s.1 s.2) (g := fun s : Int64 × Int32 => X10_digest_s41 (nI i) g s.1 s.2)
          (fun i s => s.2 = nI i) 5 (by omega) (by
            rintro j ⟨s1, s2⟩ hj e
            cases e
            show (∃ s', X9_digest_s47 (nI i) h s1 (nI j) = some (.inr s') ∧ X10_digest_s41 (nI i) g s1 (nI j) = some (.inr s') ∧ _) ∨ ∃ r, X9_digest_s47 (nI i) h s1 (nI j) = some (.inl r) ∧ X10_digest_s41 (nI i) g s1 (nI j) = some (.inl r)
            unfold X9_digest_s47 X10_digest_s41
            by_cases cj : j < 5
            · left
              obtain ⟨v, x1, x2⟩ := H.val ci cj
              rw [if_neg (show ¬ (5 : Int32) ≤ nI j by rw [nel_5 (by omega)]; omega), if_neg (show ¬ (5 : Int32) ≤ nI j by rw [nel_5 (by omega)]; omega), x1, x2, ob_some, ob_some]
              exact ⟨_, rfl, rfl, cj, nap_1 j⟩
            · right
              rw [if_pos (show (5 : Int32) ≤ nI j by rw [nel_5 (by omega)]; omega), if_pos (show (5 : Int32) ≤ nI j by rw [nel_5 (by omega)]; omega)]
              exact ⟨_, rfl, rfl⟩) (s := (s1, (0 : Int32))) rfl
        rw [if_neg (nI_ge ci (by omega)), if_neg (nI_ge ci (by omega)), x1, x2, ob2_some]
        exact ⟨_, rfl, rfl, ci, nap_1 i⟩
      · right
        rw [if_pos (nI_le (by omega) (by omega)), if_pos (nI_le (by omega) (by omega))]
        exact ⟨_, rfl, rfl⟩) (s := (s1, (0 : Int32))) rfl
  rw [e1, e2, ob2_some, ob2_some]
  obtain ⟨⟨r1, r2⟩, e1, e2⟩ := lpe (f := fun s : Int64 × Int32 => X9_digest_s82 h s.1 s.2) (g := fun s : Int64 × Int32 => X10_digest_s73 g s.1 s.2)
    (fun i s => s.2 = nI i) 3 (by omega) (by
      rintro i ⟨s1, s2⟩ hi e
      cases e
      show (∃ s', X9_digest_s82 h s1 (nI i) = some (.inr s') ∧ X10_digest_s73 g s1 (nI i) = some (.inr s') ∧ _) ∨ ∃ r, X9_digest_s82 h s1 (nI i) = some (.inl r) ∧ X10_digest_s73 g s1 (nI i) = some (.inl r)
      unfold X9_digest_s82 X10_digest_s73
      by_cases ci : i < 3
      · left
        rw [if_neg (show ¬ (3 : Int32) ≤ nI i by rw [nel_3 (by omega)]; omega), if_neg (show ¬ (3 : Int32) ≤ nI i by rw [nel_3 (by omega)]; omega), gd_ib (by omega) (by decide), gd_ib (by omega) (by decide), ix_nI (by omega)]
        rcases H.kpt i ci with ⟨x1, x2⟩ | ⟨m, hm, x1, x2⟩
        · rw [x1, x2, if_pos rfl, ob_some]
          exact ⟨_, rfl, rfl, ci, nap_1 i⟩
        · rw [x1, x2, if_neg (nm9 (by omega)), ob_some]
          exact ⟨_, rfl, rfl, ci, nap_1 i⟩
      · right
        rw [if_pos (show (3 : Int32) ≤ nI i by rw [nel_3 (by omega)]; omega), if_pos (show (3 : Int32) ≤ nI i by rw [nel_3 (by omega)]; omega)]
        exact ⟨_, rfl, rfl⟩) (s := (p1, (0 : Int32))) rfl
  rw [e1, e2, ob2_some, ob2_some]
  obtain ⟨⟨t1, t2⟩, e1, e2⟩ := lpe (f := fun s : Int64 × Int32 => X9_digest_s112 h s.1 s.2) (g := fun s : Int64 × Int32 => X10_digest_s112 g s.1 s.2)
    (fun i s => s.2 = nI i) 6 (by omega) (by
      rintro i ⟨s1, s2⟩ hi e
      cases e
      show (∃ s', X9_digest_s112 h s1 (nI i) = some (.inr s') ∧ X10_digest_s112 g s1 (nI i) = some (.inr s') ∧ _) ∨ ∃ r, X9_digest_s112 h s1 (nI i) = some (.inl r) ∧ X10_digest_s112 g s1 (nI i) = some (.inl r)
      unfold X9_digest_s112 X10_digest_s112
      by_cases ci : i < 6
      · left
        have inner : ∀ v m, m ≤ 40 → (∀ j, j ≤ m → (m ≤ j ↔ h.1 8 i ≤ nI j)) → (∀ j, j ≤ m → (m ≤ j ↔ g.1 56 i ≤ nI j)) → (∀ j, j < m → h.1 (2 + i) j = g.1 55 (40 * i + j)) → ∃ r, lp (fun s : Int64 × Int32 => X9_digest_s135 (nI i) h s.1 s.2) FU (v, (0 : Int32)) = some r ∧ lp (fun s : Int64 × Int32 => X10_digest_s147 (nI i) g s.1 s.2) FU (v, (0 : Int32)) = some r := by
          intro v m hm y1 y2 y3
          exact lpe (f := fun s : Int64 × Int32 => X9_digest_s135 (nI i) h s.1 s.2) (g := fun s : Int64 × Int32 => X10_digest_s147 (nI i) g s.1 s.2)
            (fun i s => s.2 = nI i) m (by omega) (by
              rintro j ⟨s1, s2⟩ hj e
              cases e
              show (∃ s', X9_digest_s135 (nI i) h s1 (nI j) = some (.inr s') ∧ X10_digest_s147 (nI i) g s1 (nI j) = some (.inr s') ∧ _) ∨ ∃ r, X9_digest_s135 (nI i) h s1 (nI j) = some (.inl r) ∧ X10_digest_s147 (nI i) g s1 (nI j) = some (.inl r)
              unfold X9_digest_s135 X10_digest_s147
              rw [gd_ib ci (by decide), gd_ib ci (by decide), ix_nI (by omega)]
              by_cases cj : j < m
              · left
                rw [if_neg (fun q => by have := (y1 j hj).mpr q; omega), if_neg (fun q => by have := (y2 j hj).mpr q; omega), nml_40, nI_add, gd_ib (by omega) (by decide), gd_ib (by omega) (by decide), ix_nI (by omega), ix_nI (by omega), y3 j cj]
                exact ⟨_, rfl, rfl, cj, nap_1 j⟩
              · right
                rw [if_pos ((y1 j hj).mp (by omega)), if_pos ((y2 j hj).mp (by omega))]
                exact ⟨_, rfl, rfl⟩) (s := (v, (0 : Int32))) rfl
        rw [if_neg (show ¬ (6 : Int32) ≤ nI i by rw [nel_6 (by omega)]; omega), if_neg (show ¬ (6 : Int32) ≤ nI i by rw [nel_6 (by omega)]; omega), gd_ib (by omega) (by decide), gd_ib (by omega) (by decide), ix_nI (by omega)]
        rcases H.1 i ci with ⟨x1, x2⟩ | ⟨m, hm, x1, x2, x3⟩
        · obtain ⟨⟨r1, r2⟩, f1, f2⟩ := inner (31 * s1 + ((-1 : Int32).toInt64)) 0 (by omega) (fun j hj => ⟨fun _ => by rw [x1, show j = 0 by omega]; decide, fun _ => by omega⟩) (fun j hj => ⟨fun _ => by rw [x2, show j = 0 by omega]; decide, fun _ => by omega⟩) (fun j hj => by omega)
          rw [x1, x2, if_pos rfl, ob_some, lt_eq, lt_eq, show X10_more s1 (-1) = 31 * s1 + ((-1 : Int32).toInt64) from rfl, f1, f2, ob2_some]
          exact ⟨_, rfl, rfl, ci, nap_1 i⟩
        · obtain ⟨⟨r1, r2⟩, f1, f2⟩ := inner (31 * s1 + ((nI m).toInt64)) m hm (fun j hj => by rw [x1]; exact (nI_leI (by omega) (by omega)).symm) (fun j hj => by rw [x2]; exact (nI_leI (by omega) (by omega)).symm) x3
          rw [x1, x2, if_neg (nm9 (by omega)), ob_some, lt_eq, lt_eq, show X10_more s1 (nI m) = 31 * s1 + ((nI m).toInt64) from rfl, f1, f2, ob2_some]
          exact ⟨_, rfl, rfl, ci, nap_1 i⟩
      · right
        rw [if_pos (show (6 : Int32) ≤ nI i by rw [nel_6 (by omega)]; omega), if_pos (show (6 : Int32) ≤ nI i by rw [nel_6 (by omega)]; omega)]
        exact ⟨_, rfl, rfl⟩) (s := (r1, (0 : Int32))) rfl
  rw [e1, e2, ob2_some, ob2_some]
  obtain ⟨⟨y1, y2⟩, e1, e2⟩ := lpe (f := fun s : Int64 × Int32 => X9_digest_s177 h s.1 s.2) (g := fun s : Int64 × Int32 => X10_digest_s189 g s.1 s.2)
    (fun i s => s.2 = nI i) 4 (by omega) (by
      rintro i ⟨s1, s2⟩ hi e
      cases e
      show (∃ s', X9_digest_s177 h s1 (nI i) = some (.inr s') ∧ X10_digest_s189 g s1 (nI i) = some (.inr s') ∧ _) ∨ ∃ r, X9_digest_s177 h s1 (nI i) = some (.inl r) ∧ X10_digest_s189 g s1 (nI i) = some (.inl r)
      unfold X9_digest_s177 X10_digest_s189
      by_cases ci : i < 4
      · left
        have inner : ∀ v m, m ≤ 60 → (∀ j, j ≤ m → (m ≤ j ↔ h.1 14 i ≤ nI j)) → (∀ j, j ≤ m → (m ≤ j ↔ g.1 58 i ≤ nI j)) → (∀ j, j < m → h.1 (10 + i) j = g.1 57 (60 * i + j)) → ∃ r, lp (fun s : Int64 × Int32 => X9_digest_s199 (nI i) h s.1 s.2) FU (v, (0 : Int32)) = some r ∧ lp (fun s : Int64 × Int32 => X10_digest_s223 (nI i) g s.1 s.2) FU (v, (0 : Int32)) = some r := by
          intro v m hm y1 y2 y3
          exact lpe (f := fun s : Int64 × Int32 => X9_digest_s199 (nI i) h s.1 s.2) (g := fun s : Int64 × Int32 => X10_digest_s223 (nI i) g s.1 s.2)
            (fun i s => s.2 = nI i) m (by omega) (by
              rintro j ⟨s1, s2⟩ hj e
              cases e
              show (∃ s', X9_digest_s199 (nI i) h s1 (nI j) = some (.inr s') ∧ X10_digest_s223 (nI i) g s1 (nI j) = some (.inr s') ∧ _) ∨ ∃ r, X9_digest_s199 (nI i) h s1 (nI j) = some (.inl r) ∧ X10_digest_s223 (nI i) g s1 (nI j) = some (.inl r)
              unfold X9_digest_s199 X10_digest_s223
              rw [gd_ib ci (by decide), gd_ib ci (by decide), ix_nI (by omega)]
              by_cases cj : j < m
              · left
                rw [if_neg (fun q => by have := (y1 j hj).mpr q; omega), if_neg (fun q => by have := (y2 j hj).mpr q; omega), nml_60, nI_add, gd_ib (by omega) (by decide), gd_ib (by omega) (by decide), ix_nI (by omega), ix_nI (by omega), y3 j cj]
                exact ⟨_, rfl, rfl, cj, nap_1 j⟩
              · right
                rw [if_pos ((y1 j hj).mp (by omega)), if_pos ((y2 j hj).mp (by omega))]
                exact ⟨_, rfl, rfl⟩) (s := (v, (0 : Int32))) rfl
        rw [if_neg (show ¬ (4 : Int32) ≤ nI i by rw [nel_4 (by omega)]; omega), if_neg (show ¬ (4 : Int32) ≤ nI i by rw [nel_4 (by omega)]; omega), gd_ib (by omega) (by decide), gd_ib (by omega) (by decide), ix_nI (by omega)]
        rcases H.2.1 i ci with ⟨x1, x2⟩ | ⟨m, hm, x1, x2, x3⟩
        · obtain ⟨⟨r1, r2⟩, f1, f2⟩ := inner (31 * s1 + ((-1 : Int32).toInt64)) 0 (by omega) (fun j hj => ⟨fun _ => by rw [x1, show j = 0 by omega]; decide, fun _ => by omega⟩) (fun j hj => ⟨fun _ => by rw [x2, show j = 0 by omega]; decide, fun _ => by omega⟩) (fun j hj => by omega)
          rw [x1, x2, if_pos rfl, ob_some, lt_eq, lt_eq, show X10_more s1 (-1) = 31 * s1 + ((-1 : Int32).toInt64) from rfl, f1, f2, ob2_some]
          exact ⟨_, rfl, rfl, ci, nap_1 i⟩
        · obtain ⟨⟨r1, r2⟩, f1, f2⟩ := inner (31 * s1 + ((nI m).toInt64)) m hm (fun j hj => by rw [x1]; exact (nI_leI (by omega) (by omega)).symm) (fun j hj => by rw [x2]; exact (nI_leI (by omega) (by omega)).symm) x3
          rw [x1, x2, if_neg (nm9 (by omega)), ob_some, lt_eq, lt_eq, show X10_more s1 (nI m) = 31 * s1 + ((nI m).toInt64) from rfl, f1, f2, ob2_some]
          exact ⟨_, rfl, rfl, ci, nap_1 i⟩
      · right
        rw [if_pos (show (4 : Int32) ≤ nI i by rw [nel_4 (by omega)]; omega), if_pos (show (4 : Int32) ≤ nI i by rw [nel_4 (by omega)]; omega)]
        exact ⟨_, rfl, rfl⟩) (s := (t1, (0 : Int32))) rfl
  rw [e1, e2, ob2_some]
  exact ⟨_, rfl, rfl⟩
