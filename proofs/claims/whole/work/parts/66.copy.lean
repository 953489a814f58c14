theorem nzL_nI {m : Nat} (h0 : 0 < m) (hm : m < 2 ^ 31) : nzL (nI m).toInt64 = true := by
  unfold nzL
  refine decide_eq_true (fun q => ?_)
  rw [nI_l hm] at q
  have := (pk_lEQ (a := m) (b := 0) (by omega) (by decide)).mp q
  omega
theorem k_mean (a1 : Int32) : Lk (X9_mean a1) (X10_mean a1) := by
  rintro u w h g ⟨z, d0, cs, n, H⟩
  unfold X9_mean X10_mean X9_refusedRow
  rcases isRow_c a1 with ⟨q1, q2⟩ | ⟨r, hr, rfl, q1, q2⟩
  · rw [q1, q2, if_pos rfl, if_pos rfl, ob2_some, if_neg (show ¬ (-1 : Int32) = 0 by decide)]; exact ⟨_, _, _, rfl, rfl, H.rr⟩
  · rw [q1, q2, if_neg n10, if_neg n10, gd_ib hr (by decide), gd_ib hr (by decide), ix_nI (by omega)]
    rcases H.1 r hr with ⟨x1, x2⟩ | ⟨m, hm, x1, x2, x3⟩
    · obtain ⟨h', g', e1, e2, H'⟩ := H.find 1 (by decide)
      rw [x1, x2, if_pos rfl, if_pos rfl, show (1 : Int32) = nI 1 from rfl, e1, e2, ob2_some, ob2_some, ob2_some, if_neg (show ¬ (-3 : Int32) = 0 by decide)]
      exact ⟨_, _, _, rfl, rfl, H'.rr⟩
    · rw [x1, x2, if_neg (nm1 (by omega)), if_neg (nm9 (by omega)), ob2_some, if_pos rfl, gd_ib hr (by decide), x1, lt_eq]
      by_cases c : m = 0
      · subst c
        obtain ⟨h', g', e1, e2, H'⟩ := H.find 4 (by decide)
        rw [if_pos (show nI 0 = (0 : Int32) from rfl), if_pos (show nI 0 = (0 : Int32) from rfl), show (4 : Int32) = nI 4 from rfl, e1, e2, ob2_some, ob2_some]
        exact ⟨_, _, _, rfl, rfl, H'.rr⟩
      · rw [if_neg (nI_ne0 (by omega) (by omega)), if_neg (nI_ne0 (by omega) (by omega))]
        obtain ⟨s, t, e1, e2, e3⟩ := lpp (f := fun s : Int64 × Int32 => X9_mean_s35 (nI r) (nI m) h s.1 s.2) (g := fun s : Int64 × Int32 => X10_mean_s46 (nI r) g s.1 s.2)
          (fun i s t => s = t ∧ s.2 = nI i) (fun r p => r = p) m (by omega) (by
            rintro i ⟨s1, s2⟩ t hi ⟨rfl, e⟩
            cases e
            show (∃ s' t', X9_mean_s35 (nI r) (nI m) h s1 (nI i) = some (.inr s') ∧ X10_mean_s46 (nI r) g s1 (nI i) = some (.inr t') ∧ _) ∨ ∃ a b, X9_mean_s35 (nI r) (nI m) h s1 (nI i) = some (.inl a) ∧ X10_mean_s46 (nI r) g s1 (nI i) = some (.inl b) ∧ _
            unfold X9_mean_s35 X10_mean_s46
            rw [gd_ib hr (by decide), gd_ib hr (by decide), ix_nI (i := r) (by omega), x2]
            by_cases ci : i < m
            · left
              rw [if_neg (nI_ge ci (by omega)), if_neg (nI_ge ci (by omega)), nml_40, nI_add, gd_ib (by omega) (by decide), gd_ib (by omega) (by decide), ix_nI (by omega), ix_nI (by omega), x3 i ci]
              exact ⟨_, _, rfl, rfl, ci, rfl, nap_1 i⟩
            · right
              rw [if_pos (nI_le (by omega) (by omega)), if_pos (nI_le (by omega) (by omega))]
              exact ⟨_, _, rfl, rfl, rfl⟩) (s := ((0 : Int64), (0 : Int32))) (t := ((0 : Int64), (0 : Int32))) ⟨rfl, rfl⟩
        subst e3
        obtain ⟨s1, s2⟩ := s
        rw [e1, e2, ob2_some, ob2_some, gd_true (nzL_nI (by omega) (by omega)), gd_true (nzL_nI (by omega) (by omega)), lt_eq]
        unfold X10_tell
        rw [lt_eq, ob2_some]
        exact ⟨_, _, _, rfl, rfl, (H.tell _).rr⟩
theorem copyM {S D k : Nat} {x1 x2 x3 x4 x6 : Int32} (e : Nat → Nat) (he : ∀ y, y < k → e y < k) (hS : S + k ≤ 240) (hD : D + k ≤ 240) (hk : k ≤ 40) (e6 : ∀ y, y < k → (if x6 = (0 : Int32) then some (nI y) else some ((nI k - (1 : Int32)) - nI y)) = some (nI (e y))) (eS : ((40 : Int32) * x1) + x2 = nI S) (eD : ((40 : Int32) * x3) + x4 = nI D) (nc : ∀ y q, q < y → y < k → S + e y ≠ D + e q) (inj : ∀ y q, q < y → y < k → e q ≠ e y) (g : Hp) : ∃ g', lp (fun s : Int32 × Hp => X10_copy_s124 x1 x2 x3 x4 (nI k) x6 s.1 s.2) FU ((0 : Int32), g) = some (nI k, g') ∧ (∀ q, q < k → g'.1 55 (D + e q) = g.1 55 (S + e q)) ∧ (∀ j, (∀ q, q < k → j ≠ D + e q) → g'.1 55 j = g.1 55 j) ∧ (∀ i, i ≠ 55 → g'.1 i = g.1 i) ∧ g'.2 = g.2 := by
  refine (lp_all (step := fun s : Int32 × Hp => X10_copy_s124 x1 x2 x3 x4 (nI k) x6 s.1 s.2)
    (fun i s => s.1 = nI i ∧ (∀ q, q < i → s.2.1 55 (D + e q) = g.1 55 (S + e q)) ∧ (∀ j, (∀ q, q < i → j ≠ D + e q) → s.2.1 55 j = g.1 55 j) ∧ (∀ i, i ≠ 55 → s.2.1 i = g.1 i) ∧ s.2.2 = g.2)
    (fun s => s.1 = nI k ∧ (∀ q, q < k → s.2.1 55 (D + e q) = g.1 55 (S + e q)) ∧ (∀ j, (∀ q, q < k → j ≠ D + e q) → s.2.1 55 j = g.1 55 j) ∧ (∀ i, i ≠ 55 → s.2.1 i = g.1 i) ∧ s.2.2 = g.2)
    k (by omega) ?_ ?_ (s := ((0 : Int32), g)) ⟨rfl, fun j hj => absurd hj (by omega), fun _ _ => rfl, fun _ _ => rfl, rfl⟩).elim ?_
  · rintro i ⟨s1, s2⟩ hi ⟨g1, g2, g3, g4, g5⟩
    cases g1
    show ∃ t, X10_copy_s124 x1 x2 x3 x4 (nI k) x6 (nI i) s2 = some (.inr t) ∧ _
    unfold X10_copy_s124
    have h1 := he i hi
    rw [if_neg (nI_ge hi (by omega)), e6 i hi, ob_some, eS, eD, nI_add, nI_add, gd_ib (by omega) (by decide), gd_ib (by omega) (by decide), ix_nI (by omega), ix_nI (by omega)]
    refine ⟨_, rfl, nap_1 i, fun q hq => ?_, fun j hj => ?_, fun j hj => (up_ne hj).trans (g4 j hj), g5⟩
    · by_cases c : q = i
      · subst c
        exact up_at.trans (g3 _ (fun q' hq' => nc q q' hq' hi))
      · have := inj i q (by omega) hi
        exact (up_off (by omega)).trans (g2 q (by omega))
    · exact (up_off (hj i (by omega))).trans (g3 j (fun q hq => hj q (by omega)))
  · rintro ⟨s1, s2⟩ ⟨g1, g2, g3, g4, g5⟩
    cases g1
    show ∃ t, X10_copy_s124 x1 x2 x3 x4 (nI k) x6 (nI k) s2 = some (.inl t) ∧ _
    unfold X10_copy_s124
    rw [if_pos (nI_le (Nat.le_refl _) (by omega))]
    exact ⟨_, rfl, rfl, g2, g3, g4, g5⟩
  · rintro ⟨r1, r2⟩ ⟨e, g1, g2, g3, g4, g5⟩
    cases g1
    exact ⟨r2, e, g2, g3, g4, g5⟩
theorem hasP_c {h : Hp} {r m k : Nat} (hr : r < 6) (hm : m ≤ 40) (x1 : h.1 8 r = nI m) (hk : k < 2 ^ 31) (a : Int32) : (X9_hasPlaces (nI r) a (nI k) h = some 0 ∧ (40 < k ∨ X10_in a 0 (nI m - nI k) = 0)) ∨ ∃ i, a = nI i ∧ i + k ≤ m ∧ X9_hasPlaces (nI r) a (nI k) h = some 1 ∧ X10_in a 0 (nI m - nI k) = 1 := by
  unfold X9_hasPlaces
  rw [gd_ib hr (by decide), ix_nI (by omega), x1]
  by_cases c : a < 0
  · left; rw [if_pos c]; exact ⟨rfl, Or.inr (in0 c)⟩
  · rw [if_neg c]
    by_cases c2 : m < k
    · left
      rw [if_pos ((nI_ltI (by omega) hk).mpr c2)]
      refine ⟨rfl, ?_⟩
      by_cases c3 : 40 < k
      · exact Or.inl c3
      · exact Or.inr (in1 (Int32.lt_of_lt_of_le (pk_sneg (by omega) c2) (i_nlt c)))
    · rw [if_neg (fun q => c2 ((nI_ltI (by omega) hk).mp q)), pk_sub (by omega)]
      obtain ⟨i, hi, rfl⟩ := nI_of c
      by_cases c4 : m - k < i
      · left
        rw [if_pos ((nI_ltI (by omega) hi).mpr c4)]
        exact ⟨rfl, Or.inr (in1 ((nI_ltI (by omega) hi).mpr c4))⟩
      · right
        have c5 : ¬ nI (m - k) < nI i := fun q => c4 ((nI_ltI (by omega) hi).mp q)
        rw [if_neg c5]
        exact ⟨i, rfl, by omega, rfl, in2 c c5⟩
theorem k_copy (a1 a2 a3 a4 a5 : Int32) : Lk (X9_copy a1 a2 a3 a4 a5) (X10_copy a1 a2 a3 a4 a5) := by
  rintro u w h g ⟨z, d0, cs, n, H⟩
  unfold X9_copy X10_copy
  rcases isRow_c a1 with ⟨q1, q2⟩ | ⟨r, hr, rfl, q1, q2⟩
  · rw [q1, q2, if_pos rfl, if_pos rfl]; exact ⟨_, _, _, rfl, rfl, H.rr⟩
  · rw [q1, q2, if_neg n10, if_neg n10]
    rcases isRow_c a3 with ⟨p1, p2⟩ | ⟨t, ht, rfl, p1, p2⟩
    · rw [p1, p2, if_pos rfl, if_pos rfl]; exact ⟨_, _, _, rfl, rfl, H.rr⟩
    · rw [p1, p2, if_neg n10, if_neg n10]
      by_cases c0 : 0 ≤ a5
      · rw [if_pos c0, if_pos c0]
        obtain ⟨k, hk, rfl⟩ := nI_of (Int32.not_lt.mpr c0)
        obtain ⟨h1', g1', ef1, ef2, H1'⟩ := H.find 1 (by decide)
        obtain ⟨h2', g2', ef3, ef4, H2'⟩ := H.find 2 (by decide)
        rw [gd_ib hr (by decide), gd_ib hr (by decide), gd_ib ht (by decide), gd_ib ht (by decide), ix_nI (i := r) (by omega), ix_nI (i := t) (by omega)]
        rcases H.1 r hr with ⟨x1, x2⟩ | ⟨m, hm, x1, x2, x3⟩
        · rw [x1, x2, if_pos rfl, if_pos rfl, show (1 : Int32) = nI 1 from rfl, ef1, ef2, ob2_some, ob2_some]
          exact ⟨_, _, _, rfl, rfl, H1'.rr⟩
        · rw [x1, x2, if_neg (nm1 (by omega)), if_neg (nm9 (by omega))]
          rcases H.1 t ht with ⟨y1, y2⟩ | ⟨m2, hm2, y1, y2, y3⟩
          · rw [y1, y2, if_pos rfl, if_pos rfl, show (1 : Int32) = nI 1 from rfl, ef1, ef2, ob2_some, ob2_some]
            exact ⟨_, _, _, rfl, rfl, H1'.rr⟩
          · rw [y1, y2, if_neg (nm1 (by omega)), if_neg (nm9 (by omega))]
            rw [show (2 : Int32) = nI 2 from rfl, ef3, ef4, ob2_some, ob2_some]
            rcases hasP_c hr hm x1 hk a2 with ⟨z1, z2⟩ | ⟨i, rfl, hik, z1, z2⟩
            · rw [z1, ob_some, if_pos rfl]
              refine ⟨_, h2', g2', rfl, ?_, H2'.rr⟩
              by_cases c4 : 40 < k
              · rw [if_pos ((nll_40 hk).mpr c4)]
              · rw [if_neg (fun q => c4 ((nll_40 hk).mp q))]
                rcases z2 with z2 | z2
                · exact absurd z2 c4
                · rw [z2, if_pos rfl]
            · rw [z1, z2, ob_some, if_neg n10, if_neg n10, if_neg (fun q => by have := (nll_40 hk).mp q; omega)]
              rcases hasP_c ht hm2 y1 hk a4 with ⟨w1, w2⟩ | ⟨j, rfl, hjk, w1, w2⟩
              · rw [w1, ob_some, if_pos rfl]
                refine ⟨_, h2', g2', rfl, ?_, H2'.rr⟩
                rcases w2 with w2 | w2
                · omega
                · rw [w2, if_pos rfl]
              · rw [w1, w2, ob_some, if_neg n10, if_neg n10]
                have hcp : cpOk (nI i) (nI j) (nI k) 40 40 = true := by
                  unfold cpOk
                  exact decide_eq_true ⟨nI_pos (by omega), nI_pos (by omega), nI_pos (by omega), by rw [ix_nI (by omega), ix_nI (by omega)]; omega, by rw [ix_nI (by omega), ix_nI (by omega)]; omega⟩
                rw [gd_true hcp, lt_eq, ix_nI (i := i) (by omega), ix_nI (i := j) (by omega), ix_nI (i := k) (by omega)]
                have fin : ∀ x6 : Int32, (∃ g', lp (fun s : Int32 × Hp => X10_copy_s124 (nI r) (nI i) (nI t) (nI j) (nI k) x6 s.1 s.2) FU ((0 : Int32), g) = some (nI k, g') ∧ (∀ q, q < k → g'.1 55 (40 * t + j + q) = g.1 55 (40 * r + i + q)) ∧ (∀ p, (p < 40 * t + j ∨ 40 * t + j + k ≤ p) → g'.1 55 p = g.1 55 p) ∧ (∀ i, i ≠ 55 → g'.1 i = g.1 i) ∧ g'.2 = g.2) → ∃ (rr : Int32) (h' k' : Hp), some ((1 : Int32), upA h (2 + t) (va_cpy (h.1 (2 + r)) (h.1 (2 + t)) i j k)) = some (rr, h') ∧ (ob2 (lp (fun s : Int32 × Hp => X10_copy_s124 (nI r) (nI i) (nI t) (nI j) (nI k) x6 s.1 s.2) FU ((0 : Int32), g)) fun v39 h40 => some ((1 : Int32), h40)) = some (rr, k') ∧ RR u w h' k' := by
                  rintro x6 ⟨g', e1, f1, f2, f3, f4⟩
                  rw [e1, ob2_some]
                  refine ⟨_, _, _, rfl, rfl, (H.rows (g' := g') (fun q hq => upA_ne (by omega)) rfl (fun q h5 _ => f3 q h5) f4 ?_).rr⟩
                  refine H.1.upd ht (fun q hq => by rw [upA_ne (by omega)]) (fun q hq hq6 => upA_ne (by omega)) (fun q hq => by rw [f3 _ (by decide)]) (fun p hp => f2 p (by omega)) (Or.inr ⟨m2, hm2, by rw [upA_ne (by omega)]; exact y1, by rw [f3 _ (by decide)]; exact y2, fun p hp => ?_⟩)
                  have ea : (upA h (2 + t) (va_cpy (h.1 (2 + r)) (h.1 (2 + t)) i j k)).1 (2 + t) = va_cpy (h.1 (2 + r)) (h.1 (2 + t)) i j k := if_pos rfl
                  rw [ea]
                  by_cases c : j ≤ p ∧ p < j + k
                  · rw [pk_cpy_in c.1 c.2, x3 _ (by omega)]
                    have := f1 (p - j) (by omega)
                    rw [show 40 * t + j + (p - j) = 40 * t + p by omega, show 40 * r + i + (p - j) = 40 * r + (i + (p - j)) by omega] at this
                    exact this.symm
                  · rw [pk_cpy_out (by omega), f2 _ (by omega)]
                    exact y3 p hp
                have eS : ((40 : Int32) * nI r) + nI i = nI (40 * r + i) := by rw [nml_40, nI_add]
                have eD : ((40 : Int32) * nI t) + nI j = nI (40 * t + j) := by rw [nml_40, nI_add]
                have fwd : (r = t → j ≤ i) → ∃ g', lp (fun s : Int32 × Hp => X10_copy_s124 (nI r) (nI i) (nI t) (nI j) (nI k) 0 s.1 s.2) FU ((0 : Int32), g) = some (nI k, g') ∧ (∀ q, q < k → g'.1 55 (40 * t + j + q) = g.1 55 (40 * r + i + q)) ∧ (∀ p, (p < 40 * t + j ∨ 40 * t + j + k ≤ p) → g'.1 55 p = g.1 55 p) ∧ (∀ i, i ≠ 55 → g'.1 i = g.1 i) ∧ g'.2 = g.2 := by
                  intro hji
                  obtain ⟨g', e1, f1, f2, f3, f4⟩ := copyM (k := k) (S := 40 * r + i) (D := 40 * t + j) (x6 := 0) (fun q => q) (fun y hy => hy) (by omega) (by omega) (by omega) (fun y hy => if_pos rfl) eS eD (fun y q h1 h2 => by
                    by_cases e : r = t
                    · have := hji e; subst e; omega
                    · omega) (fun y q h1 h2 => by show q ≠ y; omega) g
                  exact ⟨g', e1, f1, fun p hp => f2 p (fun q hq => by omega), f3, f4⟩
                have bwd : (r = t ∧ i < j) → ∃ g', lp (fun s : Int32 × Hp => X10_copy_s124 (nI r) (nI i) (nI t) (nI j) (nI k) 1 s.1 s.2) FU ((0 : Int32), g) = some (nI k, g') ∧ (∀ q, q < k → g'.1 55 (40 * t + j + q) = g.1 55 (40 * r + i + q)) ∧ (∀ p, (p < 40 * t + j ∨ 40 * t + j + k ≤ p) → g'.1 55 p = g.1 55 p) ∧ (∀ i, i ≠ 55 → g'.1 i = g.1 i) ∧ g'.2 = g.2 := by
                  rintro ⟨rfl, hij⟩
                  obtain ⟨g', e1, f1, f2, f3, f4⟩ := copyM (k := k) (S := 40 * r + i) (D := 40 * r + j) (x6 := 1) (fun q => k - 1 - q) (fun y hy => by show k - 1 - y < k; omega) (by omega) (by omega) (by omega) (fun y hy => by
                    rw [if_neg n10, show (1 : Int32) = nI 1 from rfl, pk_sub (by omega), pk_sub (by omega)]) eS eD (fun y q h1 h2 => by show _ + (k - 1 - y) ≠ _ + (k - 1 - q); omega) (fun y q h1 h2 => by show k - 1 - q ≠ k - 1 - y; omega) g
                  refine ⟨g', e1, fun q hq => ?_, fun p hp => f2 p (fun q hq => by show p ≠ _ + (k - 1 - q); omega), f3, f4⟩
                  have := f1 (k - 1 - q) (by omega)
                  rw [show k - 1 - (k - 1 - q) = q by omega] at this
                  exact this
                by_cases c5 : r = t
                · rw [if_pos (by rw [c5])]
                  by_cases c6 : j ≤ i
                  · rw [if_pos ((nI_leI (by omega) (by omega)).mpr c6), ob_some]
                    exact fin 0 (fwd (fun _ => c6))
                  · rw [if_neg (fun q => c6 ((nI_leI (by omega) (by omega)).mp q)), ob_some]
                    exact fin 1 (bwd ⟨c5, by omega⟩)
                · rw [if_neg (fun q => c5 ((nI_eq (by omega) (by omega)).mp q)), ob_some]
                  exact fin 0 (fwd (fun q => absurd q c5))
      · rw [if_neg c0, if_neg c0]
        obtain ⟨h', g', e1, e2, H'⟩ := H.find 5 (by decide)
        rw [show (5 : Int32) = nI 5 from rfl, e1, e2, ob2_some, ob2_some]
        exact ⟨_, _, _, rfl, rfl, H'.rr⟩
