theorem sh_rows : ∀ r, r < 6 → shN (2 + r) = 40 := by decide
theorem sh_txts : ∀ r, r < 4 → shN (10 + r) = 60 := by decide
theorem sh_tal : ∀ r, r < 6 → shN (37 + r) = 31 := by decide
theorem fill_eq {c m : Nat} (hc : shN c = m) (hm : m ≤ 60) (v : Int32) (h : Hp) : ∃ h', J7_fill_53178 c v h = some h' ∧ (∀ j, j < m → h'.1 c j = v) ∧ (∀ i, i ≠ c → h'.1 i = h.1 i) ∧ h'.2 = h.2 := by
  unfold J7_fill_53178
  rw [hc, lt_eq, show Int32.ofNat m = nI m from rfl]
  refine (lp_all (step := fun s : Int32 × Hp => J7_fill_53178_s5 c v (nI m) s.1 s.2)
    (fun i s => s.1 = nI i ∧ (∀ j, j < i → s.2.1 c j = v) ∧ (∀ i, i ≠ c → s.2.1 i = h.1 i) ∧ s.2.2 = h.2)
    (fun s => (∀ j, j < m → s.2.1 c j = v) ∧ (∀ i, i ≠ c → s.2.1 i = h.1 i) ∧ s.2.2 = h.2)
    m (by omega) ?_ ?_ (s := ((0 : Int32), h)) ⟨rfl, fun j hj => absurd hj (by omega), fun _ _ => rfl, rfl⟩).elim ?_
  · rintro i ⟨s1, s2⟩ hi ⟨g1, g2, g3, g4⟩
    cases g1
    show ∃ t, J7_fill_53178_s5 c v (nI m) (nI i) s2 = some (.inr t) ∧ _
    unfold J7_fill_53178_s5
    rw [if_neg (nI_ge hi (by omega)), hc, gd_ib hi (by omega), ix_nI (by omega)]
    refine ⟨_, rfl, nap_1 i, fun j hj => ?_, fun i hi => ?_, g4⟩
    · by_cases e : j = i
      · subst e; exact up_at
      · exact (up_off e).trans (g2 j (by omega))
    · exact (up_ne hi).trans (g3 i hi)
  · rintro ⟨s1, s2⟩ ⟨g1, g2, g3, g4⟩
    cases g1
    show ∃ r, J7_fill_53178_s5 c v (nI m) (nI m) s2 = some (.inl r) ∧ _
    unfold J7_fill_53178_s5
    rw [if_pos (nI_le (Nat.le_refl _) (by omega))]
    exact ⟨_, rfl, g2, g3, g4⟩
  · rintro ⟨r1, r2⟩ ⟨e, g2, g3, g4⟩
    rw [e, ob2_some]
    exact ⟨_, rfl, g2, g3, g4⟩
theorem fillB_eq {c m : Nat} (hc : shN c = m) (hm : m ≤ 60) (h : Hp) : ∃ h', J7_fill_031fb c 32 h = some h' ∧ (∀ j, j < m → h'.1 c j = 32) ∧ (∀ i, i ≠ c → h'.1 i = h.1 i) ∧ h'.2 = h.2 := by
  unfold J7_fill_031fb
  rw [hc, lt_eq, show Int32.ofNat m = nI m from rfl]
  refine (lp_all (step := fun s : Int32 × Hp => J7_fill_031fb_s5 c 32 (nI m) s.1 s.2)
    (fun i s => s.1 = nI i ∧ (∀ j, j < i → s.2.1 c j = 32) ∧ (∀ i, i ≠ c → s.2.1 i = h.1 i) ∧ s.2.2 = h.2)
    (fun s => (∀ j, j < m → s.2.1 c j = 32) ∧ (∀ i, i ≠ c → s.2.1 i = h.1 i) ∧ s.2.2 = h.2)
    m (by omega) ?_ ?_ (s := ((0 : Int32), h)) ⟨rfl, fun j hj => absurd hj (by omega), fun _ _ => rfl, rfl⟩).elim ?_
  · rintro i ⟨s1, s2⟩ hi ⟨g1, g2, g3, g4⟩
    cases g1
    show ∃ t, J7_fill_031fb_s5 c 32 (nI m) (nI i) s2 = some (.inr t) ∧ _
    unfold J7_fill_031fb_s5
    rw [if_neg (nI_ge hi (by omega)), hc, gd_ib hi (by omega), ix_nI (by omega), show ((32 : Int32).toInt8).toInt32 = 32 by decide]
    refine ⟨_, rfl, nap_1 i, fun j hj => ?_, fun i hi => ?_, g4⟩
    · by_cases e : j = i
      · subst e; exact up_at
      · exact (up_off e).trans (g2 j (by omega))
    · exact (up_ne hi).trans (g3 i hi)
  · rintro ⟨s1, s2⟩ ⟨g1, g2, g3, g4⟩
    cases g1
    show ∃ r, J7_fill_031fb_s5 c 32 (nI m) (nI m) s2 = some (.inl r) ∧ _
    unfold J7_fill_031fb_s5
    rw [if_pos (nI_le (Nat.le_refl _) (by omega))]
    exact ⟨_, rfl, g2, g3, g4⟩
  · rintro ⟨r1, r2⟩ ⟨e, g2, g3, g4⟩
    rw [e, ob2_some]
    exact ⟨_, rfl, g2, g3, g4⟩
theorem RowsR.upd {h g h' g' : Hp} {r : Nat} (H : RowsR h g) (hr : r < 6) (a1 : ∀ q, q ≠ r → h'.1 8 q = h.1 8 q) (a2 : ∀ q, q ≠ r → q < 6 → h'.1 (2 + q) = h.1 (2 + q)) (b1 : ∀ q, q ≠ r → g'.1 56 q = g.1 56 q) (b2 : ∀ j, j < 40 * r ∨ 40 * r + 40 ≤ j → g'.1 55 j = g.1 55 j) (N : (h'.1 8 r = (-1 : Int32) ∧ g'.1 56 r = (-9 : Int32)) ∨ ∃ n, n ≤ 40 ∧ h'.1 8 r = nI n ∧ g'.1 56 r = nI n ∧ ∀ i, i < n → h'.1 (2 + r) i = g'.1 55 (40 * r + i)) : RowsR h' g' := by
  intro q hq
  by_cases e : q = r
  · subst e; exact N
  · rw [a1 q e, a2 q e hq, b1 q e]
    rcases H q hq with x | ⟨n, x1, x2, x3, x4⟩
    · exact Or.inl x
    · exact Or.inr ⟨n, x1, x2, x3, fun i hi => by rw [b2 _ (by omega)]; exact x4 i hi⟩
theorem TxtR.upd {h g h' g' : Hp} {r : Nat} (H : TxtR h g) (hr : r < 4) (a1 : ∀ q, q ≠ r → h'.1 14 q = h.1 14 q) (a2 : ∀ q, q ≠ r → q < 4 → h'.1 (10 + q) = h.1 (10 + q)) (b1 : ∀ q, q ≠ r → g'.1 58 q = g.1 58 q) (b2 : ∀ j, j < 60 * r ∨ 60 * r + 60 ≤ j → g'.1 57 j = g.1 57 j) (N : (h'.1 14 r = (-1 : Int32) ∧ g'.1 58 r = (-9 : Int32)) ∨ ∃ n, n ≤ 60 ∧ h'.1 14 r = nI n ∧ g'.1 58 r = nI n ∧ ∀ i, i < n → h'.1 (10 + r) i = g'.1 57 (60 * r + i)) : TxtR h' g' := by
  intro q hq
  by_cases e : q = r
  · subst e; exact N
  · rw [a1 q e, a2 q e hq, b1 q e]
    rcases H q hq with x | ⟨n, x1, x2, x3, x4⟩
    · exact Or.inl x
    · exact Or.inr ⟨n, x1, x2, x3, fun i hi => by rw [b2 _ (by omega)]; exact x4 i hi⟩
theorem rowM_eq {r m : Nat} (hr : r < 6) (hm : m ≤ 40) (g : Hp) : ∃ g', lp (fun s : Int32 × Hp => X10_row_s27 (nI r) (nI m) s.1 s.2) FU ((0 : Int32), g) = some (nI m, g') ∧ (∀ j, j < m → g'.1 55 (40 * r + j) = 0) ∧ (∀ i, i ≠ 55 → g'.1 i = g.1 i) ∧ (∀ j, j < 40 * r ∨ 40 * r + 40 ≤ j → g'.1 55 j = g.1 55 j) ∧ g'.2 = g.2 := by
  refine (lp_all (step := fun s : Int32 × Hp => X10_row_s27 (nI r) (nI m) s.1 s.2)
    (fun i s => s.1 = nI i ∧ (∀ j, j < i → s.2.1 55 (40 * r + j) = 0) ∧ (∀ i, i ≠ 55 → s.2.1 i = g.1 i) ∧ (∀ j, j < 40 * r ∨ 40 * r + 40 ≤ j → s.2.1 55 j = g.1 55 j) ∧ s.2.2 = g.2)
    (fun s => s.1 = nI m ∧ (∀ j, j < m → s.2.1 55 (40 * r + j) = 0) ∧ (∀ i, i ≠ 55 → s.2.1 i = g.1 i) ∧ (∀ j, j < 40 * r ∨ 40 * r + 40 ≤ j → s.2.1 55 j = g.1 55 j) ∧ s.2.2 = g.2)
    m (by omega) ?_ ?_ (s := ((0 : Int32), g)) ⟨rfl, fun j hj => absurd hj (by omega), fun _ _ => rfl, fun _ _ => rfl, rfl⟩).elim ?_
  · rintro i ⟨s1, s2⟩ hi ⟨g1, g2, g3, g4, g5⟩
    cases g1
    show ∃ t, X10_row_s27 (nI r) (nI m) (nI i) s2 = some (.inr t) ∧ _
    unfold X10_row_s27
    rw [if_neg (nI_ge hi (by omega)), nml_40, nI_add, gd_ib (by omega) (by omega), ix_nI (by omega)]
    refine ⟨_, rfl, nap_1 i, fun j hj => ?_, fun i hi => (up_ne hi).trans (g3 i hi), fun j hj => (up_off (by omega)).trans (g4 j hj), g5⟩
    by_cases e : j = i
    · subst e; exact up_at
    · exact (up_off (by omega)).trans (g2 j (by omega))
  · rintro ⟨s1, s2⟩ ⟨g1, g2, g3, g4, g5⟩
    cases g1
    show ∃ t, X10_row_s27 (nI r) (nI m) (nI m) s2 = some (.inl t) ∧ _
    unfold X10_row_s27
    rw [if_pos (nI_le (Nat.le_refl _) (by omega))]
    exact ⟨_, rfl, rfl, g2, g3, g4, g5⟩
  · rintro ⟨r1, r2⟩ ⟨e, g1, g2, g3, g4, g5⟩
    cases g1
    exact ⟨r2, e, g2, g3, g4, g5⟩
theorem k_row (a1 a2 : Int32) : Lk (X9_row a1 a2) (X10_row a1 a2) := by
  rintro u w h g ⟨z, d0, cs, n, H⟩
  unfold X9_row X10_row
  rcases isRow_c a1 with ⟨q1, q2⟩ | ⟨r, hr, rfl, q1, q2⟩
  · rw [q1, q2, if_pos rfl, if_pos rfl]; exact ⟨_, _, _, rfl, rfl, H.rr⟩
  · rw [q1, q2, if_neg n10, if_neg n10]
    by_cases c1 : a2 ≤ 40
    · rw [if_pos c1, if_pos c1]
      by_cases c2 : 0 ≤ a2
      · rw [if_pos c2, if_pos c2]
        obtain ⟨m, hm, rfl⟩ := nI_of2 (M := 40) (n := 40) (by decide) (Int32.not_lt.mpr c2) c1
        obtain ⟨h1, e1, f1, f2, f3⟩ := fill_eq (sh_rows r hr) (by decide) 0 h
        obtain ⟨g1, e2, f4, f5, f6, f7⟩ := rowM_eq hr hm g
        rw [e2, ob2_some, gd_ib hr (by decide), gd_ib hr (by decide), ix_nI (by omega), e1, ob_some, lt_eq, lt_eq]
        refine ⟨_, _, _, rfl, rfl, (H.rows (h' := up h1 8 r (nI m)) (g' := up g1 56 r (nI m)) (fun i hi => ?_) f3 (fun i h5 h6 => (up_ne h6).trans (f5 i h5)) f7 ?_).rr⟩
        · rw [up_ne (by omega)]; exact f2 i (by omega)
        · refine H.1.upd hr (fun q hq => by rw [up_off hq, f2 _ (by omega)]) (fun q hq hq6 => by rw [up_ne (by omega), f2 _ (by omega)]) (fun q hq => by rw [up_off hq, f5 _ (by decide)]) (fun j hj => by rw [up_ne (by decide)]; exact f6 j hj) (Or.inr ⟨m, hm, up_at, up_at, fun i hi => ?_⟩)
          rw [up_ne (by omega), up_ne (by decide), f4 i hi, f1 i (by omega)]
      · rw [if_neg c2, if_neg c2]
        obtain ⟨h', g', e1, e2, H'⟩ := H.find 5 (by decide)
        rw [show (5 : Int32) = nI 5 from rfl, e1, e2, ob2_some, ob2_some]
        exact ⟨_, _, _, rfl, rfl, H'.rr⟩
    · rw [if_neg c1, if_neg c1]; exact ⟨_, _, _, rfl, rfl, H.rr⟩
theorem k_tear (a1 : Int32) : Lk (X9_tear a1) (X10_tear a1) := by
  rintro u w h g ⟨z, d0, cs, n, H⟩
  unfold X9_tear X10_tear X9_refusedRow
  rcases isRow_c a1 with ⟨q1, q2⟩ | ⟨r, hr, rfl, q1, q2⟩
  · rw [q1, q2, if_pos rfl, if_pos rfl, ob2_some, if_neg (show ¬ (-1 : Int32) = 0 by decide)]; exact ⟨_, _, _, rfl, rfl, H.rr⟩
  · rw [q1, q2, if_neg n10, if_neg n10, gd_ib hr (by decide), gd_ib hr (by decide), ix_nI (by omega)]
    rcases H.1 r hr with ⟨x1, x2⟩ | ⟨m, hm, x1, x2, x3⟩
    · obtain ⟨h', g', e1, e2, H'⟩ := H.find 1 (by decide)
      rw [x1, x2, if_pos rfl, if_pos rfl, show (1 : Int32) = nI 1 from rfl, e1, e2, ob2_some, ob2_some, ob2_some, if_neg (show ¬ (-3 : Int32) = 0 by decide)]
      exact ⟨_, _, _, rfl, rfl, H'.rr⟩
    · rw [x1, x2, if_neg (nm1 (by omega)), if_neg (nm9 (by omega)), ob2_some, if_pos rfl, gd_ib hr (by decide), lt_eq, lt_eq]
      refine ⟨_, _, _, rfl, rfl, (H.rows (fun i hi => up_ne (by omega)) rfl (fun i _ h6 => up_ne h6) rfl ?_).rr⟩
      exact H.1.upd hr (fun q hq => up_off hq) (fun q hq hq6 => up_ne (by omega)) (fun q hq => up_off hq) (fun j hj => by rw [up_ne (by decide)]) (Or.inl ⟨up_at, up_at⟩)
/-- a place of a row -/
theorem place_c {u w : Hp} {z : ZS} {d0 : DS} {cs : Nat → Nat} {n : Nat} {h g : Hp} (H : RZ u w z d0 cs n h g) (a1 a2 : Int32) : (∃ r h' g', ¬ r = (0 : Int32) ∧ X9_refusedPlace a1 a2 h = some (r, h') ∧ RZ u w z d0 cs n h' g' ∧ ((X10_isRow a1 = 0 ∧ r = -1 ∧ g' = g) ∨ (X10_isRow a1 = 1 ∧ ∃ q, X10_wrongPlace a1 a2 g = some q ∧ ¬ q ≤ 0 ∧ X10_find q g = some (r, g')))) ∨
    (∃ r m i, r < 6 ∧ m ≤ 40 ∧ i < m ∧ a1 = nI r ∧ a2 = nI i ∧ X9_refusedPlace a1 a2 h = some (0, h) ∧ X10_isRow a1 = 1 ∧ X10_wrongPlace a1 a2 g = some 0 ∧ h.1 8 r = nI m ∧ g.1 56 r = nI m ∧ ∀ i, i < m → h.1 (2 + r) i = g.1 55 (40 * r + i)) := by
  unfold X9_refusedPlace X9_refusedRow X10_wrongPlace
  rcases isRow_c a1 with ⟨q1, q2⟩ | ⟨r, hr, rfl, q1, q2⟩
  · left
    rw [q1, if_pos rfl, ob2_some, if_neg (show ¬ (-1 : Int32) = 0 by decide)]
    exact ⟨_, _, g, by decide, rfl, H, Or.inl ⟨q2, rfl, rfl⟩⟩
  · rw [q1, q2, if_neg n10, gd_ib hr (by decide), gd_ib hr (by decide), ix_nI (by omega)]
    rcases H.1 r hr with ⟨x1, x2⟩ | ⟨m, hm, x1, x2, x3⟩
    · left
      obtain ⟨h', g', e1, e2, H'⟩ := H.find 1 (by decide)
      rw [x1, x2, if_pos rfl, if_pos rfl, show (1 : Int32) = nI 1 from rfl, e1, ob2_some, ob2_some, if_neg (show ¬ (-3 : Int32) = 0 by decide)]
      exact ⟨_, _, _, by decide, rfl, H', Or.inr ⟨rfl, _, rfl, by decide, e2⟩⟩
    · rw [x1, x2, if_neg (nm1 (by omega)), if_neg (nm9 (by omega)), ob2_some, if_pos rfl]
      unfold X9_hasPlaces
      rw [gd_ib hr (by decide), ix_nI (by omega), x1]
      have bad : a2 < 0 ∨ (¬ a2 < 0 ∧ nI m - 1 < a2) → (∃ h' g', ob (if a2 < 0 then some (0 : Int32) else if nI m < 1 then some (0 : Int32) else if nI m - 1 < a2 then some (0 : Int32) else some (1 : Int32)) (fun r5 => if r5 = 0 then ob2 (X9_answerFinding 2 h) fun r10 h9 => some (r10, h9) else some (0, h)) = some (-3, h') ∧ RZ u w z d0 cs n h' g' ∧ (if X10_in a2 0 (nI m - 1) = 0 then some (2 : Int32) else some 0) = some 2 ∧ X10_find 2 g = some (-3, g')) := by
        intro hb
        obtain ⟨h', g', e1, e2, H'⟩ := H.find 2 (by decide)
        have f1 : (if a2 < 0 then some (0 : Int32) else if nI m < 1 then some (0 : Int32) else if nI m - 1 < a2 then some (0 : Int32) else some (1 : Int32)) = some 0 := by
          rcases hb with c | ⟨c, c2⟩
          · rw [if_pos c]
          · rw [if_neg c, if_pos c2]; split <;> rfl
        have f2 : X10_in a2 0 (nI m - 1) = 0 := by
          rcases hb with c | ⟨c, c2⟩
          · exact in0 c
          · exact in1 c2
        rw [f1, f2, if_pos rfl, ob_some, if_pos rfl, show (2 : Int32) = nI 2 from rfl, e1, ob2_some]
        exact ⟨h', g', rfl, H', rfl, e2⟩
      by_cases c : a2 < 0
      · left
        obtain ⟨h', g', e1, H', e2, e3⟩ := bad (Or.inl c)
        exact ⟨_, _, _, by decide, e1, H', Or.inr ⟨rfl, _, e2, by decide, e3⟩⟩
      · by_cases c2 : nI m - 1 < a2
        · left
          obtain ⟨h', g', e1, H', e2, e3⟩ := bad (Or.inr ⟨c, c2⟩)
          exact ⟨_, _, _, by decide, e1, H', Or.inr ⟨rfl, _, e2, by decide, e3⟩⟩
        · right
          obtain ⟨i, hi, rfl⟩ := nI_of c
          have hm0 : 0 < m := by
            rcases Nat.eq_zero_or_pos m with e | e
            · subst e
              exact absurd (Int32.lt_of_lt_of_le (show nI 0 - 1 < 0 by decide) (nI_pos' hi)) c2
            · exact e
          obtain ⟨m, rfl⟩ : ∃ q, m = q + 1 := ⟨m - 1, by omega⟩
          rw [nI_pred] at c2
          have him : i < m + 1 := by
            rcases Nat.lt_or_ge m i with q | q
            · exact absurd ((nI_ltI (by omega) hi).mpr q) c2
            · omega
          rw [nI_pred, in2 c c2, if_neg n10, if_neg c, if_neg (fun q => by have := (nlr_1 (by omega)).mp q; omega), if_neg c2, ob_some, if_neg n10]
          exact ⟨r, m + 1, i, hr, hm, him, rfl, rfl, rfl, rfl, rfl, x1, x2, x3⟩
theorem k_at (a1 a2 : Int32) : Lk (X9_at a1 a2) (X10_at a1 a2) := by
  rintro u w h g ⟨z, d0, cs, n, H⟩
  unfold X9_at X10_at
  rcases place_c H a1 a2 with ⟨r, h', g', c0, e1, H', ⟨e2, rfl, rfl⟩ | ⟨e2, q, e3, c1, e4⟩⟩ | ⟨r, m, i, hr, hm, hi, rfl, rfl, e1, e2, e3, x1, x2, x3⟩
  · rw [e1, ob2_some, if_neg c0, e2, if_pos rfl]; exact ⟨_, _, _, rfl, rfl, H'.rr⟩
  · rw [e1, ob2_some, if_neg c0, e2, if_neg n10, e3, ob_some, if_neg c1, ob_some, e4, ob2_some]; exact ⟨_, _, _, rfl, rfl, H'.rr⟩
  · rw [e1, ob2_some, if_pos rfl, e2, if_neg n10, e3, ob_some, if_pos (by decide), nml_40, nI_add, gd_ib hr (by decide), gd_ib (by omega) (by decide), gd_ib (by omega) (by decide), ix_nI (by omega), ix_nI (by omega), ix_nI (by omega), lt_eq, x3 i hi]
    unfold X10_tell
    rw [lt_eq, ob2_some]
    exact ⟨_, _, _, rfl, rfl, (H.tell _).rr⟩
theorem k_lay (a1 a2 a3 : Int32) : Lk (X9_lay a1 a2 a3) (X10_lay a1 a2 a3) := by
  rintro u w h g ⟨z, d0, cs, n, H⟩
  unfold X9_lay X10_lay
  rcases place_c H a1 a2 with ⟨r, h', g', c0, e1, H', ⟨e2, rfl, rfl⟩ | ⟨e2, q, e3, c1, e4⟩⟩ | ⟨r, m, i, hr, hm, hi, rfl, rfl, e1, e2, e3, x1, x2, x3⟩
  · rw [e1, ob2_some, if_neg c0, e2, if_pos rfl]; exact ⟨_, _, _, rfl, rfl, H'.rr⟩
  · rw [e1, ob2_some, if_neg c0, e2, if_neg n10, e3, ob_some, if_neg c1, ob_some, e4, ob2_some]; exact ⟨_, _, _, rfl, rfl, H'.rr⟩
  · rw [e1, ob2_some, if_pos rfl, e2, if_neg n10, e3, ob_some, if_pos (by decide), nml_40, nI_add, gd_ib hr (by decide), gd_ib (by omega) (by decide), gd_ib (by omega) (by decide), ix_nI (by omega), ix_nI (by omega), ix_nI (by omega), lt_eq, lt_eq, lt_eq, lt_eq, x3 i hi]
    unfold X10_tell
    rw [lt_eq, ob2_some]
    have K := (H.tell (g.1 55 (40 * r + i)))
    have e9 : up (up g 55 (40 * r + i) a3) 51 13 (g.1 55 (40 * r + i)) = up (up g 51 13 (g.1 55 (40 * r + i))) 55 (40 * r + i) a3 := by
      unfold up
      apply Prod.ext
      · funext p q
        show (if p = 51 ∧ q = 13 then _ else if p = 55 ∧ q = 40 * r + i then _ else _) = (if p = 55 ∧ q = 40 * r + i then _ else if p = 51 ∧ q = 13 then _ else _)
        by_cases c : p = 51
        · subst c; simp
        · simp [c]
      · rfl
    rw [e9]
    refine ⟨_, _, _, rfl, rfl, (K.rows (fun j hj => up_ne (by omega)) rfl (fun j h5 _ => up_ne h5) rfl ?_).rr⟩
    refine K.1.upd hr (fun q hq => by rw [up_ne (by omega)]) (fun q hq hq6 => up_ne (by omega)) (fun q hq => by rw [up_ne (by decide)]) (fun j hj => up_off (by omega)) (Or.inr ⟨m, hm, by rw [up_ne (by omega), up_ne (by decide)]; exact x1, by rw [up_ne (by decide), up_ne (by decide)]; exact x2, fun j hj => ?_⟩)
    by_cases e : j = i
    · subst e; rw [up_at, up_at]
    · rw [up_off e, up_off (by omega), up_ne (by omega), up_ne (by decide)]; exact x3 j hj
theorem k_text (a1 a2 : Int32) : Lk (X9_text a1 a2) (X10_text a1 a2) := by
  rintro u w h g ⟨z, d0, cs, n, H⟩
  unfold X9_text X10_text
  rcases isText_c a1 with ⟨q1, q2⟩ | ⟨r, hr, rfl, q1, q2⟩
  · rw [q1, q2, if_pos rfl, if_pos rfl]; exact ⟨_, _, _, rfl, rfl, H.rr⟩
  · rw [q1, q2, if_neg n10, if_neg n10]
    by_cases c1 : a2 ≤ 60
    · rw [if_pos c1, if_pos c1]
      by_cases c2 : 0 ≤ a2
      · rw [if_pos c2, if_pos c2]
        obtain ⟨m, hm, rfl⟩ := nI_of2 (M := 60) (n := 60) (by decide) (Int32.not_lt.mpr c2) c1
        obtain ⟨h1, e1, f1, f2, f3⟩ := fillB_eq (sh_txts r hr) (by decide) h
        obtain ⟨g1, e2, f4, f5, f6, f7⟩ : ∃ g', lp (fun s : Int32 × Hp => X10_text_s27 (nI r) (nI m) s.1 s.2) FU ((0 : Int32), g) = some (nI m, g') ∧ (∀ j, j < m → g'.1 57 (60 * r + j) = 32) ∧ (∀ i, i ≠ 57 → g'.1 i = g.1 i) ∧ (∀ j, j < 60 * r ∨ 60 * r + 60 ≤ j → g'.1 57 j = g.1 57 j) ∧ g'.2 = g.2 := by
          refine (lp_all (step := fun s : Int32 × Hp => X10_text_s27 (nI r) (nI m) s.1 s.2)
            (fun i s => s.1 = nI i ∧ (∀ j, j < i → s.2.1 57 (60 * r + j) = 32) ∧ (∀ i, i ≠ 57 → s.2.1 i = g.1 i) ∧ (∀ j, j < 60 * r ∨ 60 * r + 60 ≤ j → s.2.1 57 j = g.1 57 j) ∧ s.2.2 = g.2)
            (fun s => s.1 = nI m ∧ (∀ j, j < m → s.2.1 57 (60 * r + j) = 32) ∧ (∀ i, i ≠ 57 → s.2.1 i = g.1 i) ∧ (∀ j, j < 60 * r ∨ 60 * r + 60 ≤ j → s.2.1 57 j = g.1 57 j) ∧ s.2.2 = g.2)
            m (by omega) ?_ ?_ (s := ((0 : Int32), g)) ⟨rfl, fun j hj => absurd hj (by omega), fun _ _ => rfl, fun _ _ => rfl, rfl⟩).elim ?_
          · rintro i ⟨s1, s2⟩ hi ⟨g1, g2, g3, g4, g5⟩
            cases g1
            show ∃ t, X10_text_s27 (nI r) (nI m) (nI i) s2 = some (.inr t) ∧ _
            unfold X10_text_s27
            rw [if_neg (nI_ge hi (by omega)), nml_60, nI_add, gd_ib (by omega) (by omega), ix_nI (by omega)]
            refine ⟨_, rfl, nap_1 i, fun j hj => ?_, fun i hi => (up_ne hi).trans (g3 i hi), fun j hj => (up_off (by omega)).trans (g4 j hj), g5⟩
            by_cases e : j = i
            · subst e; exact up_at
            · exact (up_off (by omega)).trans (g2 j (by omega))
          · rintro ⟨s1, s2⟩ ⟨g1, g2, g3, g4, g5⟩
            cases g1
            show ∃ t, X10_text_s27 (nI r) (nI m) (nI m) s2 = some (.inl t) ∧ _
            unfold X10_text_s27
            rw [if_pos (nI_le (Nat.le_refl _) (by omega))]
            exact ⟨_, rfl, rfl, g2, g3, g4, g5⟩
          · rintro ⟨r1, r2⟩ ⟨e, g1, g2, g3, g4, g5⟩
            cases g1
            exact ⟨r2, e, g2, g3, g4, g5⟩
        rw [e2, ob2_some, gd_ib hr (by decide), gd_ib hr (by decide), ix_nI (by omega), e1, ob_some, lt_eq, lt_eq]
        refine ⟨_, _, _, rfl, rfl, (H.txts (h' := up h1 14 r (nI m)) (g' := up g1 58 r (nI m)) (fun i hi => ?_) f3 (fun i h5 h6 => (up_ne h6).trans (f5 i h5)) f7 ?_).rr⟩
        · rw [up_ne (by omega)]; exact f2 i (by omega)
        · refine H.2.1.upd hr (fun q hq => by rw [up_off hq, f2 _ (by omega)]) (fun q hq hq6 => by rw [up_ne (by omega), f2 _ (by omega)]) (fun q hq => by rw [up_off hq, f5 _ (by decide)]) (fun j hj => by rw [up_ne (by decide)]; exact f6 j hj) (Or.inr ⟨m, hm, up_at, up_at, fun i hi => ?_⟩)
          rw [up_ne (by omega), up_ne (by decide), f4 i hi, f1 i (by omega)]
      · rw [if_neg c2, if_neg c2]
        obtain ⟨h', g', e1, e2, H'⟩ := H.find 5 (by decide)
        rw [show (5 : Int32) = nI 5 from rfl, e1, e2, ob2_some, ob2_some]
        exact ⟨_, _, _, rfl, rfl, H'.rr⟩
    · rw [if_neg c1, if_neg c1]; exact ⟨_, _, _, rfl, rfl, H.rr⟩
theorem i8_i8 (a : Int32) : (a.toInt8.toInt32).toInt8.toInt32 = a.toInt8.toInt32 := by rw [Int8.toInt8_toInt32]
theorem k_put (a1 a2 a3 : Int32) : Lk (X9_put a1 a2 a3) (X10_put a1 a2 a3) := by
  rintro u w h g ⟨z, d0, cs, n, H⟩
  unfold X9_put X10_put X9_refusedText
  rcases isText_c a1 with ⟨q1, q2⟩ | ⟨r, hr, rfl, q1, q2⟩
  · rw [q1, q2, if_pos rfl, if_pos rfl, ob2_some, if_neg (show ¬ (-1 : Int32) = 0 by decide)]; exact ⟨_, _, _, rfl, rfl, H.rr⟩
  · rw [q1, q2, if_neg n10, if_neg n10, gd_ib hr (by decide), gd_ib hr (by decide), ix_nI (by omega)]
    rcases H.2.1 r hr with ⟨x1, x2⟩ | ⟨m, hm, x1, x2, x3⟩
    · obtain ⟨h', g', e1, e2, H'⟩ := H.find 1 (by decide)
      rw [x1, x2, if_pos rfl, if_pos rfl, show (1 : Int32) = nI 1 from rfl, e1, e2, ob2_some, ob2_some, ob2_some, if_neg (show ¬ (-3 : Int32) = 0 by decide)]
      exact ⟨_, _, _, rfl, rfl, H'.rr⟩
    · rw [x1, x2, if_neg (nm1 (by omega)), if_neg (nm9 (by omega)), ob2_some, if_pos rfl]
      by_cases c : a2 < 0
      · obtain ⟨h', g', e1, e2, H'⟩ := H.find 2 (by decide)
        rw [if_pos c, in0 c, if_pos rfl, show (2 : Int32) = nI 2 from rfl, e1, e2, ob2_some, ob2_some]
        exact ⟨_, _, _, rfl, rfl, H'.rr⟩
      · obtain ⟨i, hi, rfl⟩ := nI_of c
        rw [if_neg c, gd_ib hr (by decide), x1]
        by_cases c2 : i < m
        · obtain ⟨m, rfl⟩ : ∃ q, m = q + 1 := ⟨m - 1, by omega⟩
          rw [if_pos ((nI_ltI (by omega) (by omega)).mpr c2), nI_pred, in2 c (fun q => by have := (nI_ltI (by omega) (by omega)).mp q; omega), if_neg n10, nml_60, nI_add, gd_ib (by omega) (by decide), gd_ib (by omega) (by decide), ix_nI (i := i) (by omega), ix_nI (i := 60 * r + i) (by omega), lt_eq, lt_eq, lt_eq, lt_eq, i8_i8, x3 i c2]
          refine ⟨_, _, _, rfl, rfl, (H.txts (fun j hj => up_ne (by omega)) rfl (fun j h5 _ => up_ne h5) rfl ?_).rr⟩
          refine H.2.1.upd hr (fun q hq => by rw [up_ne (by omega)]) (fun q hq hq6 => up_ne (by omega)) (fun q hq => by rw [up_ne (by decide)]) (fun j hj => up_off (by omega)) (Or.inr ⟨m + 1, hm, by rw [up_ne (by omega)]; exact x1, by rw [up_ne (by decide)]; exact x2, fun j hj => ?_⟩)
          by_cases e : j = i
          · subst e; rw [up_at, up_at]
          · rw [up_off e, up_off (by omega)]; exact x3 j hj
        · obtain ⟨h', g', e1, e2, H'⟩ := H.find 2 (by decide)
          have f2 : X10_in (nI i) 0 (nI m - 1) = 0 := by
            rcases Nat.eq_zero_or_pos m with e | e
            · subst e
              exact in1 (Int32.lt_of_lt_of_le (show nI 0 - 1 < 0 by decide) (nI_pos' hi))
            · obtain ⟨m, rfl⟩ : ∃ q, m = q + 1 := ⟨m - 1, by omega⟩
              rw [nI_pred]
              exact in1 ((nI_ltI (by omega) hi).mpr (by omega))
          rw [if_neg (fun q => c2 ((nI_ltI (by omega) (by omega)).mp q)), f2, if_pos rfl, show (2 : Int32) = nI 2 from rfl, e1, e2, ob2_some, ob2_some]
          exact ⟨_, _, _, rfl, rfl, H'.rr⟩
