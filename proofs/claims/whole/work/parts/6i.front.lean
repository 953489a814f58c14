theorem kpt_c (h : Hp) : ∃ h', lp (fun s : Int32 × Hp => X9_front_s57 s.1 s.2) FU ((0 : Int32), h) = some ((3 : Int32), h') ∧ (∀ k, k < 3 → h'.1 (30 + 2 * k) 1 = (-1 : Int32)) ∧ (∀ i, i < 30 ∨ 35 ≤ i → h'.1 i = h.1 i) ∧ h'.2 = h.2 := by
  obtain ⟨⟨r1, r2⟩, e, q0, q1, q2, q3⟩ := lp_all (step := fun s : Int32 × Hp => X9_front_s57 s.1 s.2)
    (fun t s => s.1 = nI t ∧ (∀ k, k < t → s.2.1 (30 + 2 * k) 1 = (-1 : Int32)) ∧ (∀ i, i < 30 ∨ 35 ≤ i → s.2.1 i = h.1 i) ∧ s.2.2 = h.2)
    (fun s => s.1 = 3 ∧ (∀ k, k < 3 → s.2.1 (30 + 2 * k) 1 = (-1 : Int32)) ∧ (∀ i, i < 30 ∨ 35 ≤ i → s.2.1 i = h.1 i) ∧ s.2.2 = h.2) 3 (by omega) (by
      rintro t ⟨s1, s2⟩ ht ⟨g1, g2, g3, g4⟩
      cases g1
      show ∃ r, X9_front_s57 (nI t) s2 = some (.inr r) ∧ _
      unfold X9_front_s57
      rw [if_neg (fun q => by have := (nel_3 (by omega)).mp q; omega), gd_ib ht (by decide), ix_nI (by omega), lt_eq, lt_eq]
      refine ⟨_, rfl, nap_1 t, fun k hk => ?_, fun i hi => ?_, g4⟩
      · by_cases c : k = t
        · subst c; exact up_at
        · show (up s2 (30 + 2 * t) 1 (-1)).1 (30 + 2 * k) 1 = _
          rw [up_ne (by omega)]
          exact g2 k (by omega)
      · exact (up_ne (by omega)).trans (g3 i hi)) (by
      rintro ⟨s1, s2⟩ ⟨g1, g2, g3, g4⟩
      cases g1
      show ∃ r, X9_front_s57 (nI 3) s2 = some (.inl r) ∧ _
      unfold X9_front_s57
      rw [if_pos (by decide)]
      exact ⟨_, rfl, rfl, g2, g3, g4⟩) (s := ((0 : Int32), h)) ⟨rfl, fun k hk => absurd hk (by omega), fun _ _ => rfl, rfl⟩
  have q0 : r1 = 3 := q0
  subst q0
  exact ⟨r2, e, q1, q2, q3⟩
theorem fgt_m (g : Hp) : ∃ g', X10_forgetKept g = some g' ∧ (∀ k, k < 3 → g'.1 54 k = (-9 : Int32)) ∧ (∀ i, i ≠ 54 → g'.1 i = g.1 i) ∧ g'.2 = g.2 := by
  obtain ⟨⟨r1, r2⟩, e, q1, q2, q3⟩ := lp_all (step := fun s : Int32 × Hp => X10_forgetKept_s2 s.1 s.2)
    (fun t s => s.1 = nI t ∧ (∀ k, k < t → s.2.1 54 k = (-9 : Int32)) ∧ (∀ i, i ≠ 54 → s.2.1 i = g.1 i) ∧ s.2.2 = g.2)
    (fun s => (∀ k, k < 3 → s.2.1 54 k = (-9 : Int32)) ∧ (∀ i, i ≠ 54 → s.2.1 i = g.1 i) ∧ s.2.2 = g.2) 3 (by omega) (by
      rintro t ⟨s1, s2⟩ ht ⟨g1, g2, g3, g4⟩
      cases g1
      show ∃ r, X10_forgetKept_s2 (nI t) s2 = some (.inr r) ∧ _
      unfold X10_forgetKept_s2
      rw [if_neg (fun q => by have := (nel_3 (by omega)).mp q; omega), gd_ib ht (by decide), ix_nI (by omega), lt_eq, lt_eq]
      refine ⟨_, rfl, nap_1 t, fun k hk => ?_, fun i hi => (up_ne hi).trans (g3 i hi), g4⟩
      by_cases c : k = t
      · subst c; exact up_at
      · exact (up_off c).trans (g2 k (by omega))) (by
      rintro ⟨s1, s2⟩ ⟨g1, g2, g3, g4⟩
      cases g1
      show ∃ r, X10_forgetKept_s2 (nI 3) s2 = some (.inl r) ∧ _
      unfold X10_forgetKept_s2
      rw [if_pos (by decide)]
      exact ⟨_, rfl, g2, g3, g4⟩) (s := ((0 : Int32), g)) ⟨rfl, fun k hk => absurd hk (by omega), fun _ _ => rfl, rfl⟩
  unfold X10_forgetKept
  rw [e, ob2_some]
  exact ⟨r2, rfl, q1, q2, q3⟩
theorem cpF {z : ZS} {d : DS} {g : Hp} (hz : zp z ≤ 6) (e : g.1 51 2 = nI (zp z)) (r7 : ∀ i, i < zp z → g.1 60 i = nI (zk z i) ∧ g.1 61 i = nI (dp d i) ∧ g.1 62 i = nI (dh d i)) : ∃ g', lp (fun s : Int32 × Hp => X10_front_s70 s.1 s.2) FU ((0 : Int32), g) = some (nI (zp z), g') ∧ (∀ i, i < zp z → g'.1 53 i = nI (zk z i) ∧ g'.1 52 i = nI (dp d i) ∧ g'.1 52 (6 + i) = nI (dh d i)) ∧ (∀ c, c ≠ 52 → c ≠ 53 → g'.1 c = g.1 c) ∧ g'.2 = g.2 := by
  obtain ⟨⟨r1, r2⟩, e', q0, q1, q2, q3⟩ := lp_all (step := fun s : Int32 × Hp => X10_front_s70 s.1 s.2)
    (fun t s => s.1 = nI t ∧ (∀ i, i < t → s.2.1 53 i = nI (zk z i) ∧ s.2.1 52 i = nI (dp d i) ∧ s.2.1 52 (6 + i) = nI (dh d i)) ∧ (∀ c, c ≠ 52 → c ≠ 53 → s.2.1 c = g.1 c) ∧ s.2.2 = g.2)
    (fun s => s.1 = nI (zp z) ∧ (∀ i, i < zp z → s.2.1 53 i = nI (zk z i) ∧ s.2.1 52 i = nI (dp d i) ∧ s.2.1 52 (6 + i) = nI (dh d i)) ∧ (∀ c, c ≠ 52 → c ≠ 53 → s.2.1 c = g.1 c) ∧ s.2.2 = g.2) (zp z) (by omega) (by
      rintro t ⟨s1, s2⟩ ht ⟨g1, g2, g3, g4⟩
      cases g1
      have g2 : ∀ i, i < t → s2.1 53 i = nI (zk z i) ∧ s2.1 52 i = nI (dp d i) ∧ s2.1 52 (6 + i) = nI (dh d i) := g2
      have g3 : ∀ c, c ≠ 52 → c ≠ 53 → s2.1 c = g.1 c := g3
      obtain ⟨w1, w2, w3⟩ := r7 t ht
      have v1 : s2.1 60 t = nI (zk z t) := by rw [g3 60 (by decide) (by decide)]; exact w1
      have v2 : s2.1 61 t = nI (dp d t) := by rw [g3 61 (by decide) (by decide)]; exact w2
      have v3 : s2.1 62 t = nI (dh d t) := by rw [g3 62 (by decide) (by decide)]; exact w3
      have v0 : s2.1 51 2 = nI (zp z) := by rw [g3 51 (by decide) (by decide)]; exact e
      show ∃ r, X10_front_s70 (nI t) s2 = some (.inr r) ∧ _
      unfold X10_front_s70
      rw [v0, if_neg (nI_ge ht (by omega)), gd_ib (by omega) (by decide), ix_nI (by omega), lt_eq, gd_ib (by omega) (by decide), lt_eq, show (6 : Int32) = nI 6 from rfl, nI_add, gd_ib (by omega) (by decide), ix_nI (by omega), lt_eq, lt_eq, v1, up_ne (show (61 : Nat) ≠ 53 by decide), v2, up_ne (show (62 : Nat) ≠ 52 by decide), up_ne (show (62 : Nat) ≠ 53 by decide), v3]
      refine ⟨_, rfl, nap_1 t, fun i hi => ?_, fun c h1 h2 => ?_, g4⟩
      · by_cases c : i = t
        · subst c
          refine ⟨?_, ?_, ?_⟩ <;> simp (disch := omega) only [up_ne, up_at, up_off]
        · obtain ⟨y1, y2, y3⟩ := g2 i (by omega)
          refine ⟨?_, ?_, ?_⟩
          · simp (disch := omega) only [up_ne, up_at, up_off]; exact y1
          · simp (disch := omega) only [up_ne, up_at, up_off]; exact y2
          · simp (disch := omega) only [up_ne, up_at, up_off]; exact y3
      · simp (disch := omega) only [up_ne]
        exact g3 c h1 h2) (by
      rintro ⟨s1, s2⟩ ⟨g1, g2, g3, g4⟩
      cases g1
      have v0 : s2.1 51 2 = nI (zp z) := by rw [show s2.1 51 = g.1 51 from g3 51 (by decide) (by decide)]; exact e
      show ∃ r, X10_front_s70 (nI (zp z)) s2 = some (.inl r) ∧ _
      unfold X10_front_s70
      rw [v0, if_pos (nI_le (Nat.le_refl _) (by omega))]
      exact ⟨_, rfl, rfl, g2, g3, g4⟩) (s := ((0 : Int32), g)) ⟨rfl, fun k hk => absurd hk (by omega), fun _ _ _ => rfl, rfl⟩
  have q0 : r1 = _ := q0
  subst q0
  exact ⟨r2, e', q1, q2, q3⟩
set_option maxHeartbeats 2000000 in
theorem k_front (a1 : Int32) : Lk (X9_front a1) (X10_front a1) := by
  rintro u w h g ⟨z0, d0, cs, n, H⟩
  unfold X9_front X10_front
  rcases H.text_c a1 with ⟨q1, q2⟩ | ⟨t, h', g', ht, rfl, q1, q2, q3, q4, H'⟩ | ⟨t, N, L, rfl, q1, q2, q3, X⟩
  · rw [q1, q2, ob2_some, if_neg (by decide), if_pos rfl]; exact ⟨_, _, _, rfl, rfl, H.rr⟩
  · rw [q1, q2, ob2_some, if_neg (by decide), if_neg n10, gd_ib ht (by decide), ix_nI (by omega), q3, if_pos rfl, q4, ob2_some]; exact ⟨_, _, _, rfl, rfl, H'.rr⟩
  have ht := X.1
  rw [q1, q2, ob2_some, if_pos rfl, if_neg n10, gd_ib ht (by decide), ix_nI (by omega), if_neg q3]
  obtain ⟨h6, g8, s1, s2, ⟨e, e0, e1, e2⟩ | ⟨z, d, e1, e2, R⟩⟩ := X.read
  · rw [e1, e2, ob2_some, ob2_some, if_neg (nm9 (by omega)), if_neg (nm9 (by omega))]; exact ⟨_, _, _, rfl, rfl, (H.sc s1 s2).rr⟩
  rw [e1, e2, ob2_some, ob2_some, if_pos rfl, if_pos rfl]
  have H6 := H.sc s1 s2
  obtain ⟨r1, r2, r3, r4, r5, r6, r7, r8, r9, r10, r11, r12, r13⟩ := R
  have hp := r1.1
  obtain ⟨h10, y1, F15, f1, l1⟩ := become_eq (o := 15) hp (by decide) r3
  have F23 : FrAt z 23 d h10 := r3.fr (fun i _ _ => f1 i (by omega))
  obtain ⟨h12, y2, F19, f2, l2⟩ := become_eq (o := 19) hp (by decide) F23
  obtain ⟨h22, y3, k3, f3, l3⟩ := kpt_c (up h12 27 1 0)
  have c1 : ∀ i, i < 15 ∨ 35 ≤ i → h22.1 i = h6.1 i := fun i hi => by
    rw [f3 i (by omega), up_ne (by omega), f2 i (by omega), f1 i (by omega)]
  have cl : h22.2 = h6.2 := by rw [l3]; show h12.2 = _; rw [l2, l1]
  have A15 : FrAt z 15 d h22 := F15.fr (fun i h1 h2 => by rw [f3 i (by omega), up_ne (by omega), f2 i (by omega)])
  have A19 : FrAt z 19 d h22 := F19.fr (fun i h1 h2 => by rw [f3 i (by omega), up_ne (by omega)])
  have A27 : h22.1 27 1 = nI 0 := by rw [f3 27 (by omega), up_at]; rfl
  rw [y1, ob_some, y2, ob_some, lt_eq, y3, ob2_some, A19.2.2.1]
  have m1 : (up g8 51 2 (nI (zp z))).1 51 17 = nI (zd z) := by rw [up_off (by decide)]; exact r5
  have m2 : (up (up g8 51 2 (nI (zp z))) 51 3 (nI (zd z))).1 51 18 = nI (zg z) := by rw [up_off (by decide), up_off (by decide)]; exact r6
  rw [r4, lt_eq, m1, lt_eq, m2, lt_eq, lt_eq]
  obtain ⟨gA, hA⟩ : ∃ gA, gA = up (up (up (up g8 51 2 (nI (zp z))) 51 3 (nI (zd z))) 51 4 (nI (zg z))) 51 5 (0 : Int32) := ⟨_, rfl⟩
  rw [← hA]
  have a0 : ∀ i, i ≠ 51 → gA.1 i = g8.1 i := fun i hi => by rw [hA]; simp (disch := omega) only [up_ne]
  have a2 : gA.1 51 2 = nI (zp z) := by rw [hA]; simp (disch := omega) only [up_at, up_off]
  have a3 : gA.1 51 3 = nI (zd z) := by rw [hA]; simp (disch := omega) only [up_at, up_off]
  have a4 : gA.1 51 4 = nI (zg z) := by rw [hA]; simp (disch := omega) only [up_at, up_off]
  have a5 : gA.1 51 5 = nI 0 := by rw [hA, up_at]; rfl
  have a6 : ∀ k, 6 ≤ k → gA.1 51 k = g8.1 51 k := fun k hk => by rw [hA]; simp (disch := omega) only [up_off]
  have al : gA.2 = g8.2 := by rw [hA]; rfl
  obtain ⟨gB, w1, b1, b2, bl⟩ := cpF (z := z) (d := d) hp a2 (fun i hi => by rw [a0 60 (by decide), a0 61 (by decide), a0 62 (by decide)]; exact r7 i hi)
  rw [w1, ob2_some]
  rw [gd_true (by decide), lt_eq, gd_true (by decide), lt_eq, gd_true (by decide), lt_eq, gd_true (by decide), lt_eq, gd_true (by decide), lt_eq, show ix (12 : Int32) = 12 by decide, show ix (13 : Int32) = 13 by decide, show ix (14 : Int32) = 14 by decide, show ix (15 : Int32) = 15 by decide, show ix (16 : Int32) = 16 by decide]
  have b3 : (up gB 52 12 0).1 51 3 = nI (zd z) := by rw [up_ne (by decide), b2 51 (by decide) (by decide)]; exact a3
  rw [b3]
  obtain ⟨gC, hC⟩ : ∃ gC, gC = up (up (up (up (up gB 52 12 0) 52 13 (nI (zd z))) 52 14 1) 52 15 0) 52 16 (0 : Int32) := ⟨_, rfl⟩
  rw [← hC]
  have c0 : ∀ i, i ≠ 52 → gC.1 i = gB.1 i := fun i hi => by rw [hC]; simp (disch := omega) only [up_ne]
  have cw : ∀ k, k < 12 → gC.1 52 k = gB.1 52 k := fun k hk => by rw [hC]; simp (disch := omega) only [up_off]
  have c12 : gC.1 52 12 = nI 0 := by rw [hC]; simp (disch := omega) only [up_at, up_off]; rfl
  have c13 : gC.1 52 13 = nI (zd z) := by rw [hC]; simp (disch := omega) only [up_at, up_off]
  have c14 : gC.1 52 14 = nI 1 := by rw [hC]; simp (disch := omega) only [up_at, up_off]; rfl
  have c15 : gC.1 52 15 = nI 0 := by rw [hC]; simp (disch := omega) only [up_at, up_off]; rfl
  have c16 : gC.1 52 16 = nI 0 := by rw [hC]; simp (disch := omega) only [up_at, up_off]; rfl
  have ccl : gC.2 = gB.2 := by rw [hC]; rfl
  obtain ⟨gD, w2, d1, d2, dl⟩ := fgt_m gC
  have t51 : ∀ k, gD.1 51 k = gA.1 51 k := fun k => by rw [d2 51 (by decide), c0 51 (by decide), b2 51 (by decide) (by decide)]
  have tt : ∀ i, i ≠ 51 → i ≠ 52 → i ≠ 53 → i ≠ 54 → gD.1 i = g8.1 i := fun i h1 h2 h3 h4 => by rw [d2 i h4, c0 i h2, b2 i h2 h3, a0 i h1]
  have tl : gD.2 = g8.2 := by rw [dl, ccl, bl, al]
  have RW : RwAt z 0 d gD := by
    refine ⟨fun i hi => ?_, fun i hi => ?_, ?_, ?_, ?_, ?_, ?_⟩
    · rw [d2 52 (by decide), Nat.zero_add, cw i (by omega)]; exact (b1 i hi).2.1
    · rw [d2 52 (by decide), Nat.zero_add, cw (6 + i) (by omega)]; exact (b1 i hi).2.2
    · rw [d2 52 (by decide), r9]; exact c12
    · rw [d2 52 (by decide), r10]; exact c13
    · rw [d2 52 (by decide), r11]; exact c14
    · rw [d2 52 (by decide), r12]; exact c15
    · rw [d2 52 (by decide), r13]; exact c16
  rw [w2, ob_some, t51, a2]
  obtain ⟨H1, H2, H3, _, H5, H7⟩ := H6
  refine ⟨_, _, _, rfl, rfl, z, d, cs, 0, H1.fr (fun i _ _ => c1 i (by omega)) (tt _ (by decide) (by decide) (by decide) (by decide)) (tt _ (by decide) (by decide) (by decide) (by decide)), H2.fr (fun i _ _ => c1 i (by omega)) (tt _ (by decide) (by decide) (by decide) (by decide)) (tt _ (by decide) (by decide) (by decide) (by decide)), H3.fr (c1 _ (by omega)) (c1 _ (by omega)) (by rw [cl]) (by rw [t51, a6 12 (by decide)]) (by rw [t51, a6 13 (by decide)]) (tt _ (by decide) (by decide) (by decide) (by decide)) (by rw [tl]), ⟨r1, r2, A15, A19, ⟨Nat.zero_le _, A27, fun j hj => absurd hj (Nat.not_lt_zero _), fun j hj => absurd hj (Nat.not_lt_zero _), fun j hj => ?_⟩, ?_, ⟨?_, ?_, ?_, fun i hi => ?_⟩, fun k hk => Or.inl ⟨k3 k hk, d1 k hk⟩⟩, H5.fr (fun i hi => c1 i (by omega)) (fun i _ => by rw [cl]), H7.fr (fun i hi => tt i (by omega) (by omega) (by omega) (by omega)) (fun i _ => by rw [tl])⟩
  · rw [show j = 0 by omega]; exact RW
  · rw [t51]; exact a5
  · rw [t51]; exact a2
  · rw [t51]; exact a3
  · rw [t51]; exact a4
  · rw [if_neg (nm9 (by omega)), d2 53 (by decide), c0 53 (by decide)]; exact (b1 i hi).1
