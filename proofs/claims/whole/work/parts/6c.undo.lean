theorem againC {z : ZS} {d0 : DS} {cs : Nat → Nat} {k : Nat} {h : Hp} (hz : ZOk z) (hd : DOk z d0) (hk : k ≤ 40) (F : FrAt z 15 d0 h) (e1 : h.1 27 1 = nI k) (e2 : ∀ j, j < k → h.1 28 j = nI (cs j)) (e3 : ∀ j, j < k → Cd (cs j)) : ∃ h', X9_doAllAgain h = some h' ∧ FrAt z 19 (rn z d0 cs k) h' ∧ (∀ i, i < 19 ∨ 22 < i → h'.1 i = h.1 i) ∧ h'.2 = h.2 := by
  obtain ⟨h1, x1, f1, o1, o2⟩ := become_eq (o := 19) hz.1 (by decide) F
  unfold X9_doAllAgain
  rw [x1, ob_some]
  refine (lp_all (step := fun s : Int32 × Hp => X9_doAllAgain_s13 s.1 s.2)
    (fun j s => s.1 = nI j ∧ FrAt z 19 (rn z d0 cs j) s.2 ∧ (∀ i, i < 19 ∨ 22 < i → s.2.1 i = h.1 i) ∧ s.2.2 = h.2)
    (fun s => FrAt z 19 (rn z d0 cs k) s.2 ∧ (∀ i, i < 19 ∨ 22 < i → s.2.1 i = h.1 i) ∧ s.2.2 = h.2)
    k (by omega) ?_ ?_ (s := ((0 : Int32), h1)) ⟨rfl, f1, fun i hi => o1 i (by omega), o2⟩).elim ?_
  · rintro i ⟨s1, s2⟩ hi ⟨g1, g2, g3, g4⟩
    cases g1
    show ∃ t, X9_doAllAgain_s13 (nI i) s2 = some (.inr t) ∧ _
    have g3 : ∀ i, i < 19 ∨ 22 < i → s2.1 i = h.1 i := g3
    unfold X9_doAllAgain_s13
    obtain ⟨h', x1, f1, o1⟩ := undergo_eq hz (rn_ok hz hd i (fun j hj => e3 j (by omega))) (e3 i hi) g2
    rw [g3 27 (by decide), g3 28 (by decide), e1, if_neg (nI_ge hi (by omega)), gd_ib (by omega) (by decide), ix_nI (by omega), e2 i hi, x1, ob2_some]
    exact ⟨_, rfl, nap_1 i, f1, fun j hj => (o1.1 j (by show ¬ (j = 19 ∨ j = 19 + 2 ∨ j = 19 + 3); omega)).trans (g3 j hj), o1.2.trans g4⟩
  · rintro ⟨s1, s2⟩ ⟨g1, g2, g3, g4⟩
    cases g1
    show ∃ t, X9_doAllAgain_s13 (nI k) s2 = some (.inl t) ∧ _
    have g3 : ∀ i, i < 19 ∨ 22 < i → s2.1 i = h.1 i := g3
    unfold X9_doAllAgain_s13
    rw [g3 27 (by decide), e1, if_pos (nI_le (Nat.le_refl _) (by omega))]
    exact ⟨_, rfl, g2, g3, g4⟩
  · rintro ⟨r1, r2⟩ ⟨e, g2, g3, g4⟩
    rw [e, ob2_some]
    exact ⟨_, rfl, g2, g3, g4⟩
theorem RZ.reset {u w : Hp} {z : ZS} {d0 : DS} {cs : Nat → Nat} {n : Nat} {h g : Hp} {h' g' : Hp} {cs' : Nat → Nat} {n' : Nat} (H : RZ u w z d0 cs n h g) (a : ∀ i, i < 19 ∨ (22 < i ∧ i ≠ 27 ∧ i ≠ 28) → h'.1 i = h.1 i) (a2 : h'.2 = h.2) (b : ∀ i, i ≠ 51 → i ≠ 52 → g'.1 i = g.1 i) (b1 : ∀ k, k ≠ 5 → g'.1 51 k = g.1 51 k) (b2 : ∀ j, 697 ≤ j → g'.1 52 j = g.1 52 j) (b3 : g'.2 = g.2) (R : RunR z d0 cs' n' 27 0 h' g') (e5 : g'.1 51 5 = nI n') (F : FrAt z 19 (rn z d0 cs' n') h') : RZ u w z d0 cs' n' h' g' := by
  have hp := H.zok.1
  obtain ⟨H1, H2, H3, ⟨hz, hd, f15, f19, hr, h5, hm, hk⟩, hl, hi⟩ := H
  obtain ⟨m1, m2, m3, m4⟩ := hm
  refine ⟨H1.fr (fun i _ _ => a i (by omega)) (b _ (by decide) (by decide)) (b _ (by decide) (by decide)), H2.fr (fun i _ _ => a i (by omega)) (b _ (by decide) (by decide)) (b _ (by decide) (by decide)), H3.fr (a _ (by decide)) (a _ (by decide)) (by rw [a2]) (b1 _ (by decide)) (b1 _ (by decide)) (b _ (by decide) (by decide)) (by rw [b3]), ⟨hz, hd, f15.fr (fun i _ _ => a i (by omega)), F, R, e5, ⟨(b1 2 (by decide)).trans m1, (b1 3 (by decide)).trans m2, (b1 4 (by decide)).trans m3, fun i hi => by rw [b 53 (by decide) (by decide)]; exact m4 i hi⟩, fun k hk3 => ?_⟩, hl.fr (fun i _ => a i (by omega)) (fun i _ => by rw [a2]), hi.fr (fun i _ => b i (by omega) (by omega)) (fun i _ => by rw [b3])⟩
  rw [a (30 + 2 * k) (by omega), b 54 (by decide) (by decide)]
  rcases hk k hk3 with q | ⟨cs', n', q1, q2⟩
  · exact Or.inl q
  · exact Or.inr ⟨cs', n', q1.fr hp (a _ (by omega)) (a _ (by omega)) (fun j h1 h2 => b2 j (by omega)), q2⟩
theorem k_undo (a1 : Int32) : Lk (X9_undo a1) (X10_undo a1) := by
  rintro u w h g ⟨z, d0, cs, n, H⟩
  have h40 := H.n40
  unfold X9_undo X10_undo
  rw [H.d9, H.d10]
  rcases rng a1 n (by omega) with q | ⟨q1, q2, q3⟩ | ⟨k, hk, rfl⟩
  · rw [if_pos q, in0 q, if_pos rfl]; exact ⟨_, _, _, rfl, rfl, H.rr⟩
  · rw [if_neg q1, if_neg q2, in1 q3, if_pos rfl]; exact ⟨_, _, _, rfl, rfl, H.rr⟩
  rw [if_neg (nI_pos (by omega)), if_pos (nI_le hk (by omega)), in2 (nI_pos (by omega)) (nI_nlt hk (by omega)), if_neg n10, lt_eq, lt_eq, lt_eq, lt_eq]
  have R := H.run
  obtain ⟨h', e1, f1, o1, o2⟩ := againC (h := up h 27 1 (nI k)) (cs := cs) (k := k) H.zok H.2.2.2.1.2.1 (by omega) (H.2.2.2.1.2.2.1.fr (fun i _ _ => up_ne (by omega))) up_at (fun j hj => by rw [up_ne (by decide)]; exact R.2.2.1 j (by omega)) (fun j hj => R.2.2.2.1 j (by omega))
  rw [e1, ob_some]
  refine ⟨_, h', up g 51 5 (nI k), rfl, rfl, (H.reset (cs' := cs) (n' := k) (fun i hi => by rw [o1 i (by omega), up_ne (by omega)]) o2 (fun i h1 _ => up_ne h1) (fun q hq => up_off hq) (fun j _ => by rw [up_ne (by decide)]) rfl ⟨by omega, by rw [o1 27 (by decide)]; exact up_at, fun j hj => ?_, fun j hj => R.2.2.2.1 j (by omega), fun j hj => (R.2.2.2.2 j (by omega)).fr H.zok.1 (fun q _ _ => by rw [up_ne (by decide)])⟩ up_at f1).rr⟩
  rw [o1 28 (by decide), up_ne (by decide)]
  exact R.2.2.1 j (by omega)
theorem RwAt.cp {z : ZS} {x y : Nat} {d : DS} {g g' : Hp} (H : RwAt z x d g) (hp : zp z ≤ 6) (e : ∀ q, q < 17 → g'.1 52 (y + q) = g.1 52 (x + q)) : RwAt z y d g' := by
  obtain ⟨a1, a2, a3, a4, a5, a6, a7⟩ := H
  refine ⟨fun i hi => (e i (by omega)).trans (a1 i hi), fun i hi => ?_, (e 12 (by omega)).trans a3, (e 13 (by omega)).trans a4, (e 14 (by omega)).trans a5, (e 15 (by omega)).trans a6, (e 16 (by omega)).trans a7⟩
  have := e (6 + i) (by omega)
  rw [show y + 6 + i = y + (6 + i) by omega, this, show x + (6 + i) = x + 6 + i by omega]
  exact a2 i hi
theorem RunR.cp {z : ZS} {d0 : DS} {cs : Nat → Nat} {n o a o' b : Nat} {h g h' g' : Hp} (H : RunR z d0 cs n o a h g) (hp : zp z ≤ 6) (e : ∀ q, q < 697 → g'.1 52 (b + q) = g.1 52 (a + q)) (e0 : h'.1 o' 1 = nI n) (e1 : ∀ j, j < n → h'.1 (o' + 1) j = h.1 (o + 1) j) : RunR z d0 cs n o' b h' g' := by
  obtain ⟨a1, a2, a3, a4, a5⟩ := H
  refine ⟨a1, e0, fun j hj => (e1 j hj).trans (a3 j hj), a4, fun j hj => (a5 j hj).cp hp (fun q hq => ?_)⟩
  have := e (17 * j + q) (by omega)
  rw [show b + 17 * j + q = b + (17 * j + q) by omega, this, show a + 17 * j + q = a + (17 * j + q) by omega]
theorem cp697 {f : Int32 × Hp → Option ((Int32 × Hp) ⊕ (Int32 × Hp))} {a b : Nat} (hf : ∀ y g, y < 697 → f (nI y, g) = some (.inr (nI (y + 1), up g 52 (b + y) (g.1 52 (a + y))))) (he : ∀ g, f (nI 697, g) = some (.inl (nI 697, g))) (hab : a + 697 ≤ b ∨ b + 697 ≤ a) (g : Hp) : ∃ g', lp f FU ((0 : Int32), g) = some (nI 697, g') ∧ (∀ q, q < 697 → g'.1 52 (b + q) = g.1 52 (a + q)) ∧ (∀ j, j < b ∨ b + 697 ≤ j → g'.1 52 j = g.1 52 j) ∧ (∀ i, i ≠ 52 → g'.1 i = g.1 i) ∧ g'.2 = g.2 := by
  refine (lp_all (step := f)
    (fun j s => s.1 = nI j ∧ (∀ q, q < j → s.2.1 52 (b + q) = g.1 52 (a + q)) ∧ (∀ p, p < b ∨ b + 697 ≤ p → s.2.1 52 p = g.1 52 p) ∧ (∀ i, i ≠ 52 → s.2.1 i = g.1 i) ∧ s.2.2 = g.2)
    (fun s => s.1 = nI 697 ∧ (∀ q, q < 697 → s.2.1 52 (b + q) = g.1 52 (a + q)) ∧ (∀ p, p < b ∨ b + 697 ≤ p → s.2.1 52 p = g.1 52 p) ∧ (∀ i, i ≠ 52 → s.2.1 i = g.1 i) ∧ s.2.2 = g.2)
    697 (by omega) ?_ ?_ (s := ((0 : Int32), g)) ⟨rfl, fun j hj => absurd hj (by omega), fun _ _ => rfl, fun _ _ => rfl, rfl⟩).elim ?_
  · rintro i ⟨s1, s2⟩ hi ⟨g1, g2, g3, g4, g5⟩
    obtain rfl : s1 = nI i := g1
    rw [hf i s2 hi]
    refine ⟨_, rfl, rfl, fun q hq => ?_, fun p hp => (up_off (by omega)).trans (g3 p hp), fun j hj => (up_ne hj).trans (g4 j hj), g5⟩
    by_cases e : q = i
    · subst e
      exact up_at.trans (g3 (a + q) (by omega))
    · exact (up_off (by omega)).trans (g2 q (by omega))
  · rintro ⟨s1, s2⟩ ⟨g1, g2, g3, g4, g5⟩
    obtain rfl : s1 = nI 697 := g1
    rw [he s2]
    exact ⟨_, rfl, rfl, g2, g3, g4, g5⟩
  · rintro ⟨s1, s2⟩ ⟨e, g1, g2, g3, g4, g5⟩
    obtain rfl : s1 = nI 697 := g1
    exact ⟨s2, e, g2, g3, g4, g5⟩
theorem cpO40 : cpOk (0 : Int32) (0 : Int32) (40 : Int32) 40 40 = true := by decide
theorem bec3_eq (o a : Nat) (h : Hp) (hoa : o ≠ a) (h1 : o + 1 ≠ a) : ∃ h', X3_become o a h = some h' ∧ h'.1 o 1 = h.1 a 1 ∧ (∀ j, j < 40 → h'.1 (o + 1) j = h.1 (a + 1) j) ∧ (∀ i, i ≠ o → i ≠ o + 1 → h'.1 i = h.1 i) ∧ h'.2 = h.2 := by
  unfold X3_become
  rw [gd_true cpO40, lt_eq, lt_eq, show ix (0 : Int32) = 0 by decide, show ix (40 : Int32) = 40 by decide, upA_ne (by omega)]
  refine ⟨_, rfl, up_at, fun j hj => ?_, fun i h2 h3 => by rw [up_ne h2, upA_ne h3], rfl⟩
  rw [up_ne (by omega)]
  have ea : (upA h (o + 1) (va_cpy (h.1 (a + 1)) (h.1 (o + 1)) 0 0 40)).1 (o + 1) = va_cpy (h.1 (a + 1)) (h.1 (o + 1)) 0 0 40 := if_pos rfl
  rw [ea, pk_cpy_in (by omega) (by omega), Nat.zero_add, Nat.sub_zero]
theorem k_keep (a1 : Int32) : Lk (X9_keep a1) (X10_keep a1) := by
  rintro u w h g ⟨z, d0, cs, n, H⟩
  have hp := H.zok.1
  unfold X9_keep X10_keep
  rcases isKeep_c a1 with ⟨q1, q2⟩ | ⟨k, hk, rfl, q1, q2⟩
  · rw [q1, q2, if_pos rfl, if_pos rfl]; exact ⟨_, _, _, rfl, rfl, H.rr⟩
  rw [q1, q2, if_neg n10, if_neg n10, H.p9, H.p10]
  by_cases c : nI (zp z) = (0 : Int32)
  · rw [if_pos c, if_pos c]; exact ⟨_, _, _, rfl, rfl, H.rr⟩
  rw [if_neg c, if_neg c]
  obtain ⟨h1, e1, x1, x2, x3, x4⟩ := bec3_eq (30 + 2 * k) 27 h (by omega) (by omega)
  obtain ⟨g1, e2, y1, y2, y3, y4⟩ := cp697 (f := fun s : Int32 × Hp => X10_keep_s23 (nI k) s.1 s.2) (a := 0) (b := 697 * (k + 1)) (fun y g hy => by
    show X10_keep_s23 (nI k) (nI y) g = _
    unfold X10_keep_s23
    rw [if_neg (by rw [nel_697 (by omega)]; omega), nap_1, nml_697, nI_add, gd_ib (by omega) (by decide), gd_ib (by omega) (by decide), ix_nI (by omega), ix_nI (by omega), lt_eq, lt_eq, nap_1, Nat.zero_add]) (fun g => by
    show X10_keep_s23 (nI k) (nI 697) g = _
    unfold X10_keep_s23
    rw [if_pos (by decide)]) (by omega) g
  rw [gd_ib hk (by decide), ix_nI (i := k) (by omega), e1, ob_some, e2, ob2_some, gd_ib hk (by decide), lt_eq, up_ne (by decide), x3 27 (by omega) (by omega), y3 51 (by decide), H.d9, H.d10]
  have R := H.run
  obtain ⟨H1, H2, H3, ⟨hz, hd, f15, f19, hr, h5, hm, hkp⟩, hl, hi⟩ := H
  obtain ⟨m1, m2, m3, m4⟩ := hm
  refine ⟨_, h1, _, rfl, rfl, z, d0, cs, n, H1.fr (fun i _ _ => x3 i (by omega) (by omega)) (by rw [up_ne (by decide)]; exact y3 _ (by decide)) (by rw [up_ne (by decide)]; exact y3 _ (by decide)), H2.fr (fun i _ _ => x3 i (by omega) (by omega)) (by rw [up_ne (by decide)]; exact y3 _ (by decide)) (by rw [up_ne (by decide)]; exact y3 _ (by decide)), H3.fr (x3 _ (by omega) (by omega)) (x3 _ (by omega) (by omega)) (by rw [x4]) (by rw [up_ne (by decide), y3 51 (by decide)]) (by rw [up_ne (by decide), y3 51 (by decide)]) (by rw [up_ne (by decide)]; exact y3 _ (by decide)) (by show g1.2 51 = g.2 51; rw [y4]), ⟨hz, hd, f15.fr (fun i _ _ => x3 i (by omega) (by omega)), f19.fr (fun i _ _ => x3 i (by omega) (by omega)), R.fr hp (x3 _ (by omega) (by omega)) (x3 _ (by omega) (by omega)) (fun j _ hj => by rw [up_ne (by decide)]; exact y2 j (by omega)), by rw [up_ne (by decide), y3 51 (by decide)]; exact h5, ⟨by rw [up_ne (by decide), y3 51 (by decide)]; exact m1, by rw [up_ne (by decide), y3 51 (by decide)]; exact m2, by rw [up_ne (by decide), y3 51 (by decide)]; exact m3, fun i hi => by rw [up_ne (by decide), y3 53 (by decide)]; exact m4 i hi⟩, fun k' hk3 => ?_⟩, hl.fr (fun i _ => x3 i (by omega) (by omega)) (fun i _ => by rw [x4]), hi.fr (fun i _ => by rw [up_ne (by omega)]; exact y3 i (by omega)) (fun i _ => by show g1.2 i = g.2 i; rw [y4])⟩
  by_cases e : k' = k
  · subst e
    refine Or.inr ⟨cs, n, R.cp hp (fun q hq => by rw [up_ne (by decide)]; exact y1 q hq) (x1.trans R.2.1) (fun j hj => x2 j (by have := R.1; omega)), up_at⟩
  · rw [up_off e, y3 54 (by decide), x3 (30 + 2 * k') (by omega) (by omega)]
    rcases hkp k' hk3 with q | ⟨cs', n', q1, q2⟩
    · exact Or.inl q
    · exact Or.inr ⟨cs', n', q1.fr hp (x3 _ (by omega) (by omega)) (x3 _ (by omega) (by omega)) (fun j h1 h2 => by rw [up_ne (by decide)]; exact y2 j (by omega)), q2⟩
theorem k_on (a1 : Int32) : Lk (X9_on a1) (X10_on a1) := by
  rintro u w h g ⟨z, d0, cs, n, H⟩
  have hp := H.zok.1
  unfold X9_on X10_on
  rcases isKeep_c a1 with ⟨q1, q2⟩ | ⟨k, hk, rfl, q1, q2⟩
  · rw [q1, q2, if_pos rfl, if_pos rfl]; exact ⟨_, _, _, rfl, rfl, H.rr⟩
  rw [q1, q2, if_neg n10, if_neg n10, gd_ib hk (by decide), gd_ib hk (by decide), ix_nI (i := k) (by omega)]
  rcases H.2.2.2.1.2.2.2.2.2.2.2 k hk with ⟨r1, r2⟩ | ⟨cs', m, R, r2⟩
  · obtain ⟨h', g', e1, e2, H'⟩ := H.find 1 (by decide)
    rw [r1, r2, if_pos rfl, if_pos rfl, show (1 : Int32) = nI 1 from rfl, e1, e2, ob2_some, ob2_some]
    exact ⟨_, _, _, rfl, rfl, H'.rr⟩
  have m40 := R.1
  rw [R.2.1, r2, if_neg (nm1 (by omega)), if_neg (nm9 (by omega))]
  obtain ⟨h1, e1, x1, x2, x3, x4⟩ := bec3_eq 27 (30 + 2 * k) h (by omega) (by omega)
  obtain ⟨h2, e3, f1, o1, o2⟩ := againC (h := h1) (cs := cs') (k := m) H.zok H.2.2.2.1.2.1 m40 (H.2.2.2.1.2.2.1.fr (fun i _ _ => x3 i (by omega) (by omega))) (x1.trans R.2.1) (fun j hj => (x2 j (by omega)).trans (R.2.2.1 j hj)) R.2.2.2.1
  obtain ⟨g1, e2, y1, y2, y3, y4⟩ := cp697 (f := fun s : Int32 × Hp => X10_on_s30 (nI k) s.1 s.2) (b := 0) (a := 697 * (k + 1)) (fun y g hy => by
    show X10_on_s30 (nI k) (nI y) g = _
    unfold X10_on_s30
    rw [if_neg (by rw [nel_697 (by omega)]; omega), nap_1, nml_697, nI_add, gd_ib (by omega) (by decide), gd_ib (by omega) (by decide), ix_nI (by omega), ix_nI (by omega), lt_eq, lt_eq, nap_1, Nat.zero_add]) (fun g => by
    show X10_on_s30 (nI k) (nI 697) g = _
    unfold X10_on_s30
    rw [if_pos (by decide)]) (by omega) g
  have e27 : h2.1 27 1 = nI m := by rw [o1 27 (by decide), x1]; exact R.2.1
  rw [e1, ob_some, e3, ob_some, e2, ob2_some, lt_eq, y3 54 (by decide), r2, up_at, e27]
  refine ⟨_, h2, up g1 51 5 (nI m), rfl, rfl, (H.reset (h' := h2) (g' := up g1 51 5 (nI m)) (cs' := cs') (n' := m) (fun i hi => by rw [o1 i (by omega), x3 i (by omega) (by omega)]) (o2.trans x4) (fun i h1 h2 => by rw [up_ne h1]; exact y3 i h2) (fun q hq => by rw [up_off hq, y3 51 (by decide)]) (fun j hj => by rw [up_ne (by decide)]; exact y2 j (by omega)) y4 (R.cp hp (fun q hq => by rw [up_ne (by decide)]; exact y1 q hq) e27 (fun j hj => by rw [o1 (27 + 1) (by decide)]; exact x2 j (by omega))) up_at f1).rr⟩
theorem nzI {p : Nat} (h0 : 0 < p) (hp : p < 2 ^ 31) : nz (nI p) = true := decide_eq_true (nI_ne0 h0 hp)
theorem RZ.lot {u w : Hp} {z : ZS} {d0 : DS} {cs : Nat → Nat} {n : Nat} {h g : Hp} (H : RZ u w z d0 cs n h g) (hn : n < 40) (h0 : 0 < zp z) {l : Nat} (hl : l < 2 ^ 31) : ∃ h' g1 g' cs', X9_doLot (nI l) h = some h' ∧ X10_begin g = some (nI (17 * (n + 1)), g1) ∧ X10_deedBy (nI (17 * (n + 1))) (nI l) g1 = some g' ∧ RZ u w z d0 cs' (n + 1) h' g' := by
  have hp := H.zok.1
  by_cases c4 : l / 8 % 8 = 4
  · obtain ⟨h', g1, g', e1, e2, e3, H'⟩ := H.spoonD hn (show 1 + l / 64 % 9 ≤ 9 by omega)
    refine ⟨h', g1, g', _, ?_, e2, ?_, H'⟩
    · unfold X9_doLot
      rw [dv_64 hl, dv_8 hl, irm_8 (by omega), lt_eq, lt_eq, if_pos (show nI (l / 8 % 8) = (4 : Int32) by rw [c4]; rfl), irm_9 (by omega), show (1 : Int32) + nI (l / 64 % 9) = nI (1 + l / 64 % 9) from nI_add 1 _, e1, ob2_some]
    · unfold X10_deedBy
      rw [dv_64 hl, dv_8 hl, irm_8 (by omega), lt_eq, lt_eq, if_pos (show nI (l / 8 % 8) = (4 : Int32) by rw [c4]; rfl), irm_9 (by omega), nap_1, Nat.add_comm (l / 64 % 9) 1, e3, ob_some]
  by_cases c5 : l / 8 % 8 = 5
  · obtain ⟨h', g1, e1, e2, H'⟩ := H.windD hn (show l / 64 % 3 ≤ 2 by omega)
    refine ⟨h', g1, up g1 52 (17 * (n + 1) + 14) (nI (l / 64 % 3)), _, ?_, e2, ?_, H'⟩
    · unfold X9_doLot
      rw [dv_64 hl, dv_8 hl, irm_8 (by omega), lt_eq, lt_eq, if_neg (show ¬ nI (l / 8 % 8) = (4 : Int32) from fun q => c4 ((nI_eq (b := 4) (by omega) (by decide)).mp q)), if_pos (show nI (l / 8 % 8) = (5 : Int32) by rw [c5]; rfl), irm_3 (by omega), e1, ob2_some]
    · unfold X10_deedBy
      rw [dv_64 hl, dv_8 hl, irm_8 (by omega), lt_eq, lt_eq, if_neg (show ¬ nI (l / 8 % 8) = (4 : Int32) from fun q => c4 ((nI_eq (b := 4) (by omega) (by decide)).mp q)), if_pos (show nI (l / 8 % 8) = (5 : Int32) by rw [c5]; rfl), irm_3 (by omega), nap_14, gd_ib (by omega) (by decide), ix_nI (by omega), lt_eq]
  by_cases c6 : l / 8 % 8 = 6
  · have r1 : h.1 19 10 = nI (dr (rn z d0 cs n)) := H.f19.2.2.2.2.2.2.2.2.2.1
    have hr := H.dok.2.2.2.2.2
    obtain ⟨h', g1, e1, e2, f2, H'⟩ := H.rainD hn (show 1 - dr (rn z d0 cs n) ≤ 1 by omega)
    refine ⟨h', g1, up g1 52 (17 * (n + 1) + 15) (nI (1 - dr (rn z d0 cs n))), _, ?_, e2, ?_, H'⟩
    · unfold X9_doLot
      rw [dv_64 hl, dv_8 hl, irm_8 (by omega), lt_eq, lt_eq, if_neg (show ¬ nI (l / 8 % 8) = (4 : Int32) from fun q => c4 ((nI_eq (b := 4) (by omega) (by decide)).mp q)), if_neg (show ¬ nI (l / 8 % 8) = (5 : Int32) from fun q => c5 ((nI_eq (b := 5) (by omega) (by decide)).mp q)), if_pos (show nI (l / 8 % 8) = (6 : Int32) by rw [c6]; rfl), r1, show (1 : Int32) - nI (dr (rn z d0 cs n)) = nI (1 - dr (rn z d0 cs n)) from pk_sub hr, e1, ob2_some]
    · unfold X10_deedBy
      rw [dv_64 hl, dv_8 hl, irm_8 (by omega), lt_eq, lt_eq, if_neg (show ¬ nI (l / 8 % 8) = (4 : Int32) from fun q => c4 ((nI_eq (b := 4) (by omega) (by decide)).mp q)), if_neg (show ¬ nI (l / 8 % 8) = (5 : Int32) from fun q => c5 ((nI_eq (b := 5) (by omega) (by decide)).mp q)), if_pos (show nI (l / 8 % 8) = (6 : Int32) by rw [c6]; rfl), nap_15, gd_ib (by omega) (by decide), ix_nI (by omega), f2.2.2.2.2.2.1, show (1 : Int32) - nI (dr (rn z d0 cs n)) = nI (1 - dr (rn z d0 cs n)) from pk_sub hr, lt_eq]
  by_cases c7 : l / 8 % 8 = 7
  · have hm := Nat.mod_lt l h0
    obtain ⟨h', g1, e1, e2, f2, H'⟩ := H.standD hn hm (show l / 64 % 10 ≤ 9 by omega)
    refine ⟨h', g1, up g1 52 (17 * (n + 1) + l % zp z) (nI (l / 64 % 10)), _, ?_, e2, ?_, H'⟩
    · unfold X9_doLot X9_oneOfLot
      rw [dv_64 hl, dv_8 hl, irm_8 (by omega), lt_eq, lt_eq, if_neg (show ¬ nI (l / 8 % 8) = (4 : Int32) from fun q => c4 ((nI_eq (b := 4) (by omega) (by decide)).mp q)), if_neg (show ¬ nI (l / 8 % 8) = (5 : Int32) from fun q => c5 ((nI_eq (b := 5) (by omega) (by decide)).mp q)), if_neg (show ¬ nI (l / 8 % 8) = (6 : Int32) from fun q => c6 ((nI_eq (b := 6) (by omega) (by decide)).mp q)), if_pos (show nI (l / 8 % 8) = (7 : Int32) by rw [c7]; rfl), H.p9, if_neg (nI_ne0 h0 (by omega)), gd_true (nzI h0 (by omega)), irm_nI hl h0 (by omega), ob_some, irm_10 (by omega), show nI (l % zp z) * (10 : Int32) + nI (l / 64 % 10) = nI (l % zp z * 10 + l / 64 % 10) by rw [show (10 : Int32) = nI 10 from rfl, pk_mul, nI_add], e1, ob2_some]
    · unfold X10_deedBy
      rw [dv_64 hl, dv_8 hl, irm_8 (by omega), lt_eq, lt_eq, if_neg (show ¬ nI (l / 8 % 8) = (4 : Int32) from fun q => c4 ((nI_eq (b := 4) (by omega) (by decide)).mp q)), if_neg (show ¬ nI (l / 8 % 8) = (5 : Int32) from fun q => c5 ((nI_eq (b := 5) (by omega) (by decide)).mp q)), if_neg (show ¬ nI (l / 8 % 8) = (6 : Int32) from fun q => c6 ((nI_eq (b := 6) (by omega) (by decide)).mp q)), if_pos (show nI (l / 8 % 8) = (7 : Int32) by rw [c7]; rfl), f2, gd_true (nzI h0 (by omega)), irm_nI hl h0 (by omega), nI_add, gd_ib (by omega) (by decide), ix_nI (by omega), irm_10 (by omega), lt_eq]
  obtain ⟨v, h', g1, g', e1, e2, e3, H'⟩ := H.turnD hn
  refine ⟨h', g1, g', _, ?_, e2, ?_, H'⟩
  · unfold X9_doLot
    rw [dv_64 hl, dv_8 hl, irm_8 (by omega), lt_eq, lt_eq, if_neg (show ¬ nI (l / 8 % 8) = (4 : Int32) from fun q => c4 ((nI_eq (b := 4) (by omega) (by decide)).mp q)), if_neg (show ¬ nI (l / 8 % 8) = (5 : Int32) from fun q => c5 ((nI_eq (b := 5) (by omega) (by decide)).mp q)), if_neg (show ¬ nI (l / 8 % 8) = (6 : Int32) from fun q => c6 ((nI_eq (b := 6) (by omega) (by decide)).mp q)), if_neg (show ¬ nI (l / 8 % 8) = (7 : Int32) from fun q => c7 ((nI_eq (b := 7) (by omega) (by decide)).mp q)), e1, ob2_some]
  · unfold X10_deedBy
    rw [dv_64 hl, dv_8 hl, irm_8 (by omega), lt_eq, lt_eq, if_neg (show ¬ nI (l / 8 % 8) = (4 : Int32) from fun q => c4 ((nI_eq (b := 4) (by omega) (by decide)).mp q)), if_neg (show ¬ nI (l / 8 % 8) = (5 : Int32) from fun q => c5 ((nI_eq (b := 5) (by omega) (by decide)).mp q)), if_neg (show ¬ nI (l / 8 % 8) = (6 : Int32) from fun q => c6 ((nI_eq (b := 6) (by omega) (by decide)).mp q)), if_neg (show ¬ nI (l / 8 % 8) = (7 : Int32) from fun q => c7 ((nI_eq (b := 7) (by omega) (by decide)).mp q)), e3, ob2_some]
theorem k_lots (a1 a2 : Int32) : Lk (X9_lots a1 a2) (X10_lots a1 a2) := by
  rintro u w h g ⟨z, d0, cs, n, H⟩
  have hp := H.zok.1
  have h40 := H.n40
  unfold X9_lots X10_lots
  by_cases c1 : a1 < 1
  · rw [if_pos c1, in0 c1, if_pos rfl]; exact ⟨_, _, _, rfl, rfl, H.rr⟩
  by_cases c2 : 20 < a1
  · rw [if_neg c1, if_pos c2, in1 c2, if_pos rfl]; exact ⟨_, _, _, rfl, rfl, H.rr⟩
  rw [if_neg c1, if_neg c2, in2 c1 c2, if_neg n10]
  by_cases c3 : a2 < 1
  · rw [if_pos c3, in0 c3, if_pos rfl]; exact ⟨_, _, _, rfl, rfl, H.rr⟩
  rw [if_neg c3]
  obtain ⟨s, hs, rfl⟩ : ∃ s, s < 2 ^ 31 ∧ a2 = nI s := nI_of (fun q => c3 (Int32.lt_trans q (by decide)))
  obtain ⟨m, hm, rfl⟩ := nI_of2 (M := 20) (n := 20) (by decide) (fun q => c1 (Int32.lt_trans q (by decide))) (i_nlt c2)
  by_cases c4 : s < 2147483647
  · rw [if_pos (show lg_cmp (nI s).toInt64 2147483647 < 0 by rw [lg_cmp_lt, nI_l hs]; exact (pk_lLT (b := 2147483647) (by omega) (by decide)).mpr c4), in2 c3 (fun q => by have := (nI_ltI (a := 2147483646) (by decide) hs).mp q; omega), if_neg n10, H.p9, H.p10]
    by_cases c : nI (zp z) = (0 : Int32)
    · rw [if_pos c, if_pos c]; exact ⟨_, _, _, rfl, rfl, H.rr⟩
    have h0 : 0 < zp z := by
      rcases Nat.eq_zero_or_pos (zp z) with e | e
      · rw [e] at c; exact absurd rfl c
      · exact e
    rw [if_neg c, if_neg c, H.d9, H.d10, nI_add]
    by_cases c5 : n + m ≤ 40
    · rw [if_pos ((ner_40 (by omega)).mpr c5), if_pos ((ner_40 (by omega)).mpr c5), lt_eq, lt_eq, nI_l hs]
      obtain ⟨⟨s1, s2, s3⟩, ⟨t1, t2, t3⟩, e3, e4, cs', Q⟩ := lpp (f := fun s : Int64 × Int32 × Hp => X9_lots_s63 (nI m) s.1 s.2.1 s.2.2) (g := fun s : Int64 × Int32 × Hp => X10_lots_s52 (nI m) s.1 s.2.1 s.2.2)
        (fun k s t => s.1 = t.1 ∧ (∃ a, a < 2147483647 ∧ s.1 = lN a) ∧ s.2.1 = nI k ∧ t.2.1 = nI k ∧ ∃ cs', RZ u w z d0 cs' (n + k) s.2.2 t.2.2) (fun s t => ∃ cs', RZ u w z d0 cs' (n + m) s.2.2 t.2.2) m (by omega) (by
          rintro k ⟨s1, s2, s3⟩ ⟨t1, t2, t3⟩ hk ⟨g1, ⟨a, ha, g2⟩, g3, g4, cs', g5⟩
          cases g1; cases g2; cases g3; cases g4
          show (∃ s' t', X9_lots_s63 (nI m) (lN a) (nI k) s3 = some (.inr s') ∧ X10_lots_s52 (nI m) (lN a) (nI k) t3 = some (.inr t') ∧ _) ∨ ∃ a' b, X9_lots_s63 (nI m) (lN a) (nI k) s3 = some (.inl a') ∧ X10_lots_s52 (nI m) (lN a) (nI k) t3 = some (.inl b) ∧ _
          unfold X9_lots_s63 X10_lots_s52
          have el : lrm (lN a * (48271 : Int64)) (2147483647 : Int64) = lN (a * 48271 % 2147483647) := by
            rw [show (48271 : Int64) = lN 48271 from rfl, lN_mul]
            exact pk_lRem (b := 2147483647) (by omega) (by decide) (by decide)
          by_cases ck : k < m
          · left
            have hl := Nat.mod_lt (a * 48271) (show 0 < 2147483647 by decide)
            obtain ⟨h', g1, g', cs'', e1, e2, e3, H'⟩ := RZ.lot g5 (by omega) h0 (show a * 48271 % 2147483647 < 2 ^ 31 by omega)
            rw [if_neg (nI_ge ck (by omega)), if_neg (nI_ge ck (by omega)), el, lt_eq, lt_eq, lN_i, e1, ob_some, e2, ob2_some, e3, ob_some]
            exact ⟨_, _, rfl, rfl, ck, rfl, ⟨_, hl, rfl⟩, nap_1 k, nap_1 k, cs'', H'⟩
          · right
            have e : k = m := by omega
            subst e
            rw [if_pos (nI_le (Nat.le_refl _) (by omega)), if_pos (nI_le (Nat.le_refl _) (by omega))]
            exact ⟨_, _, rfl, rfl, cs', g5⟩) (s := (lN s, (0 : Int32), h)) (t := (lN s, (0 : Int32), g)) ⟨rfl, ⟨s, c4, rfl⟩, rfl, rfl, cs, H⟩
      obtain ⟨v, x1, x2⟩ := RZ.all Q
      rw [e3, e4, ob3_some, ob3_some, x1, x2, ob_some, ob_some]
      exact ⟨_, _, _, rfl, rfl, RZ.rr Q⟩
    · rw [if_neg (fun q => c5 ((ner_40 (by omega)).mp q)), if_neg (fun q => c5 ((ner_40 (by omega)).mp q))]; exact ⟨_, _, _, rfl, rfl, H.rr⟩
  · rw [if_neg (show ¬ lg_cmp (nI s).toInt64 2147483647 < 0 by rw [lg_cmp_lt, nI_l hs]; exact fun q => c4 ((pk_lLT (b := 2147483647) (by omega) (by decide)).mp q)), in1 (show (2147483646 : Int32) < nI s from (nI_ltI (a := 2147483646) (by decide) hs).mpr (by omega)), if_pos rfl]
    exact ⟨_, _, _, rfl, rfl, H.rr⟩
