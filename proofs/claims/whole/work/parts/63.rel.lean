theorem nap_2 (a : Nat) : nI a + (2 : Int32) = nI (a + 2) := nI_add a 2
theorem nap_4 (a : Nat) : nI a + (4 : Int32) = nI (a + 4) := nI_add a 4
theorem nap_5 (a : Nat) : nI a + (5 : Int32) = nI (a + 5) := nI_add a 5
theorem nap_8 (a : Nat) : nI a + (8 : Int32) = nI (a + 8) := nI_add a 8
theorem nap_10 (a : Nat) : nI a + (10 : Int32) = nI (a + 10) := nI_add a 10
theorem nap_11 (a : Nat) : nI a + (11 : Int32) = nI (a + 11) := nI_add a 11
theorem nap_20 (a : Nat) : nI a + (20 : Int32) = nI (a + 20) := nI_add a 20
theorem nap_30 (a : Nat) : nI a + (30 : Int32) = nI (a + 30) := nI_add a 30
theorem nap_31 (a : Nat) : nI a + (31 : Int32) = nI (a + 31) := nI_add a 31
theorem nap_40 (a : Nat) : nI a + (40 : Int32) = nI (a + 40) := nI_add a 40
theorem nap_60 (a : Nat) : nI a + (60 : Int32) = nI (a + 60) := nI_add a 60
theorem nap_64 (a : Nat) : nI a + (64 : Int32) = nI (a + 64) := nI_add a 64
theorem nap_99 (a : Nat) : nI a + (99 : Int32) = nI (a + 99) := nI_add a 99
theorem nap_100 (a : Nat) : nI a + (100 : Int32) = nI (a + 100) := nI_add a 100
theorem nml_3 (a : Nat) : (3 : Int32) * nI a = nI (3 * a) := pk_mul 3 a
theorem nml_6 (a : Nat) : (6 : Int32) * nI a = nI (6 * a) := pk_mul 6 a
theorem nml_10 (a : Nat) : (10 : Int32) * nI a = nI (10 * a) := pk_mul 10 a
theorem nml_12 (a : Nat) : (12 : Int32) * nI a = nI (12 * a) := pk_mul 12 a
theorem nml_17 (a : Nat) : (17 : Int32) * nI a = nI (17 * a) := pk_mul 17 a
theorem nml_31 (a : Nat) : (31 : Int32) * nI a = nI (31 * a) := pk_mul 31 a
theorem nml_40 (a : Nat) : (40 : Int32) * nI a = nI (40 * a) := pk_mul 40 a
theorem nml_60 (a : Nat) : (60 : Int32) * nI a = nI (60 * a) := pk_mul 60 a
theorem nml_100 (a : Nat) : (100 : Int32) * nI a = nI (100 * a) := pk_mul 100 a
theorem nml_697 (a : Nat) : (697 : Int32) * nI a = nI (697 * a) := pk_mul 697 a
theorem nq_11 {a : Nat} (h : a < 2 ^ 31) : nI a = (11 : Int32) ↔ a = 11 := nI_eq (b := 11) h (by decide)
theorem nlr_11 {a : Nat} (h : a < 2 ^ 31) : nI a < (11 : Int32) ↔ a < 11 := nI_ltI (b := 11) h (by decide)
theorem nll_11 {a : Nat} (h : a < 2 ^ 31) : (11 : Int32) < nI a ↔ 11 < a := nI_ltI (a := 11) (by decide) h
theorem ner_11 {a : Nat} (h : a < 2 ^ 31) : nI a ≤ (11 : Int32) ↔ a ≤ 11 := nI_leI (b := 11) h (by decide)
theorem nel_11 {a : Nat} (h : a < 2 ^ 31) : (11 : Int32) ≤ nI a ↔ 11 ≤ a := nI_leI (a := 11) (by decide) h
theorem nq_697 {a : Nat} (h : a < 2 ^ 31) : nI a = (697 : Int32) ↔ a = 697 := nI_eq (b := 697) h (by decide)
theorem nlr_697 {a : Nat} (h : a < 2 ^ 31) : nI a < (697 : Int32) ↔ a < 697 := nI_ltI (b := 697) h (by decide)
theorem nll_697 {a : Nat} (h : a < 2 ^ 31) : (697 : Int32) < nI a ↔ 697 < a := nI_ltI (a := 697) (by decide) h
theorem ner_697 {a : Nat} (h : a < 2 ^ 31) : nI a ≤ (697 : Int32) ↔ a ≤ 697 := nI_leI (b := 697) h (by decide)
theorem nel_697 {a : Nat} (h : a < 2 ^ 31) : (697 : Int32) ≤ nI a ↔ 697 ≤ a := nI_leI (a := 697) (by decide) h
theorem nq_81 {a : Nat} (h : a < 2 ^ 31) : nI a = (81 : Int32) ↔ a = 81 := nI_eq (b := 81) h (by decide)
theorem nlr_81 {a : Nat} (h : a < 2 ^ 31) : nI a < (81 : Int32) ↔ a < 81 := nI_ltI (b := 81) h (by decide)
theorem nll_81 {a : Nat} (h : a < 2 ^ 31) : (81 : Int32) < nI a ↔ 81 < a := nI_ltI (a := 81) (by decide) h
theorem ner_81 {a : Nat} (h : a < 2 ^ 31) : nI a ≤ (81 : Int32) ↔ a ≤ 81 := nI_leI (b := 81) h (by decide)
theorem nel_81 {a : Nat} (h : a < 2 ^ 31) : (81 : Int32) ≤ nI a ↔ 81 ≤ a := nI_leI (a := 81) (by decide) h
theorem gd_ib {β : Type} {a n : Nat} {f : Option β} (h : a < n) (hn : n < 2 ^ 31) : gd (ib (nI a) n) f = f := gd_true (ib_nI h hn)
/-! two loops side by side -/
theorem lpp {σ τ ρ π : Type} {f : σ → Option (ρ ⊕ σ)} {g : τ → Option (π ⊕ τ)} (I : Nat → σ → τ → Prop) (Q : ρ → π → Prop) (n : Nat) (hn : n < 9999999)
    (hs : ∀ i s t, i ≤ n → I i s t → (∃ s' t', f s = some (.inr s') ∧ g t = some (.inr t') ∧ i < n ∧ I (i + 1) s' t') ∨ (∃ r p, f s = some (.inl r) ∧ g t = some (.inl p) ∧ Q r p)) {s : σ} {t : τ} (h0 : I 0 s t) : ∃ r p, lp f FU s = some r ∧ lp g FU t = some p ∧ Q r p := by
  have key : ∀ k i s t m, i + k = n → k < m → I i s t → ∃ r p, lp f m s = some r ∧ lp g m t = some p ∧ Q r p := by
    intro k
    induction k with
    | zero =>
      intro i s t m hi hm hI
      obtain ⟨m, rfl⟩ : ∃ q, m = q + 1 := ⟨m - 1, by omega⟩
      rcases hs i s t (by omega) hI with ⟨s', t', _, _, q, _⟩ | ⟨r, p, e1, e2, q⟩
      · omega
      · exact ⟨r, p, by unfold lp; rw [e1], by unfold lp; rw [e2], q⟩
    | succ k ih =>
      intro i s t m hi hm hI
      obtain ⟨m, rfl⟩ : ∃ q, m = q + 1 := ⟨m - 1, by omega⟩
      rcases hs i s t (by omega) hI with ⟨s', t', e1, e2, q, hI'⟩ | ⟨r, p, e1, e2, q⟩
      · obtain ⟨r, p, h1, h2, h3⟩ := ih (i + 1) s' t' m (by omega) (by omega) hI'
        exact ⟨r, p, by unfold lp; rw [e1]; exact h1, by unfold lp; rw [e2]; exact h2, h3⟩
      · exact ⟨r, p, by unfold lp; rw [e1], by unfold lp; rw [e2], q⟩
  exact key n 0 s t FU (by omega) (by unfold FU; omega) h0
theorem FrAt.fr {z : ZS} {o : Nat} {d : DS} {h h' : Hp} (H : FrAt z o d h) (e : ∀ i, o ≤ i → i ≤ o + 3 → h'.1 i = h.1 i) : FrAt z o d h' := by
  have e0 := e o (by omega) (by omega)
  have e1 := e (o + 1) (by omega) (by omega)
  have e2 := e (o + 2) (by omega) (by omega)
  have e3 := e (o + 3) (by omega) (by omega)
  unfold FrAt at H ⊢
  rw [e0, e1, e2, e3]
  exact H
theorem RwAt.fr {z : ZS} {x : Nat} {d : DS} {g g' : Hp} (H : RwAt z x d g) (hp : zp z ≤ 6) (e : ∀ j, x ≤ j → j < x + 17 → g'.1 52 j = g.1 52 j) : RwAt z x d g' := by
  obtain ⟨a1, a2, a3, a4, a5, a6, a7⟩ := H
  exact ⟨fun i hi => (e _ (by omega) (by omega)).trans (a1 i hi), fun i hi => (e _ (by omega) (by omega)).trans (a2 i hi), (e _ (by omega) (by omega)).trans a3, (e _ (by omega) (by omega)).trans a4, (e _ (by omega) (by omega)).trans a5, (e _ (by omega) (by omega)).trans a6, (e _ (by omega) (by omega)).trans a7⟩
theorem become_eq {z : ZS} {o a : Nat} {d : DS} {h : Hp} (hp : zp z ≤ 6) (hoa : a + 3 < o ∨ o + 3 < a) (H : FrAt z a d h) : ∃ h', X4_become o a h = some h' ∧ FrAt z o d h' ∧ (∀ c, c < o ∨ o + 3 < c → h'.1 c = h.1 c) ∧ h'.2 = h.2 := by
  obtain ⟨a1, a2, a3, a4, a5, a6, a7, a8, a9, a10, a11⟩ := H
  refine (lp_all (step := fun s : Int32 × Hp => X4_become_s2 o a s.1 s.2)
    (fun i s => s.1 = nI i ∧ (∀ j, j < i → s.2.1 (o + 1) j = h.1 (a + 1) j ∧ s.2.1 (o + 2) j = h.1 (a + 2) j ∧ s.2.1 (o + 3) j = h.1 (a + 3) j) ∧ (∀ c, c ≠ o + 1 → c ≠ o + 2 → c ≠ o + 3 → s.2.1 c = h.1 c) ∧ s.2.2 = h.2)
    (fun s => (∀ j, j < 6 → s.2.1 (o + 1) j = h.1 (a + 1) j ∧ s.2.1 (o + 2) j = h.1 (a + 2) j ∧ s.2.1 (o + 3) j = h.1 (a + 3) j) ∧ (∀ c, c ≠ o + 1 → c ≠ o + 2 → c ≠ o + 3 → s.2.1 c = h.1 c) ∧ s.2.2 = h.2)
    6 (by omega) ?_ ?_ (s := ((0 : Int32), h)) ⟨rfl, fun j hj => absurd hj (by omega), fun _ _ _ _ => rfl, rfl⟩).elim ?_
  · rintro i ⟨s1, s2⟩ hi ⟨g1, g2, g3, g4⟩
    cases g1
    show ∃ t, X4_become_s2 o a (nI i) s2 = some (.inr t) ∧ _
    unfold X4_become_s2
    rw [if_neg (by intro q; have := (nel_6 (by omega)).mp q; omega), gd_ib (by omega) (by decide), ix_nI (by omega)]
    refine ⟨_, rfl, nap_1 i, ?_, ?_, g4⟩
    · intro j hj
      by_cases e : j = i
      · subst e
        refine ⟨?_, ?_, ?_⟩
        · simp (disch := omega) only [up_ne, up_at]
          rw [g3 (a + 1) (by omega) (by omega) (by omega)]
        · simp (disch := omega) only [up_ne, up_at]
          rw [g3 (a + 2) (by omega) (by omega) (by omega)]
        · simp (disch := omega) only [up_ne, up_at]
          rw [g3 (a + 3) (by omega) (by omega) (by omega)]
      · simp (disch := omega) only [up_ne, up_off]
        exact g2 j (by omega)
    · intro c h1 h2 h3
      simp (disch := omega) only [up_ne]
      exact g3 c h1 h2 h3
  · rintro ⟨s1, s2⟩ ⟨g1, g2, g3, g4⟩
    cases g1
    show ∃ r, X4_become_s2 o a (nI 6) s2 = some (.inl r) ∧ _
    unfold X4_become_s2
    rw [if_pos (by decide)]
    exact ⟨_, rfl, g2, g3, g4⟩
  · rintro ⟨r1, r2⟩ ⟨e, g2, g3, g4⟩
    unfold X4_become
    rw [e, ob2_some]
    simp only [lt_eq]
    have g2 : ∀ j, j < 6 → r2.1 (o + 1) j = h.1 (a + 1) j ∧ r2.1 (o + 2) j = h.1 (a + 2) j ∧ r2.1 (o + 3) j = h.1 (a + 3) j := g2
    have g3 : ∀ c, c ≠ o + 1 → c ≠ o + 2 → c ≠ o + 3 → r2.1 c = h.1 c := g3
    refine ⟨_, rfl, ⟨?_, ?_, ?_, ?_, ?_, ?_, ?_, ?_, ?_, ?_, ?_⟩, ?_, g4⟩
    · simp (disch := omega) only [up_ne, up_at, up_off, g3]; exact a1
    · simp (disch := omega) only [up_ne, up_at, up_off, g3]; exact a2
    · simp (disch := omega) only [up_ne, up_at, up_off, g3]; exact a3
    · intro i hi; simp (disch := omega) only [up_ne, up_at, up_off]; rw [(g2 i (by omega)).1]; exact a4 i hi
    · intro i hi; simp (disch := omega) only [up_ne, up_at, up_off]; rw [(g2 i (by omega)).2.1]; exact a5 i hi
    · intro i hi; simp (disch := omega) only [up_ne, up_at, up_off]; rw [(g2 i (by omega)).2.2]; exact a6 i hi
    · simp (disch := omega) only [up_ne, up_at, up_off, g3]; exact a7
    · simp (disch := omega) only [up_ne, up_at, up_off, g3]; exact a8
    · simp (disch := omega) only [up_ne, up_at, up_off, g3]; exact a9
    · simp (disch := omega) only [up_ne, up_at, up_off, g3]; exact a10
    · simp (disch := omega) only [up_ne, up_at, up_off, g3]; exact a11
    · intro c hc; simp (disch := omega) only [up_ne, g3]
theorem copyRow_eq {z : ZS} {x y : Nat} {d : DS} {g : Hp} (hp : zp z ≤ 6) (hx : x + 17 ≤ 2805) (hy : y + 17 ≤ 2805) (hxy : x + 17 ≤ y ∨ y + 17 ≤ x) (H : RwAt z x d g) : ∃ g', X10_copyRow (nI x) (nI y) g = some g' ∧ RwAt z y d g' ∧ OffW y g g' := by
  refine (lp_all (step := fun s : Int32 × Hp => X10_copyRow_s2 (nI x) (nI y) s.1 s.2)
    (fun i s => s.1 = nI i ∧ (∀ j, j < i → s.2.1 52 (y + j) = g.1 52 (x + j)) ∧ OffW y g s.2)
    (fun s => (∀ j, j < 17 → s.2.1 52 (y + j) = g.1 52 (x + j)) ∧ OffW y g s.2)
    17 (by omega) ?_ ?_ (s := ((0 : Int32), g)) ⟨rfl, fun j hj => absurd hj (by omega), OffW.rf⟩).elim ?_
  · rintro i ⟨s1, s2⟩ hi ⟨g1, g2, g3⟩
    cases g1
    show ∃ t, X10_copyRow_s2 (nI x) (nI y) (nI i) s2 = some (.inr t) ∧ _
    unfold X10_copyRow_s2
    rw [if_neg (by intro q; have := (nel_17 (by omega)).mp q; omega), nI_add, nI_add, gd_ib (by omega) (by decide), gd_ib (by omega) (by decide), ix_nI (by omega), ix_nI (by omega)]
    refine ⟨_, rfl, nap_1 i, ?_, g3.up (by omega) (by omega)⟩
    intro j hj
    by_cases e : j = i
    · subst e
      simp (disch := omega) only [up_at]
      exact g3.2.2 _ (by omega)
    · simp (disch := omega) only [up_off]
      exact g2 j (by omega)
  · rintro ⟨s1, s2⟩ ⟨g1, g2, g3⟩
    cases g1
    show ∃ r, X10_copyRow_s2 (nI x) (nI y) (nI 17) s2 = some (.inl r) ∧ _
    unfold X10_copyRow_s2
    rw [if_pos (by decide)]
    exact ⟨_, rfl, g2, g3⟩
  · rintro ⟨r1, r2⟩ ⟨e, g2, g3⟩
    unfold X10_copyRow
    rw [e, ob2_some]
    have g2 : ∀ j, j < 17 → r2.1 52 (y + j) = g.1 52 (x + j) := g2
    obtain ⟨a1, a2, a3, a4, a5, a6, a7⟩ := H
    refine ⟨_, rfl, ⟨fun i hi => (g2 i (by omega)).trans (a1 i hi), fun i hi => ?_, (g2 12 (by omega)).trans a3, (g2 13 (by omega)).trans a4, (g2 14 (by omega)).trans a5, (g2 15 (by omega)).trans a6, (g2 16 (by omega)).trans a7⟩, g3⟩
    have := g2 (6 + i) (by omega)
    rw [show y + 6 + i = y + (6 + i) by omega, this, show x + (6 + i) = x + 6 + i by omega]
    exact a2 i hi
/-! what is done -/
def Cd (c : Nat) : Prop := c = 0 ∨ (100 ≤ c ∧ c ≤ 109) ∨ (200 ≤ c ∧ c ≤ 202) ∨ (300 ≤ c ∧ c ≤ 301) ∨ (400 ≤ c ∧ c ≤ 459)
def dd (z : ZS) (c : Nat) (d : DS) : DS :=
  if c / 100 = 0 then tnD z 0 d
  else if c / 100 = 1 then (dp d, dh d, min 60 (dc d + c % 100), da d, dw d, dr d, dt d)
  else if c / 100 = 2 then (dp d, dh d, dc d, da d, c % 100, dr d, dt d)
  else if c / 100 = 3 then (dp d, dh d, dc d, da d, dw d, c % 100, dt d)
  else if c % 100 / 10 < zp z then (va_up (dp d) (c % 100 / 10) (c % 10), dh d, dc d, da d, dw d, dr d, dt d) else d
theorem dd_ok {z : ZS} {c : Nat} {d : DS} (hz : ZOk z) (hd : DOk z d) (hc : Cd c) : DOk z (dd z c d) := by
  unfold dd
  obtain ⟨b1, b2, b3, b4, b5, b6⟩ := id hd
  unfold Cd at hc
  split
  · exact tnD_ok hz hd
  · split
    · exact ⟨b1, b2, Nat.min_le_left _ _, b4, b5, b6⟩
    · split
      · exact ⟨b1, b2, b3, b4, by show c % 100 ≤ 2; omega, b6⟩
      · split
        · exact ⟨b1, b2, b3, b4, b5, by show c % 100 ≤ 1; omega⟩
        · split
          · refine ⟨fun i hi => ?_, b2, b3, b4, b5, b6⟩
            show va_up _ _ _ i ≤ 9
            unfold va_up
            split
            · omega
            · exact b1 i hi
          · exact hd
def rn (z : ZS) (d0 : DS) (cs : Nat → Nat) : Nat → DS
  | 0 => d0
  | n + 1 => dd z (cs n) (rn z d0 cs n)
theorem rn_ok {z : ZS} {d0 : DS} {cs : Nat → Nat} (hz : ZOk z) (hd : DOk z d0) : ∀ n, (∀ j, j < n → Cd (cs j)) → DOk z (rn z d0 cs n) := by
  intro n
  induction n with
  | zero => intro _; exact hd
  | succ n ih => intro hc; exact dd_ok hz (ih (fun j hj => hc j (by omega))) (hc n (by omega))
theorem rn_ext {z : ZS} {d0 : DS} {cs cs' : Nat → Nat} : ∀ n, (∀ j, j < n → cs j = cs' j) → rn z d0 cs n = rn z d0 cs' n := by
  intro n
  induction n with
  | zero => intro _; rfl
  | succ n ih => intro hc; show dd z (cs n) _ = dd z (cs' n) _; rw [ih (fun j hj => hc j (by omega)), hc n (by omega)]
def tns (z : ZS) (aw : Nat) (d : DS) : Nat → DS
  | 0 => d
  | k + 1 => tnD z aw (tns z aw d k)
theorem tns_ok {z : ZS} {aw : Nat} {d : DS} (hz : ZOk z) (hd : DOk z d) : ∀ n, DOk z (tns z aw d n) := by
  intro n
  induction n with
  | zero => exact hd
  | succ n ih => exact tnD_ok hz ih
/-! the relation: the class's half of h, the model's half of g -/
def Lo (u h : Hp) : Prop := ∀ i, 51 ≤ i → h.1 i = u.1 i ∧ h.2 i = u.2 i
def Hi (w g : Hp) : Prop := ∀ i, i < 51 → g.1 i = w.1 i ∧ g.2 i = w.2 i
def RowsR (h g : Hp) : Prop := ∀ r, r < 6 → (h.1 8 r = (-1 : Int32) ∧ g.1 56 r = (-9 : Int32)) ∨ ∃ n, n ≤ 40 ∧ h.1 8 r = nI n ∧ g.1 56 r = nI n ∧ ∀ i, i < n → h.1 (2 + r) i = g.1 55 (40 * r + i)
def TxtR (h g : Hp) : Prop := ∀ t, t < 4 → (h.1 14 t = (-1 : Int32) ∧ g.1 58 t = (-9 : Int32)) ∨ ∃ n, n ≤ 60 ∧ h.1 14 t = nI n ∧ g.1 58 t = nI n ∧ ∀ i, i < n → h.1 (10 + t) i = g.1 57 (60 * t + i)
def TelR (h g : Hp) : Prop := h.1 0 11 = g.1 51 12 ∧ (∀ k, k < 6 → h.1 43 k = g.1 59 k) ∧ h.1 0 12 = g.1 51 13 ∧ h.2 0 13 = g.2 51 14 ∧ h.2 0 14 = g.2 51 15
def RunR (z : ZS) (d0 : DS) (cs : Nat → Nat) (n o x : Nat) (h g : Hp) : Prop := n ≤ 40 ∧ h.1 o 1 = nI n ∧ (∀ j, j < n → h.1 (o + 1) j = nI (cs j)) ∧ (∀ j, j < n → Cd (cs j)) ∧ ∀ j, j ≤ n → RwAt z (x + 17 * j) (rn z d0 cs j) g
def KptR (z : ZS) (d0 : DS) (h g : Hp) : Prop := ∀ k, k < 3 → (h.1 (30 + 2 * k) 1 = (-1 : Int32) ∧ g.1 54 k = (-9 : Int32)) ∨ ∃ cs n, RunR z d0 cs n (30 + 2 * k) (697 * (k + 1)) h g ∧ g.1 54 k = nI n
def FrR (z : ZS) (d0 : DS) (cs : Nat → Nat) (n : Nat) (h g : Hp) : Prop := ZOk z ∧ DOk z d0 ∧ FrAt z 15 d0 h ∧ FrAt z 19 (rn z d0 cs n) h ∧ RunR z d0 cs n 27 0 h g ∧ g.1 51 5 = nI n ∧ MZ z (-9) 0 g ∧ KptR z d0 h g
def RZ (u w : Hp) (z : ZS) (d0 : DS) (cs : Nat → Nat) (n : Nat) (h g : Hp) : Prop := RowsR h g ∧ TxtR h g ∧ TelR h g ∧ FrR z d0 cs n h g ∧ Lo u h ∧ Hi w g
def RR (u w h g : Hp) : Prop := ∃ z d0 cs n, RZ u w z d0 cs n h g
theorem RunR.fr {z : ZS} {d0 : DS} {cs : Nat → Nat} {n o x : Nat} {h g h' g' : Hp} (H : RunR z d0 cs n o x h g) (hp : zp z ≤ 6) (e0 : h'.1 o = h.1 o) (e1 : h'.1 (o + 1) = h.1 (o + 1)) (e2 : ∀ j, x ≤ j → j < x + 697 → g'.1 52 j = g.1 52 j) : RunR z d0 cs n o x h' g' := by
  obtain ⟨a1, a2, a3, a4, a5⟩ := H
  exact ⟨a1, by rw [e0]; exact a2, fun j hj => by rw [e1]; exact a3 j hj, a4, fun j hj => (a5 j hj).fr hp (fun q h1 h2 => e2 q (by omega) (by omega))⟩
def ScC (h h' : Hp) : Prop := (∀ i, i < 23 ∨ (27 ≤ i ∧ i < 36) ∨ 43 ≤ i → h'.1 i = h.1 i) ∧ h'.2 = h.2
def ScM (g g' : Hp) : Prop := (∀ i, i < 60 → i ≠ 51 → i ≠ 52 → g'.1 i = g.1 i) ∧ (∀ k, k < 16 → g'.1 51 k = g.1 51 k) ∧ (∀ k, k < 2788 → g'.1 52 k = g.1 52 k) ∧ g'.2 = g.2
theorem ScC.rf {h : Hp} : ScC h h := ⟨fun _ _ => rfl, rfl⟩
theorem ScM.rf {h : Hp} : ScM h h := ⟨fun _ _ _ _ => rfl, fun _ _ => rfl, fun _ _ => rfl, rfl⟩
theorem ScC.tr {h h1 h2 : Hp} (a : ScC h h1) (b : ScC h1 h2) : ScC h h2 := ⟨fun i hi => (b.1 i hi).trans (a.1 i hi), b.2.trans a.2⟩
theorem ScM.tr {h h1 h2 : Hp} (a : ScM h h1) (b : ScM h1 h2) : ScM h h2 := ⟨fun i h1 h2 h3 => (b.1 i h1 h2 h3).trans (a.1 i h1 h2 h3), fun k hk => (b.2.1 k hk).trans (a.2.1 k hk), fun k hk => (b.2.2.1 k hk).trans (a.2.2.1 k hk), b.2.2.2.trans a.2.2.2⟩
theorem ScM.w {g g' : Hp} (a : OffW 2788 g g') : ScM g g' := ⟨fun i _ _ h3 => a.1 i h3, fun k _ => by rw [a.1 51 (by decide)], fun k hk => a.2.2 k (by omega), a.2.1⟩
theorem ScC.p {h h' : Hp} (a : Off (FrC 23) h h') : ScC h h' := ⟨fun i hi => a.1 i (by show ¬ (i = 23 ∨ i = 23 + 2 ∨ i = 23 + 3); omega), a.2⟩
theorem ScC.up {h : Hp} {i k : Nat} {v : Int32} (hi : (23 ≤ i ∧ i < 27) ∨ (36 ≤ i ∧ i < 43)) : ScC h (up h i k v) := ⟨fun j hj => up_ne (by omega), rfl⟩
theorem MZ.sc {z : ZS} {ot okd : Int32} {g g' : Hp} (H : MZ z ot okd g) (a : ScM g g') : MZ z ot okd g' := by
  obtain ⟨a1, a2, a3, a4⟩ := H
  have e := a.1 53 (by decide) (by decide) (by decide)
  exact ⟨(a.2.1 2 (by decide)).trans a1, (a.2.1 3 (by decide)).trans a2, (a.2.1 4 (by decide)).trans a3, fun i hi => by rw [e]; exact a4 i hi⟩
theorem RZ.sc {u w : Hp} {z : ZS} {d0 : DS} {cs : Nat → Nat} {n : Nat} {h g h' g' : Hp} (H : RZ u w z d0 cs n h g) (a : ScC h h') (b : ScM g g') : RZ u w z d0 cs n h' g' := by
  obtain ⟨H1, H2, H3, ⟨hz, hd, f15, f19, hr, h5, hm, hk⟩, hl, hi⟩ := H
  have hp := hz.1
  refine ⟨fun r hr => ?_, fun t ht => ?_, ?_, ⟨hz, hd, f15.fr (fun i _ _ => a.1 i (by omega)), f19.fr (fun i _ _ => a.1 i (by omega)), hr.fr hp (a.1 _ (by decide)) (a.1 _ (by decide)) (fun j h1 h2 => b.2.2.1 j (by omega)), (b.2.1 5 (by decide)).trans h5, hm.sc b, fun k hk3 => ?_⟩, fun i hi => ?_, fun i hi2 => ?_⟩
  · rw [a.1 8 (by decide), b.1 56 (by decide) (by decide) (by decide), a.1 (2 + r) (by omega), b.1 55 (by decide) (by decide) (by decide)]; exact H1 r hr
  · rw [a.1 14 (by decide), b.1 58 (by decide) (by decide) (by decide), a.1 (10 + t) (by omega), b.1 57 (by decide) (by decide) (by decide)]; exact H2 t ht
  · unfold TelR
    rw [a.1 0 (by decide), a.1 43 (by decide), b.1 59 (by decide) (by decide) (by decide), b.2.1 12 (by decide), b.2.1 13 (by decide), a.2, b.2.2.2]; exact H3
  · rw [a.1 (30 + 2 * k) (by omega), b.1 54 (by decide) (by decide) (by decide)]
    rcases hk k hk3 with q | ⟨cs, n, q1, q2⟩
    · exact Or.inl q
    · exact Or.inr ⟨cs, n, q1.fr hp (a.1 _ (by omega)) (a.1 _ (by omega)) (fun j h1 h2 => b.2.2.1 j (by omega)), q2⟩
  · rw [a.1 i (by omega), a.2]; exact hl i hi
  · rw [b.1 i (by omega) (by omega) (by omega), b.2.2.2]; exact hi i hi2

