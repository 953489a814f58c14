theorem RowsR.fr {h g h' g' : Hp} (H : RowsR h g) (a : ∀ i, 2 ≤ i → i ≤ 8 → h'.1 i = h.1 i) (b5 : g'.1 55 = g.1 55) (b6 : g'.1 56 = g.1 56) : RowsR h' g' := by
  intro r hr
  rw [a 8 (by omega) (by omega), a (2 + r) (by omega) (by omega), b5, b6]; exact H r hr
theorem TxtR.fr {h g h' g' : Hp} (H : TxtR h g) (a : ∀ i, 10 ≤ i → i ≤ 14 → h'.1 i = h.1 i) (b5 : g'.1 57 = g.1 57) (b6 : g'.1 58 = g.1 58) : TxtR h' g' := by
  intro r hr
  rw [a 14 (by omega) (by omega), a (10 + r) (by omega) (by omega), b5, b6]; exact H r hr
theorem TelR.fr {h g h' g' : Hp} (H : TelR h g) (a0 : h'.1 0 = h.1 0) (a1 : h'.1 43 = h.1 43) (al : h'.2 0 = h.2 0) (b0 : g'.1 51 12 = g.1 51 12) (b1 : g'.1 51 13 = g.1 51 13) (b2 : g'.1 59 = g.1 59) (bl : g'.2 51 = g.2 51) : TelR h' g' := by
  unfold TelR; rw [a0, a1, al, b0, b1, b2, bl]; exact H
theorem FrR.fr {z : ZS} {d0 : DS} {cs : Nat → Nat} {n : Nat} {h g h' g' : Hp} (H : FrR z d0 cs n h g) (a : ∀ i, 15 ≤ i → i ≤ 35 → (i < 23 ∨ 27 ≤ i) → h'.1 i = h.1 i) (b51 : ∀ k, k < 12 → g'.1 51 k = g.1 51 k) (b52 : ∀ j, j < 2788 → g'.1 52 j = g.1 52 j) (b53 : g'.1 53 = g.1 53) (b54 : g'.1 54 = g.1 54) : FrR z d0 cs n h' g' := by
  obtain ⟨hz, hd, f15, f19, hr, h5, hm, hk⟩ := H
  have hp := hz.1
  obtain ⟨m1, m2, m3, m4⟩ := hm
  refine ⟨hz, hd, f15.fr (fun i _ _ => a i (by omega) (by omega) (by omega)), f19.fr (fun i _ _ => a i (by omega) (by omega) (by omega)), hr.fr hp (a _ (by omega) (by omega) (by omega)) (a _ (by omega) (by omega) (by omega)) (fun j h1 h2 => b52 j (by omega)), (b51 5 (by decide)).trans h5, ⟨(b51 2 (by decide)).trans m1, (b51 3 (by decide)).trans m2, (b51 4 (by decide)).trans m3, fun i hi => by rw [b53]; exact m4 i hi⟩, fun k hk3 => ?_⟩
  rw [a (30 + 2 * k) (by omega) (by omega) (by omega), b54]
  rcases hk k hk3 with q | ⟨cs, n, q1, q2⟩
  · exact Or.inl q
  · exact Or.inr ⟨cs, n, q1.fr hp (a _ (by omega) (by omega) (by omega)) (a _ (by omega) (by omega) (by omega)) (fun j h1 h2 => b52 j (by omega)), q2⟩
theorem Lo.fr {u h h' : Hp} (H : Lo u h) (a : ∀ i, 51 ≤ i → h'.1 i = h.1 i) (a2 : ∀ i, 51 ≤ i → h'.2 i = h.2 i) : Lo u h' := fun i hi => ⟨(a i hi).trans (H i hi).1, (a2 i hi).trans (H i hi).2⟩
theorem Hi.fr {w g g' : Hp} (H : Hi w g) (a : ∀ i, i < 51 → g'.1 i = g.1 i) (a2 : ∀ i, i < 51 → g'.2 i = g.2 i) : Hi w g' := fun i hi => ⟨(a i hi).trans (H i hi).1, (a2 i hi).trans (H i hi).2⟩
theorem RZ.rows {u w : Hp} {z : ZS} {d0 : DS} {cs : Nat → Nat} {n : Nat} {h g : Hp} {h' g' : Hp} (H : RZ u w z d0 cs n h g) (a : ∀ i, i < 2 ∨ 9 ≤ i → h'.1 i = h.1 i) (a2 : h'.2 = h.2) (b : ∀ i, i ≠ 55 → i ≠ 56 → g'.1 i = g.1 i) (b2 : g'.2 = g.2) (N : RowsR h' g') : RZ u w z d0 cs n h' g' := by
  obtain ⟨_, H2, H3, H4, H5, H6⟩ := H
  exact ⟨N, H2.fr (fun i _ _ => a i (by omega)) (b _ (by decide) (by decide)) (b _ (by decide) (by decide)), H3.fr (a _ (by omega)) (a _ (by omega)) (by rw [a2]) (by rw [b 51 (by decide) (by decide)]) (by rw [b 51 (by decide) (by decide)]) (b _ (by decide) (by decide)) (by rw [b2]), H4.fr (fun i _ _ _ => a i (by omega)) (fun k _ => by rw [b 51 (by decide) (by decide)]) (fun k _ => by rw [b 52 (by decide) (by decide)]) (b _ (by decide) (by decide)) (b _ (by decide) (by decide)), H5.fr (fun i hi => a i (by omega)) (fun i _ => by rw [a2]), H6.fr (fun i hi => b i (by omega) (by omega)) (fun i _ => by rw [b2])⟩
theorem RZ.txts {u w : Hp} {z : ZS} {d0 : DS} {cs : Nat → Nat} {n : Nat} {h g : Hp} {h' g' : Hp} (H : RZ u w z d0 cs n h g) (a : ∀ i, i < 10 ∨ 15 ≤ i → h'.1 i = h.1 i) (a2 : h'.2 = h.2) (b : ∀ i, i ≠ 57 → i ≠ 58 → g'.1 i = g.1 i) (b2 : g'.2 = g.2) (N : TxtR h' g') : RZ u w z d0 cs n h' g' := by
  obtain ⟨H1, _, H3, H4, H5, H6⟩ := H
  exact ⟨H1.fr (fun i _ _ => a i (by omega)) (b _ (by decide) (by decide)) (b _ (by decide) (by decide)), N, H3.fr (a _ (by omega)) (a _ (by omega)) (by rw [a2]) (by rw [b 51 (by decide) (by decide)]) (by rw [b 51 (by decide) (by decide)]) (b _ (by decide) (by decide)) (by rw [b2]), H4.fr (fun i _ _ _ => a i (by omega)) (fun k _ => by rw [b 51 (by decide) (by decide)]) (fun k _ => by rw [b 52 (by decide) (by decide)]) (b _ (by decide) (by decide)) (b _ (by decide) (by decide)), H5.fr (fun i hi => a i (by omega)) (fun i _ => by rw [a2]), H6.fr (fun i hi => b i (by omega) (by omega)) (fun i _ => by rw [b2])⟩
theorem RZ.tl {u w : Hp} {z : ZS} {d0 : DS} {cs : Nat → Nat} {n : Nat} {h g : Hp} {h' g' : Hp} (H : RZ u w z d0 cs n h g) (a : ∀ i, i ≠ 0 → i ≠ 43 → h'.1 i = h.1 i) (a2 : ∀ i, i ≠ 0 → h'.2 i = h.2 i) (b : ∀ i, i ≠ 51 → i ≠ 59 → g'.1 i = g.1 i) (b1 : ∀ k, k < 12 → g'.1 51 k = g.1 51 k) (b2 : ∀ i, i ≠ 51 → g'.2 i = g.2 i) (N : TelR h' g') : RZ u w z d0 cs n h' g' := by
  obtain ⟨H1, H2, _, H4, H5, H6⟩ := H
  exact ⟨H1.fr (fun i _ _ => a i (by omega) (by omega)) (b _ (by decide) (by decide)) (b _ (by decide) (by decide)), H2.fr (fun i _ _ => a i (by omega) (by omega)) (b _ (by decide) (by decide)) (b _ (by decide) (by decide)), N, H4.fr (fun i _ _ _ => a i (by omega) (by omega)) b1 (fun k _ => by rw [b 52 (by decide) (by decide)]) (b _ (by decide) (by decide)) (b _ (by decide) (by decide)), H5.fr (fun i hi => a i (by omega) (by omega)) (fun i _ => a2 i (by omega)), H6.fr (fun i hi => b i (by omega) (by omega)) (fun i _ => b2 i (by omega))⟩
theorem RZ.tell {u w : Hp} {z : ZS} {d0 : DS} {cs : Nat → Nat} {n : Nat} {h g : Hp} (H : RZ u w z d0 cs n h g) (v : Int32) : RZ u w z d0 cs n (up h 0 12 v) (up g 51 13 v) := by
  refine H.tl (fun i h0 _ => up_ne h0) (fun _ _ => rfl) (fun i h0 _ => up_ne h0) (fun k hk => up_off (by omega)) (fun _ _ => rfl) ?_
  obtain ⟨t1, t2, t3, t4, t5⟩ := H.2.2.1
  exact ⟨by rw [up_off (by decide), up_off (by decide)]; exact t1, fun k hk => by rw [up_ne (by decide), up_ne (by decide)]; exact t2 k hk, by rw [up_at, up_at], t4, t5⟩
theorem RZ.find {u w : Hp} {z : ZS} {d0 : DS} {cs : Nat → Nat} {n : Nat} {h g : Hp} (H : RZ u w z d0 cs n h g) (k : Nat) (hk : k < 6) : ∃ h' g', X9_answerFinding (nI k) h = some ((-3 : Int32), h') ∧ X10_find (nI k) g = some ((-3 : Int32), g') ∧ RZ u w z d0 cs n h' g' := by
  unfold X9_answerFinding X10_find
  simp (disch := omega) only [lt_eq, gd_ib, ix_nI]
  refine ⟨_, _, rfl, rfl, H.tl (fun i h0 h1 => by rw [up_ne h1, up_ne h0]) (fun _ _ => rfl) (fun i h0 h1 => by rw [up_ne h1, up_ne h0]) (fun k hk => by rw [up_ne (by decide), up_off (by omega)]) (fun _ _ => rfl) ?_⟩
  obtain ⟨t1, t2, t3, t4, t5⟩ := H.2.2.1
  refine ⟨by simp (disch := omega) only [up_ne, up_at], fun j hj => ?_, by simp (disch := omega) only [up_ne, up_off]; exact t3, t4, t5⟩
  by_cases e : j = k
  · subst e
    simp (disch := omega) only [up_ne, up_at]
    rw [t2 j hj]
  · simp (disch := omega) only [up_ne, up_off]
    exact t2 j hj
theorem RZ.rr {u w : Hp} {z : ZS} {d0 : DS} {cs : Nat → Nat} {n : Nat} {h g : Hp} (H : RZ u w z d0 cs n h g) : RR u w h g := ⟨z, d0, cs, n, H⟩
/-! checks of arguments -/
theorem in0 {a lo hi : Int32} (c : a < lo) : X10_in a lo hi = 0 := if_pos c
theorem in1 {a lo hi : Int32} (c : hi < a) : X10_in a lo hi = 0 := by
  unfold X10_in
  by_cases q : a < lo
  · rw [if_pos q]
  · rw [if_neg q, if_pos c]
theorem in2 {a lo hi : Int32} (c : ¬ a < lo) (c2 : ¬ hi < a) : X10_in a lo hi = 1 := by
  unfold X10_in
  rw [if_neg c, if_neg c2]
theorem i_nle {a b : Int32} (h : ¬ a ≤ b) : b < a := by
  rcases Int32.le_total a b with q | q
  · exact absurd q h
  · exact Int32.lt_of_le_of_ne q (fun e => h (by rw [e]; exact Int32.le_refl _))
theorem i_nlt {a b : Int32} (h : ¬ a < b) : b ≤ a := by
  rcases Int32.le_total a b with q | q
  · by_cases e : a = b
    · rw [e]; exact Int32.le_refl _
    · exact absurd (Int32.lt_of_le_of_ne q e) h
  · exact q
/-- an argument in a range, or not -/
theorem rng (a : Int32) (m : Nat) (hm : m < 2 ^ 31 - 1) : a < 0 ∨ (¬ a < 0 ∧ ¬ a ≤ nI m ∧ nI m < a) ∨ ∃ k, k ≤ m ∧ a = nI k := by
  rcases pk_ix a (n := m + 1) (by omega) with q | q | ⟨j, hj, e⟩
  · exact Or.inl q
  · by_cases c : a < 0
    · exact Or.inl c
    · obtain ⟨j, hj, rfl⟩ := nI_of c
      have := (nI_leI (by omega) hj).mp q
      exact Or.inr (Or.inl ⟨c, fun r => by have := (nI_leI hj (by omega)).mp r; omega, (nI_ltI (by omega) hj).mpr (by omega)⟩)
  · exact Or.inr (Or.inr ⟨j, by omega, e⟩)
theorem isRow_c (a : Int32) : (X9_isRow a = 0 ∧ X10_isRow a = 0) ∨ ∃ r, r < 6 ∧ a = nI r ∧ X9_isRow a = 1 ∧ X10_isRow a = 1 := by
  unfold X9_isRow X10_isRow
  rcases rng a 5 (by decide) with q | ⟨q1, q2, q3⟩ | ⟨k, hk, rfl⟩
  · exact Or.inl ⟨if_pos q, in0 q⟩
  · refine Or.inl ⟨?_, in1 q3⟩
    rw [if_neg q1]
    obtain ⟨j, hj, rfl⟩ := nI_of q1
    rw [if_pos ((nel_6 hj).mpr (by have := (nI_ltI (by decide) hj).mp q3; omega))]
  · refine Or.inr ⟨k, by omega, rfl, ?_, in2 (nI_pos (by omega)) (fun q => by have := (nI_ltI (by decide) (by omega)).mp (show nI 5 < nI k from q); omega)⟩
    rw [if_neg (nI_pos (by omega)), if_neg (fun q => by have := (nel_6 (by omega)).mp q; omega)]
theorem isText_c (a : Int32) : (X9_isText a = 0 ∧ X10_isText a = 0) ∨ ∃ r, r < 4 ∧ a = nI r ∧ X9_isText a = 1 ∧ X10_isText a = 1 := by
  unfold X9_isText X10_isText
  rcases rng a 3 (by decide) with q | ⟨q1, q2, q3⟩ | ⟨k, hk, rfl⟩
  · exact Or.inl ⟨if_pos q, in0 q⟩
  · refine Or.inl ⟨?_, in1 q3⟩
    rw [if_neg q1]
    obtain ⟨j, hj, rfl⟩ := nI_of q1
    rw [if_pos ((nel_4 hj).mpr (by have := (nI_ltI (by decide) hj).mp q3; omega))]
  · refine Or.inr ⟨k, by omega, rfl, ?_, in2 (nI_pos (by omega)) (fun q => by have := (nI_ltI (by decide) (by omega)).mp (show nI 3 < nI k from q); omega)⟩
    rw [if_neg (nI_pos (by omega)), if_neg (fun q => by have := (nel_4 (by omega)).mp q; omega)]
theorem isKeep_c (a : Int32) : (X9_isKeepingPlace a = 0 ∧ X10_in a 0 2 = 0) ∨ ∃ r, r < 3 ∧ a = nI r ∧ X9_isKeepingPlace a = 1 ∧ X10_in a 0 2 = 1 := by
  unfold X9_isKeepingPlace
  rcases rng a 2 (by decide) with q | ⟨q1, q2, q3⟩ | ⟨k, hk, rfl⟩
  · exact Or.inl ⟨if_pos q, in0 q⟩
  · refine Or.inl ⟨?_, in1 q3⟩
    rw [if_neg q1]
    obtain ⟨j, hj, rfl⟩ := nI_of q1
    rw [if_pos ((nel_3 hj).mpr (by have := (nI_ltI (by decide) hj).mp q3; omega))]
  · refine Or.inr ⟨k, by omega, rfl, ?_, in2 (nI_pos (by omega)) (fun q => by have := (nI_ltI (by decide) (by omega)).mp (show nI 2 < nI k from q); omega)⟩
    rw [if_neg (nI_pos (by omega)), if_neg (fun q => by have := (nel_3 (by omega)).mp q; omega)]
theorem isPlan_c (a : Int32) : (X9_isPlan a = 0 ∧ X10_in a 1 20 = 0) ∨ ∃ r, 1 ≤ r ∧ r ≤ 20 ∧ a = nI r ∧ X9_isPlan a = 1 ∧ X10_in a 1 20 = 1 := by
  unfold X9_isPlan
  by_cases c1 : a < 1
  · exact Or.inl ⟨if_pos c1, in0 c1⟩
  · rw [if_neg c1]
    by_cases c2 : 20 < a
    · exact Or.inl ⟨if_pos c2, in1 c2⟩
    · rw [if_neg c2]
      rcases rng a 20 (by decide) with q | ⟨q1, q2, q3⟩ | ⟨k, hk, rfl⟩
      · exact absurd (Int32.lt_trans q (by decide)) c1
      · exact absurd q3 c2
      · exact Or.inr ⟨k, by rcases Nat.eq_zero_or_pos k with e | e; · exact absurd (by rw [e]; decide) c1
                            · exact e, hk, rfl, rfl, in2 c1 c2⟩
theorem isOne_c {p : Nat} {h g : Hp} (hp : p ≤ 6) (e1 : h.1 19 6 = nI p) (e2 : g.1 51 2 = nI p) (a : Int32) : (X4_isOne 19 a h = 0 ∧ X10_isOne a g = 0) ∨ ∃ i, i < p ∧ a = nI i ∧ X4_isOne 19 a h = 1 ∧ X10_isOne a g = 1 := by
  unfold X4_isOne X10_isOne
  rw [e1, e2]
  rcases pk_ix a (n := p) (by omega) with q | q | ⟨j, hj, rfl⟩
  · exact Or.inl ⟨if_pos q, in0 q⟩
  · by_cases c : a < 0
    · exact Or.inl ⟨if_pos c, in0 c⟩
    · refine Or.inl ⟨by rw [if_neg c, if_pos q], in1 ?_⟩
      obtain ⟨j, hj, rfl⟩ := nI_of c
      have := (nI_leI (by omega) hj).mp q
      rcases Nat.eq_zero_or_pos p with r | r
      · subst r
        exact Int32.lt_of_lt_of_le (show nI 0 - 1 < 0 by decide) (nI_pos' hj)
      · obtain ⟨m, rfl⟩ : ∃ m, p = m + 1 := ⟨p - 1, by omega⟩
        rw [nI_pred]
        exact (nI_ltI (by omega) hj).mpr (by omega)
  · refine Or.inr ⟨j, hj, rfl, ?_, ?_⟩
    · rw [if_neg (nI_pos (by omega)), if_neg (fun q => by have := (nI_leI (by omega) (by omega)).mp q; omega)]
    · obtain ⟨m, rfl⟩ : ∃ m, p = m + 1 := ⟨p - 1, by omega⟩
      rw [nI_pred]
      exact in2 (nI_pos (by omega)) (fun q => by have := (nI_ltI (by omega) (by omega)).mp q; omega)
theorem n10 : ¬ (1 : Int32) = 0 := by decide
theorem nm9 {k : Nat} (h : k < 2 ^ 31) : ¬ nI k = (-9 : Int32) := fun q => by
  have := nI_toInt h
  rw [q] at this
  have e : ((-9 : Int32)).toInt = -9 := by decide
  omega
theorem nm1 {k : Nat} (h : k < 2 ^ 31) : ¬ nI k = (-1 : Int32) := fun q => by
  have := nI_toInt h
  rw [q] at this
  have e : ((-1 : Int32)).toInt = -1 := by decide
  omega
/-- a call of the class and of the model side by side -/
def Lk (f g : Hp → Option (Int32 × Hp)) : Prop := ∀ u w h k, RR u w h k → ∃ r h' k', f h = some (r, h') ∧ g k = some (r, k') ∧ RR u w h' k'
def LkP {α : Type} (f g : Hp → Option α) : Prop := ∀ u w h k, RR u w h k → ∃ r, f h = some r ∧ g k = some r
theorem RZ.re {u w : Hp} {z : ZS} {d0 : DS} {cs : Nat → Nat} {n : Nat} {h g : Hp} {u' w' h' g' : Hp} (H : RZ u w z d0 cs n h g) (a : ∀ i, i < 51 → h'.1 i = h.1 i ∧ h'.2 i = h.2 i) (b : ∀ i, 51 ≤ i → g'.1 i = g.1 i ∧ g'.2 i = g.2 i) (hl : Lo u' h') (hh : Hi w' g') : RZ u' w' z d0 cs n h' g' := by
  obtain ⟨H1, H2, H3, H4, H5, H6⟩ := H
  exact ⟨H1.fr (fun i _ _ => (a i (by omega)).1) (b _ (by decide)).1 (b _ (by decide)).1, H2.fr (fun i _ _ => (a i (by omega)).1) (b _ (by decide)).1 (b _ (by decide)).1, H3.fr (a _ (by decide)).1 (a _ (by decide)).1 (a _ (by decide)).2 (by rw [(b 51 (by decide)).1]) (by rw [(b 51 (by decide)).1]) (b _ (by decide)).1 (b _ (by decide)).2, H4.fr (fun i _ _ _ => (a i (by omega)).1) (fun k _ => by rw [(b 51 (by decide)).1]) (fun k _ => by rw [(b 52 (by decide)).1]) (b _ (by decide)).1 (b _ (by decide)).1, hl, hh⟩
def Sim (h : Hp) : Prop := RR h h h h
theorem Lk.st {f g : Hp → Option (Int32 × Hp)} (L : Lk f g) {h : Hp} (S : Sim h) : ∃ r h1 h2, f h = some (r, h1) ∧ g h1 = some (r, h2) ∧ Sim h2 := by
  obtain ⟨r, h1, k1, e1, _, z, d0, cs, n, R1⟩ := L h h h h S
  have l1 : Lo h h1 := R1.2.2.2.2.1
  obtain ⟨z, d0, cs, n, S⟩ := S
  obtain ⟨r2, h2, k2, e2, e3, z, d0, cs, n, R2⟩ := L h h1 h h1 ⟨z, d0, cs, n, S.re (fun _ _ => ⟨rfl, rfl⟩) l1 (fun _ _ => ⟨rfl, rfl⟩) (fun _ _ => ⟨rfl, rfl⟩)⟩
  rw [e1] at e2
  cases e2
  have l2 : Hi h1 k2 := R2.2.2.2.2.2
  exact ⟨r, h1, k2, e1, e3, z, d0, cs, n, R2.re l2 (fun _ _ => ⟨rfl, rfl⟩) (fun _ _ => ⟨rfl, rfl⟩) (fun _ _ => ⟨rfl, rfl⟩)⟩
theorem LkP.st {α : Type} {f g : Hp → Option α} (L : LkP f g) {h : Hp} (S : Sim h) : ∃ r, f h = some r ∧ g h = some r := L h h h h S
/-! what is told, no more -/
theorem k_asked : ∀ u w h g, RR u w h g → X9_asked h = X10_asked g := by rintro u w h g ⟨z, d0, cs, n, H⟩; exact H.2.2.1.2.2.1
theorem k_finding : ∀ u w h g, RR u w h g → X9_finding h = X10_finding g := by rintro u w h g ⟨z, d0, cs, n, H⟩; exact H.2.2.1.1
theorem k_upper : ∀ u w h g, RR u w h g → X9_upper h = X10_upper g := by rintro u w h g ⟨z, d0, cs, n, H⟩; exact H.2.2.1.2.2.2.1
theorem k_lower : ∀ u w h g, RR u w h g → X9_lower h = X10_lower g := by rintro u w h g ⟨z, d0, cs, n, H⟩; exact H.2.2.1.2.2.2.2
theorem k_findings (a : Int32) : LkP (X9_findings a) (X10_findings a) := by
  rintro u w h g ⟨z, d0, cs, n, H⟩
  unfold X9_findings X10_findings
  by_cases c1 : a < 1
  · rw [if_pos c1, in0 c1, if_pos rfl]; exact ⟨_, rfl, rfl⟩
  · rw [if_neg c1]
    rcases rng a 5 (by decide) with q | ⟨q1, q2, q3⟩ | ⟨k, hk, rfl⟩
    · exact absurd (Int32.lt_trans q (by decide)) c1
    · rw [if_neg (show ¬ a ≤ 5 from q2), in1 (show 5 < a from q3), if_pos rfl]; exact ⟨_, rfl, rfl⟩
    · rw [if_pos ((ner_5 (by omega)).mpr hk), in2 c1 (fun q => by have := (nll_5 (by omega)).mp q; omega), if_neg n10, gd_ib (by omega) (by decide), gd_ib (by omega) (by decide), ix_nI (by omega), H.2.2.1.2.1 k (by omega)]
      exact ⟨_, rfl, rfl⟩
