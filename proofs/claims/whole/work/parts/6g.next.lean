def bitB (v : Int32) (k : Nat) : Bool := decide (((v >>> (nI k &&& 31)) &&& (1 : Int32)) = 1)
def hvf (z : ZS) (d : DS) (m q k : Nat) : Nat := dh (tns z 0 (szD z d k) m) q
def cn (b : Nat → Bool) (f : Nat → Nat) (a : Nat) : Nat → Nat
  | 0 => 0
  | k + 1 => cn b f a k + (if b k = true ∧ f k = a then 1 else 0)
def gmx (f : Nat → Nat) : Nat → Nat
  | 0 => 0
  | n + 1 => max (gmx f n) (f n)
theorem cn_le (b : Nat → Bool) (f : Nat → Nat) (a : Nat) : ∀ k, cn b f a k ≤ k := by
  intro k
  induction k with
  | zero => exact Nat.le_refl _
  | succ k ih =>
    show cn b f a k + (if b k = true ∧ f k = a then 1 else 0) ≤ k + 1
    split <;> omega
theorem gmx_le {f : Nat → Nat} {c : Nat} (h : ∀ a, f a ≤ c) : ∀ n, gmx f n ≤ c := by
  intro n
  induction n with
  | zero => exact Nat.zero_le _
  | succ n ih =>
    show max (gmx f n) (f n) ≤ c
    have := h n
    omega
theorem gmx_0 : ∀ n, gmx (fun _ => 0) n = 0 := by
  intro n
  induction n with
  | zero => rfl
  | succ n ih =>
    show max (gmx (fun _ => 0) n) 0 = 0
    rw [ih]
    rfl
theorem gmx_up {f : Nat → Nat} {v : Nat} : ∀ n, gmx (fun a => f a + if v = a then 1 else 0) n = if v < n then max (gmx f n) (f v + 1) else gmx f n := by
  intro n
  induction n with
  | zero => rfl
  | succ n ih =>
    show max (gmx (fun a => f a + if v = a then 1 else 0) n) (f n + if v = n then 1 else 0) = if v < n + 1 then max (max (gmx f n) (f n)) (f v + 1) else max (gmx f n) (f n)
    rw [ih]
    by_cases c : v < n
    · rw [if_pos c, if_neg (by omega), if_pos (by omega)]; omega
    · rw [if_neg c]
      by_cases c2 : v = n
      · subst c2
        rw [if_pos rfl, if_pos (by omega)]; omega
      · rw [if_neg c2, if_neg (by omega)]; omega
theorem cn_on {b : Nat → Bool} {f : Nat → Nat} {k : Nat} (h : b k = true) (a : Nat) : cn b f a (k + 1) = cn b f a k + (if f k = a then 1 else 0) := by
  show cn b f a k + (if b k = true ∧ f k = a then 1 else 0) = _
  by_cases c : f k = a
  · rw [if_pos ⟨h, c⟩, if_pos c]
  · rw [if_neg (fun q => c q.2), if_neg c]
theorem cn_off {b : Nat → Bool} {f : Nat → Nat} {k : Nat} (h : ¬ b k = true) (a : Nat) : cn b f a (k + 1) = cn b f a k := by
  show cn b f a k + (if b k = true ∧ f k = a then 1 else 0) = _
  rw [if_neg (fun q => h q.1), Nat.add_zero]
theorem mxI_nI {a b : Nat} (ha : a < 2 ^ 31) (hb : b < 2 ^ 31) : mxI (nI a) (nI b) = nI (max a b) := by
  show (if _ then _ else _) = _
  by_cases h : a < b
  · rw [if_pos ((nI_ltI ha hb).mpr h), Nat.max_eq_right (by omega)]
  · rw [if_neg (fun q => h ((nI_ltI ha hb).mp q)), Nat.max_eq_left (by omega)]
theorem greatest_c {c : Nat} {f : Nat → Nat} {h : Hp} (hc : shN c = 31) (hf : ∀ a, f a ≤ 31) (F : ∀ a, a < 31 → h.1 c a = nI (f a)) : X9_greatestOf c h = some (nI (gmx f 31)) := by
  unfold X9_greatestOf
  rw [hc, lt_eq, show Int32.ofNat 31 = nI 31 from rfl]
  obtain ⟨⟨r1, r2⟩, e, q⟩ := lp_all (step := fun s : Int32 × Int32 => X9_greatestOf_s10 c (nI 31) h s.1 s.2)
    (fun i s => s.1 = nI (gmx f i) ∧ s.2 = nI i) (fun r => r.1 = nI (gmx f 31)) 31 (by omega) (by
      rintro i ⟨s1, s2⟩ hi ⟨g1, g2⟩
      have g1 : s1 = nI (gmx f i) := g1
      have g2 : s2 = nI i := g2
      subst g1 g2
      show ∃ t, X9_greatestOf_s10 c (nI 31) h (nI (gmx f i)) (nI i) = some (.inr t) ∧ _
      unfold X9_greatestOf_s10
      have l1 := gmx_le hf i
      have l2 := hf i
      rw [if_neg (nI_ge hi (by omega)), hc, gd_ib hi (by decide), ix_nI (by omega), F i hi, lt_eq, lt_eq, mxI_nI (by omega) (by omega)]
      exact ⟨_, rfl, rfl, nap_1 i⟩) (by
      rintro ⟨s1, s2⟩ ⟨g1, g2⟩
      have g1 : s1 = nI (gmx f 31) := g1
      have g2 : s2 = nI 31 := g2
      subst g1 g2
      show ∃ t, X9_greatestOf_s10 c (nI 31) h (nI (gmx f 31)) (nI 31) = some (.inl t) ∧ _
      unfold X9_greatestOf_s10
      rw [if_pos (nI_le (Nat.le_refl _) (by omega))]
      exact ⟨_, rfl, rfl⟩) (s := ((0 : Int32), (0 : Int32))) ⟨rfl, rfl⟩
  have q : r1 = _ := q
  rw [e, ob2_some, q]
def TmS (x : Int32) (m : Nat) : Prop := m ≤ 40 ∧ ∀ y, y ≤ m → (x ≤ nI y ↔ m ≤ y)
theorem passAny {z : ZS} {o : Nat} {d : DS} {h : Hp} {x : Int32} {m : Nat} (hz : ZOk z) (hd : DOk z d) (hx : TmS x m) (H : FrAt z o d h) : ∃ h', X4_passAll o x h = some h' ∧ FrAt z o (tns z 0 d m) h' ∧ Off (FrC o) h h' := by
  obtain ⟨hm, hx⟩ := hx
  obtain ⟨⟨r1, r2⟩, e, q1, q2⟩ := lp_all (step := fun s : Int32 × Hp => X4_passAll_s2 o x s.1 s.2)
    (fun i s => s.1 = nI i ∧ FrAt z o (tns z 0 d i) s.2 ∧ Off (FrC o) h s.2) (fun r => FrAt z o (tns z 0 d m) r.2 ∧ Off (FrC o) h r.2) m (by omega) (by
      rintro i ⟨s1, s2⟩ hi ⟨g1, g2, g3⟩
      cases g1
      show ∃ t, X4_passAll_s2 o x (nI i) s2 = some (.inr t) ∧ _
      obtain ⟨h', e1, f1, o1⟩ := pass_eq (aw := 0) hz (tns_ok (aw := 0) hz hd i) (by decide) g2
      unfold X4_passAll_s2
      rw [if_neg (fun q => by have := (hx i (by omega)).mp q; omega), show X4_pass o (0 : Int32) s2 = _ from e1, ob2_some]
      exact ⟨_, rfl, nap_1 i, f1, g3.tr o1⟩) (by
      rintro ⟨s1, s2⟩ ⟨g1, g2, g3⟩
      cases g1
      show ∃ t, X4_passAll_s2 o x (nI m) s2 = some (.inl t) ∧ _
      unfold X4_passAll_s2
      rw [if_pos ((hx m (Nat.le_refl _)).mpr (Nat.le_refl _))]
      exact ⟨_, rfl, g2, g3⟩) (s := ((0 : Int32), h)) ⟨rfl, H, Off.rf⟩
  unfold X4_passAll
  rw [e, ob2_some]
  exact ⟨_, rfl, q1, q2⟩
theorem turnsAny {z : ZS} {d : DS} {g : Hp} {x : Int32} {m : Nat} (x1 x2 x4 x5 : Int32) (hz : ZOk z) (hd : DOk z d) (hx : TmS x m) (M : MZ z (-9) 0 g) (R : RwAt z 2788 d g) : ∃ g', lp (fun s : Int32 × Hp => X10_greatestPart_s55 x1 x2 x x4 x5 s.1 s.2) FU ((0 : Int32), g) = some (nI m, g') ∧ RwAt z 2788 (tns z 0 d m) g' ∧ OffW 2788 g g' := by
  obtain ⟨hm, hx⟩ := hx
  obtain ⟨⟨r1, r2⟩, e, q0, q1, q2⟩ := lp_all (step := fun s : Int32 × Hp => X10_greatestPart_s55 x1 x2 x x4 x5 s.1 s.2)
    (fun i s => s.1 = nI i ∧ RwAt z 2788 (tns z 0 d i) s.2 ∧ OffW 2788 g s.2) (fun r => r.1 = nI m ∧ RwAt z 2788 (tns z 0 d m) r.2 ∧ OffW 2788 g r.2) m (by omega) (by
      rintro i ⟨s1, s2⟩ hi ⟨g1, g2, g3⟩
      cases g1
      show ∃ t, X10_greatestPart_s55 x1 x2 x x4 x5 (nI i) s2 = some (.inr t) ∧ _
      obtain ⟨h', e1, f1, o1⟩ := turnIn_eq (aw := 0) (x := 2788) hz (tns_ok (aw := 0) hz hd i) (by decide) (by decide) (M.off g3) g2
      unfold X10_greatestPart_s55
      rw [if_neg (fun q => by have := (hx i (by omega)).mp q; omega), plain_ob2, show X10_turnIn (2788 : Int32) (nI 0) (-9) 0 s2 = _ from e1, ob2_some]
      exact ⟨_, rfl, nap_1 i, f1, g3.tr o1⟩) (by
      rintro ⟨s1, s2⟩ ⟨g1, g2, g3⟩
      cases g1
      show ∃ t, X10_greatestPart_s55 x1 x2 x x4 x5 (nI m) s2 = some (.inl t) ∧ _
      unfold X10_greatestPart_s55
      rw [if_pos ((hx m (Nat.le_refl _)).mpr (Nat.le_refl _))]
      exact ⟨_, rfl, rfl, g2, g3⟩) (s := ((0 : Int32), g)) ⟨rfl, R, OffW.rf⟩
  have q0 : r1 = _ := q0
  subst q0
  exact ⟨r2, e, q1, q2⟩
theorem tal_in {h : Hp} {p : Nat} {f : Nat → Nat} {c : Nat → Nat → Nat} (x1 x2 x3 : Int32) (hp : p ≤ 6) (e : h.1 19 6 = nI p) (F : ∀ q, q < p → h.1 26 q = nI (f q) ∧ f q ≤ 30) (C : ∀ q, q < p → ∀ a, a < 31 → h.1 (37 + q) a = nI (c q a)) : ∃ h', lp (fun s : Int32 × Hp => X9_tallyShares_s71 x1 x2 x3 s.1 s.2) FU ((0 : Int32), h) = some (nI p, h') ∧ (∀ q, q < p → ∀ a, a < 31 → h'.1 (37 + q) a = nI (c q a + if f q = a then 1 else 0)) ∧ (∀ i, i < 37 ∨ 43 ≤ i → h'.1 i = h.1 i) ∧ h'.2 = h.2 := by
  obtain ⟨⟨r1, r2⟩, e, q0, q1, q2, q3⟩ := lp_all (step := fun s : Int32 × Hp => X9_tallyShares_s71 x1 x2 x3 s.1 s.2)
    (fun t s => s.1 = nI t ∧ (∀ q, q < p → ∀ a, a < 31 → s.2.1 (37 + q) a = nI (c q a + if q < t ∧ f q = a then 1 else 0)) ∧ (∀ i, i < 37 ∨ 43 ≤ i → s.2.1 i = h.1 i) ∧ s.2.2 = h.2)
    (fun s => s.1 = nI p ∧ (∀ q, q < p → ∀ a, a < 31 → s.2.1 (37 + q) a = nI (c q a + if f q = a then 1 else 0)) ∧ (∀ i, i < 37 ∨ 43 ≤ i → s.2.1 i = h.1 i) ∧ s.2.2 = h.2) p (by omega) (by
      rintro t ⟨s1, s2⟩ ht ⟨g1, g2, g3, g4⟩
      cases g1
      have g2 : ∀ q, q < p → ∀ a, a < 31 → s2.1 (37 + q) a = nI (c q a + if q < t ∧ f q = a then 1 else 0) := g2
      have g3 : ∀ i, i < 37 ∨ 43 ≤ i → s2.1 i = h.1 i := g3
      obtain ⟨f1, f2⟩ := F t ht
      show ∃ r, X9_tallyShares_s71 x1 x2 x3 (nI t) s2 = some (.inr r) ∧ _
      unfold X9_tallyShares_s71
      rw [g3 19 (by omega), e, if_neg (nI_ge ht (by omega)), gd_ib (by omega) (by decide), g3 26 (by omega), ix_nI (by omega), f1, gd_ib (by omega) (by decide), ix_nI (by omega), g2 t ht (f t) (by omega), if_neg (fun q => absurd q.1 (by omega)), lt_eq, lt_eq]
      refine ⟨_, rfl, nap_1 t, fun q hq a ha => ?_, fun i hi => ?_, g4⟩
      · show (up s2 (37 + t) (f t) _).1 (37 + q) a = _
        by_cases cq : q = t
        · subst cq
          by_cases ca : a = f q
          · subst ca
            rw [up_at, if_pos ⟨by omega, rfl⟩, Nat.add_zero]
            exact nap_1 _
          · rw [up_off ca, g2 q hq a ha, if_neg (fun w => by omega), if_neg (fun w => ca w.2.symm)]
        · rw [up_ne (by omega), g2 q hq a ha]
          congr 2
          by_cases cc : q < t ∧ f q = a
          · rw [if_pos cc, if_pos ⟨by omega, cc.2⟩]
          · rw [if_neg cc, if_neg (fun w => cc ⟨by omega, w.2⟩)]
      · exact (up_ne (by omega)).trans (g3 i hi)) (by
      rintro ⟨s1, s2⟩ ⟨g1, g2, g3, g4⟩
      cases g1
      have g3 : ∀ i, i < 37 ∨ 43 ≤ i → s2.1 i = h.1 i := g3
      show ∃ r, X9_tallyShares_s71 x1 x2 x3 (nI p) s2 = some (.inl r) ∧ _
      unfold X9_tallyShares_s71
      rw [g3 19 (by omega), e, if_pos (nI_le (Nat.le_refl _) (by omega))]
      refine ⟨_, rfl, rfl, fun q hq a ha => ?_, g3, g4⟩
      rw [g2 q hq a ha]
      congr 2
      by_cases cc : f q = a
      · rw [if_pos ⟨hq, cc⟩, if_pos cc]
      · rw [if_neg (fun w => cc w.2), if_neg cc]) (s := ((0 : Int32), h)) ⟨rfl, fun q hq a ha => by
        show h.1 (37 + q) a = _
        rw [C q hq a ha, if_neg (fun w => by omega), Nat.add_zero], fun _ _ => rfl, rfl⟩
  have q0 : r1 = _ := q0
  subst q0
  exact ⟨r2, e, q1, q2, q3⟩
theorem bit_on {v : Int32} {k : Nat} (h : bitB v k = true) : ((v >>> (nI k &&& 31)) &&& (1 : Int32)) = 1 := of_decide_eq_true h
theorem bit_off {v : Int32} {k : Nat} (h : ¬ bitB v k = true) : ¬ ((v >>> (nI k &&& 31)) &&& (1 : Int32)) = 1 := fun q => h (decide_eq_true q)
theorem RZ.tally {u w : Hp} {z : ZS} {d0 : DS} {cs : Nat → Nat} {n : Nat} {h g : Hp} (H : RZ u w z d0 cs n h g) (v : Int32) {x : Int32} {m : Nat} (hx : TmS x m) : ∃ h', X9_tallyShares v x h = some h' ∧ (∀ q, q < zp z → ∀ a, a < 31 → h'.1 (37 + q) a = nI (cn (bitB v) (hvf z (rn z d0 cs n) m q) a 31)) ∧ ScC h h' := by
  have hp := H.zok.1
  obtain ⟨⟨r1, h1⟩, e1, q1, q2⟩ := lp_all (step := fun s : Int32 × Hp => X9_tallyShares_s2 v x s.1 s.2)
    (fun t s => s.1 = nI t ∧ (∀ q, q < t → ∀ a, a < 31 → s.2.1 (37 + q) a = 0) ∧ ScC h s.2)
    (fun s => (∀ q, q < 6 → ∀ a, a < 31 → s.2.1 (37 + q) a = 0) ∧ ScC h s.2) 6 (by omega) (by
      rintro t ⟨s1, s2⟩ ht ⟨g1, g2, g3⟩
      cases g1
      obtain ⟨h', e1, f1, f2, f3⟩ := fill_eq (sh_tal t ht) (by decide) 0 s2
      show ∃ r, X9_tallyShares_s2 v x (nI t) s2 = some (.inr r) ∧ _
      unfold X9_tallyShares_s2
      rw [if_neg (fun q => by have := (nel_6 (by omega)).mp q; omega), gd_ib ht (by decide), ix_nI (by omega), e1, ob_some, lt_eq]
      refine ⟨_, rfl, nap_1 t, fun q hq a ha => ?_, g3.tr ⟨fun i hi => f2 i (by omega), f3⟩⟩
      by_cases c : q = t
      · subst c; exact f1 a ha
      · show h'.1 (37 + q) a = 0
        rw [f2 (37 + q) (by omega)]
        exact g2 q (by omega) a ha) (by
      rintro ⟨s1, s2⟩ ⟨g1, g2, g3⟩
      cases g1
      show ∃ r, X9_tallyShares_s2 v x (nI 6) s2 = some (.inl r) ∧ _
      unfold X9_tallyShares_s2
      rw [if_pos (by decide)]
      exact ⟨_, rfl, g2, g3⟩) (s := ((0 : Int32), h)) ⟨rfl, fun q hq => absurd hq (by omega), ScC.rf⟩
  have q1 : ∀ q, q < 6 → ∀ a, a < 31 → h1.1 (37 + q) a = 0 := q1
  have q2 : ScC h h1 := q2
  obtain ⟨⟨r2, h2⟩, e2, q3, q4⟩ := lp_all (step := fun s : Int32 × Hp => X9_tallyShares_s26 v x s.1 s.2)
    (fun k s => s.1 = nI k ∧ (∀ q, q < zp z → ∀ a, a < 31 → s.2.1 (37 + q) a = nI (cn (bitB v) (hvf z (rn z d0 cs n) m q) a k)) ∧ ScC h s.2)
    (fun s => (∀ q, q < zp z → ∀ a, a < 31 → s.2.1 (37 + q) a = nI (cn (bitB v) (hvf z (rn z d0 cs n) m q) a 31)) ∧ ScC h s.2) 31 (by omega) (by
      rintro k ⟨s1, s2⟩ hk ⟨g1, g2, g3⟩
      cases g1
      have g2 : ∀ q, q < zp z → ∀ a, a < 31 → s2.1 (37 + q) a = nI (cn (bitB v) (hvf z (rn z d0 cs n) m q) a k) := g2
      have g3 : ScC h s2 := g3
      show ∃ r, X9_tallyShares_s26 v x (nI k) s2 = some (.inr r) ∧ _
      unfold X9_tallyShares_s26
      rw [if_neg (fun q => by have := (nll_30 (by omega)).mp q; omega)]
      by_cases c : bitB v k = true
      · obtain ⟨h3, y1, f1, f2, f3⟩ := become_eq (o := 23) hp (by decide) (H.f19.sc9 g3)
        obtain ⟨h4, y2, f4, o4⟩ := beOf_eq (s := k) (by omega) f1
        obtain ⟨h5, y3, f5, o5⟩ := passAny H.zok (szD_ok H.zok H.dok (by omega)) hx f4
        have s5 : ScC s2 h5 := ScC.tr ⟨fun i hi => f2 i (by omega), f3⟩ (ScC.tr (ScC.p o4) (ScC.p o5))
        have T5 : ∀ i, 36 ≤ i → h5.1 i = s2.1 i := fun i hi => by
          rw [o5.1 i (by show ¬ (i = 23 ∨ i = 23 + 2 ∨ i = 23 + 3); omega), o4.1 i (by show ¬ (i = 23 ∨ i = 23 + 2 ∨ i = 23 + 3); omega), f2 i (by omega)]
        have ok5 := tns_ok (aw := 0) H.zok (szD_ok (s := k) H.zok H.dok (by omega)) m
        obtain ⟨h6, y4, t6, f6, l6⟩ := tal_in (h := h5) (p := zp z) (f := fun q => hvf z (rn z d0 cs n) m q k) (c := fun q a => cn (bitB v) (hvf z (rn z d0 cs n) m q) a k) v x (nI k) hp ((H.f19.sc9 g3).sc9 s5).2.2.1 (fun q hq => ⟨f5.2.2.2.2.2.1 q hq, ok5.2.1 q hq⟩) (fun q hq a ha => by rw [T5 (37 + q) (by omega)]; exact g2 q hq a ha)
        rw [if_pos (bit_on c), y1, ob_some, y2, ob_some, y3, ob_some, y4, ob2_some, ob_some, lt_eq]
        refine ⟨_, rfl, nap_1 k, fun q hq a ha => ?_, (g3.tr s5).tr ⟨fun i hi => f6 i (by omega), l6⟩⟩
        rw [cn_on c]
        exact t6 q hq a ha
      · rw [if_neg (bit_off c), ob_some, lt_eq]
        refine ⟨_, rfl, nap_1 k, fun q hq a ha => ?_, g3⟩
        rw [cn_off c]
        exact g2 q hq a ha) (by
      rintro ⟨s1, s2⟩ ⟨g1, g2, g3⟩
      cases g1
      show ∃ r, X9_tallyShares_s26 v x (nI 31) s2 = some (.inl r) ∧ _
      unfold X9_tallyShares_s26
      rw [if_pos (by decide)]
      exact ⟨_, rfl, g2, g3⟩) (s := ((0 : Int32), h1)) ⟨rfl, fun q hq a ha => q1 q (by omega) a ha, q2⟩
  unfold X9_tallyShares
  rw [e1, ob2_some, e2, ob2_some]
  exact ⟨_, rfl, q3, q4⟩
theorem ScM.up63 {g : Hp} {k : Nat} {v : Int32} : ScM g (up g 63 k v) := ⟨fun i h1 _ _ => up_ne (by omega), fun k _ => by rw [up_ne (by decide)], fun k _ => by rw [up_ne (by decide)], rfl⟩
theorem RZ.great {u w : Hp} {z : ZS} {d0 : DS} {cs : Nat → Nat} {n : Nat} {h g : Hp} (H : RZ u w z d0 cs n h g) (v : Int32) {x : Int32} {m q : Nat} (hx : TmS x m) (hq : q < zp z) : ∃ g', X10_greatestPart v (nI q) x g = some (nI (gmx (fun a => cn (bitB v) (hvf z (rn z d0 cs n) m q) a 31) 31), g') ∧ ScM g g' := by
  have hp := H.zok.1
  have h40 := H.n40
  obtain ⟨⟨r1, g1⟩, e1, q1, q2⟩ := lp_all (step := fun s : Int32 × Hp => X10_greatestPart_s6 v (nI q) x s.1 s.2)
    (fun t s => s.1 = nI t ∧ (∀ a, a < t → s.2.1 63 a = 0) ∧ ScM g s.2)
    (fun s => (∀ a, a < 31 → s.2.1 63 a = 0) ∧ ScM g s.2) 31 (by omega) (by
      rintro t ⟨s1, s2⟩ ht ⟨g1, g2, g3⟩
      cases g1
      show ∃ r, X10_greatestPart_s6 v (nI q) x (nI t) s2 = some (.inr r) ∧ _
      unfold X10_greatestPart_s6
      rw [if_neg (fun q => by have := (nll_30 (by omega)).mp q; omega), gd_ib ht (by decide), ix_nI (by omega), lt_eq, lt_eq]
      refine ⟨_, rfl, nap_1 t, fun a ha => ?_, ScM.tr g3 ScM.up63⟩
      by_cases c : a = t
      · subst c; exact up_at
      · exact (up_off c).trans (g2 a (by omega))) (by
      rintro ⟨s1, s2⟩ ⟨g1, g2, g3⟩
      cases g1
      show ∃ r, X10_greatestPart_s6 v (nI q) x (nI 31) s2 = some (.inl r) ∧ _
      unfold X10_greatestPart_s6
      rw [if_pos (by decide)]
      exact ⟨_, rfl, g2, g3⟩) (s := ((0 : Int32), g)) ⟨rfl, fun q hq => absurd hq (by omega), ScM.rf⟩
  have q1 : ∀ a, a < 31 → g1.1 63 a = 0 := q1
  have q2 : ScM g g1 := q2
  obtain ⟨⟨r2, r3, g2⟩, e2, q3, q4⟩ := lp_all (step := fun s : Int32 × Int32 × Hp => X10_greatestPart_s30 v (nI q) x s.1 s.2.1 s.2.2)
    (fun k s => s.1 = nI (gmx (fun a => cn (bitB v) (hvf z (rn z d0 cs n) m q) a k) 31) ∧ s.2.1 = nI k ∧ (∀ a, a < 31 → s.2.2.1 63 a = nI (cn (bitB v) (hvf z (rn z d0 cs n) m q) a k)) ∧ ScM g s.2.2)
    (fun s => s.1 = nI (gmx (fun a => cn (bitB v) (hvf z (rn z d0 cs n) m q) a 31) 31) ∧ ScM g s.2.2) 31 (by omega) (by
      rintro k ⟨s1, s2, s3⟩ hk ⟨g1, g2, g3, g4⟩
      have g1 : s1 = nI (gmx (fun a => cn (bitB v) (hvf z (rn z d0 cs n) m q) a k) 31) := g1
      have g2 : s2 = nI k := g2
      subst g1 g2
      have g3 : ∀ a, a < 31 → s3.1 63 a = nI (cn (bitB v) (hvf z (rn z d0 cs n) m q) a k) := g3
      have g4 : ScM g s3 := g4
      show ∃ r, X10_greatestPart_s30 v (nI q) x (nI (gmx (fun a => cn (bitB v) (hvf z (rn z d0 cs n) m q) a k) 31)) (nI k) s3 = some (.inr r) ∧ _
      unfold X10_greatestPart_s30 X10_has
      rw [if_neg (fun q => by have := (nll_30 (by omega)).mp q; omega)]
      by_cases c : bitB v k = true
      · have H3 := H.sc ScC.rf g4
        obtain ⟨g5, y1, f1, o1⟩ := lay_eq (s := k) hp (by omega) H3.now (by omega) H3.mz H3.row
        obtain ⟨g6, y2, f2, o2⟩ := turnsAny v (nI q) (nI (gmx (fun a => cn (bitB v) (hvf z (rn z d0 cs n) m q) a k) 31)) (nI k) H.zok (szD_ok (s := k) H.zok H.dok (by omega)) hx (H3.mz.off o1) f1
        have ok5 := (tns_ok (aw := 0) H.zok (szD_ok (s := k) H.zok H.dok (by omega)) m).2.1 q hq
        have ok5 : hvf z (rn z d0 cs n) m q k ≤ 30 := ok5
        have v1 : g6.1 52 (2794 + q) = nI (hvf z (rn z d0 cs n) m q k) := f2.2.1 q hq
        have v2 : ∀ a, a < 31 → g6.1 63 a = nI (cn (bitB v) (hvf z (rn z d0 cs n) m q) a k) := fun a ha => by
          rw [o2.1 63 (by decide), o1.1 63 (by decide)]
          exact g3 a ha
        have l1 := cn_le (bitB v) (hvf z (rn z d0 cs n) m q) (hvf z (rn z d0 cs n) m q k) k
        have l2 := gmx_le (fun a => cn_le (bitB v) (hvf z (rn z d0 cs n) m q) a k) 31
        have key : gmx (fun a => cn (bitB v) (hvf z (rn z d0 cs n) m q) a (k + 1)) 31 = max (gmx (fun a => cn (bitB v) (hvf z (rn z d0 cs n) m q) a k) 31) (cn (bitB v) (hvf z (rn z d0 cs n) m q) (hvf z (rn z d0 cs n) m q k) k + 1) := by
          rw [show (fun a => cn (bitB v) (hvf z (rn z d0 cs n) m q) a (k + 1)) = fun a => cn (bitB v) (hvf z (rn z d0 cs n) m q) a k + (if hvf z (rn z d0 cs n) m q k = a then 1 else 0) from funext (fun a => cn_on c a)]
          refine (gmx_up (f := fun a => cn (bitB v) (hvf z (rn z d0 cs n) m q) a k) 31).trans (if_pos (by omega))
        rw [if_pos (bit_on c), if_neg n10, y1, ob_some, y2, ob2_some, show (2794 : Int32) = nI 2794 from rfl, nI_add, gd_ib (by omega) (by decide), ix_nI (by omega), v1, lt_eq, gd_ib (by omega) (by decide), ix_nI (by omega), v2 _ (by omega), nap_1, lt_eq, up_at]
        have fin : ∀ a, a < 31 → (up g6 63 (hvf z (rn z d0 cs n) m q k) (nI (cn (bitB v) (hvf z (rn z d0 cs n) m q) (hvf z (rn z d0 cs n) m q k) k + 1))).1 63 a = nI (cn (bitB v) (hvf z (rn z d0 cs n) m q) a (k + 1)) := fun a ha => by
          rw [cn_on c]
          by_cases ca : a = hvf z (rn z d0 cs n) m q k
          · subst ca
            rw [up_at, if_pos rfl]
          · rw [up_off ca, v2 a ha, if_neg (fun w => ca w.symm), Nat.add_zero]
        by_cases cc : cn (bitB v) (hvf z (rn z d0 cs n) m q) (hvf z (rn z d0 cs n) m q k) k + 1 ≤ gmx (fun a => cn (bitB v) (hvf z (rn z d0 cs n) m q) a k) 31
        · rw [if_pos ((nI_leI (by omega) (by omega)).mpr cc), ob2_some, lt_eq]
          refine ⟨_, rfl, ?_, nap_1 k, fin, (g4.tr (ScM.w (o1.tr o2))).tr ScM.up63⟩
          rw [key, Nat.max_eq_left cc]
        · rw [if_neg (fun w => cc ((nI_leI (by omega) (by omega)).mp w)), lt_eq, ob2_some, lt_eq]
          refine ⟨_, rfl, ?_, nap_1 k, fin, (g4.tr (ScM.w (o1.tr o2))).tr ScM.up63⟩
          rw [key, Nat.max_eq_right (by omega)]
      · rw [if_neg (bit_off c), if_pos rfl, ob2_some, lt_eq]
        refine ⟨_, rfl, ?_, nap_1 k, fun a ha => ?_, g4⟩
        · rw [show (fun a => cn (bitB v) (hvf z (rn z d0 cs n) m q) a (k + 1)) = fun a => cn (bitB v) (hvf z (rn z d0 cs n) m q) a k from funext (fun a => cn_off c a)]
        · rw [cn_off c]
          exact g3 a ha) (by
      rintro ⟨s1, s2, s3⟩ ⟨g1, g2, g3, g4⟩
      have g1 : s1 = nI (gmx (fun a => cn (bitB v) (hvf z (rn z d0 cs n) m q) a 31) 31) := g1
      have g2 : s2 = nI 31 := g2
      subst g1 g2
      show ∃ r, X10_greatestPart_s30 v (nI q) x (nI (gmx (fun a => cn (bitB v) (hvf z (rn z d0 cs n) m q) a 31) 31)) (nI 31) s3 = some (.inl r) ∧ _
      unfold X10_greatestPart_s30
      rw [if_pos (by decide)]
      exact ⟨_, rfl, rfl, g4⟩) (s := ((0 : Int32), (0 : Int32), g1)) ⟨by
        show (0 : Int32) = nI (gmx (fun _ => 0) 31)
        rw [gmx_0]; rfl, rfl, q1, q2⟩
  have q3 : r2 = _ := q3
  unfold X10_greatestPart
  rw [e1, ob2_some, e2, ob3_some, q3]
  exact ⟨_, rfl, q4⟩
theorem k_next (a1 a2 : Int32) : Lk (X9_next a1 a2) (X10_next a1 a2) := by
  rintro u w h g ⟨z, d0, cs, n, H⟩
  have hp := H.zok.1
  unfold X9_next X10_next
  rcases had_c H a1 a2 with ⟨r, h', g', c0, e1, H', ⟨e2, rfl, rfl⟩ | ⟨e2, e3, rfl, rfl⟩ | ⟨e2, e3, q, e4, c1, e5⟩⟩ | ⟨i, r, m, hi, hr, hm1, hm, rfl, rfl, e1, e2, e3, e4, x1, x2⟩
  · rw [e1, ob2_some, if_neg c0, e2, if_pos rfl]; exact ⟨_, _, _, rfl, rfl, H'.rr⟩
  · rw [e1, ob2_some, if_neg c0, e2, if_neg n10, e3, if_pos rfl]; exact ⟨_, _, _, rfl, rfl, H'.rr⟩
  · rw [e1, ob2_some, if_neg c0, e2, if_neg n10, e3, if_neg n10, e4, ob_some, if_neg c1, ob_some, e5, ob2_some]; exact ⟨_, _, _, rfl, rfl, H'.rr⟩
  obtain ⟨v, h1, g1, y1, y2, H1⟩ := H.fitS hi hr
  rw [e1, ob2_some, if_pos rfl, e2, if_neg n10, e3, if_neg n10, e4, ob_some, if_pos (by decide), y1, y2, ob2_some, ob2_some]
  by_cases cv : v = 0
  · rw [if_pos cv, if_pos cv]; exact ⟨_, _, _, rfl, rfl, H1.rr⟩
  rw [if_neg cv, if_neg cv]
  obtain ⟨m, hx, hy⟩ : ∃ m, TmS (h1.1 8 r) m ∧ TmS (g1.1 56 r) m := by
    rcases H1.1 r hr with ⟨q1, q2⟩ | ⟨k, hk, q1, q2, _⟩
    · refine ⟨0, ⟨by decide, fun y hy => ?_⟩, ⟨by decide, fun y hy => ?_⟩⟩
      · rw [q1]; exact ⟨fun _ => Nat.zero_le _, fun _ => by rw [show y = 0 by omega]; decide⟩
      · rw [q2]; exact ⟨fun _ => Nat.zero_le _, fun _ => by rw [show y = 0 by omega]; decide⟩
    · refine ⟨k, ⟨hk, fun y hy => ?_⟩, ⟨hk, fun y hy => ?_⟩⟩
      · rw [q1]; exact nI_leI (by omega) (by omega)
      · rw [q2]; exact nI_leI (by omega) (by omega)
  obtain ⟨h2, z1, t2', c2⟩ := H1.tally v hx
  have H2 : FrAt z 19 (rn z d0 cs n) h2 := H1.f19.sc9 c2
  rw [gd_ib hr (by decide), ix_nI (by omega), z1, ob_some]
  obtain ⟨⟨s1, s2, s3⟩, ⟨t1, t2, t3, t4⟩, e5, e6, Q1, Q2, Q3⟩ := lpp (f := fun s : Int32 × Int32 × Int32 => X9_next_s51 h2 s.1 s.2.1 s.2.2) (g := fun s : Int32 × Int32 × Int32 × Hp => X10_next_s60 (nI r) v s.1 s.2.1 s.2.2.1 s.2.2.2)
    (fun k s t => ((k = 0 ∧ s.2.1 = 32 ∧ t.2.1 = 99) ∨ (0 < k ∧ s.1 = t.1 ∧ s.2.1 = t.2.1)) ∧ s.2.2 = nI k ∧ t.2.2.1 = nI k ∧ ScM g1 t.2.2.2)
    (fun s t => s.1 = t.1 ∧ s.2.1 = t.2.1 ∧ ScM g1 t.2.2.2) (zp z) (by omega) (by
      rintro k ⟨s1, s2, s3⟩ ⟨t1, t2, t3, t4⟩ hk ⟨g1', g2, g3, g4⟩
      cases g2; cases g3
      have g4 : ScM g1 t4 := g4
      show (∃ s' t', X9_next_s51 h2 s1 s2 (nI k) = some (.inr s') ∧ X10_next_s60 (nI r) v t1 t2 (nI k) t4 = some (.inr t') ∧ _) ∨ ∃ a b, X9_next_s51 h2 s1 s2 (nI k) = some (.inl a) ∧ X10_next_s60 (nI r) v t1 t2 (nI k) t4 = some (.inl b) ∧ _
      unfold X9_next_s51 X10_next_s60
      have H4 := H1.sc ScC.rf g4
      rw [H2.2.2.1, H4.p10]
      by_cases ck : k < zp z
      · left
        have B := greatest_c (sh_tal k (by omega)) (fun a => cn_le (bitB v) (hvf z (rn z d0 cs n) m k) a 31) (t2' k ck)
        obtain ⟨g5, w1, s5⟩ := H4.great v (x := t4.1 56 r) (m := m) (q := k) (by rw [g4.1 56 (by decide) (by decide) (by decide)]; exact hy) ck
        have lp31 := gmx_le (fun a => cn_le (bitB v) (hvf z (rn z d0 cs n) m k) a 31) 31
        rw [if_neg (nI_ge ck (by omega)), if_neg (nI_ge ck (by omega)), gd_ib (by omega) (by decide), gd_ib hr (by decide), ix_nI (by omega), ix_nI (by omega), B, ob_some, w1, ob2_some]
        rcases g1' with ⟨rfl, q1, q2⟩ | ⟨k0, q1, q2⟩
        · have q1 : s2 = 32 := q1
          have q2 : t2 = 99 := q2
          subst q1 q2
          rw [if_neg (fun q => by have := (nel_32 (by omega)).mp q; omega), if_neg (fun q => by have := (nel_99 (by omega)).mp q; omega), if_neg (fun q => by have := (nel_99 (by omega)).mp q; omega), ob2_some, ob_some, ob_some, lt_eq, lt_eq]
          exact ⟨_, _, rfl, rfl, ck, Or.inr ⟨by decide, rfl, rfl⟩, nap_1 0, nap_1 0, g4.tr s5⟩
        · have q1 : s1 = t1 := q1
          have q2 : s2 = t2 := q2
          subst q1 q2
          by_cases cc : s2 ≤ nI (gmx (fun a => cn (bitB v) (hvf z (rn z d0 cs n) m k) a 31) 31)
          · rw [if_pos cc, if_pos cc, if_pos cc, ob2_some, ob_some, ob_some, lt_eq, lt_eq]
            exact ⟨_, _, rfl, rfl, ck, Or.inr ⟨by omega, rfl, rfl⟩, nap_1 k, nap_1 k, g4.tr s5⟩
          · rw [if_neg cc, if_neg cc, if_neg cc, ob2_some, ob_some, ob_some, lt_eq, lt_eq]
            exact ⟨_, _, rfl, rfl, ck, Or.inr ⟨by omega, rfl, rfl⟩, nap_1 k, nap_1 k, g4.tr s5⟩
      · right
        have e : k = zp z := by omega
        subst e
        rw [if_pos (nI_le (Nat.le_refl _) (by omega)), if_pos (nI_le (Nat.le_refl _) (by omega))]
        rcases g1' with ⟨q0, _⟩ | ⟨_, q1, q2⟩
        · omega
        · exact ⟨_, _, rfl, rfl, q1, q2, g4⟩) (s := ((0 : Int32), (32 : Int32), (0 : Int32))) (t := ((-9 : Int32), (99 : Int32), (0 : Int32), g1)) ⟨Or.inl ⟨rfl, rfl, rfl⟩, rfl, rfl, ScM.rf⟩
  have Q1 : s1 = t1 := Q1
  have Q2 : s2 = t2 := Q2
  have Q3 : ScM g1 t4 := Q3
  subst Q1 Q2
  rw [e5, e6, ob3_some, ob4_some, lt_eq, lt_eq]
  exact ⟨_, _, _, rfl, rfl, ((H1.sc c2 Q3).tell _).rr⟩
