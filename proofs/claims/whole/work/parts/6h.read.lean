/-! a text: how long, what letters, on both sides -/
def Tx (t N : Nat) (L : Nat → Int32) (h g : Hp) : Prop := t < 4 ∧ N ≤ 60 ∧ h.1 14 t = nI N ∧ g.1 58 t = nI N ∧ (∀ i, i < N → h.1 (10 + t) i = L i) ∧ ∀ i, i < N → g.1 57 (60 * t + i) = L i
theorem Tx.sc {t N : Nat} {L : Nat → Int32} {h g : Hp} {h' g' : Hp} (X : Tx t N L h g) (a : ScC h h') (b : ScM g g') : Tx t N L h' g' := by
  obtain ⟨x1, x2, x3, x4, x5, x6⟩ := X
  refine ⟨x1, x2, ?_, ?_, fun i hi => ?_, fun i hi => ?_⟩
  · rw [a.1 14 (by decide)]; exact x3
  · rw [b.1 58 (by decide) (by decide) (by decide)]; exact x4
  · rw [a.1 (10 + t) (by omega)]; exact x5 i hi
  · rw [b.1 57 (by decide) (by decide) (by decide)]; exact x6 i hi
def OffS (g g' : Hp) : Prop := (∀ i, i ≠ 51 → g'.1 i = g.1 i) ∧ (∀ k, k ≠ 16 → g'.1 51 k = g.1 51 k) ∧ g'.2 = g.2
theorem OffS.rf {g : Hp} : OffS g g := ⟨fun _ _ => rfl, fun _ _ => rfl, rfl⟩
theorem OffS.up {g g' : Hp} {v : Int32} (a : OffS g g') : OffS g (up g' 51 16 v) := ⟨fun i hi => (up_ne hi).trans (a.1 i hi), fun k hk => (up_off hk).trans (a.2.1 k hk), a.2.2⟩
theorem OffS.sc {g g' : Hp} (a : OffS g g') : ScM g g' := ⟨fun i _ h2 _ => a.1 i h2, fun k hk => a.2.1 k (by omega), fun k _ => by rw [a.1 52 (by decide)], a.2.2⟩
theorem ScM.u51 {g : Hp} {k : Nat} {v : Int32} (hk : 16 ≤ k) : ScM g (up g 51 k v) := ⟨fun i _ h2 _ => up_ne h2, fun k' hk' => up_off (by omega), fun k _ => by rw [up_ne (by decide)], rfl⟩
theorem ScM.u60 {g : Hp} {i k : Nat} {v : Int32} (hi : 60 ≤ i) : ScM g (up g i k v) := ⟨fun j h1 _ _ => up_ne (by omega), fun k _ => by rw [up_ne (by omega)], fun k _ => by rw [up_ne (by omega)], rfl⟩
theorem Tx.lt {t N : Nat} {L : Nat → Int32} {h g : Hp} (X : Tx t N L h g) {i : Nat} (hi : i < 1000) : X10_letterAt (nI t) (nI i) g = some (if i < N then L i else -9) := by
  obtain ⟨x1, x2, x3, x4, x5, x6⟩ := X
  unfold X10_letterAt
  rw [gd_ib x1 (by decide), ix_nI (by omega), x4]
  by_cases c : i < N
  · rw [if_neg (nI_ge c (by omega)), if_pos c, nml_60, nI_add, gd_ib (by omega) (by decide), ix_nI (by omega), x6 i c]
  · rw [if_pos (nI_le (by omega) (by omega)), if_neg c]
theorem Tx.in_ {t N : Nat} {L : Nat → Int32} {h g : Hp} (X : Tx t N L h g) {i : Nat} (hi : i < N) : X10_letterAt (nI t) (nI i) g = some (L i) := by
  have := X.2.1
  rw [X.lt (by omega), if_pos hi]
theorem Tx.out {t N : Nat} {L : Nat → Int32} {h g : Hp} (X : Tx t N L h g) {i : Nat} (hi : N ≤ i) (h2 : i < 1000) : X10_letterAt (nI t) (nI i) g = some (-9) := by
  rw [X.lt h2, if_neg (by omega)]
theorem Tx.skip {t N : Nat} {L : Nat → Int32} {h g : Hp} (X : Tx t N L h g) {i : Nat} (hi : i ≤ N) (e : g.1 51 16 = nI i) : ∃ j g', i ≤ j ∧ j ≤ N ∧ X9_pastBlanks (10 + t) (nI N) (nI i) h = some (nI j) ∧ X10_skipBlanks (nI t) g = some g' ∧ g'.1 51 16 = nI j ∧ OffS g g' := by
  have ht := X.1
  have hN := X.2.1
  obtain ⟨s, r, e1, e2, j, q1, q2, q3, q4, q5⟩ := lpp (f := fun s : Int32 => X9_pastBlanks_s2 (10 + t) (nI N) h s) (g := fun s : Hp => X10_skipBlanks_s0 (nI t) s)
    (fun k s r => i + k ≤ N ∧ s = nI (i + k) ∧ r.1 51 16 = nI (i + k) ∧ OffS g r) (fun s r => ∃ j, i ≤ j ∧ j ≤ N ∧ s = nI j ∧ r.1 51 16 = nI j ∧ OffS g r) (N - i) (by omega) (by
      rintro k s r hk ⟨g1, rfl, g3, g4⟩
      have Xr := X.sc ScC.rf g4.sc
      show (∃ s' t', X9_pastBlanks_s2 (10 + t) (nI N) h (nI (i + k)) = some (.inr s') ∧ X10_skipBlanks_s0 (nI t) r = some (.inr t') ∧ _) ∨ ∃ a b, X9_pastBlanks_s2 (10 + t) (nI N) h (nI (i + k)) = some (.inl a) ∧ X10_skipBlanks_s0 (nI t) r = some (.inl b) ∧ _
      unfold X9_pastBlanks_s2 X10_skipBlanks_s0
      rw [g3]
      by_cases c : i + k < N
      · rw [if_neg (nI_ge c (by omega)), sh_txts t ht, gd_ib (by omega) (by decide), ix_nI (by omega), X.2.2.2.2.1 _ c, Xr.in_ c, ob_some]
        by_cases c2 : L (i + k) = 32
        · left
          rw [if_pos c2, if_pos c2, lt_eq, lt_eq, nap_1]
          exact ⟨_, _, rfl, rfl, by omega, by omega, rfl, up_at, g4.up⟩
        · right
          rw [if_neg c2, if_neg c2]
          exact ⟨_, _, rfl, rfl, i + k, by omega, by omega, rfl, g3, g4⟩
      · right
        rw [if_pos (nI_le (by omega) (by omega)), Xr.out (by omega) (by omega), ob_some, if_neg (by decide)]
        exact ⟨_, _, rfl, rfl, i + k, by omega, by omega, rfl, g3, g4⟩) (s := nI i) (t := g) ⟨hi, rfl, e, OffS.rf⟩
  refine ⟨j, r, q1, q2, ?_, ?_, q4, q5⟩
  · unfold X9_pastBlanks
    rw [e1, ob_some, q3]
  · unfold X10_skipBlanks
    rw [e2, ob_some]
/-- a figure -/
def Fig (x : Int32) : Prop := ∃ f, f ≤ 9 ∧ x = nI (48 + f)
theorem fig_of {x : Int32} (h1 : ¬ x < 48) (h2 : ¬ 57 < x) : Fig x := by
  rcases rng x 57 (by decide) with q | ⟨_, _, q⟩ | ⟨k, hk, rfl⟩
  · exact absurd (Int32.lt_trans q (by decide)) h1
  · exact absurd q h2
  · have : ¬ k < 48 := fun q => h1 ((nI_ltI (b := 48) (by omega) (by decide)).mpr q)
    exact ⟨k - 48, by omega, by rw [show 48 + (k - 48) = k by omega]⟩
theorem fig_v (f : Nat) : nI (48 + f) - (48 : Int32) = nI f := by
  rw [show (48 : Int32) = nI 48 from rfl, pk_sub (by omega), show 48 + f - 48 = f by omega]
theorem Tx.figs {t N : Nat} {L : Nat → Int32} {h g : Hp} (X : Tx t N L h g) {a m : Nat} (ha : a < N) (hm : m ≤ 3) (e : g.1 51 16 = nI a) (f10 : Int32 → Option (((Int32 × Hp) ⊕ (Int32)) ⊕ (Int32))) (hf : ∀ y, f10 y = if nI m < y then some (.inl (.inr y)) else ob (X10_isFigure (nI t) ((g.1 51 16) + y) g) fun r => if r = (0 : Int32) then some (.inl (.inl (((g.1 51 16) + y), g))) else lt_ (y + (1 : Int32)) fun v => some (.inr v)) :
    (∃ j, j ≤ N ∧ j < a + 1 + m ∧ X9_pastFigures (10 + t) (nI N) (nI (a + 1)) (nI m) h = some (nI j) ∧ lp f10 FU 1 = some (.inl (nI j, g))) ∨
    (a + 1 + m ≤ N ∧ X9_pastFigures (10 + t) (nI N) (nI (a + 1)) (nI m) h = some (nI (a + 1 + m)) ∧ (∃ y, lp f10 FU 1 = some (.inr y)) ∧ ∀ k, k < m → Fig (L (a + 1 + k))) := by
  have ht := X.1
  have hN := X.2.1
  obtain ⟨s, r, e1, e2, Q⟩ := lpp (f := fun s : Int32 => X9_pastFigures_s3 (10 + t) (nI N) (nI (a + 1)) (nI m) h s) (g := f10)
    (fun k s r => s = nI (a + 1 + k) ∧ r = nI (1 + k) ∧ a + 1 + k ≤ N ∧ ∀ k', k' < k → Fig (L (a + 1 + k')))
    (fun s r => (∃ j, j ≤ N ∧ j < a + 1 + m ∧ s = nI j ∧ r = .inl (nI j, g)) ∨ (a + 1 + m ≤ N ∧ s = nI (a + 1 + m) ∧ (∃ y, r = .inr y) ∧ ∀ k, k < m → Fig (L (a + 1 + k)))) m (by omega) (by
      rintro k s r hk ⟨rfl, rfl, g3, g4⟩
      show (∃ s' t', X9_pastFigures_s3 (10 + t) (nI N) (nI (a + 1)) (nI m) h (nI (a + 1 + k)) = some (.inr s') ∧ f10 (nI (1 + k)) = some (.inr t') ∧ _) ∨ ∃ x y, X9_pastFigures_s3 (10 + t) (nI N) (nI (a + 1)) (nI m) h (nI (a + 1 + k)) = some (.inl x) ∧ f10 (nI (1 + k)) = some (.inl y) ∧ _
      rw [hf, e, nI_add]
      unfold X9_pastFigures_s3 X10_isFigure
      rw [nI_add]
      by_cases c : k < m
      · rw [if_neg (nI_ge (by omega) (by omega)), if_neg (nI_nlt (by omega) (by omega))]
        by_cases c2 : a + 1 + k < N
        · rw [if_neg (nI_ge c2 (by omega)), sh_txts t ht, gd_ib (by omega) (by decide), ix_nI (by omega), X.2.2.2.2.1 _ c2, show a + (1 + k) = a + 1 + k by omega, X.in_ c2, ob_some]
          by_cases c3 : L (a + 1 + k) < 48
          · right
            rw [if_pos c3, in0 c3, ob_some, if_pos rfl]
            exact ⟨_, _, rfl, rfl, Or.inl ⟨a + 1 + k, by omega, by omega, rfl, rfl⟩⟩
          · rw [if_neg c3]
            by_cases c4 : 57 < L (a + 1 + k)
            · right
              rw [if_pos c4, in1 c4, ob_some, if_pos rfl]
              exact ⟨_, _, rfl, rfl, Or.inl ⟨a + 1 + k, by omega, by omega, rfl, rfl⟩⟩
            · left
              rw [if_neg c4, in2 c3 c4, ob_some, if_neg n10, lt_eq, lt_eq, nap_1, nap_1]
              refine ⟨_, _, rfl, rfl, c, rfl, rfl, by omega, fun k' hk' => ?_⟩
              by_cases e : k' = k
              · subst e; exact fig_of c3 c4
              · exact g4 k' (by omega)
        · right
          rw [if_pos (nI_le (by omega) (by omega)), X.out (by omega) (by omega), ob_some, show X10_in (-9) 48 57 = 0 by decide, ob_some, if_pos rfl, show a + (1 + k) = a + 1 + k by omega]
          exact ⟨_, _, rfl, rfl, Or.inl ⟨a + 1 + k, by omega, by omega, rfl, rfl⟩⟩
      · right
        have ek : k = m := by omega
        subst ek
        rw [if_pos (nI_le (by omega) (by omega)), if_pos (nI_lt (by omega) (by omega))]
        exact ⟨_, _, rfl, rfl, Or.inr ⟨by omega, rfl, ⟨_, rfl⟩, g4⟩⟩) (s := nI (a + 1)) (t := (1 : Int32)) ⟨rfl, rfl, by omega, fun k hk => absurd hk (by omega)⟩
  unfold X9_pastFigures
  rw [e1, ob_some, e2]
  rcases Q with ⟨j, q1, q2, rfl, rfl⟩ | ⟨q1, rfl, ⟨y, rfl⟩, q4⟩
  · exact Or.inl ⟨j, q1, q2, rfl, rfl⟩
  · exact Or.inr ⟨q1, rfl, ⟨y, rfl⟩, q4⟩
theorem kl_step {x : Int32} {h : Hp} {i : Nat} (hi : i < 6) : X9_kindOfLetter_s2 x h (nI i) = if lettersI i = x then some (.inl (.inl (nI i))) else some (.inr (nI (i + 1))) := by
  unfold X9_kindOfLetter_s2
  rw [if_neg (fun q => by have := (nel_6 (by omega)).mp q; omega), gd_ib hi (by decide), ix_nI (by omega), lt_eq, nap_1]
theorem kl_end {x : Int32} {h : Hp} : X9_kindOfLetter_s2 x h (nI 6) = some (.inl (.inr (nI 6))) := by
  unfold X9_kindOfLetter_s2
  rw [if_pos (by decide)]
theorem kind_c (x : Int32) (h : Hp) : (X9_kindOfLetter x h = some (-9) ∧ X10_kindOf x = -9) ∨ ∃ k, k < 6 ∧ X9_kindOfLetter x h = some (nI k) ∧ X10_kindOf x = nI k := by
  have S : ∀ i, i < 6 → (∀ j, j < i → ¬ lettersI j = x) → lp (fun s : Int32 => X9_kindOfLetter_s2 x h s) FU (0 : Int32) = lp (fun s : Int32 => X9_kindOfLetter_s2 x h s) (FU - i) (nI i) := by
    intro i
    induction i with
    | zero => intro _ _; rfl
    | succ i ih =>
      intro hi hl
      rw [ih (by omega) (fun j hj => hl j (by omega)), show FU - i = (FU - (i + 1)) + 1 by unfold FU; omega]
      exact lp_in (by show X9_kindOfLetter_s2 x h (nI i) = _; rw [kl_step (by omega), if_neg (hl i (by omega))])
  have F : ∀ i, i < 6 → (∀ j, j < i → ¬ lettersI j = x) → lettersI i = x → X9_kindOfLetter x h = some (nI i) := by
    intro i hi hl he
    unfold X9_kindOfLetter
    rw [S i hi hl, show FU - i = (FU - (i + 1)) + 1 by unfold FU; omega, lp_out (r := .inl (nI i)) (by show X9_kindOfLetter_s2 x h (nI i) = _; rw [kl_step hi, if_pos he])]
    rfl
  by_cases c0 : lettersI 0 = x
  · right; refine ⟨0, by decide, F 0 (by decide) (fun j hj => absurd hj (by omega)) c0, ?_⟩
    rw [← c0]; decide
  by_cases c1 : lettersI 1 = x
  · right; refine ⟨1, by decide, F 1 (by decide) (fun j hj => by rw [show j = 0 by omega]; exact c0) c1, ?_⟩
    rw [← c1]; decide
  by_cases c2 : lettersI 2 = x
  · right; refine ⟨2, by decide, F 2 (by decide) (fun j hj => by match j, hj with | 0, _ => exact c0 | 1, _ => exact c1) c2, ?_⟩
    rw [← c2]; decide
  by_cases c3 : lettersI 3 = x
  · right; refine ⟨3, by decide, F 3 (by decide) (fun j hj => by match j, hj with | 0, _ => exact c0 | 1, _ => exact c1 | 2, _ => exact c2) c3, ?_⟩
    rw [← c3]; decide
  by_cases c4 : lettersI 4 = x
  · right; refine ⟨4, by decide, F 4 (by decide) (fun j hj => by match j, hj with | 0, _ => exact c0 | 1, _ => exact c1 | 2, _ => exact c2 | 3, _ => exact c3) c4, ?_⟩
    rw [← c4]; decide
  have l5 : ∀ j, j < 5 → ¬ lettersI j = x := fun j hj => by match j, hj with | 0, _ => exact c0 | 1, _ => exact c1 | 2, _ => exact c2 | 3, _ => exact c3 | 4, _ => exact c4
  by_cases c5 : lettersI 5 = x
  · right; refine ⟨5, by decide, F 5 (by decide) l5 c5, ?_⟩
    rw [← c5]; decide
  left
  constructor
  · unfold X9_kindOfLetter
    rw [S 5 (by decide) l5, show FU - 5 = (FU - 7) + 1 + 1 by unfold FU; omega, lp_in (t := nI 6) (by show X9_kindOfLetter_s2 x h (nI 5) = _; rw [kl_step (by decide), if_neg c5]), lp_out (r := .inr (nI 6)) (by show X9_kindOfLetter_s2 x h (nI 6) = _; rw [kl_end])]
    rfl
  · unfold X10_kindOf
    rw [if_neg (fun q => c1 q.symm), if_neg (fun q => c2 q.symm), if_neg (fun q => c4 q.symm), if_neg (fun q => c5 q.symm), if_neg (fun q => c0 q.symm), if_neg (fun q => c3 q.symm)]
/-! in the midst of reading -/
def RD (z : ZS) (d : DS) (a : Nat) (h g : Hp) : Prop := ZOk z ∧ DOk z d ∧ FrAt z 23 d h ∧ g.1 51 19 = nI (zp z) ∧ g.1 51 17 = nI (zd z) ∧ g.1 51 18 = nI (zg z) ∧ (∀ i, i < zp z → g.1 60 i = nI (zk z i) ∧ g.1 61 i = nI (dp d i) ∧ g.1 62 i = nI (dh d i)) ∧ g.1 51 16 = nI a ∧ dc d = 0 ∧ da d = zd z ∧ dw d = 1 ∧ dr d = 0 ∧ dt d = 0
theorem RD.at_ {z : ZS} {d : DS} {a b : Nat} {h g g' : Hp} (R : RD z d a h g) (o : OffS g g') (e : g'.1 51 16 = nI b) : RD z d b h g' := by
  obtain ⟨r1, r2, r3, r4, r5, r6, r7, r8, r9⟩ := R
  refine ⟨r1, r2, r3, (o.2.1 19 (by decide)).trans r4, (o.2.1 17 (by decide)).trans r5, (o.2.1 18 (by decide)).trans r6, fun i hi => ?_, e, r9⟩
  rw [o.1 60 (by decide), o.1 61 (by decide), o.1 62 (by decide)]
  exact r7 i hi
theorem join_eq {z : ZS} {d : DS} {h : Hp} {k f v : Nat} (hp : zp z < 6) (F : FrAt z 23 d h) : ∃ h', X4_join 23 (nI k) (nI f) (nI v) h = some h' ∧ FrAt (zp z + 1, va_up (zk z) (zp z) k, zd z, zg z) 23 (va_up (dp d) (zp z) f, va_up (dh d) (zp z) v, dc d, da d, dw d, dr d, dt d) h' ∧ ScC h h' := by
  obtain ⟨a1, a2, a3, a4, a5, a6, a7, a8, a9, a10, a11⟩ := F
  have b4 : ∀ i, i < zp z → h.1 24 i = nI (zk z i) := a4
  have b5 : ∀ i, i < zp z → h.1 25 i = nI (dp d i) := a5
  have b6 : ∀ i, i < zp z → h.1 26 i = nI (dh d i) := a6
  unfold X4_join
  rw [a3, if_pos ((nlr_6 (by omega)).mpr hp), gd_ib hp (by decide), ix_nI (by omega), lt_eq]
  have e1 : (up h (23 + 1) (zp z) (nI k)).1 23 6 = nI (zp z) := by rw [up_ne (by decide), a3]
  rw [e1, gd_ib hp (by decide), ix_nI (by omega), lt_eq]
  have e2 : (up (up h (23 + 1) (zp z) (nI k)) (23 + 2) (zp z) (nI f)).1 23 6 = nI (zp z) := by rw [up_ne (by decide), e1]
  rw [e2, gd_ib hp (by decide), ix_nI (by omega), lt_eq]
  have e3 : (up (up (up h (23 + 1) (zp z) (nI k)) (23 + 2) (zp z) (nI f)) (23 + 3) (zp z) (nI v)).1 23 6 = nI (zp z) := by rw [up_ne (by decide), e2]
  rw [e3, nap_1, lt_eq]
  refine ⟨_, rfl, ⟨?_, ?_, ?_, fun i hi => ?_, fun i hi => ?_, fun i hi => ?_, ?_, ?_, ?_, ?_, ?_⟩, ScC.tr (ScC.tr (ScC.tr (ScC.up (by omega)) (ScC.up (by omega))) (ScC.up (by omega))) (ScC.up (by omega))⟩
  · simp (disch := omega) only [up_ne, up_at, up_off]; exact a1
  · simp (disch := omega) only [up_ne, up_at, up_off]; exact a2
  · simp (disch := omega) only [up_ne, up_at, up_off]
  · have hi : i < zp z + 1 := hi
    show _ = nI (va_up (zk z) (zp z) k i)
    by_cases c : i = zp z
    · subst c; simp (disch := omega) only [up_ne, up_at, up_off]; simp [va_up]
    · simp (disch := omega) only [up_ne, up_at, up_off]; rw [b4 i (by omega)]; simp [va_up, c]
  · have hi : i < zp z + 1 := hi
    show _ = nI (va_up (dp d) (zp z) f i)
    by_cases c : i = zp z
    · subst c; simp (disch := omega) only [up_ne, up_at, up_off]; simp [va_up]
    · simp (disch := omega) only [up_ne, up_at, up_off]; rw [b5 i (by omega)]; simp [va_up, c]
  · have hi : i < zp z + 1 := hi
    show _ = nI (va_up (dh d) (zp z) v i)
    by_cases c : i = zp z
    · subst c; simp (disch := omega) only [up_ne, up_at, up_off]; simp [va_up]
    · simp (disch := omega) only [up_ne, up_at, up_off]; rw [b6 i (by omega)]; simp [va_up, c]
  · simp (disch := omega) only [up_ne, up_at, up_off]; exact a7
  · simp (disch := omega) only [up_ne, up_at, up_off]; exact a8
  · simp (disch := omega) only [up_ne, up_at, up_off]; exact a9
  · simp (disch := omega) only [up_ne, up_at, up_off]; exact a10
  · simp (disch := omega) only [up_ne, up_at, up_off]; exact a11
theorem Tx.fg {t N : Nat} {L : Nat → Int32} {h g : Hp} (X : Tx t N L h g) {i f : Nat} (hi : i < N) (e : L i = nI (48 + f)) : X10_figure (nI t) (nI i) g = some (nI f) := by
  unfold X10_figure
  rw [X.in_ hi, ob_some, e, fig_v]
set_option maxHeartbeats 2000000 in
theorem Tx.one {t N : Nat} {L : Nat → Int32} {h g : Hp} {z : ZS} {d : DS} {a : Nat} (X : Tx t N L h g) (R : RD z d a h g) (ha : a < N) :
    (∃ e, e ≤ 60 ∧ X9_readOne (10 + t) (nI N) (nI a) h = some (nI e, h) ∧ X10_readOne (nI t) g = some (nI e, g)) ∨
    (∃ h' g' z' d', a + 4 ≤ N ∧ X9_readOne (10 + t) (nI N) (nI a) h = some (-9, h') ∧ X10_readOne (nI t) g = some (-9, g') ∧ RD z' d' (a + 4) h' g' ∧ zp z' = zp z + 1 ∧ zp z < 6 ∧ ScC h h' ∧ ScM g g') := by
  obtain ⟨r1, r2, r3, r4, r5, r6, r7, r8, r9⟩ := id R
  have hp := r1.1
  have ht := X.1
  have hN := X.2.1
  unfold X9_readOne X10_readOne
  rw [sh_txts t ht, gd_ib (by omega) (by decide), ix_nI (by omega), X.2.2.2.2.1 a ha, r8, X.in_ ha, ob_some, lt_eq]
  rcases kind_c (L a) h with ⟨k1, k2⟩ | ⟨k, hk, k1, k2⟩
  · left
    rw [k1, k2, ob_some, if_pos rfl, if_pos rfl]
    exact ⟨a, by omega, rfl, rfl⟩
  rw [k1, k2, ob_some, if_neg (nm9 (by omega)), if_neg (nm9 (by omega)), r3.2.2.1, r4]
  by_cases c6 : zp z = 6
  · left
    rw [if_pos (by rw [c6]; rfl), if_pos (by rw [c6]; rfl)]
    exact ⟨a, by omega, rfl, rfl⟩
  have cn6 : ¬ nI (zp z) = (6 : Int32) := fun q => c6 ((nq_6 (by omega)).mp q)
  rw [if_neg cn6, if_neg cn6, nap_1, nap_4, nap_2, nap_3, show (3 : Int32) = nI 3 from rfl]
  rcases X.figs (m := 3) ha (by decide) r8 (fun s : Int32 => X10_readOne_s35 (nI t) (nI k) g s) (fun y => rfl) with ⟨j, j1, j2, j3, j4⟩ | ⟨j1, j2, ⟨y, j3⟩, j4⟩
  · left
    rw [j3, j4, ob_some, if_neg (nI_ge (by omega) (by omega))]
    exact ⟨j, by omega, rfl, rfl⟩
  obtain ⟨f1, b1, l1⟩ := j4 0 (by decide)
  obtain ⟨f2, b2, l2⟩ := j4 1 (by decide)
  obtain ⟨f3, b3, l3⟩ := j4 2 (by decide)
  have l1 : L (a + 1) = nI (48 + f1) := l1
  have l2 : L (a + 2) = nI (48 + f2) := l2
  have l3 : L (a + 3) = nI (48 + f3) := l3
  have x1 := X.2.2.2.2.1 (a + 1) (by omega)
  have x2 := X.2.2.2.2.1 (a + 2) (by omega)
  have x3 := X.2.2.2.2.1 (a + 3) (by omega)
  rw [j2, j3, ob_some, if_pos (nI_le (by omega) (by omega)), gd_ib (by omega) (by decide), gd_ib (by omega) (by decide), ix_nI (by omega), ix_nI (by omega), ix_nI (by omega), x1, x2, x3, l1, l2, l3]
  show (∃ e, e ≤ 60 ∧ _ ∧ (ob (X10_figure (nI t) (nI (a + 2)) g) _) = _) ∨ (∃ h' g' z' d', a + 4 ≤ N ∧ _ ∧ (ob (X10_figure (nI t) (nI (a + 2)) g) _) = _ ∧ _)
  unfold X9_figure
  rw [X.fg (by omega) l2, ob_some, X.fg (by omega) l3, ob_some, fig_v, fig_v, fig_v, nml_10, nI_add, lt_eq, lt_eq]
  by_cases c30 : 10 * f2 + f3 ≤ 30
  · right
    obtain ⟨h', e1, F', s1⟩ := join_eq (k := k) (f := f1) (v := 10 * f2 + f3) (by omega) r3
    have Xg := X.sc ScC.rf (ScM.u60 (g := g) (i := 60) (k := zp z) (v := nI k) (by decide))
    have q1 : (up g 60 (zp z) (nI k)).1 51 16 = nI a := by rw [up_ne (by decide), r8]
    have q2 : (up g 60 (zp z) (nI k)).1 51 19 = nI (zp z) := by rw [up_ne (by decide), r4]
    have q3 : ∀ v, (up (up g 60 (zp z) (nI k)) 61 (zp z) v).1 51 19 = nI (zp z) := fun v => by rw [up_ne (by decide), q2]
    rw [if_pos ((ner_30 (by omega)).mpr c30), if_pos ((ner_30 (by omega)).mpr c30), gd_ib (by omega) (by decide), e1, ob_some, gd_ib (by omega) (by decide), ix_nI (by omega), lt_eq, q1, nap_1, Xg.fg (by omega) l1, ob_some, q2, gd_ib (by omega) (by decide), ix_nI (by omega), lt_eq, q3, gd_ib (by omega) (by decide), ix_nI (by omega), lt_eq, lt_eq, lt_eq]
    refine ⟨_, _, (zp z + 1, va_up (zk z) (zp z) k, zd z, zg z), (va_up (dp d) (zp z) f1, va_up (dh d) (zp z) (10 * f2 + f3), dc d, da d, dw d, dr d, dt d), by omega, rfl, rfl, ⟨⟨by show zp z + 1 ≤ 6; omega, fun i hi => ?_, r1.2.2⟩, ⟨fun i hi => ?_, fun i hi => ?_, r2.2.2⟩, F', ?_, ?_, ?_, fun i hi => ?_, ?_, r9⟩, rfl, by omega, s1, ScM.tr (ScM.tr (ScM.tr (ScM.tr (ScM.u60 (by decide)) (ScM.u60 (by decide))) (ScM.u60 (by decide))) (ScM.u51 (by decide))) (ScM.u51 (by decide))⟩
    · have hi : i < zp z + 1 := hi
      show va_up (zk z) (zp z) k i < 6
      unfold va_up
      split
      · exact hk
      · exact r1.2.1 i (by omega)
    · have hi : i < zp z + 1 := hi
      show va_up (dp d) (zp z) f1 i ≤ 9
      unfold va_up
      split
      · exact b1
      · exact r2.1 i (by omega)
    · have hi : i < zp z + 1 := hi
      show va_up (dh d) (zp z) (10 * f2 + f3) i ≤ 30
      unfold va_up
      split
      · exact c30
      · exact r2.2.1 i (by omega)
    · simp (disch := omega) only [up_ne, up_at, up_off]; rw [r4, nap_1]
    · simp (disch := omega) only [up_ne, up_at, up_off]; exact r5
    · simp (disch := omega) only [up_ne, up_at, up_off]; exact r6
    · have hi : i < zp z + 1 := hi
      show _ = nI (va_up (zk z) (zp z) k i) ∧ _ = nI (va_up (dp d) (zp z) f1 i) ∧ _ = nI (va_up (dh d) (zp z) (10 * f2 + f3) i)
      by_cases c : i = zp z
      · subst c
        simp (disch := omega) only [up_ne, up_at, up_off]
        simp [va_up]
      · simp (disch := omega) only [up_ne, up_at, up_off]
        obtain ⟨w1, w2, w3⟩ := r7 i (by omega)
        rw [w1, w2, w3]
        simp [va_up, c]
    · simp (disch := omega) only [up_ne, up_at, up_off]; rw [r8, nap_4]
  · left
    rw [if_neg (fun q => c30 ((ner_30 (by omega)).mp q)), if_neg (fun q => c30 ((ner_30 (by omega)).mp q))]
    exact ⟨a + 2, by omega, rfl, rfl⟩
set_option maxHeartbeats 2000000 in
theorem Tx.loop {t N : Nat} {L : Nat → Int32} {h g : Hp} {z : ZS} {d : DS} {a : Nat} (X : Tx t N L h g) (R : RD z d a h g) (ha : a ≤ N) (h0 : zp z = 0) :
    ∃ s r, lp (fun s : Int32 × Int32 × Hp => X9_readFront_s103 (10 + t) (nI N) s.1 s.2.1 s.2.2) FU (nI a, (0 : Int32), h) = some s ∧ lp (fun s : Hp => X10_faultOf_s113 (nI t) s) FU g = some r ∧
    ((∃ e h' g', e ≤ 60 ∧ s = .inl (nI e, h') ∧ r = .inl (nI e, g') ∧ ScC h h' ∧ ScM g g') ∨
    (∃ y1 y2 h' g', s = .inr (y1, y2, h') ∧ h'.1 23 6 = 0 ∧ r = .inl (nI N, g') ∧ ScC h h' ∧ ScM g g') ∨
    (∃ y1 y2 h' g' z d, s = .inr (y1, y2, h') ∧ r = .inr g' ∧ 0 < zp z ∧ RD z d N h' g' ∧ ScC h h' ∧ ScM g g')) := by
  have ht := X.1
  have hN := X.2.1
  refine lpp (f := fun s : Int32 × Int32 × Hp => X9_readFront_s103 (10 + t) (nI N) s.1 s.2.1 s.2.2) (g := fun s : Hp => X10_faultOf_s113 (nI t) s)
    (fun k s r => ∃ z d a, a ≤ N ∧ s.1 = nI a ∧ s.2.1 = nI k ∧ zp z = k ∧ RD z d a s.2.2 r ∧ ScC h s.2.2 ∧ ScM g r) _ 6 (by omega) ?_ (s := (nI a, (0 : Int32), h)) (t := g) ⟨z, d, a, ha, rfl, rfl, h0, R, ScC.rf, ScM.rf⟩
  rintro k ⟨s1, s2, s3⟩ r hk ⟨z, d, a, g1, g2, g3, g4, g5, g6, g7⟩
  cases g2; cases g3
  have g5 : RD z d a s3 r := g5
  have g6 : ScC h s3 := g6
  have Xr := X.sc g6 g7
  show (∃ s' t', X9_readFront_s103 (10 + t) (nI N) (nI a) (nI k) s3 = some (.inr s') ∧ X10_faultOf_s113 (nI t) r = some (.inr t') ∧ _) ∨ ∃ x y, X9_readFront_s103 (10 + t) (nI N) (nI a) (nI k) s3 = some (.inl x) ∧ X10_faultOf_s113 (nI t) r = some (.inl y) ∧ _
  unfold X9_readFront_s103 X10_faultOf_s113
  rw [if_neg (fun q => by have := (nll_6 (by omega)).mp q; omega), gd_ib ht (by decide), ix_nI (by omega), Xr.2.2.2.1, g5.2.2.2.2.2.2.2.1]
  by_cases c : a < N
  · rw [if_neg (nI_ge c (by omega)), if_pos (nI_lt c (by omega))]
    rcases Xr.one g5 c with ⟨e, e0, e1, e2⟩ | ⟨h', g', z', d', e0, e1, e2, R', p', p6, s1, s2⟩
    · right
      rw [e1, e2, ob2_some, ob2_some, if_neg (nm9 (by omega)), if_neg (nm9 (by omega))]
      exact ⟨_, _, rfl, rfl, Or.inl ⟨e, s3, r, e0, rfl, rfl, g6, g7⟩⟩
    · left
      obtain ⟨j, g'', j1, j2, j3, j4, j5, j6⟩ := (Xr.sc s1 s2).skip e0 R'.2.2.2.2.2.2.2.1
      rw [e1, e2, ob2_some, ob2_some, if_pos rfl, if_pos rfl, nap_4, j3, j4, ob_some, ob_some, lt_eq, nap_1]
      exact ⟨_, _, rfl, rfl, by omega, z', d', j, j2, rfl, rfl, by omega, R'.at_ j6 j5, g6.tr s1, (g7.tr s2).tr j6.sc⟩
  · right
    have ea : a = N := by omega
    subst ea
    rw [if_pos (nI_le (by omega) (by omega)), if_neg (nI_nlt (by omega) (by omega)), g5.2.2.2.1]
    by_cases c0 : zp z = 0
    · rw [if_pos (by rw [c0]; rfl)]
      have e2 : X10_readOne (nI t) r = some (nI a, r) := by
        unfold X10_readOne
        rw [g5.2.2.2.2.2.2.2.1, Xr.out (Nat.le_refl _) (by omega), ob_some, lt_eq, show X10_kindOf (-9) = -9 by decide, if_pos rfl]
      rw [e2, ob2_some, if_neg (nm9 (by omega))]
      refine ⟨_, _, rfl, rfl, Or.inr (Or.inl ⟨_, _, s3, r, rfl, ?_, rfl, g6, g7⟩)⟩
      rw [g5.2.2.1.2.2.1, c0]; rfl
    · rw [if_neg (fun q => c0 ((nq_0 (by have := g5.1.1; omega)).mp q))]
      exact ⟨_, _, rfl, rfl, Or.inr (Or.inr ⟨_, _, s3, r, z, d, rfl, rfl, by omega, g5, g6, g7⟩)⟩
theorem begin_eq (h : Hp) (a b : Nat) : ∃ h', X4_begin 23 (nI a) (nI b) h = some h' ∧ FrAt (0, (fun _ => 0), a, b) 23 ((fun _ => 0), (fun _ => 0), 0, a, 1, 0, 0) h' ∧ ScC h h' := by
  unfold X4_begin
  simp only [lt_eq]
  refine ⟨_, rfl, ⟨?_, ?_, ?_, fun i hi => absurd hi (Nat.not_lt_zero _), fun i hi => absurd hi (Nat.not_lt_zero _), fun i hi => absurd hi (Nat.not_lt_zero _), ?_, ?_, ?_, ?_, ?_⟩, ⟨fun i hi => by simp (disch := omega) only [up_ne], rfl⟩⟩
  · simp (disch := omega) only [up_at, up_off]
  · simp (disch := omega) only [up_at, up_off]
  · simp (disch := omega) only [up_at, up_off]; rfl
  · simp (disch := omega) only [up_at, up_off]; rfl
  · simp (disch := omega) only [up_at, up_off]
  · simp (disch := omega) only [up_at, up_off]; rfl
  · simp (disch := omega) only [up_at, up_off]; rfl
  · simp (disch := omega) only [up_at, up_off]; rfl
set_option maxHeartbeats 2000000 in
theorem Tx.read {t N : Nat} {L : Nat → Int32} {h g : Hp} (X : Tx t N L h g) : ∃ h' g', ScC h h' ∧ ScM g g' ∧ ((∃ e, e ≤ 60 ∧ X9_readFront (nI t) h = some (nI e, h') ∧ X10_faultOf (nI t) g = some (nI e, g')) ∨ (∃ z d, X9_readFront (nI t) h = some (-9, h') ∧ X10_faultOf (nI t) g = some (-9, g') ∧ RD z d N h' g')) := by
  have ht := X.1
  have hN := X.2.1
  have m3 : ScM g (up (up g 51 16 0) 51 19 0) := ScM.tr (ScM.u51 (by decide)) (ScM.u51 (by decide))
  have X3 := X.sc ScC.rf m3
  obtain ⟨a, g6, j1, ha, e1, e2, e3, o6⟩ := X3.skip (i := 0) (Nat.zero_le _) (by rw [up_off (by decide), up_at]; rfl)
  have m6 := m3.tr o6.sc
  have X6 := X.sc ScC.rf m6
  have p6 : g6.1 51 19 = 0 := by rw [o6.2.1 19 (by decide), up_at]
  have e1 : X9_pastBlanks (10 + t) (nI N) (0 : Int32) h = some (nI a) := e1
  unfold X9_readFront X10_faultOf
  rw [gd_ib ht (by decide), ix_nI (by omega), X.2.2.1, lt_eq, lt_eq, lt_eq, e1, e2, ob_some, ob_some, e3]
  by_cases c : a < N
  · rw [if_neg (nI_ge c (by omega)), gd_ib (by omega) (by decide), ix_nI (by omega), X.2.2.2.2.1 a c, X6.in_ c, ob_some]
    by_cases c1 : L a = 100
    · rw [if_pos c1, if_pos c1, nap_1, nap_2, nap_3, show (2 : Int32) = nI 2 from rfl]
      rcases X6.figs (m := 2) c (by decide) e3 (fun s : Int32 => X10_faultOf_s36 (nI t) g6 s) (fun y => rfl) with ⟨j, j1, j2, j3, j4⟩ | ⟨j1, j2, ⟨y, j3⟩, j4⟩
      · rw [j3, j4, ob_some, if_neg (nI_ge (by omega) (by omega))]
        exact ⟨h, g6, ScC.rf, m6, Or.inl ⟨j, by omega, rfl, rfl⟩⟩
      obtain ⟨f1, b1, l1⟩ := j4 0 (by decide)
      obtain ⟨f2, b2, l2⟩ := j4 1 (by decide)
      have l1 : L (a + 1) = nI (48 + f1) := l1
      have l2 : L (a + 2) = nI (48 + f2) := l2
      have x1 := X.2.2.2.2.1 (a + 1) (by omega)
      have x2 := X.2.2.2.2.1 (a + 2) (by omega)
      obtain ⟨h15, y1, F15, s15⟩ := begin_eq h f1 f2
      have m19 : ScM g6 (up g6 51 17 (nI f1)) := ScM.u51 (by decide)
      have X19 := X6.sc ScC.rf m19
      have q19 : (up g6 51 17 (nI f1)).1 51 16 = nI a := by rw [up_off (by decide), e3]
      have q23 : (up (up g6 51 17 (nI f1)) 51 18 (nI f2)).1 51 16 = nI a := by rw [up_off (by decide), q19]
      have m25 : ScM g6 (up (up (up g6 51 17 (nI f1)) 51 18 (nI f2)) 51 16 (nI (a + 3))) := (m19.tr (ScM.u51 (by decide))).tr (ScM.u51 (by decide))
      have X25 := X6.sc s15 m25
      obtain ⟨b, g28, k1, hb, y2, y3, y4, o28⟩ := X25.skip (i := a + 3) (by omega) up_at
      have R28 : RD (0, (fun _ => 0), f1, f2) ((fun _ => 0), (fun _ => 0), 0, f1, 1, 0, 0) b h15 g28 := by
        refine ⟨⟨Nat.zero_le _, fun i hi => absurd hi (Nat.not_lt_zero _), b1, b2⟩, ⟨fun i hi => absurd hi (Nat.not_lt_zero _), fun i hi => absurd hi (Nat.not_lt_zero _), Nat.zero_le _, b1, by show 1 ≤ 2; decide, Nat.zero_le _⟩, F15, ?_, ?_, ?_, fun i hi => absurd hi (Nat.not_lt_zero _), y4, rfl, rfl, rfl, rfl, rfl⟩
        · rw [o28.2.1 19 (by decide)]; simp (disch := omega) only [up_at, up_off]; exact p6
        · rw [o28.2.1 17 (by decide)]; simp (disch := omega) only [up_at, up_off]
        · rw [o28.2.1 18 (by decide)]; simp (disch := omega) only [up_at, up_off]
      obtain ⟨s, r, z1, z2, Q⟩ := (X25.sc ScC.rf o28.sc).loop R28 hb rfl
      have y2 : X9_pastBlanks (10 + t) (nI N) (nI (a + 3)) h15 = some (nI b) := y2
      unfold X9_figure
      rw [j2, j3, ob_some, if_pos (nI_le (by omega) (by omega)), gd_ib (by omega) (by decide), gd_ib (by omega) (by decide), ix_nI (by omega), ix_nI (by omega), x1, x2, l1, l2, fig_v, fig_v, y1, ob_some, y2, ob_some, z1]
      show ∃ h' g', ScC h h' ∧ ScM g g' ∧ ((∃ e, e ≤ 60 ∧ _ ∧ (ob (X10_figure (nI t) (nI (a + 1)) g6) _) = _) ∨ (∃ z d, _ ∧ (ob (X10_figure (nI t) (nI (a + 1)) g6) _) = _ ∧ _))
      rw [X6.fg (by omega) l1, ob_some, lt_eq, q19, show nI a + nI 2 = nI (a + 2) from nI_add a 2, X19.fg (by omega) l2, ob_some, lt_eq, q23, nap_3, lt_eq, y3, ob_some, z2]
      have mm : ScM g g28 := (m6.tr m25).tr o28.sc
      rcases Q with ⟨e, h', g', q0, rfl, rfl, q1, q2⟩ | ⟨v1, v2, h', g', rfl, q0, rfl, q1, q2⟩ | ⟨v1, v2, h', g', z', d', rfl, rfl, q0, RR', q1, q2⟩
      · exact ⟨h', g', s15.tr q1, mm.tr q2, Or.inl ⟨e, q0, rfl, rfl⟩⟩
      · refine ⟨h', g', s15.tr q1, mm.tr q2, Or.inl ⟨N, hN, ?_, rfl⟩⟩
        show (if h'.1 23 6 = (0 : Int32) then _ else _) = _
        rw [if_pos q0]
      · refine ⟨h', g', s15.tr q1, mm.tr q2, Or.inr ⟨z', d', ?_, rfl, RR'⟩⟩
        show (if h'.1 23 6 = (0 : Int32) then _ else _) = _
        rw [RR'.2.2.1.2.2.1, if_neg (fun q => absurd ((nq_0 (by have := RR'.1.1; omega)).mp q) (by omega))]
    · rw [if_neg c1, if_neg c1]
      exact ⟨h, g6, ScC.rf, m6, Or.inl ⟨a, by omega, rfl, rfl⟩⟩
  · rw [if_pos (nI_le (by omega) (by omega)), X6.out (by omega) (by omega), ob_some, if_neg (by decide)]
    exact ⟨h, g6, ScC.rf, m6, Or.inl ⟨a, by omega, rfl, rfl⟩⟩
/-- a text that is there, or what is answered -/
theorem RZ.text_c {u w : Hp} {z : ZS} {d0 : DS} {cs : Nat → Nat} {n : Nat} {h g : Hp} (H : RZ u w z d0 cs n h g) (a : Int32) : (X9_refusedText a h = some (-1, h) ∧ X10_isText a = 0) ∨ (∃ t h' g', t < 4 ∧ a = nI t ∧ X9_refusedText a h = some (-3, h') ∧ X10_isText a = 1 ∧ g.1 58 t = -9 ∧ X10_find 1 g = some (-3, g') ∧ RZ u w z d0 cs n h' g') ∨ (∃ t N L, a = nI t ∧ X9_refusedText a h = some (0, h) ∧ X10_isText a = 1 ∧ ¬ g.1 58 t = -9 ∧ Tx t N L h g) := by
  unfold X9_refusedText
  rcases isText_c a with ⟨q1, q2⟩ | ⟨t, ht, rfl, q1, q2⟩
  · left; rw [q1, if_pos rfl]; exact ⟨rfl, q2⟩
  right
  rw [q1, if_neg n10, gd_ib ht (by decide), ix_nI (by omega)]
  rcases H.2.1 t ht with ⟨x1, x2⟩ | ⟨N, hN, x1, x2, x3⟩
  · left
    obtain ⟨h', g', e1, e2, H'⟩ := H.find 1 (by decide)
    rw [x1, if_pos rfl, show (1 : Int32) = nI 1 from rfl, e1, ob2_some]
    exact ⟨t, h', g', ht, rfl, rfl, q2, x2, e2, H'⟩
  · right
    rw [x1, if_neg (nm1 (by omega))]
    exact ⟨t, N, fun i => g.1 57 (60 * t + i), rfl, rfl, q2, by rw [x2]; exact nm9 (by omega), ht, hN, x1, x2, x3, fun _ _ => rfl⟩
theorem k_fault (a1 : Int32) : Lk (X9_fault a1) (X10_fault a1) := by
  rintro u w h g ⟨z, d0, cs, n, H⟩
  unfold X9_fault X10_fault
  rcases H.text_c a1 with ⟨q1, q2⟩ | ⟨t, h', g', ht, rfl, q1, q2, q3, q4, H'⟩ | ⟨t, N, L, rfl, q1, q2, q3, X⟩
  · rw [q1, q2, ob2_some, if_neg (by decide), if_pos rfl]; exact ⟨_, _, _, rfl, rfl, H.rr⟩
  · rw [q1, q2, ob2_some, if_neg (by decide), if_neg n10, gd_ib ht (by decide), ix_nI (by omega), q3, if_pos rfl, q4, ob2_some]; exact ⟨_, _, _, rfl, rfl, H'.rr⟩
  · have ht := X.1
    rw [q1, q2, ob2_some, if_pos rfl, if_neg n10, gd_ib ht (by decide), ix_nI (by omega), if_neg q3]
    obtain ⟨h', g', s1, s2, ⟨e, e0, e1, e2⟩ | ⟨z', d', e1, e2, _⟩⟩ := X.read
    · rw [e1, e2, ob2_some, ob2_some]; exact ⟨_, _, _, rfl, rfl, (H.sc s1 s2).rr⟩
    · rw [e1, e2, ob2_some, ob2_some]; exact ⟨_, _, _, rfl, rfl, (H.sc s1 s2).rr⟩
