def sv (d : DS) (s : Nat) : Nat → Nat
  | 0 => 0
  | i + 1 => sv d s i + (if s.testBit i then dh d i else 0)
theorem RZ.inS {u w : Hp} {z : ZS} {d0 : DS} {cs : Nat → Nat} {n : Nat} {h g : Hp} (H : RZ u w z d0 cs n h g) {s : Nat} (hs : s < 64) : X4_inSet 19 (nI s) h = some (nI (sv (rn z d0 cs n) s (zp z))) ∧ X10_haveOf (nI s) g = some (nI (sv (rn z d0 cs n) s (zp z))) := by
  have hp := H.zok.1
  have h40 := H.n40
  obtain ⟨⟨s1, s2⟩, ⟨t1, t2⟩, e1, e2, q1, q2⟩ := lpp (f := fun q : Int32 × Int32 => X4_inSet_s4 19 (nI s) h q.1 q.2) (g := fun q : Int32 × Int32 => X10_haveOf_s4 (nI s) g q.1 q.2)
    (fun i q t => q.1 = nI (sv (rn z d0 cs n) s i) ∧ t.1 = nI (sv (rn z d0 cs n) s i) ∧ q.2 = nI i ∧ t.2 = nI i) (fun q t => q.1 = nI (sv (rn z d0 cs n) s (zp z)) ∧ t.1 = nI (sv (rn z d0 cs n) s (zp z))) (zp z) (by omega) (by
      rintro i ⟨s1, s2⟩ ⟨t1, t2⟩ hi ⟨g1, g2, g3, g4⟩
      cases g1; cases g2; cases g3; cases g4
      show (∃ s' t', X4_inSet_s4 19 (nI s) h (nI (sv (rn z d0 cs n) s i)) (nI i) = some (.inr s') ∧ X10_haveOf_s4 (nI s) g (nI (sv (rn z d0 cs n) s i)) (nI i) = some (.inr t') ∧ _) ∨ ∃ a b, X4_inSet_s4 19 (nI s) h (nI (sv (rn z d0 cs n) s i)) (nI i) = some (.inl a) ∧ X10_haveOf_s4 (nI s) g (nI (sv (rn z d0 cs n) s i)) (nI i) = some (.inl b) ∧ _
      unfold X4_inSet_s4 X10_haveOf_s4
      rw [H.p9, H.p10, H.now]
      by_cases ci : i < zp z
      · left
        rw [if_neg (nI_ge ci (by omega)), if_neg (nI_ge ci (by omega)), nap_6, nI_add, gd_ib (by omega) (by decide), gd_ib (by omega) (by decide), ix_nI (by omega), ix_nI (by omega), H.row.2.1 i ci, show h.1 (19 + 3) i = nI _ from H.f19.2.2.2.2.2.1 i ci]
        have es : sv (rn z d0 cs n) s (i + 1) = sv (rn z d0 cs n) s i + (if s.testBit i then dh (rn z d0 cs n) i else 0) := rfl
        rcases has1 hs (show i < 6 by omega) with ⟨b1, b2, b3⟩ | ⟨b1, b2, b3⟩
        · rw [b3, if_pos rfl] at es
          rw [if_pos b1, if_neg b2, lt_eq, ob_some, ob_some, nI_add, ← es, lt_eq, lt_eq, lt_eq]
          exact ⟨_, _, rfl, rfl, ci, rfl, rfl, nap_1 i, nap_1 i⟩
        · rw [b3, if_neg (by decide)] at es
          have es := es.trans (Nat.add_zero _)
          rw [if_neg b1, if_pos b2, ob_some, ob_some, Int32.add_zero, ← es, lt_eq, lt_eq, lt_eq]
          exact ⟨_, _, rfl, rfl, ci, rfl, rfl, nap_1 i, nap_1 i⟩
      · right
        have e : i = zp z := by omega
        subst e
        rw [if_pos (nI_le (by omega) (by omega)), if_pos (nI_le (by omega) (by omega))]
        exact ⟨_, _, rfl, rfl, rfl, rfl⟩) (s := ((0 : Int32), (0 : Int32))) (t := ((0 : Int32), (0 : Int32))) ⟨rfl, rfl, rfl, rfl⟩
  have q1 : s1 = _ := q1
  have q2 : t1 = _ := q2
  unfold X4_inSet X10_haveOf
  rw [e1, e2, ob2_some, ob2_some, q1, q2]
  exact ⟨rfl, rfl⟩
/-! how many, and the first -/
def ctB (B : Nat → Prop) [DecidablePred B] : Nat → Nat
  | 0 => 0
  | k + 1 => ctB B k + (if B k then 1 else 0)
def fsB (B : Nat → Prop) [DecidablePred B] : Nat → Int32
  | 0 => -9
  | k + 1 => if B k ∧ fsB B k = -9 then nI k else fsB B k
def cdB (B : Nat → Prop) [DecidablePred B] (N : Nat) : Nat → Nat
  | 0 => 0
  | i + 1 => cdB B N i + (if B (N - 1 - i) then 1 else 0)
def ldB (B : Nat → Prop) [DecidablePred B] (N : Nat) : Nat → Int32
  | 0 => -9
  | i + 1 => if B (N - 1 - i) then nI (N - 1 - i) else ldB B N i
theorem ct_cd (B : Nat → Prop) [DecidablePred B] (N : Nat) : ∀ i, i ≤ N → ctB B (N - i) + cdB B N i = ctB B N := by
  intro i
  induction i with
  | zero => intro _; rfl
  | succ i ih =>
    intro hi
    have := ih (by omega)
    rw [show N - i = (N - 1 - i) + 1 by omega] at this
    have e1 : ctB B (N - 1 - i + 1) = ctB B (N - 1 - i) + (if B (N - 1 - i) then 1 else 0) := rfl
    have e2 : cdB B N (i + 1) = cdB B N i + (if B (N - 1 - i) then 1 else 0) := rfl
    rw [show N - (i + 1) = N - 1 - i by omega]
    omega
theorem fs_ld (B : Nat → Prop) [DecidablePred B] (N : Nat) (hN : N < 2 ^ 31) : ∀ i, i ≤ N → (fsB B (N - i) = -9 → fsB B N = ldB B N i) ∧ (¬ fsB B (N - i) = -9 → fsB B N = fsB B (N - i)) := by
  intro i
  induction i with
  | zero => intro _; exact ⟨fun h => h, fun _ => rfl⟩
  | succ i ih =>
    intro hi
    obtain ⟨h1, h2⟩ := ih (by omega)
    rw [show N - i = (N - 1 - i) + 1 by omega] at h1 h2
    rw [show N - (i + 1) = N - 1 - i by omega]
    have e1 : fsB B (N - 1 - i + 1) = if B (N - 1 - i) ∧ fsB B (N - 1 - i) = -9 then nI (N - 1 - i) else fsB B (N - 1 - i) := rfl
    have e2 : ldB B N (i + 1) = if B (N - 1 - i) then nI (N - 1 - i) else ldB B N i := rfl
    constructor
    · intro h9
      rw [e2]
      by_cases c : B (N - 1 - i)
      · rw [if_pos ⟨c, h9⟩] at e1
        rw [if_pos c, h2 (by rw [e1]; exact nm9 (by omega)), e1]
      · rw [if_neg (fun q => c q.1)] at e1
        rw [if_neg c]
        exact h1 (by rw [e1]; exact h9)
    · intro h9
      rw [if_neg (fun q => h9 q.2)] at e1
      rw [← e1]
      exact h2 (by rw [e1]; exact h9)
theorem cdiv1 (m : Nat) (hm : m < 2 ^ 31) : X9_commonDivisor (lN m) 1 = some 1 := by
  unfold X9_commonDivisor
  obtain ⟨⟨r1, r2, r3⟩, e, q⟩ := lp_all (step := fun s : Int64 × Int64 × Int32 => X9_commonDivisor_s9 s.1 s.2.1 s.2.2)
    (fun i s => (i = 0 ∧ s = (lN m, 1, 0)) ∨ (i = 1 ∧ s = (1, 0, 1))) (fun r => r.1 = 1) 1 (by omega) (by
      rintro i s hi (⟨_, rfl⟩ | ⟨h1, _⟩)
      · show ∃ t, X9_commonDivisor_s9 (lN m) 1 0 = some (.inr t) ∧ _
        unfold X9_commonDivisor_s9
        rw [if_neg (by decide), if_neg (by decide), gd_true (by decide), show lrm (lN m) 1 = 0 by
          have := pk_lRem (a := m) (b := 1) (by omega) (by decide) (by decide)
          rw [Nat.mod_one] at this
          exact this]
        exact ⟨_, rfl, Or.inr ⟨by omega, rfl⟩⟩
      · omega) (by
      rintro s (⟨h1, _⟩ | ⟨_, rfl⟩)
      · omega
      · show ∃ t, X9_commonDivisor_s9 1 0 1 = some (.inl t) ∧ _
        unfold X9_commonDivisor_s9
        rw [if_neg (by decide), if_pos (by decide)]
        exact ⟨_, rfl, rfl⟩) (s := (lN m, (1 : Int64), (0 : Int32))) (Or.inl ⟨rfl, rfl⟩)
  have q : r1 = 1 := q
  rw [e, ob3_some, q]
theorem RZ.parts {u w : Hp} {z : ZS} {d0 : DS} {cs : Nat → Nat} {n : Nat} {h g : Hp} (H : RZ u w z d0 cs n h g) (a b : Int64) : RZ u w z d0 cs n (upL (upL h 0 13 a) 0 14 b) (upL (upL g 51 14 a) 51 15 b) := by
  refine H.tl (fun _ _ _ => rfl) (fun i hi => by rw [upL_ne hi, upL_ne hi]) (fun _ _ _ => rfl) (fun _ _ => rfl) (fun i hi => by rw [upL_ne hi, upL_ne hi]) ?_
  obtain ⟨t1, t2, t3, t4, t5⟩ := H.2.2.1
  exact ⟨t1, t2, t3, by rw [upL_off (by decide), upL_at, upL_off (by decide), upL_at], by rw [upL_at, upL_at]⟩
theorem k_sets (a1 : Int32) : Lk (X9_sets a1) (X10_sets a1) := by
  rintro u w h g ⟨z, d0, cs, n, H⟩
  have hp := H.zok.1
  have h64 := p2_le hp
  have h1p : 0 < 2 ^ zp z := Nat.two_pow_pos _
  unfold X9_sets X10_sets
  rcases rng a1 180 (by decide) with q | ⟨q1, q2, q3⟩ | ⟨v, hv, rfl⟩
  · rw [if_pos q, in0 q, if_pos rfl]; exact ⟨_, _, _, rfl, rfl, H.rr⟩
  · rw [if_neg q1, if_neg (show ¬ a1 ≤ 180 from q2), in1 (show 180 < a1 from q3), if_pos rfl]; exact ⟨_, _, _, rfl, rfl, H.rr⟩
  rw [if_neg (nI_pos (by omega)), if_pos ((ner_180 (by omega)).mpr hv), in2 (nI_pos (by omega)) (fun q => by have := (nll_180 (by omega)).mp q; omega), if_neg n10, H.p9, H.p10]
  by_cases c : nI (zp z) = (0 : Int32)
  · rw [if_pos c, if_pos c]; exact ⟨_, _, _, rfl, rfl, H.rr⟩
  rw [if_neg c, if_neg c, sh1 _ (by omega), show (1 : Int32) = nI 1 from rfl, pk_sub (by omega), show nI 1 = (1 : Int32) from rfl, lt_eq]
  let B : Nat → Prop := fun s => nI (sv (rn z d0 cs n) s (zp z)) = nI v
  have ctle : ∀ k, ctB B k ≤ k := by
    intro k
    induction k with
    | zero => exact Nat.le_refl _
    | succ k ih =>
      show ctB B k + (if B k then 1 else 0) ≤ k + 1
      split <;> omega
  obtain ⟨⟨s1, s2, s3⟩, e1, q1, q2⟩ := lp_all (step := fun s : Int32 × Int32 × Int32 => X9_sets_s34 (nI v) h s.1 s.2.1 s.2.2)
    (fun k s => s.1 = nI (ctB B k) ∧ s.2.1 = fsB B k ∧ s.2.2 = nI k) (fun s => s.1 = nI (ctB B (2 ^ zp z)) ∧ s.2.1 = fsB B (2 ^ zp z)) (2 ^ zp z) (by omega) (by
      rintro k ⟨s1, s2, s3⟩ hk ⟨g1, g2, g3⟩
      cases g1; cases g2; cases g3
      show ∃ t, X9_sets_s34 (nI v) h (nI (ctB B k)) (fsB B k) (nI k) = some (.inr t) ∧ _
      unfold X9_sets_s34
      rw [H.p9, sh1 _ (by omega), if_neg (nI_ge hk (by omega)), (H.inS (s := k) (by omega)).1, ob_some]
      have e1 : ctB B (k + 1) = ctB B k + (if B k then 1 else 0) := rfl
      have e2 : fsB B (k + 1) = if B k ∧ fsB B k = -9 then nI k else fsB B k := rfl
      by_cases cb : nI (sv (rn z d0 cs n) k (zp z)) = nI v
      · rw [if_pos (show B k from cb)] at e1
        rw [if_pos cb, nap_1, ← e1, lt_eq]
        by_cases c9 : fsB B k = -9
        · rw [if_pos c9, ob2_some]
          rw [if_pos ⟨cb, c9⟩] at e2
          exact ⟨_, rfl, rfl, e2.symm, nap_1 k⟩
        · rw [if_neg c9, ob2_some]
          rw [if_neg (fun q => c9 q.2)] at e2
          exact ⟨_, rfl, rfl, e2.symm, nap_1 k⟩
      · rw [if_neg (show ¬ B k from cb)] at e1
        rw [if_neg (fun q => cb q.1)] at e2
        rw [if_neg cb, ob2_some]
        exact ⟨_, rfl, by rw [e1]; rfl, e2.symm, nap_1 k⟩) (by
      rintro ⟨s1, s2, s3⟩ ⟨g1, g2, g3⟩
      cases g1; cases g2; cases g3
      show ∃ t, X9_sets_s34 (nI v) h (nI (ctB B (2 ^ zp z))) (fsB B (2 ^ zp z)) (nI (2 ^ zp z)) = some (.inl t) ∧ _
      unfold X9_sets_s34
      rw [H.p9, sh1 _ (by omega), if_pos (nI_le (Nat.le_refl _) (by omega))]
      exact ⟨_, rfl, rfl, rfl⟩) (s := ((0 : Int32), (-9 : Int32), (0 : Int32))) ⟨rfl, rfl, rfl⟩
  obtain ⟨⟨t1, t2, t3⟩, e2, q3, q4⟩ := lp_all (step := fun s : Int32 × Int32 × Int32 => X10_sets_s38 (nI v) g s.1 s.2.1 s.2.2)
    (fun i s => s.1 = nI (cdB B (2 ^ zp z) i) ∧ s.2.1 = ldB B (2 ^ zp z) i ∧ s.2.2 = (if i < 2 ^ zp z then nI (2 ^ zp z - 1 - i) else -1)) (fun s => s.1 = nI (cdB B (2 ^ zp z) (2 ^ zp z)) ∧ s.2.1 = ldB B (2 ^ zp z) (2 ^ zp z)) (2 ^ zp z) (by omega) (by
      rintro k ⟨s1, s2, s3⟩ hk ⟨g1, g2, g3⟩
      rw [if_pos hk] at g3
      cases g1; cases g2; cases g3
      show ∃ t, X10_sets_s38 (nI v) g (nI (cdB B (2 ^ zp z) k)) (ldB B (2 ^ zp z) k) (nI (2 ^ zp z - 1 - k)) = some (.inr t) ∧ _
      unfold X10_sets_s38
      rw [if_neg (nI_pos (by omega)), (H.inS (s := 2 ^ zp z - 1 - k) (by omega)).2, ob_some]
      have e1 : cdB B (2 ^ zp z) (k + 1) = cdB B (2 ^ zp z) k + (if B (2 ^ zp z - 1 - k) then 1 else 0) := rfl
      have e2 : ldB B (2 ^ zp z) (k + 1) = if B (2 ^ zp z - 1 - k) then nI (2 ^ zp z - 1 - k) else ldB B (2 ^ zp z) k := rfl
      have e3 : nI (2 ^ zp z - 1 - k) + (-1) = if k + 1 < 2 ^ zp z then nI (2 ^ zp z - 1 - (k + 1)) else -1 := by
        by_cases ck : k + 1 < 2 ^ zp z
        · rw [if_pos ck, show 2 ^ zp z - 1 - k = (2 ^ zp z - 1 - (k + 1)) + 1 by omega, pk_m1]
        · rw [if_neg ck, show 2 ^ zp z - 1 - k = 0 by omega]; rfl
      by_cases cb : nI (sv (rn z d0 cs n) (2 ^ zp z - 1 - k) (zp z)) = nI v
      · rw [if_pos (show B (2 ^ zp z - 1 - k) from cb)] at e1 e2
        rw [if_pos cb, nap_1, ← e1, lt_eq, ob2_some]
        exact ⟨_, rfl, rfl, e2.symm, e3⟩
      · rw [if_neg (show ¬ B (2 ^ zp z - 1 - k) from cb)] at e1 e2
        rw [if_neg cb, ob2_some]
        exact ⟨_, rfl, by rw [e1]; rfl, e2.symm, e3⟩) (by
      rintro ⟨s1, s2, s3⟩ ⟨g1, g2, g3⟩
      rw [if_neg (Nat.lt_irrefl _)] at g3
      cases g1; cases g2; cases g3
      show ∃ t, X10_sets_s38 (nI v) g (nI (cdB B (2 ^ zp z) (2 ^ zp z))) (ldB B (2 ^ zp z) (2 ^ zp z)) (-1) = some (.inl t) ∧ _
      unfold X10_sets_s38
      rw [if_pos (by decide)]
      exact ⟨_, rfl, rfl, rfl⟩) (s := ((0 : Int32), (-9 : Int32), nI (2 ^ zp z - 1))) ⟨rfl, rfl, by rw [if_pos h1p]; rfl⟩
  have q1 : s1 = _ := q1
  have q2 : s2 = _ := q2
  have q3 : t1 = _ := q3
  have q4 : t2 = _ := q4
  have f1 : cdB B (2 ^ zp z) (2 ^ zp z) = ctB B (2 ^ zp z) := by
    have := ct_cd B (2 ^ zp z) (2 ^ zp z) (Nat.le_refl _)
    rw [Nat.sub_self] at this
    have e0 : ctB B 0 = 0 := rfl
    omega
  have f2 : ldB B (2 ^ zp z) (2 ^ zp z) = fsB B (2 ^ zp z) := by
    have := (fs_ld B (2 ^ zp z) (by omega) (2 ^ zp z) (Nat.le_refl _)).1
    rw [Nat.sub_self] at this
    exact (this rfl).symm
  have hct := ctle (2 ^ zp z)
  rw [e1, e2, ob3_some, ob3_some, q1, q2, q3, q4, f1, f2, lt_eq, lt_eq, lt_eq, nI_l (by omega)]
  unfold X9_tellParts X10_tell
  rw [cdiv1 _ (by omega), ob_some, if_pos (by decide), gd_true (by decide), lt_eq, lt_eq, lt_eq, ob_some, ob2_some]
  have e5 : lN (ctB B (2 ^ zp z)) / 1 = lN (ctB B (2 ^ zp z)) := by
    have := pk_lDiv (a := ctB B (2 ^ zp z)) (b := 1) (by omega) (by decide) (by decide)
    rw [Nat.div_one] at this
    exact this
  rw [e5, show (1 : Int64) / 1 = 1 by decide]
  exact ⟨_, _, _, rfl, rfl, ((H.tell (fsB B (2 ^ zp z))).parts (lN (ctB B (2 ^ zp z))) 1).rr⟩
theorem k_sure (a1 : Int32) : Lk (X9_sure a1) (X10_sure a1) := by
  rintro u w h g ⟨z, d0, cs, n, H⟩
  have hp := H.zok.1
  have h64 := p2_le hp
  have h1p : 0 < 2 ^ zp z := Nat.two_pow_pos _
  unfold X9_sure X10_sure
  rcases rng a1 180 (by decide) with q | ⟨q1, q2, q3⟩ | ⟨v, hv, rfl⟩
  · rw [if_pos q, in0 q, if_pos rfl]; exact ⟨_, _, _, rfl, rfl, H.rr⟩
  · rw [if_neg q1, if_neg (show ¬ a1 ≤ 180 from q2), in1 (show 180 < a1 from q3), if_pos rfl]; exact ⟨_, _, _, rfl, rfl, H.rr⟩
  rw [if_neg (nI_pos (by omega)), if_pos ((ner_180 (by omega)).mpr hv), in2 (nI_pos (by omega)) (fun q => by have := (nll_180 (by omega)).mp q; omega), if_neg n10, H.p9, H.p10]
  by_cases c : nI (zp z) = (0 : Int32)
  · rw [if_pos c, if_pos c]; exact ⟨_, _, _, rfl, rfl, H.rr⟩
  rw [if_neg c, if_neg c, sh1 _ (by omega), show (1 : Int32) = nI 1 from rfl, pk_sub (by omega), show nI 1 = (1 : Int32) from rfl, lt_eq, lt_eq]
  obtain ⟨⟨s1, s2, s3, s4⟩, ⟨t1, t2, t3, t4⟩, e1, e2, Q1, Q2, Q3⟩ := lpp (f := fun s : Int32 × Int32 × Int32 × Int32 => X9_sure_s49 (nI v) (nI (2 ^ zp z - 1)) h s.1 s.2.1 s.2.2.1 s.2.2.2) (g := fun s : Int32 × Int32 × Int32 × Int32 => X10_sure_s43 (nI v) (nI (2 ^ zp z - 1)) g s.1 s.2.1 s.2.2.1 s.2.2.2)
    (fun k s t => s.1 = t.2.2.1 ∧ s.2.1 = t.1 ∧ s.2.2.1 = t.2.1 ∧ s.2.2.2 = nI k ∧ t.2.2.2 = nI k) (fun s t => s.1 = t.2.2.1 ∧ s.2.1 = t.1 ∧ s.2.2.1 = t.2.1) (2 ^ zp z) (by omega) (by
      rintro k ⟨s1, s2, s3, s4⟩ ⟨t1, t2, t3, t4⟩ hk ⟨g1, g2, g3, g4, g5⟩
      cases g1; cases g2; cases g3; cases g4; cases g5
      show (∃ s' t', X9_sure_s49 (nI v) (nI (2 ^ zp z - 1)) h s1 s2 s3 (nI k) = some (.inr s') ∧ X10_sure_s43 (nI v) (nI (2 ^ zp z - 1)) g s2 s3 s1 (nI k) = some (.inr t') ∧ _) ∨ ∃ a b, X9_sure_s49 (nI v) (nI (2 ^ zp z - 1)) h s1 s2 s3 (nI k) = some (.inl a) ∧ X10_sure_s43 (nI v) (nI (2 ^ zp z - 1)) g s2 s3 s1 (nI k) = some (.inl b) ∧ _
      unfold X9_sure_s49 X10_sure_s43
      by_cases ck : k < 2 ^ zp z
      · left
        have c' : ¬ nI (2 ^ zp z - 1) < nI k := nI_nlt (by omega) (by omega)
        obtain ⟨i1, i2⟩ := H.inS (s := k) (by omega)
        rw [if_neg c', if_neg c', i1, i2, ob_some, ob_some]
        by_cases cb : nI (sv (rn z d0 cs n) k (zp z)) = nI v
        · rw [if_pos cb, if_pos cb]
          simp only [lt_eq, ob3_some]
          exact ⟨_, _, rfl, rfl, ck, rfl, rfl, rfl, nap_1 k, nap_1 k⟩
        · rw [if_neg cb, if_neg cb]
          simp only [lt_eq, ob3_some]
          exact ⟨_, _, rfl, rfl, ck, rfl, rfl, rfl, nap_1 k, nap_1 k⟩
      · right
        rw [if_pos (nI_lt (by omega) (by omega)), if_pos (nI_lt (by omega) (by omega))]
        exact ⟨_, _, rfl, rfl, rfl, rfl, rfl⟩) (s := ((0 : Int32), nI (2 ^ zp z - 1), (0 : Int32), (0 : Int32))) (t := (nI (2 ^ zp z - 1), (0 : Int32), (0 : Int32), (0 : Int32))) ⟨rfl, rfl, rfl, rfl, rfl⟩
  have Q1 : s1 = t3 := Q1
  have Q2 : s2 = t1 := Q2
  have Q3 : s3 = t2 := Q3
  subst Q1 Q2 Q3
  rw [e1, e2, ob4_some, ob4_some]
  by_cases c0 : s1 = 0
  · obtain ⟨h', g', e1, e2, H'⟩ := H.find 4 (by decide)
    rw [if_pos c0, if_pos c0, show (4 : Int32) = nI 4 from rfl, e1, e2, ob2_some, ob2_some]
    exact ⟨_, _, _, rfl, rfl, H'.rr⟩
  · rw [if_neg c0, if_neg c0, lt_eq, lt_eq]
    exact ⟨_, _, _, rfl, rfl, (H.tell _).rr⟩
