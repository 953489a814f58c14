def pop (s : Nat) : Nat := s % 2 + s / 2 % 2 + s / 4 % 2 + s / 8 % 2 + s / 16 % 2 + s / 32 % 2
theorem pop_c : ∀ s, s < 64 → J6_bitCount_0f7a4 (nI s) = nI (pop s) := by decide +kernel
theorem pop_m : ∀ s, s < 64 → X10_bits (nI s) = some (nI (pop s)) := by decide +kernel
theorem pop_6 : ∀ s, s < 64 → ∀ i, i < 6 → s.testBit i = false → pop s < 6 := by decide +kernel
theorem pop_le : ∀ s, s < 64 → pop s ≤ 6 := by decide +kernel
theorem bit0 {S i : Nat} (hS : S < 64) (hi : i < 6) : (((nI S >>> (nI i &&& 31)) &&& (1 : Int32)) = 0 ∧ X10_has (nI S) (nI i) = 0 ∧ S.testBit i = false) ∨ (¬ ((nI S >>> (nI i &&& 31)) &&& (1 : Int32)) = 0 ∧ ¬ X10_has (nI S) (nI i) = 0 ∧ S.testBit i = true) := by
  rw [bitI (by omega) (by omega), has_nI (by omega) (by omega)]
  rcases testBit_cases S i with t | t
  · right; rw [t]; exact ⟨by decide, by decide, rfl⟩
  · left; rw [t]; exact ⟨rfl, rfl, rfl⟩
theorem p2_le {p : Nat} (hp : p ≤ 6) : 2 ^ p ≤ 64 := Nat.pow_le_pow_right (by decide) hp
theorem RZ.shr {u w : Hp} {z : ZS} {d0 : DS} {cs : Nat → Nat} {n : Nat} {h g : Hp} (H : RZ u w z d0 cs n h g) {aw i k : Nat} (haw : aw < 64) (hi : i < zp z) (hk : k < 100) : ∃ v h' g', v ≤ 30 ∧ X9_shareWithout (nI aw) (nI i) (nI k) h = some (nI v, h') ∧ X10_goOn (nI k) (nI aw) g = some g' ∧ g'.1 52 (2794 + i) = nI v ∧ RZ u w z d0 cs n h' g' := by
  have hp := H.zok.1
  obtain ⟨h1, h', g', e1, e2, e3, A⟩ := H.goOn aw k (by omega) (by omega)
  obtain ⟨v1, v2, v3⟩ := A.hs hi
  refine ⟨_, h', g', v3, ?_, e3, v2, A.1⟩
  unfold X9_shareWithout
  rw [e1, ob_some, show lp (fun s : Int32 × Hp => X9_shareWithout_s14 (nI aw) (nI i) (nI k) s.1 s.2) FU ((0 : Int32), h1) = some (nI k, h') from e2, ob2_some, gd_ib (by omega) (by decide), ix_nI (by omega), v1]
theorem k_away (a1 a2 a3 : Int32) : Lk (X9_away a1 a2 a3) (X10_away a1 a2 a3) := by
  rintro u w h g ⟨z, d0, cs, n, H⟩
  have hp := H.zok.1
  have h64 := p2_le hp
  unfold X9_away X10_away
  rcases isOne_c hp H.p9 H.p10 a1 with ⟨q1, q2⟩ | ⟨i, hi, rfl, q1, q2⟩
  · rw [q1, q2, if_pos rfl, if_pos rfl]; exact ⟨_, _, _, rfl, rfl, H.rr⟩
  rw [q1, q2, if_neg n10, if_neg n10]
  by_cases c1 : a2 < 0
  · rw [if_pos c1, in0 c1, if_pos rfl]; exact ⟨_, _, _, rfl, rfl, H.rr⟩
  by_cases c2 : 30 < a2
  · rw [if_neg c1, if_pos c2, in1 c2, if_pos rfl]; exact ⟨_, _, _, rfl, rfl, H.rr⟩
  rw [if_neg c1, if_neg c2, in2 c1 c2, if_neg n10]
  rcases isPlan_c a3 with ⟨q1, q2⟩ | ⟨k, hk1, hk, rfl, q1, q2⟩
  · rw [q1, q2, if_pos rfl, if_pos rfl]; exact ⟨_, _, _, rfl, rfl, H.rr⟩
  rw [q1, q2, if_neg n10, if_neg n10]
  obtain ⟨⟨s1, s2, s3, s4⟩, ⟨t1, t2, t3⟩, e3, e4, Q1, Q2⟩ := lpp (f := fun s : Int32 × Int32 × Int32 × Hp => X9_away_s40 (nI i) a2 (nI k) s.1 s.2.1 s.2.2.1 s.2.2.2) (g := fun s : Int32 × Int32 × Hp => X10_away_s37 (nI i) a2 (nI k) s.1 s.2.1 s.2.2)
    (fun p s t => s.2.2.1 = nI p ∧ t.2.1 = nI p ∧ RZ u w z d0 cs n s.2.2.2 t.2.2 ∧ ((s.1 = nI 6 ∧ t.1 = -9) ∨ ∃ b, b < 64 ∧ pop b < 6 ∧ s.1 = nI (pop b) ∧ s.2.1 = nI b ∧ t.1 = nI b))
    (fun s t => RZ u w z d0 cs n s.2.2.2 t.2.2 ∧ ((s.1 = nI 6 ∧ t.1 = -9) ∨ ∃ b, b < 64 ∧ pop b < 6 ∧ s.1 = nI (pop b) ∧ s.2.1 = nI b ∧ t.1 = nI b)) (2 ^ zp z) (by omega) (by
      rintro p ⟨s1, s2, s3, s4⟩ ⟨t1, t2, t3⟩ hk ⟨g1, g2, g3, g4⟩
      cases g1; cases g2
      show (∃ s' t', X9_away_s40 (nI i) a2 (nI k) s1 s2 (nI p) s4 = some (.inr s') ∧ X10_away_s37 (nI i) a2 (nI k) t1 (nI p) t3 = some (.inr t') ∧ _) ∨ ∃ a b, X9_away_s40 (nI i) a2 (nI k) s1 s2 (nI p) s4 = some (.inl a) ∧ X10_away_s37 (nI i) a2 (nI k) t1 (nI p) t3 = some (.inl b) ∧ _
      have g3 : RZ u w z d0 cs n s4 t3 := g3
      unfold X9_away_s40 X10_away_s37
      rw [g3.p9, g3.p10, sh1 _ (by omega)]
      by_cases c : p < 2 ^ zp z
      · left
        have c' : ¬ nI (2 ^ zp z) ≤ nI p := nI_ge c (by omega)
        rw [if_neg c', if_neg c', pop_c p (by omega), lt_eq]
        rcases bit0 (show p < 64 by omega) (show i < 6 by omega) with ⟨b1, b2, b3⟩ | ⟨b1, b2, b3⟩
        · rw [if_pos b1, if_pos b2]
          have pl := pop_6 p (by omega) i (by omega) b3
          obtain ⟨v, h', g', hv, x1, x2, x3, H'⟩ := g3.shr (aw := p) (i := i) (k := k) (by omega) hi (by omega)
          have ga : ob (X10_goOn (nI k) (nI p) t3) (fun h10 => gd (ib ((2794 : Int32) + nI i) 2805) (if h10.1 52 (ix ((2794 : Int32) + nI i)) < a2 then some (t1, h10) else some (nI p, h10))) = if nI v < a2 then some (t1, g') else some (nI p, g') := by
            rw [x2, ob_some, show (2794 : Int32) = nI 2794 from rfl, nI_add, gd_ib (by omega) (by decide), ix_nI (by omega), x3]
          have fin : ∀ s2', (s1 = nI 6 ∧ t1 = -9 ∧ s2' = s2) ∨ (∃ b, b < 64 ∧ pop b < 6 ∧ s1 = nI (pop b) ∧ s2' = s2 ∧ s2 = nI b ∧ t1 = nI b) → ∃ (s' : Int32 × Int32 × Int32 × Hp) (t' : Int32 × Int32 × Hp), (ob3 (if nI v < a2 then some (s1, s2, h') else some (nI (pop p), nI p, h')) fun v8 v9 h10 => lt_ (nI p + 1) fun v17 => some (Sum.inr (α := Int32 × Int32 × Int32 × Hp) (v8, v9, v17, h10))) = some (.inr s') ∧ (ob2 (if nI v < a2 then some (t1, g') else some (nI p, g')) fun v5 h6 => lt_ (nI p + 1) fun v22 => some (Sum.inr (α := Int32 × Int32 × Hp) (v5, v22, h6))) = some (.inr t') ∧ p < 2 ^ zp z ∧ s'.2.2.1 = nI (p + 1) ∧ t'.2.1 = nI (p + 1) ∧ RZ u w z d0 cs n s'.2.2.2 t'.2.2 ∧ ((s'.1 = nI 6 ∧ t'.1 = -9) ∨ ∃ b, b < 64 ∧ pop b < 6 ∧ s'.1 = nI (pop b) ∧ s'.2.1 = nI b ∧ t'.1 = nI b) := by
            intro s2' hh
            by_cases cv : nI v < a2
            · rw [if_pos cv, if_pos cv]
              refine ⟨_, _, rfl, rfl, c, nap_1 p, nap_1 p, H', ?_⟩
              rcases hh with ⟨r1, r2, _⟩ | ⟨b, r1, r2, r3, _, r4, r5⟩
              · exact Or.inl ⟨r1, r2⟩
              · exact Or.inr ⟨b, r1, r2, r3, r4, r5⟩
            · rw [if_neg cv, if_neg cv]
              exact ⟨_, _, rfl, rfl, c, nap_1 p, nap_1 p, H', Or.inr ⟨p, by omega, pl, rfl, rfl, rfl⟩⟩
          rcases g4 with ⟨r1, r2⟩ | ⟨b, r1, r2, r3, r4, r5⟩
          · have r1 : s1 = nI 6 := r1
            have r2 : t1 = -9 := r2
            rw [if_pos r2, if_neg (show ¬ s1 ≤ nI (pop p) by rw [r1]; exact nI_ge pl (by decide)), x1, ob2_some, ga]
            exact fin s2 (Or.inl ⟨r1, r2, rfl⟩)
          · have r3 : s1 = nI (pop b) := r3
            have r5 : t1 = nI b := r5
            rw [if_neg (show ¬ t1 = -9 by rw [r5]; exact nm9 (by omega)), pop_m p (by omega), ob_some, show X10_bits t1 = some (nI (pop b)) by rw [r5]; exact pop_m b r1, ob_some]
            by_cases cq : pop b ≤ pop p
            · rw [if_pos (show s1 ≤ nI (pop p) by rw [r3]; exact nI_le cq (by omega)), if_pos (nI_le cq (by omega)), ob3_some, ob2_some]
              exact ⟨_, _, rfl, rfl, c, nap_1 p, nap_1 p, g3, Or.inr ⟨b, r1, r2, r3, r4, r5⟩⟩
            · rw [if_neg (show ¬ s1 ≤ nI (pop p) by rw [r3]; exact nI_ge (by omega) (by omega)), if_neg (show ¬ nI (pop b) ≤ nI (pop p) from nI_ge (by omega) (by omega)), x1, ob2_some, ga]
              exact fin s2 (Or.inr ⟨b, r1, r2, r3, rfl, r4, r5⟩)
        · rw [if_neg b1, if_neg b2, ob3_some, ob2_some]
          exact ⟨_, _, rfl, rfl, c, nap_1 p, nap_1 p, g3, g4⟩
      · right
        have e : p = 2 ^ zp z := by omega
        subst e
        rw [if_pos (nI_le (Nat.le_refl _) (by omega)), if_pos (nI_le (Nat.le_refl _) (by omega))]
        exact ⟨_, _, rfl, rfl, g3, g4⟩) (s := ((6 : Int32), (0 : Int32), (0 : Int32), h)) (t := ((-9 : Int32), (0 : Int32), g)) ⟨rfl, rfl, H, Or.inl ⟨rfl, rfl⟩⟩
  rw [e3, e4, ob4_some, ob3_some]
  rcases Q2 with ⟨r1, r2⟩ | ⟨b, r1, r2, r3, r4, r5⟩
  · have r1 : s1 = 6 := r1
    have r2 : t1 = -9 := r2
    rw [if_pos r1, if_pos r2]
    exact ⟨_, _, _, rfl, rfl, Q1.rr⟩
  · have r3 : s1 = nI (pop b) := r3
    have r4 : s2 = nI b := r4
    have r5 : t1 = nI b := r5
    rw [r3, r4, r5, if_neg (fun q => by have := (nq_6 (by omega)).mp q; omega), if_neg (nm9 (by omega)), lt_eq, lt_eq, pop_m b r1, ob_some]
    exact ⟨_, _, _, rfl, rfl, (Q1.tell _).rr⟩
theorem and_c : ∀ a, a < 64 → ∀ b, b < 64 → ((nI b &&& nI a) = nI a) = (nI a &&& (nI b ^^^ (-1 : Int32)) = 0) := by
  intro a ha b hb
  exact propext (by revert a b; decide +kernel)
theorem RZ.gby {u w : Hp} {z : ZS} {d0 : DS} {cs : Nat → Nat} {n : Nat} {h g : Hp} (H : RZ u w z d0 cs n h g) {sp k : Nat} (a : Int32) (hsp : sp ≤ 30) (hk : k < 100) : ∃ W h' g', W < 64 ∧ X9_gatherersBy (nI sp) (nI k) h = some (nI W, h') ∧ X10_without a (nI k) (nI sp) g = some (a &&& (nI W ^^^ (-1 : Int32)), g') ∧ RZ u w z d0 cs n h' g' := by
  obtain ⟨h1, g1, e1, e2, A⟩ := H.ahead
  have A1 := A.uc (min 60 (dc (rn z d0 cs n) + sp)) (Nat.min_le_left _ _)
  have c60 := A.2.2.1.2.2.1
  have r1 : h1.1 23 7 = nI _ := A.2.2.2.1.2.2.2.2.2.2.1
  have r2 : g1.1 52 2800 = nI _ := A.2.2.2.2.1.2.2.1
  unfold X9_gatherersBy X10_without X4_putIn X10_spoonIn
  rw [e1, e2, ob_some, ob_some, r1, nI_add, show (60 : Int32) = nI 60 from rfl, mnI_nI (by decide) (by omega), lt_eq, ob_some, show (2788 : Int32) + 12 = nI 2800 from rfl, gd_ib (by decide) (by decide), ix_nI (by decide), r2, nI_add, les_nI (by decide) (by omega), lt_eq, ob_some]
  obtain ⟨⟨s1, s2, s3⟩, ⟨t1, t2, t3⟩, e3, e4, W, hW, q1, q2, q3⟩ := lpp (f := fun s : Int32 × Int32 × Hp => X9_gatherersBy_s24 (nI k) s.1 s.2.1 s.2.2) (g := fun s : Int32 × Int32 × Hp => X10_without_s25 a (nI k) s.1 s.2.1 s.2.2)
    (fun i s t => s.2.1 = nI i ∧ t.2.1 = nI i ∧ (∃ d, RA u w z d0 cs n z (-9) 0 d s.2.2 t.2.2) ∧ ∃ W, W < 64 ∧ s.1 = nI W ∧ t.1 = nI W)
    (fun s t => ∃ W, W < 64 ∧ s.1 = nI W ∧ t.1 = nI W ∧ RZ u w z d0 cs n s.2.2 t.2.2) k (by omega) (by
      rintro i ⟨s1, s2, s3⟩ ⟨t1, t2, t3⟩ hi ⟨g1, g2, ⟨d, g3⟩, W, hW, g4, g5⟩
      cases g1; cases g2; cases g4; cases g5
      show (∃ s' t', X9_gatherersBy_s24 (nI k) (nI W) (nI i) s3 = some (.inr s') ∧ X10_without_s25 a (nI k) (nI W) (nI i) t3 = some (.inr t') ∧ _) ∨ ∃ a' b, X9_gatherersBy_s24 (nI k) (nI W) (nI i) s3 = some (.inl a') ∧ X10_without_s25 a (nI k) (nI W) (nI i) t3 = some (.inl b) ∧ _
      unfold X9_gatherersBy_s24 X10_without_s25
      by_cases c : i < k
      · left
        obtain ⟨h', g', e1, e2, A'⟩ := RA.pass g3 0 (by decide)
        rw [if_neg (nI_ge c (by omega)), if_neg (nI_ge c (by omega)), plain_ob2, e2, show X4_pass 23 (0 : Int32) s3 = _ from e1, ob2_some, ob2_some, nI_or, lt_eq, lt_eq]
        exact ⟨_, _, rfl, rfl, c, nap_1 i, nap_1 i, ⟨_, A'⟩, _, Nat.or_lt_two_pow (n := 6) hW (tnS_lt g3.2.1 g3.2.2.1), rfl, rfl⟩
      · right
        rw [if_pos (nI_le (by omega) (by omega)), if_pos (nI_le (by omega) (by omega))]
        exact ⟨_, _, rfl, rfl, W, hW, rfl, rfl, g3.1⟩) (s := ((0 : Int32), (0 : Int32), up h1 23 7 (nI (min 60 (dc (rn z d0 cs n) + sp))))) (t := ((0 : Int32), (0 : Int32), up g1 52 2800 (nI (min 60 (dc (rn z d0 cs n) + sp))))) ⟨rfl, rfl, ⟨_, A1⟩, 0, by decide, rfl, rfl⟩
  have q1 : s1 = nI W := q1
  have q2 : t1 = nI W := q2
  subst q1 q2
  rw [e3, e4, ob3_some, ob3_some]
  exact ⟨W, _, _, hW, rfl, rfl, q3⟩
theorem k_least (a1 a2 : Int32) : Lk (X9_least a1 a2) (X10_least a1 a2) := by
  rintro u w h g ⟨z, d0, cs, n, H⟩
  have hp := H.zok.1
  have h64 := p2_le hp
  have h1 : 0 < 2 ^ zp z := Nat.two_pow_pos _
  unfold X9_least X10_least
  rw [H.p9, H.p10, sh1 _ (by omega), show (1 : Int32) = nI 1 from rfl, pk_sub (by omega)]
  rcases rng a1 (2 ^ zp z - 1) (by omega) with q | ⟨q1, q2, q3⟩ | ⟨s, hs, rfl⟩
  · rw [if_pos q, in0 q, if_pos rfl]; exact ⟨_, _, _, rfl, rfl, H.rr⟩
  · rw [if_neg q1, in1 q3, if_pos rfl]
    obtain ⟨j, hj, rfl⟩ := nI_of q1
    have := (nI_ltI (by omega) hj).mp q3
    rw [if_pos (nI_le (by omega) hj)]
    exact ⟨_, _, _, rfl, rfl, H.rr⟩
  rw [if_neg (nI_pos (by omega)), if_neg (nI_ge (by omega) (by omega)), in2 (nI_pos (by omega)) (nI_nlt hs (by omega)), if_neg n10, show nI 1 = (1 : Int32) from rfl]
  rcases isPlan_c a2 with ⟨q1, q2⟩ | ⟨k, hk1, hk, rfl, q1, q2⟩
  · rw [q1, q2, if_pos rfl, if_pos rfl]; exact ⟨_, _, _, rfl, rfl, H.rr⟩
  rw [q1, q2, if_neg n10, if_neg n10]
  by_cases c0 : nI (zp z) = (0 : Int32)
  · rw [if_pos c0, if_pos c0]; exact ⟨_, _, _, rfl, rfl, H.rr⟩
  rw [if_neg c0, if_neg c0]
  obtain ⟨s', t', e3, e4, Q⟩ := lpp (f := fun q : Int32 × Hp => X9_least_s41 (nI s) (nI k) q.1 q.2) (g := fun q : Int32 × Hp => X10_least_s40 (nI s) (nI k) q.1 q.2)
    (fun k s t => s.1 = nI k ∧ t.1 = nI k ∧ RZ u w z d0 cs n s.2 t.2)
    (fun s t => (∃ v h' g', s = .inl (v, h') ∧ t = .inl (v, g') ∧ RR u w h' g') ∨ (∃ v h' g', s = .inr (v, h') ∧ t = .inr (v, g') ∧ RR u w h' g')) 31 (by omega) (by
      rintro p ⟨s1, s2⟩ ⟨t1, t2⟩ hp' ⟨g1, g2, g3⟩
      cases g1; cases g2
      show (∃ s' t', X9_least_s41 (nI s) (nI k) (nI p) s2 = some (.inr s') ∧ X10_least_s40 (nI s) (nI k) (nI p) t2 = some (.inr t') ∧ _) ∨ ∃ a b, X9_least_s41 (nI s) (nI k) (nI p) s2 = some (.inl a) ∧ X10_least_s40 (nI s) (nI k) (nI p) t2 = some (.inl b) ∧ _
      unfold X9_least_s41 X10_least_s40
      by_cases c : p ≤ 30
      · have c' : ¬ (30 : Int32) < nI p := fun q => by have := (nll_30 (by omega)).mp q; omega
        obtain ⟨W, h', g', hW, x1, x2, H'⟩ := RZ.gby g3 (nI s) c (show k < 100 by omega)
        rw [if_neg c', if_neg c', x1, x2, ob2_some, ob2_some]
        have ac := and_c s (by omega) W hW
        by_cases cq : nI s &&& (nI W ^^^ (-1 : Int32)) = 0
        · right
          rw [if_pos cq, if_pos (by rw [ac]; exact cq)]
          exact ⟨_, _, rfl, rfl, Or.inl ⟨_, _, _, rfl, rfl, H'.rr⟩⟩
        · left
          rw [if_neg cq, if_neg (by rw [ac]; exact cq)]
          exact ⟨_, _, rfl, rfl, by omega, nap_1 p, nap_1 p, H'⟩
      · right
        have e : p = 31 := by omega
        subst e
        rw [if_pos (by decide), if_pos (by decide)]
        exact ⟨_, _, rfl, rfl, Or.inr ⟨_, _, _, rfl, rfl, RZ.rr g3⟩⟩) (s := ((0 : Int32), h)) (t := ((0 : Int32), g)) ⟨rfl, rfl, H⟩
  rw [e3, e4]
  rcases Q with ⟨v, h', g', rfl, rfl, R⟩ | ⟨v, h', g', rfl, rfl, R⟩
  · exact ⟨_, _, _, rfl, rfl, R⟩
  · exact ⟨_, _, _, rfl, rfl, R⟩
theorem RZ.k10 {u w : Hp} {z : ZS} {d0 : DS} {cs : Nat → Nat} {n : Nat} {h g : Hp} (H : RZ u w z d0 cs n h g) {i : Nat} (hi : i < zp z) : g.1 53 i = nI (zk z i) := by
  have := H.mz.2.2.2 i hi
  have hp := H.zok.1
  rw [if_neg (nm9 (by omega))] at this
  exact this
theorem RZ.k9 {u w : Hp} {z : ZS} {d0 : DS} {cs : Nat → Nat} {n : Nat} {h g : Hp} (H : RZ u w z d0 cs n h g) {i : Nat} (hi : i < zp z) : h.1 20 i = nI (zk z i) := H.f19.2.2.2.1 i hi
theorem RZ.k6 {u w : Hp} {z : ZS} {d0 : DS} {cs : Nat → Nat} {n : Nat} {h g : Hp} (H : RZ u w z d0 cs n h g) {i : Nat} (hi : i < zp z) : zk z i < 6 := H.zok.2.1 i hi
theorem RZ.pers {u w : Hp} {z : ZS} {d0 : DS} {cs : Nat → Nat} {n : Nat} {h g : Hp} (H : RZ u w z d0 cs n h g) {i : Nat} (hi : i < zp z) : X4_personOf 19 (nI i) h = some (X6_ofNumber (nI (zk z i))) := by
  have hp := H.zok.1
  unfold X4_personOf
  rw [gd_ib (by omega) (by decide), ix_nI (by omega), show h.1 (19 + 1) i = nI (zk z i) from H.k9 hi]
theorem RZ.part {u w : Hp} {z : ZS} {d0 : DS} {cs : Nat → Nat} {n : Nat} {h g : Hp} (H : RZ u w z d0 cs n h g) {i c : Nat} (hi : i < zp z) (hc : c ≤ 60) : X4_partFor 19 (nI i) (nI c) h = some (nI (gath (zk z i) c)) := by
  unfold X4_partFor
  rw [H.pers hi, ob_some, gd_true (pB_c _), gath_c _ (H.k6 hi) _ (by omega)]
theorem k_gathers (a1 a2 : Int32) : LkP (X9_gathers a1 a2) (X10_gathers a1 a2) := by
  rintro u w h g ⟨z, d0, cs, n, H⟩
  have hp := H.zok.1
  unfold X9_gathers X10_gathers
  rcases isOne_c hp H.p9 H.p10 a1 with ⟨q1, q2⟩ | ⟨i, hi, rfl, q1, q2⟩
  · rw [q1, q2, if_pos rfl, if_pos rfl]; exact ⟨_, rfl, rfl⟩
  rw [q1, q2, if_neg n10, if_neg n10]
  rcases rng a2 60 (by decide) with q | ⟨q1, q2, q3⟩ | ⟨c, hc, rfl⟩
  · rw [if_pos q, in0 q, if_pos rfl]; exact ⟨_, rfl, rfl⟩
  · rw [if_neg q1, if_neg (show ¬ a2 ≤ 60 from q2), in1 (show 60 < a2 from q3), if_pos rfl]; exact ⟨_, rfl, rfl⟩
  · rw [if_neg (nI_pos (by omega)), if_pos ((ner_60 (by omega)).mpr hc), in2 (nI_pos (by omega)) (fun q => by have := (nll_60 (by omega)).mp q; omega), if_neg n10, H.part hi hc, ob_some, gd_ib (by omega) (by decide), ix_nI (by omega), H.k10 hi, gath_m _ (H.k6 hi) _ (by omega)]
    exact ⟨_, rfl, rfl⟩
theorem far_c : ∀ a, a < 10 → ∀ b, b < 10 → (ob (if (0 : Int32) ≤ nI a - nI b then some (nI a - nI b) else some (-(nI a - nI b))) fun v5 => some (X10_lesser v5 ((10 : Int32) - v5))) = some (mnI (abI (nI a - nI b)) ((10 : Int32) - abI (nI a - nI b))) := by decide +kernel
theorem RZ.val {u w : Hp} {z : ZS} {d0 : DS} {cs : Nat → Nat} {n : Nat} {h g : Hp} (H : RZ u w z d0 cs n h g) {i k : Nat} (hi : i < zp z) (hk : k < 5) : ∃ v, X9_valueOfOne (nI i) (nI k) h = some v ∧ X10_ofOne (nI i) (nI k) g = some v := by
  have hp := H.zok.1
  have h40 := H.n40
  have r := H.row
  have d := H.dok
  unfold X9_valueOfOne X10_ofOne
  rw [H.now]
  rcases (show k = 0 ∨ k = 1 ∨ k = 2 ∨ k = 3 ∨ k = 4 by omega) with rfl | rfl | rfl | rfl | rfl
  · rw [if_pos (by decide), if_pos (by decide), gd_ib (by omega) (by decide), gd_ib (by omega) (by decide), ix_nI (by omega), H.k9 hi, H.k10 hi]
    exact ⟨_, rfl, rfl⟩
  · rw [if_neg (by decide), if_pos (by decide), if_neg (by decide), if_pos (by decide), nI_add, gd_ib (by omega) (by decide), gd_ib (by omega) (by decide), ix_nI (by omega), ix_nI (by omega), r.1 i hi, show h.1 21 i = nI _ from H.f19.2.2.2.2.1 i hi]
    exact ⟨_, rfl, rfl⟩
  · rw [if_neg (by decide), if_neg (by decide), if_pos (by decide), if_neg (by decide), if_neg (by decide), if_pos (by decide), nap_6, nI_add, gd_ib (by omega) (by decide), gd_ib (by omega) (by decide), ix_nI (by omega), ix_nI (by omega), r.2.1 i hi, show h.1 22 i = nI _ from H.f19.2.2.2.2.2.1 i hi]
    exact ⟨_, rfl, rfl⟩
  · rw [if_neg (by decide), if_neg (by decide), if_neg (by decide), if_pos (by decide), if_neg (by decide), if_neg (by decide), if_neg (by decide), if_pos (by decide), show h.1 19 7 = nI _ from H.f19.2.2.2.2.2.2.1, H.part hi d.2.2.1, ob_some, nap_12, gd_ib (by omega) (by decide), gd_ib (by omega) (by decide), ix_nI (by omega), ix_nI (by omega), r.2.2.1, H.k10 hi, gath_m _ (H.k6 hi) _ (by have := d.2.2.1; omega)]
    exact ⟨_, rfl, rfl⟩
  · rw [if_neg (by decide), if_neg (by decide), if_neg (by decide), if_neg (by decide), if_neg (by decide), if_neg (by decide), if_neg (by decide), if_neg (by decide)]
    unfold X4_farFromCloud X10_distance
    have dp9 := d.1 i hi
    have da9 := d.2.2.2.1
    rw [H.now, nI_add, nap_13, gd_ib (by omega) (by decide), gd_ib (by omega) (by decide), gd_ib (by omega) (by decide), ix_nI (by omega), ix_nI (by omega), ix_nI (by omega), r.1 i hi, r.2.2.2.1, show h.1 (19 + 2) i = nI _ from H.f19.2.2.2.2.1 i hi, show h.1 19 8 = nI _ from H.f19.2.2.2.2.2.2.2.1, lt_eq, lt_eq, far_c _ (by omega) _ (by omega), ob_some]
    exact ⟨_, rfl, rfl⟩
theorem k_one (a1 a2 : Int32) : Lk (X9_one a1 a2) (X10_one a1 a2) := by
  rintro u w h g ⟨z, d0, cs, n, H⟩
  have hp := H.zok.1
  unfold X9_one X10_one
  rcases isOne_c hp H.p9 H.p10 a1 with ⟨q1, q2⟩ | ⟨i, hi, rfl, q1, q2⟩
  · rw [q1, q2, if_pos rfl, if_pos rfl]; exact ⟨_, _, _, rfl, rfl, H.rr⟩
  rw [q1, q2, if_neg n10, if_neg n10]
  rcases rng a2 4 (by decide) with q | ⟨q1, q2, q3⟩ | ⟨c, hc, rfl⟩
  · rw [if_pos q, in0 q, if_pos rfl]; exact ⟨_, _, _, rfl, rfl, H.rr⟩
  · rw [if_neg q1, in1 (show 4 < a2 from q3), if_pos rfl]
    obtain ⟨j, hj, rfl⟩ := nI_of q1
    have := (nI_ltI (by omega) hj).mp q3
    rw [if_neg (fun q => by have := (nlr_5 hj).mp q; omega)]
    exact ⟨_, _, _, rfl, rfl, H.rr⟩
  · obtain ⟨v, e1, e2⟩ := H.val hi (show c < 5 by omega)
    rw [if_neg (nI_pos (by omega)), if_pos ((nlr_5 (by omega)).mpr (by omega)), in2 (nI_pos (by omega)) (fun q => by have := (nll_4 (by omega)).mp q; omega), if_neg n10, e1, e2, ob_some, ob_some, lt_eq]
    unfold X10_tell
    rw [lt_eq, ob2_some]
    exact ⟨_, _, _, rfl, rfl, (H.tell _).rr⟩
theorem RZ.all {u w : Hp} {z : ZS} {d0 : DS} {cs : Nat → Nat} {n : Nat} {h g : Hp} (H : RZ u w z d0 cs n h g) : ∃ v, X4_inAll 19 h = some v ∧ X10_allHave (X10_now g) g = some v := by
  have hp := H.zok.1
  have h40 := H.n40
  unfold X4_inAll X10_allHave
  rw [H.now]
  obtain ⟨⟨s1, s2⟩, ⟨t1, t2⟩, e1, e2, e3⟩ := lpp (f := fun s : Int32 × Int32 => X4_inAll_s4 19 h s.1 s.2) (g := fun s : Int32 × Int32 => X10_allHave_s4 (nI (17 * n)) g s.1 s.2)
    (fun i s t => s = t ∧ s.2 = nI i) (fun r p => r = p) (zp z) (by omega) (by
      rintro i ⟨s1, s2⟩ t hi ⟨rfl, e⟩
      cases e
      show (∃ s' t', X4_inAll_s4 19 h s1 (nI i) = some (.inr s') ∧ X10_allHave_s4 (nI (17 * n)) g s1 (nI i) = some (.inr t') ∧ _) ∨ ∃ a b, X4_inAll_s4 19 h s1 (nI i) = some (.inl a) ∧ X10_allHave_s4 (nI (17 * n)) g s1 (nI i) = some (.inl b) ∧ _
      unfold X4_inAll_s4 X10_allHave_s4
      rw [H.p9, H.p10]
      by_cases ci : i < zp z
      · left
        rw [if_neg (nI_ge ci (by omega)), if_neg (nI_ge ci (by omega)), nap_6, nI_add, gd_ib (by omega) (by decide), gd_ib (by omega) (by decide), ix_nI (by omega), ix_nI (by omega), H.row.2.1 i ci, show h.1 (19 + 3) i = nI _ from H.f19.2.2.2.2.2.1 i ci]
        exact ⟨_, _, rfl, rfl, ci, rfl, nap_1 i⟩
      · right
        rw [if_pos (nI_le (by omega) (by omega)), if_pos (nI_le (by omega) (by omega))]
        exact ⟨_, _, rfl, rfl, rfl⟩) (s := ((0 : Int32), (0 : Int32))) (t := ((0 : Int32), (0 : Int32))) ⟨rfl, rfl⟩
  cases e3
  rw [e1, e2, ob2_some]
  exact ⟨_, rfl, rfl⟩
theorem mk_1 : ∀ k, k < 6 → ((inBeard (X6_ofNumber (nI k)) = 0 ∧ X10_isOf (nI k) 1 = 0) ∨ (¬ inBeard (X6_ofNumber (nI k)) = 0 ∧ ¬ X10_isOf (nI k) 1 = 0)) := by decide +kernel
theorem mk_2 : ∀ k, k < 6 → ((inBag (X6_ofNumber (nI k)) = 0 ∧ X10_isOf (nI k) 2 = 0) ∨ (¬ inBag (X6_ofNumber (nI k)) = 0 ∧ ¬ X10_isOf (nI k) 2 = 0)) := by decide +kernel
theorem mk_3 : ∀ k, k < 6 → ((inWasp (X6_ofNumber (nI k)) = 0 ∧ X10_isOf (nI k) 3 = 0) ∨ (¬ inWasp (X6_ofNumber (nI k)) = 0 ∧ ¬ X10_isOf (nI k) 3 = 0)) := by decide +kernel
theorem mk_4 : ∀ k, k < 6 → ((inBishop (X6_ofNumber (nI k)) = 0 ∧ X10_isOf (nI k) 4 = 0) ∨ (¬ inBishop (X6_ofNumber (nI k)) = 0 ∧ ¬ X10_isOf (nI k) 4 = 0)) := by decide +kernel
theorem mk_5 : ∀ k, k < 6 → ((inGirl (X6_ofNumber (nI k)) = 0 ∧ X10_isOf (nI k) 5 = 0) ∨ (¬ inGirl (X6_ofNumber (nI k)) = 0 ∧ ¬ X10_isOf (nI k) 5 = 0)) := by decide +kernel
theorem wound_c : ∀ c, c < 61 → (if nI c < (20 : Int32) then some ((20 : Int32) - nI c) else some (0 : Int32)) = some (mxI (0 : Int32) ((20 : Int32) - nI c)) := by decide +kernel
theorem RZ.alike {u w : Hp} {z : ZS} {d0 : DS} {cs : Nat → Nat} {n : Nat} {h g : Hp} (H : RZ u w z d0 cs n h g) {k : Nat} (hk : k < 6) : ∃ v, X9_leastCloudAlike (X6_ofNumber (nI k)) h = some v ∧ X10_leastAlike (nI k) g = some v := by
  have hp := H.zok.1
  have h40 := H.n40
  have c60 := H.dok.2.2.1
  have r1 : h.1 19 7 = nI (dc (rn z d0 cs n)) := H.f19.2.2.2.2.2.2.1
  unfold X9_leastCloudAlike X10_leastAlike
  rw [H.now, r1, nap_12, gd_ib (by omega) (by decide), ix_nI (by omega), H.row.2.2.1, lt_eq, lt_eq, gath_c _ hk _ (by omega), gath_m _ hk _ (by omega)]
  obtain ⟨s, t, e1, e2, Q⟩ := lpp (f := fun s : Int32 => X9_leastCloudAlike_s14 (X6_ofNumber (nI k)) (nI (gath k (dc (rn z d0 cs n)))) h s) (g := fun s : Int32 => X10_leastAlike_s19 (nI k) (nI (gath k (dc (rn z d0 cs n)))) g s)
    (fun i s t => s = nI i ∧ t = nI i) (fun r p => r = .inl p ∨ ∃ v, r = .inr v ∧ p = nI (dc (rn z d0 cs n))) (dc (rn z d0 cs n)) (by omega) (by
      rintro i s t hi ⟨g1, g2⟩
      obtain rfl : s = nI i := g1
      obtain rfl : t = nI i := g2
      unfold X9_leastCloudAlike_s14 X10_leastAlike_s19
      rw [r1, gath_c _ hk _ (by omega), gath_m _ hk _ (by omega)]
      by_cases ci : i < dc (rn z d0 cs n)
      · rw [if_neg (nI_ge ci (by omega))]
        by_cases cq : nI (gath k i) = nI (gath k (dc (rn z d0 cs n)))
        · right
          rw [if_pos cq, if_pos cq]
          exact ⟨_, _, rfl, rfl, Or.inl rfl⟩
        · left
          rw [if_neg cq, if_neg cq]
          exact ⟨_, _, rfl, rfl, ci, nap_1 i, nap_1 i⟩
      · right
        have e : i = dc (rn z d0 cs n) := by omega
        rw [if_pos (nI_le (by omega) (by omega)), if_pos (by rw [e])]
        exact ⟨_, _, rfl, rfl, Or.inr ⟨_, rfl, by rw [e]⟩⟩) (s := (0 : Int32)) (t := (0 : Int32)) ⟨rfl, rfl⟩
  rw [e1, e2, ob_some]
  rcases Q with rfl | ⟨v, rfl, rfl⟩
  · exact ⟨_, rfl, rfl⟩
  · exact ⟨_, rfl, rfl⟩
theorem k_mark (a1 a2 : Int32) : Lk (X9_mark a1 a2) (X10_mark a1 a2) := by
  rintro u w h g ⟨z, d0, cs, n, H⟩
  have hp := H.zok.1
  have h40 := H.n40
  unfold X9_mark X10_mark
  rcases isOne_c hp H.p9 H.p10 a1 with ⟨q1, q2⟩ | ⟨i, hi, rfl, q1, q2⟩
  · rw [q1, q2, if_pos rfl, if_pos rfl]; exact ⟨_, _, _, rfl, rfl, H.rr⟩
  rw [q1, q2, if_neg n10, if_neg n10]
  by_cases c1 : a2 ≤ 0
  · rw [if_pos c1, in0 (Int32.lt_of_le_of_lt c1 (by decide)), if_pos rfl]; exact ⟨_, _, _, rfl, rfl, H.rr⟩
  rw [if_neg c1]
  rcases rng a2 5 (by decide) with q | ⟨q1, q2, q3⟩ | ⟨c, hc, rfl⟩
  · exact absurd (Int32.le_of_lt q) c1
  · rw [in1 (show 5 < a2 from q3), if_pos rfl]
    obtain ⟨j, hj, rfl⟩ := nI_of q1
    have := (nI_ltI (by omega) hj).mp q3
    rw [if_neg (fun q => by have := (nlr_6 hj).mp q; omega)]
    exact ⟨_, _, _, rfl, rfl, H.rr⟩
  have hc0 : 0 < c := by
    rcases Nat.eq_zero_or_pos c with e | e
    · subst e; exact absurd (by decide) c1
    · exact e
  rw [if_pos ((nlr_6 (by omega)).mpr (by omega)), in2 (fun q => by have := (nlr_1 (by omega)).mp q; omega) (fun q => by have := (nll_5 (by omega)).mp q; omega), if_neg n10, H.pers hi, ob_some, gd_true (pB_c _), gd_ib (by omega) (by decide), gd_ib (by omega) (by decide), ix_nI (i := i) (by omega), H.k10 hi, H.now, nap_12, nap_6, nI_add]
  obtain ⟨h', g', f1, f2, H'⟩ := H.find 3 (by decide)
  rw [show (3 : Int32) = nI 3 from rfl, f1, f2, ob2_some, ob2_some]
  have r1 : h.1 19 7 = nI (dc (rn z d0 cs n)) := H.f19.2.2.2.2.2.2.1
  have r2 : h.1 22 i = nI (dh (rn z d0 cs n) i) := H.f19.2.2.2.2.2.1 i hi
  have c60 := H.dok.2.2.1
  have k6 := H.k6 hi
  rcases (show c = 1 ∨ c = 2 ∨ c = 3 ∨ c = 4 ∨ c = 5 by omega) with rfl | rfl | rfl | rfl | rfl
  · rw [if_pos (by decide)]
    rcases mk_1 _ k6 with ⟨b1, b2⟩ | ⟨b1, b2⟩
    · rw [if_pos b1, if_pos (show X10_isOf (nI (zk z i)) (nI 1) = 0 from b2)]; exact ⟨_, _, _, rfl, rfl, H'.rr⟩
    · obtain ⟨v, e1, e2⟩ := H.all
      rw [H.now] at e2
      rw [if_neg b1, if_neg (show ¬ X10_isOf (nI (zk z i)) (nI 1) = 0 from b2), gd_ib (by omega) (by decide), lt_eq, if_pos (by decide), e1, e2, ob_some, ob_some, gd_ib (by omega) (by decide), gd_ib (by omega) (by decide), ix_nI (i := 17 * n + 6 + i) (by omega), H.row.2.1 i hi, r2]
      exact ⟨_, _, _, rfl, rfl, H.rr⟩
  · rw [if_neg (by decide), if_pos (by decide)]
    rcases mk_2 _ k6 with ⟨b1, b2⟩ | ⟨b1, b2⟩
    · rw [if_pos b1, if_pos (show X10_isOf (nI (zk z i)) (nI 2) = 0 from b2)]; exact ⟨_, _, _, rfl, rfl, H'.rr⟩
    · rw [if_neg b1, if_neg (show ¬ X10_isOf (nI (zk z i)) (nI 2) = 0 from b2), gd_ib (by omega) (by decide), lt_eq, if_neg (by decide), if_pos (by decide), gd_ib (by omega) (by decide), ix_nI (i := 17 * n + 6 + i) (by omega), H.row.2.1 i hi, r2]
      exact ⟨_, _, _, rfl, rfl, H.rr⟩
  · rw [if_neg (by decide), if_neg (by decide), if_pos (by decide)]
    rcases mk_3 _ k6 with ⟨b1, b2⟩ | ⟨b1, b2⟩
    · rw [if_pos b1, if_pos (show X10_isOf (nI (zk z i)) (nI 3) = 0 from b2)]; exact ⟨_, _, _, rfl, rfl, H'.rr⟩
    · obtain ⟨v, e1, e2⟩ := H.alike k6
      rw [if_neg b1, if_neg (show ¬ X10_isOf (nI (zk z i)) (nI 3) = 0 from b2), gd_ib (by omega) (by decide), lt_eq, if_neg (by decide), if_neg (by decide), if_pos (by decide), e1, e2, ob_some, ob_some]
      exact ⟨_, _, _, rfl, rfl, H.rr⟩
  · rw [if_neg (by decide), if_neg (by decide), if_neg (by decide), if_pos (by decide)]
    rcases mk_4 _ k6 with ⟨b1, b2⟩ | ⟨b1, b2⟩
    · rw [if_pos b1, if_pos (show X10_isOf (nI (zk z i)) (nI 4) = 0 from b2)]; exact ⟨_, _, _, rfl, rfl, H'.rr⟩
    · rw [if_neg b1, if_neg (show ¬ X10_isOf (nI (zk z i)) (nI 4) = 0 from b2), gd_ib (by omega) (by decide), lt_eq, if_neg (by decide), if_neg (by decide), if_neg (by decide), if_pos (by decide), ix_nI (by omega), H.row.2.2.1, r1]
      exact ⟨_, _, _, rfl, rfl, H.rr⟩
  · rw [if_neg (by decide), if_neg (by decide), if_neg (by decide), if_neg (by decide)]
    rcases mk_5 _ k6 with ⟨b1, b2⟩ | ⟨b1, b2⟩
    · rw [if_pos b1, if_pos (show X10_isOf (nI (zk z i)) (nI 5) = 0 from b2)]; exact ⟨_, _, _, rfl, rfl, H'.rr⟩
    · have wc := wound_c _ (show dc (rn z d0 cs n) < 61 by omega)
      rw [if_neg b1, if_neg (show ¬ X10_isOf (nI (zk z i)) (nI 5) = 0 from b2), gd_ib (by omega) (by decide), lt_eq, if_neg (by decide), if_neg (by decide), if_neg (by decide), if_neg (by decide), ix_nI (by omega), H.row.2.2.1, r1]
      refine ⟨_, h, g, rfl, ?_, H.rr⟩
      by_cases cq : nI (dc (rn z d0 cs n)) < 20
      · rw [if_pos cq] at wc ⊢
        injection wc with wc
        rw [← wc]
      · rw [if_neg cq] at wc ⊢
        injection wc with wc
        rw [← wc]
