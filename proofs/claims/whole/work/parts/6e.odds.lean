theorem pow_c (b k : Nat) (hk : k < 1000) : X9_power (lN b) (nI k) = some (lN (b ^ k)) := by
  unfold X9_power
  obtain ⟨⟨r1, r2⟩, e, q⟩ := lp_all (step := fun s : Int64 × Int32 => X9_power_s5 (lN b) (nI k) s.1 s.2)
    (fun i s => s.1 = lN (b ^ i) ∧ s.2 = nI i) (fun r => r.1 = lN (b ^ k)) k (by omega) (by
      rintro i ⟨s1, s2⟩ hi ⟨g1, g2⟩
      cases g1; cases g2
      show ∃ t, X9_power_s5 (lN b) (nI k) (lN (b ^ i)) (nI i) = some (.inr t) ∧ _
      unfold X9_power_s5
      rw [if_neg (nI_ge hi (by omega)), lN_mul, ← Nat.pow_succ]
      exact ⟨_, rfl, rfl, nap_1 i⟩) (by
      rintro ⟨s1, s2⟩ ⟨g1, g2⟩
      cases g1; cases g2
      show ∃ t, X9_power_s5 (lN b) (nI k) (lN (b ^ k)) (nI k) = some (.inl t) ∧ _
      unfold X9_power_s5
      rw [if_pos (nI_le (Nat.le_refl _) (by omega))]
      exact ⟨_, rfl, rfl⟩) (s := ((1 : Int64), (0 : Int32))) ⟨rfl, rfl⟩
  have q : r1 = _ := q
  rw [e, ob2_some, q]
def popn (s : Nat) : Nat → Nat
  | 0 => 0
  | i + 1 => popn s i + (if s.testBit i then 1 else 0)
theorem popn_le (s : Nat) : ∀ i, popn s i ≤ i := by
  intro i
  induction i with
  | zero => exact Nat.le_refl _
  | succ i ih =>
    show popn s i + (if s.testBit i then 1 else 0) ≤ i + 1
    split <;> omega
theorem popn_pop : ∀ z, z < 7 → ∀ s, s < 64 → s < 2 ^ z → popn s z = pop s := by decide +kernel
theorem pop_lez {z s : Nat} (hz : z ≤ 6) (hs : s < 2 ^ z) : pop s ≤ z := by
  rw [← popn_pop z (by omega) s (Nat.lt_of_lt_of_le hs (p2_le hz)) hs]
  exact popn_le s z
theorem RZ.wgt {u w : Hp} {z : ZS} {d0 : DS} {cs : Nat → Nat} {n : Nat} {h g : Hp} (H : RZ u w z d0 cs n h g) {s p : Nat} (hs : s < 2 ^ zp z) (hp12 : p ≤ 12) : X9_weightOf (nI s) (nI p) h = some (lN (p ^ pop s * (12 - p) ^ (zp z - pop s))) := by
  have hp := H.zok.1
  have h64 := p2_le hp
  have hl := pop_lez hp hs
  unfold X9_weightOf
  rw [pop_c s (by omega), lt_eq, H.p9, nI_l (by omega), pow_c _ _ (by omega), ob_some, show (12 : Int32) = nI 12 from rfl, pk_sub hp12, nI_l (by omega), pk_sub hl, pow_c _ _ (by omega), ob_some, lN_mul]
theorem RZ.wgM {u w : Hp} {z : ZS} {d0 : DS} {cs : Nat → Nat} {n : Nat} {h g : Hp} (H : RZ u w z d0 cs n h g) {s p : Nat} (x1 : Int32) (x3 : Int64) (hs : s < 2 ^ zp z) (hp12 : p ≤ 12) : lp (fun q : Int64 × Int32 => X10_weighed_s22 x1 (nI p) x3 (nI s) g q.1 q.2) FU ((1 : Int64), (0 : Int32)) = some (lN (p ^ pop s * (12 - p) ^ (zp z - pop s)), nI (zp z)) := by
  have hp := H.zok.1
  have h64 := p2_le hp
  obtain ⟨⟨r1, r2⟩, e, q1, q2⟩ := lp_all (step := fun q : Int64 × Int32 => X10_weighed_s22 x1 (nI p) x3 (nI s) g q.1 q.2)
    (fun i q => q.1 = lN (p ^ popn s i * (12 - p) ^ (i - popn s i)) ∧ q.2 = nI i) (fun r => r.1 = lN (p ^ popn s (zp z) * (12 - p) ^ (zp z - popn s (zp z))) ∧ r.2 = nI (zp z)) (zp z) (by omega) (by
      rintro i ⟨s1, s2⟩ hi ⟨g1, g2⟩
      cases g1; cases g2
      show ∃ t, X10_weighed_s22 x1 (nI p) x3 (nI s) g (lN (p ^ popn s i * (12 - p) ^ (i - popn s i))) (nI i) = some (.inr t) ∧ _
      unfold X10_weighed_s22
      rw [H.p10, if_neg (nI_ge hi (by omega)), show (12 : Int32) = nI 12 from rfl, pk_sub hp12, nI_l (by omega), nI_l (by omega)]
      have hle := popn_le s i
      have e1 : popn s (i + 1) = popn s i + (if s.testBit i then 1 else 0) := rfl
      rcases has1 (show s < 64 by omega) (show i < 6 by omega) with ⟨b1, b2, b3⟩ | ⟨b1, b2, b3⟩
      · rw [b3, if_pos rfl] at e1
        rw [if_neg b2, ob_some, lN_mul, e1]
        refine ⟨_, rfl, ?_, nap_1 i⟩
        show lN _ = lN _
        congr 1
        rw [show i + 1 - (popn s i + 1) = i - popn s i by omega, Nat.pow_succ, Nat.mul_assoc, Nat.mul_assoc, Nat.mul_comm p]
      · rw [b3, if_neg (by decide)] at e1
        have e1 := e1.trans (Nat.add_zero _)
        rw [if_pos b2, ob_some, lN_mul, e1]
        refine ⟨_, rfl, ?_, nap_1 i⟩
        show lN _ = lN _
        congr 1
        rw [show i + 1 - popn s i = (i - popn s i) + 1 by omega, Nat.pow_succ, Nat.mul_assoc]) (by
      rintro ⟨s1, s2⟩ ⟨g1, g2⟩
      cases g1; cases g2
      show ∃ t, X10_weighed_s22 x1 (nI p) x3 (nI s) g (lN (p ^ popn s (zp z) * (12 - p) ^ (zp z - popn s (zp z)))) (nI (zp z)) = some (.inl t) ∧ _
      unfold X10_weighed_s22
      rw [H.p10, if_pos (nI_le (Nat.le_refl _) (by omega))]
      exact ⟨_, rfl, rfl, rfl⟩) (s := ((1 : Int64), (0 : Int32))) ⟨rfl, rfl⟩
  have q1 : r1 = _ := q1
  have q2 : r2 = _ := q2
  rw [e, q1, q2, popn_pop (zp z) (by omega) s (by omega) hs]
theorem RZ.twv {u w : Hp} {z : ZS} {d0 : DS} {cs : Nat → Nat} {n : Nat} {h g : Hp} (H : RZ u w z d0 cs n h g) : X10_twelves g = some (lN (12 ^ zp z)) := by
  have hp := H.zok.1
  unfold X10_twelves
  obtain ⟨⟨r1, r2⟩, e, q⟩ := lp_all (step := fun s : Int64 × Int32 => X10_twelves_s4 g s.1 s.2)
    (fun i s => s.1 = lN (12 ^ i) ∧ s.2 = nI i) (fun r => r.1 = lN (12 ^ zp z)) (zp z) (by omega) (by
      rintro i ⟨s1, s2⟩ hi ⟨g1, g2⟩
      cases g1; cases g2
      show ∃ t, X10_twelves_s4 g (lN (12 ^ i)) (nI i) = some (.inr t) ∧ _
      unfold X10_twelves_s4
      rw [H.p10, if_neg (nI_ge hi (by omega)), show (12 : Int64) = lN 12 from rfl, lN_mul, ← Nat.pow_succ]
      exact ⟨_, rfl, rfl, nap_1 i⟩) (by
      rintro ⟨s1, s2⟩ ⟨g1, g2⟩
      cases g1; cases g2
      show ∃ t, X10_twelves_s4 g (lN (12 ^ zp z)) (nI (zp z)) = some (.inl t) ∧ _
      unfold X10_twelves_s4
      rw [H.p10, if_pos (nI_le (Nat.le_refl _) (by omega))]
      exact ⟨_, rfl, rfl⟩) (s := ((1 : Int64), (0 : Int32))) ⟨rfl, rfl⟩
  have q : r1 = _ := q
  rw [e, ob2_some, q]
theorem mod_half {a b : Nat} (h0 : 0 < b) (h : b ≤ a) : 2 * (a % b) ≤ a := by
  have h1 := Nat.mod_lt a h0
  have h2 : a % b ≤ a - b := by rw [Nat.mod_eq_sub_mod h]; exact Nat.mod_le _ _
  omega
theorem lcmp0 {b : Nat} (hb : b < 2 ^ 63) : lg_cmp (lN b) 0 = 0 ↔ b = 0 := by
  rw [lg_cmp_eq]
  exact pk_lEQ (b := 0) hb (by decide)
theorem nzL_lN {b : Nat} (h0 : 0 < b) (hb : b < 2 ^ 63) : nzL (lN b) = true := decide_eq_true (fun q => by have := (pk_lEQ (b := 0) hb (by decide)).mp q; omega)
/-- Euclid, both -/
theorem gcd_c {a b : Nat} (x1 x3 : Int64) (g : Hp) (ha : a < 2 ^ 60) (h0 : 0 < b) (hb : b < 2 ^ 22) : ∃ d, 0 < d ∧ d < 2 ^ 60 ∧ X9_commonDivisor (lN a) (lN b) = some (lN d) ∧ lp (fun s : Int64 × Int64 => X10_tellPart_s6 x1 x3 g s.1 s.2) FU (lN a, lN b) = some (lN d, lN 0) := by
  obtain ⟨⟨s1, s2, s3⟩, ⟨t1, t2⟩, e1, e2, d, hd0, hd, q1, q2, q3⟩ := lpp (f := fun s : Int64 × Int64 × Int32 => X9_commonDivisor_s9 s.1 s.2.1 s.2.2) (g := fun s : Int64 × Int64 => X10_tellPart_s6 x1 x3 g s.1 s.2)
    (fun i s t => ∃ p q, p < 2 ^ 60 ∧ q < 2 ^ 60 ∧ s.1 = lN p ∧ t.1 = lN p ∧ s.2.1 = lN q ∧ t.2 = lN q ∧ s.2.2 = nI i ∧ ((i = 0 ∧ p = a ∧ q = b) ∨ (q < p ∧ p * q * 2 ^ i ≤ 2 ^ 45)))
    (fun s t => ∃ d, 0 < d ∧ d < 2 ^ 60 ∧ s.1 = lN d ∧ t.1 = lN d ∧ t.2 = lN 0) 50 (by omega) (by
      rintro i ⟨s1, s2, s3⟩ ⟨t1, t2⟩ hi ⟨p, q, hp, hq, g1, g2, g3, g4, g5, g6⟩
      cases g1; cases g2; cases g3; cases g4; cases g5
      show (∃ s' t', X9_commonDivisor_s9 (lN p) (lN q) (nI i) = some (.inr s') ∧ X10_tellPart_s6 x1 x3 g (lN p) (lN q) = some (.inr t') ∧ _) ∨ ∃ a b, X9_commonDivisor_s9 (lN p) (lN q) (nI i) = some (.inl a) ∧ X10_tellPart_s6 x1 x3 g (lN p) (lN q) = some (.inl b) ∧ _
      unfold X9_commonDivisor_s9 X10_tellPart_s6
      rw [if_neg (show ¬ (100 : Int32) ≤ nI i from fun r => by have := (nel_100 (by omega)).mp r; omega)]
      by_cases cq : q = 0
      · right
        rw [if_pos ((lcmp0 (by omega)).mpr cq), if_pos ((lcmp0 (by omega)).mpr cq)]
        refine ⟨_, _, rfl, rfl, p, ?_, hp, rfl, rfl, by rw [cq]⟩
        rcases g6 with ⟨_, _, e⟩ | ⟨h1, _⟩
        · omega
        · omega
      · left
        have hql : 0 < q := by omega
        rw [if_neg (fun r => cq ((lcmp0 (by omega)).mp r)), if_neg (fun r => cq ((lcmp0 (by omega)).mp r)), gd_true (nzL_lN hql (by omega)), gd_true (nzL_lN hql (by omega)), show lrm (lN p) (lN q) = lN (p % q) from pk_lRem (by omega) hql (by omega), lt_eq, lt_eq]
        have hml := Nat.mod_lt p hql
        have key : q * (p % q) * 2 ^ (i + 1) ≤ 2 ^ 45 := by
          rcases g6 with ⟨h1, h2, h3⟩ | ⟨h1, h2⟩
          · subst h1 h2 h3
            have k1 : q * (p % q) ≤ 2 ^ 22 * 2 ^ 22 := Nat.mul_le_mul (Nat.le_of_lt hb) (by omega)
            calc q * (p % q) * 2 ^ (0 + 1) ≤ 2 ^ 22 * 2 ^ 22 * 2 ^ (0 + 1) := Nat.mul_le_mul_right _ k1
              _ = 2 ^ 45 := by decide
          · have k1 := mod_half hql (Nat.le_of_lt h1)
            have k2 : q * (2 * (p % q)) ≤ q * p := Nat.mul_le_mul_left _ k1
            calc q * (p % q) * 2 ^ (i + 1) = q * (2 * (p % q)) * 2 ^ i := by rw [Nat.pow_succ, Nat.mul_comm (2 ^ i) 2, ← Nat.mul_assoc, Nat.mul_assoc q, Nat.mul_comm (p % q) 2]
              _ ≤ q * p * 2 ^ i := Nat.mul_le_mul_right _ k2
              _ = p * q * 2 ^ i := by rw [Nat.mul_comm q p]
              _ ≤ 2 ^ 45 := h2
        refine ⟨_, _, rfl, rfl, ?_, q, p % q, hq, by omega, rfl, rfl, rfl, rfl, nap_1 i, Or.inr ⟨hml, key⟩⟩
        rcases g6 with ⟨h1, _, _⟩ | ⟨h1, h2⟩
        · omega
        · rcases Nat.lt_or_ge i 50 with h3 | h3
          · exact h3
          · exfalso
            have h4 : i = 50 := by omega
            subst h4
            have k1 : 1 * 1 ≤ p * q := Nat.mul_le_mul (by omega) hql
            have k2 : 1 * 2 ^ 50 ≤ p * q * 2 ^ 50 := Nat.mul_le_mul_right _ (by omega)
            have k3 : (2 : Nat) ^ 50 ≤ 2 ^ 45 := by omega
            exact absurd k3 (by decide)) (s := (lN a, lN b, (0 : Int32))) (t := (lN a, lN b)) ⟨a, b, ha, by omega, rfl, rfl, rfl, rfl, rfl, Or.inl ⟨rfl, rfl, rfl⟩⟩
  have q1 : s1 = _ := q1
  have q2 : t1 = _ := q2
  have q3 : t2 = _ := q3
  refine ⟨d, hd0, hd, ?_, by rw [e2, q2, q3]⟩
  unfold X9_commonDivisor
  rw [e1, ob3_some, q1]
theorem RZ.tellP {u w : Hp} {z : ZS} {d0 : DS} {cs : Nat → Nat} {n : Nat} {h g : Hp} (H : RZ u w z d0 cs n h g) {a b : Nat} (ha : a < 2 ^ 60) (h0 : 0 < b) (hb : b < 2 ^ 22) : ∃ h' g', X9_tellParts (lN a) (lN b) h = some h' ∧ X10_tellPart (lN a) (lN b) g = some g' ∧ RZ u w z d0 cs n h' g' := by
  obtain ⟨d, hd0, hd, e1, e2⟩ := gcd_c (lN a) (lN b) g ha h0 hb
  unfold X9_tellParts X10_tellPart
  rw [e1, e2, ob_some, ob2_some, if_pos (show (0 : Int32) < lg_cmp (lN d) 0 by rw [lg_cmp_gt]; exact (pk_lLT (a := 0) (by decide) (by omega)).mpr hd0), gd_true (nzL_lN hd0 (by omega)), gd_true (nzL_lN hd0 (by omega)), lt_eq, lt_eq, lt_eq, lt_eq]
  exact ⟨_, _, rfl, rfl, H.parts _ _⟩
theorem wgt_le {p a b : Nat} (hp : p ≤ 12) (hab : a + b ≤ 6) : p ^ a * (12 - p) ^ b ≤ 12 ^ 6 := by
  calc p ^ a * (12 - p) ^ b ≤ 12 ^ a * 12 ^ b := Nat.mul_le_mul (Nat.pow_le_pow_left hp a) (Nat.pow_le_pow_left (by omega) b)
    _ = 12 ^ (a + b) := (Nat.pow_add 12 a b).symm
    _ ≤ 12 ^ 6 := Nat.pow_le_pow_right (by decide) hab
theorem twl {p : Nat} (hp : p ≤ 6) : 0 < 12 ^ p ∧ 12 ^ p < 2 ^ 22 := ⟨Nat.pow_pos (by decide), Nat.lt_of_le_of_lt (Nat.pow_le_pow_right (by decide) hp) (by decide)⟩
theorem k_odds (a1 a2 : Int32) : Lk (X9_odds a1 a2) (X10_odds a1 a2) := by
  rintro u w h g ⟨z, d0, cs, n, H⟩
  have hp := H.zok.1
  have h64 := p2_le hp
  unfold X9_odds X10_odds
  rcases isOne_c hp H.p9 H.p10 a1 with ⟨q1, q2⟩ | ⟨i, hi, rfl, q1, q2⟩
  · rw [q1, q2, if_pos rfl, if_pos rfl]; exact ⟨_, _, _, rfl, rfl, H.rr⟩
  rw [q1, q2, if_neg n10, if_neg n10]
  rcases rng a2 12 (by decide) with q | ⟨q1, q2, q3⟩ | ⟨p, hp12, rfl⟩
  · rw [if_pos q, in0 q, if_pos rfl]; exact ⟨_, _, _, rfl, rfl, H.rr⟩
  · rw [if_neg q1, if_neg (show ¬ a2 ≤ 12 from q2), in1 (show 12 < a2 from q3), if_pos rfl]; exact ⟨_, _, _, rfl, rfl, H.rr⟩
  rw [if_neg (nI_pos (by omega)), if_pos ((ner_12 (by omega)).mpr hp12), in2 (nI_pos (by omega)) (fun q => by have := (nll_12 (by omega)).mp q; omega), if_neg n10]
  obtain ⟨⟨s1, s2, s3⟩, ⟨t1, t2, t3⟩, e3, e4, S, hS, Q1, Q2, Q3⟩ := lpp (f := fun s : Int64 × Int32 × Hp => X9_odds_s28 (nI i) (nI p) s.1 s.2.1 s.2.2) (g := fun s : Int64 × Int32 × Hp => X10_weighed_s5 (nI i) (nI p) s.1 s.2.1 s.2.2)
    (fun k s t => ∃ S, S ≤ k * 12 ^ 6 ∧ s.1 = lN S ∧ t.1 = lN S ∧ s.2.1 = nI k ∧ t.2.1 = nI k ∧ RZ u w z d0 cs n s.2.2 t.2.2) (fun s t => ∃ S, S < 2 ^ 60 ∧ s.1 = lN S ∧ t.1 = lN S ∧ RZ u w z d0 cs n s.2.2 t.2.2) (2 ^ zp z) (by omega) (by
      rintro k ⟨s1, s2, s3⟩ ⟨t1, t2, t3⟩ hk ⟨S, hS, g1, g2, g3, g4, g5⟩
      cases g1; cases g2; cases g3; cases g4
      show (∃ s' t', X9_odds_s28 (nI i) (nI p) (lN S) (nI k) s3 = some (.inr s') ∧ X10_weighed_s5 (nI i) (nI p) (lN S) (nI k) t3 = some (.inr t') ∧ _) ∨ ∃ a b, X9_odds_s28 (nI i) (nI p) (lN S) (nI k) s3 = some (.inl a) ∧ X10_weighed_s5 (nI i) (nI p) (lN S) (nI k) t3 = some (.inl b) ∧ _
      have g5 : RZ u w z d0 cs n s3 t3 := g5
      unfold X9_odds_s28 X10_weighed_s5
      rw [g5.p9, g5.p10, sh1 _ (by omega)]
      by_cases c : k < 2 ^ zp z
      · left
        have hl := pop_lez hp c
        have wl := wgt_le (a := pop k) (b := zp z - pop k) hp12 (by omega)
        obtain ⟨h1, g1, x1, x2, A⟩ := g5.ahead
        obtain ⟨h2, g2, y1, y2, A2⟩ := A.pass k (by omega)
        rw [if_neg (nI_ge c (by omega)), if_neg (nI_ge c (by omega)), x1, ob_some, y1, ob2_some, g5.wgM (nI i) (lN S) c hp12, ob2_some, x2, ob_some, y2, ob2_some, if_neg (nm9 (by omega)), A2.1.wgt c hp12]
        rcases has1 (tnS_lt (aw := k) A.2.1 A.2.2.1) (show i < 6 by omega) with ⟨b1, b2, _⟩ | ⟨b1, b2, _⟩
        · rw [if_pos b1, if_neg b2, ob_some, lt_eq, ob_some, ob_some, lt_eq, lt_eq, lN_add]
          exact ⟨_, _, rfl, rfl, c, _, by rw [Nat.add_mul, Nat.one_mul]; exact Nat.add_le_add hS wl, rfl, rfl, nap_1 k, nap_1 k, A2.1⟩
        · rw [if_neg b1, if_pos b2, ob_some, ob_some, lt_eq, lt_eq, Int64.add_zero]
          exact ⟨_, _, rfl, rfl, c, _, Nat.le_trans hS (Nat.mul_le_mul_right _ (by omega)), rfl, rfl, nap_1 k, nap_1 k, A2.1⟩
      · right
        have e : k = 2 ^ zp z := by omega
        subst e
        rw [if_pos (nI_le (Nat.le_refl _) (by omega)), if_pos (nI_le (Nat.le_refl _) (by omega))]
        exact ⟨_, _, rfl, rfl, S, Nat.lt_of_le_of_lt hS (Nat.lt_of_le_of_lt (Nat.mul_le_mul_right _ h64) (by decide)), rfl, rfl, g5⟩) (s := ((0 : Int64), (0 : Int32), h)) (t := ((0 : Int64), (0 : Int32), g)) ⟨0, by omega, rfl, rfl, rfl, rfl, H⟩
  have Q1 : s1 = _ := Q1
  have Q2 : t1 = _ := Q2
  have Q3 : RZ u w z d0 cs n s3 t3 := Q3
  obtain ⟨w1, w2⟩ := twl hp
  obtain ⟨h', g', y1, y2, H'⟩ := Q3.tellP hS w1 w2
  unfold X10_weighed
  rw [e3, e4, ob3_some, ob3_some, Q1, Q2, ob2_some, Q3.p9, Q3.twv, ob_some, show (12 : Int64) = lN 12 from rfl, pow_c _ _ (by omega), ob_some, y1, y2, ob_some, ob_some]
  exact ⟨_, _, _, rfl, rfl, H'.rr⟩
theorem k_mid (a1 : Int32) : Lk (X9_mid a1) (X10_mid a1) := by
  rintro u w h g ⟨z, d0, cs, n, H⟩
  have hp := H.zok.1
  have h64 := p2_le hp
  unfold X9_mid X10_mid
  rcases rng a1 12 (by decide) with q | ⟨q1, q2, q3⟩ | ⟨p, hp12, rfl⟩
  · rw [if_pos q, in0 q, if_pos rfl]; exact ⟨_, _, _, rfl, rfl, H.rr⟩
  · rw [if_neg q1, if_neg (show ¬ a1 ≤ 12 from q2), in1 (show 12 < a1 from q3), if_pos rfl]; exact ⟨_, _, _, rfl, rfl, H.rr⟩
  rw [if_neg (nI_pos (by omega)), if_pos ((ner_12 (by omega)).mpr hp12), in2 (nI_pos (by omega)) (fun q => by have := (nll_12 (by omega)).mp q; omega), if_neg n10, H.p9, H.p10]
  by_cases c : nI (zp z) = (0 : Int32)
  · rw [if_pos c, if_pos c]; exact ⟨_, _, _, rfl, rfl, H.rr⟩
  rw [if_neg c, if_neg c]
  obtain ⟨⟨s1, s2, s3⟩, ⟨t1, t2, t3⟩, e3, e4, S, hS, Q1, Q2, Q3⟩ := lpp (f := fun s : Int64 × Int32 × Hp => X9_mid_s30 (nI p) s.1 s.2.1 s.2.2) (g := fun s : Int64 × Int32 × Hp => X10_weighed_s5 (-9) (nI p) s.1 s.2.1 s.2.2)
    (fun k s t => ∃ S, S ≤ k * (60 * 12 ^ 6) ∧ s.1 = lN S ∧ t.1 = lN S ∧ s.2.1 = nI k ∧ t.2.1 = nI k ∧ RZ u w z d0 cs n s.2.2 t.2.2) (fun s t => ∃ S, S < 2 ^ 60 ∧ s.1 = lN S ∧ t.1 = lN S ∧ RZ u w z d0 cs n s.2.2 t.2.2) (2 ^ zp z) (by omega) (by
      rintro k ⟨s1, s2, s3⟩ ⟨t1, t2, t3⟩ hk ⟨S, hS, g1, g2, g3, g4, g5⟩
      cases g1; cases g2; cases g3; cases g4
      show (∃ s' t', X9_mid_s30 (nI p) (lN S) (nI k) s3 = some (.inr s') ∧ X10_weighed_s5 (-9) (nI p) (lN S) (nI k) t3 = some (.inr t') ∧ _) ∨ ∃ a b, X9_mid_s30 (nI p) (lN S) (nI k) s3 = some (.inl a) ∧ X10_weighed_s5 (-9) (nI p) (lN S) (nI k) t3 = some (.inl b) ∧ _
      have g5 : RZ u w z d0 cs n s3 t3 := g5
      unfold X9_mid_s30 X10_weighed_s5
      rw [g5.p9, g5.p10, sh1 _ (by omega)]
      by_cases c : k < 2 ^ zp z
      · left
        have hl := pop_lez hp c
        have wl := wgt_le (a := pop k) (b := zp z - pop k) hp12 (by omega)
        obtain ⟨h1, g1, x1, x2, A⟩ := g5.ahead
        obtain ⟨h2, g2, y1, y2, A2⟩ := A.pass k (by omega)
        have r1 : h2.1 23 7 = nI _ := A2.2.2.2.1.2.2.2.2.2.2.1
        have r2 : g2.1 52 2800 = nI _ := A2.2.2.2.2.1.2.2.1
        have c60 := A2.2.2.1.2.2.1
        rw [if_neg (nI_ge c (by omega)), if_neg (nI_ge c (by omega)), x1, ob_some, y1, ob2_some, g5.wgM (-9) (lN S) c hp12, ob2_some, x2, ob_some, y2, ob2_some, if_pos rfl, A2.1.wgt c hp12, ob_some, gd_true (by decide), show ix (2800 : Int32) = 2800 by decide, r1, r2, ob_some, nI_l (by omega), lN_mul, lN_mul, lN_add, lN_add, lt_eq, lt_eq]
        refine ⟨_, _, rfl, rfl, c, S + (p ^ pop k * (12 - p) ^ (zp z - pop k)) * dc (tnD z k (rn z d0 cs n)), ?_, by rw [Nat.mul_comm (dc (tnD z k (rn z d0 cs n)))], rfl, nap_1 k, nap_1 k, A2.1⟩
        rw [Nat.add_mul, Nat.one_mul, Nat.mul_comm (p ^ pop k * (12 - p) ^ (zp z - pop k))]
        exact Nat.add_le_add hS (Nat.mul_le_mul c60 wl)
      · right
        have e : k = 2 ^ zp z := by omega
        subst e
        rw [if_pos (nI_le (Nat.le_refl _) (by omega)), if_pos (nI_le (Nat.le_refl _) (by omega))]
        exact ⟨_, _, rfl, rfl, S, Nat.lt_of_le_of_lt hS (Nat.lt_of_le_of_lt (Nat.mul_le_mul_right _ h64) (by decide)), rfl, rfl, g5⟩) (s := ((0 : Int64), (0 : Int32), h)) (t := ((0 : Int64), (0 : Int32), g)) ⟨0, by omega, rfl, rfl, rfl, rfl, H⟩
  have Q1 : s1 = _ := Q1
  have Q2 : t1 = _ := Q2
  have Q3 : RZ u w z d0 cs n s3 t3 := Q3
  obtain ⟨w1, w2⟩ := twl hp
  obtain ⟨h', g', y1, y2, H'⟩ := Q3.tellP hS w1 w2
  unfold X10_weighed
  rw [e3, e4, ob3_some, ob3_some, Q1, Q2, ob2_some, Q3.p9, Q3.twv, ob_some, show (12 : Int64) = lN 12 from rfl, pow_c _ _ (by omega), ob_some, y1, y2, ob_some, ob_some]
  exact ⟨_, _, _, rfl, rfl, H'.rr⟩
