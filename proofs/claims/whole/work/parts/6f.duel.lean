theorem lp_in {σ ρ : Type} {step : σ → Option (ρ ⊕ σ)} {s t : σ} {n : Nat} (e : step s = some (.inr t)) : lp step (n + 1) s = lp step n t := by
  rw [lp, e]
theorem lp_out {σ ρ : Type} {step : σ → Option (ρ ⊕ σ)} {s : σ} {r : ρ} {n : Nat} (e : step s = some (.inl r)) : lp step (n + 1) s = some r := by
  rw [lp, e]
theorem FU1 : FU = 9999999 + 1 := rfl
theorem FU3 : FU = 9999997 + 1 + 1 + 1 := rfl
theorem FU4 : FU = 9999996 + 1 + 1 + 1 + 1 := rfl
theorem FU5 : FU = 9999995 + 1 + 1 + 1 + 1 + 1 := rfl
theorem lpq3 {σ ρ : Type} {step : σ → Option (ρ ⊕ σ)} {s0 s1 s2 s3 : σ} {r : ρ} (e0 : step s0 = some (.inr s1)) (e1 : step s1 = some (.inr s2)) (e2 : step s2 = some (.inr s3)) (e3 : step s3 = some (.inl r)) : lp step FU s0 = some r := by
  rw [FU4, lp_in e0, lp_in e1, lp_in e2, lp_out e3]
theorem lpq2 {σ ρ : Type} {step : σ → Option (ρ ⊕ σ)} {s0 s1 s2 : σ} {r : ρ} (e0 : step s0 = some (.inr s1)) (e1 : step s1 = some (.inr s2)) (e3 : step s2 = some (.inl r)) : lp step FU s0 = some r := by
  rw [FU3, lp_in e0, lp_in e1, lp_out e3]
def mx3 (a b c : Int32) : Int32 := mxI (mxI a b) c
def mn3 (a b c : Int32) : Int32 := mnI (mnI a b) c
def Bd (v : Int32) : Prop := -30 ≤ v ∧ v ≤ 30
theorem Bd.mx {a b : Int32} (ha : Bd a) (hb : Bd b) : Bd (mxI a b) := by
  show Bd (if _ then _ else _)
  split
  · exact hb
  · exact ha
theorem Bd.mn {a b : Int32} (ha : Bd a) (hb : Bd b) : Bd (mnI a b) := by
  show Bd (if _ then _ else _)
  split
  · exact hb
  · exact ha
theorem Bd.mx3 {a b c : Int32} (ha : Bd a) (hb : Bd b) (hc : Bd c) : Bd (mx3 a b c) := (ha.mx hb).mx hc
theorem Bd.mn3 {a b c : Int32} (ha : Bd a) (hb : Bd b) (hc : Bd c) : Bd (mn3 a b c) := (ha.mn hb).mn hc
theorem mx_30 {v : Int32} (h : Bd v) : mxI (-30) v = v := by
  show (if _ then _ else _) = _
  by_cases c : (-30 : Int32) < v
  · rw [if_pos c]
  · rw [if_neg c]; exact Int32.le_antisymm h.1 (i_nlt c)
theorem mn_30 {v : Int32} (h : Bd v) : mnI 30 v = v := by
  show (if _ then _ else _) = _
  by_cases c : v < (30 : Int32)
  · rw [if_pos c]
  · rw [if_neg c]; exact Int32.le_antisymm (i_nlt c) h.2
theorem Bd_sub : ∀ a, a < 31 → ∀ b, b < 31 → (-30 : Int32) ≤ nI a - nI b ∧ nI a - nI b ≤ (30 : Int32) := by decide +kernel
def stp (p s : Nat) : Nat := (p + s + 9) % 10
theorem stp_le (p s : Nat) : stp p s ≤ 9 := by unfold stp; omega
theorem stp_c (p a c : Nat) : stp (stp p a) c = stp (stp p c) a := by unfold stp; omega
theorem flm3 : ∀ q, q < 10 → J9_floorMod_7cf53 (nI q + (-1)) 10 = some (nI (stp q 0)) ∧ J9_floorMod_7cf53 (nI q + 0) 10 = some (nI (stp q 1)) ∧ J9_floorMod_7cf53 (nI q + 1) 10 = some (nI (stp q 2)) := by decide +kernel
def sgv (V : Nat → Nat → Int32) (p q : Nat) : Int32 := mn3 (V p (stp q 0)) (V p (stp q 1)) (V p (stp q 2))
def dlv (E : Nat → Nat → Int32) : Nat → Nat → Nat → Int32
  | 0, p, q => E p q
  | n + 1, p, q => mx3 (sgv (dlv E n) (stp p 0) q) (sgv (dlv E n) (stp p 1) q) (sgv (dlv E n) (stp p 2) q)
theorem sgv_Bd {V : Nat → Nat → Int32} (h : ∀ p q, p ≤ 9 → q ≤ 9 → Bd (V p q)) (p q : Nat) (hp : p ≤ 9) : Bd (sgv V p q) := Bd.mn3 (h _ _ hp (stp_le _ _)) (h _ _ hp (stp_le _ _)) (h _ _ hp (stp_le _ _))
theorem dlv_Bd {E : Nat → Nat → Int32} (h : ∀ p q, p ≤ 9 → q ≤ 9 → Bd (E p q)) : ∀ n p q, p ≤ 9 → q ≤ 9 → Bd (dlv E n p q) := by
  intro n
  induction n with
  | zero => exact h
  | succ n ih => intro p q _ _; exact Bd.mx3 (sgv_Bd ih _ _ (stp_le _ _)) (sgv_Bd ih _ _ (stp_le _ _)) (sgv_Bd ih _ _ (stp_le _ _))
def dE (d : DS) (i j p q : Nat) : DS := (va_up (va_up (dp d) i p) j q, dh d, dc d, da d, dw d, dr d, dt d)
def dV (z : ZS) (d : DS) (i j p q : Nat) : Int32 := nI (dh (tns z 0 (dE d i j p q) 3) i) - nI (dh (tns z 0 (dE d i j p q) 3) j)
theorem dE_ok {z : ZS} {d : DS} {i j p q : Nat} (hd : DOk z d) (hp : p ≤ 9) (hq : q ≤ 9) : DOk z (dE d i j p q) := by
  refine ⟨fun k hk => ?_, hd.2⟩
  show va_up (va_up (dp d) i p) j q k ≤ 9
  unfold va_up
  split
  · exact hq
  · split
    · exact hp
    · exact hd.1 k hk
theorem dV_Bd {z : ZS} {d : DS} {i j : Nat} (hz : ZOk z) (hd : DOk z d) (hi : i < zp z) (hj : j < zp z) (p q : Nat) (hp : p ≤ 9) (hq : q ≤ 9) : Bd (dV z d i j p q) := by
  have k := tns_ok (aw := 0) hz (dE_ok (i := i) (j := j) hd hp hq) 3
  have k1 := k.2.1 i hi
  have k2 := k.2.1 j hj
  exact Bd_sub _ (by omega) _ (by omega)
theorem dE_self (d : DS) (i j : Nat) : dE d i j (dp d i) (dp d j) = d := by
  have e : va_up (va_up (dp d) i (dp d i)) j (dp d j) = dp d := by
    funext k
    unfold va_up
    split
    · next c => rw [c]
    · split
      · next c => rw [c]
      · rfl
  unfold dE
  rw [e]
theorem passLp_eq {z : ZS} {o : Nat} {d : DS} {h : Hp} (hz : ZOk z) (hd : DOk z d) (k : Nat) (hk : k < 1000) (H : FrAt z o d h) : ∃ r, lp (fun s : Int32 × Hp => X4_passAll_s2 o (nI k) s.1 s.2) FU ((0 : Int32), h) = some r ∧ FrAt z o (tns z 0 d k) r.2 ∧ Off (FrC o) h r.2 := by
  obtain ⟨⟨r1, r2⟩, e, q1, q2⟩ := lp_all (step := fun s : Int32 × Hp => X4_passAll_s2 o (nI k) s.1 s.2)
    (fun i s => s.1 = nI i ∧ FrAt z o (tns z 0 d i) s.2 ∧ Off (FrC o) h s.2) (fun r => FrAt z o (tns z 0 d k) r.2 ∧ Off (FrC o) h r.2) k (by omega) (by
      rintro i ⟨s1, s2⟩ hi ⟨g1, g2, g3⟩
      cases g1
      show ∃ t, X4_passAll_s2 o (nI k) (nI i) s2 = some (.inr t) ∧ _
      obtain ⟨h', e1, f1, o1⟩ := pass_eq (aw := 0) hz (tns_ok (aw := 0) hz hd i) (by decide) g2
      unfold X4_passAll_s2
      rw [if_neg (nI_ge hi (by omega)), show X4_pass o (0 : Int32) s2 = _ from e1, ob2_some]
      exact ⟨_, rfl, nap_1 i, f1, g3.tr o1⟩) (by
      rintro ⟨s1, s2⟩ ⟨g1, g2, g3⟩
      cases g1
      show ∃ t, X4_passAll_s2 o (nI k) (nI k) s2 = some (.inl t) ∧ _
      unfold X4_passAll_s2
      rw [if_pos (nI_le (Nat.le_refl _) (by omega))]
      exact ⟨_, rfl, g2, g3⟩) (s := ((0 : Int32), h)) ⟨rfl, H, Off.rf⟩
  exact ⟨_, e, q1, q2⟩
theorem duelLp (a b y : Int32) (h : Hp) : X9_duelEnd_s35 a b y h = X4_passAll_s2 23 (nI 3) y h := rfl
theorem FrAt.sc9 {z : ZS} {d : DS} {h h' : Hp} (H : FrAt z 19 d h) (c : ScC h h') : FrAt z 19 d h' := H.fr (fun i _ _ => c.1 i (by omega))
theorem duelEnd_c {z : ZS} {d : DS} {i j p q : Nat} {h : Hp} (hz : ZOk z) (hd : DOk z d) (hi : i < zp z) (hj : j < zp z) (hp : p ≤ 9) (hq : q ≤ 9) (H : FrAt z 19 d h) : ∃ h', X9_duelEnd (nI i) (nI j) (nI p) (nI q) h = some (dV z d i j p q, h') ∧ ScC h h' := by
  have h6 := hz.1
  obtain ⟨h1, e1, f1, f2, f3⟩ := become_eq (o := 23) h6 (by decide) H
  have f4 : FrAt z 23 (dE d i j p q) (up (up h1 25 i (nI p)) 25 j (nI q)) := (f1.upl i p).upl j q
  obtain ⟨⟨y, h'⟩, e2, f5, o5⟩ := passLp_eq hz (dE_ok hd hp hq) 3 (by decide) f4
  have o5 : Off (FrC 23) _ h' := o5
  have e3 : (fun s : Int32 × Hp => X9_duelEnd_s35 (nI i) (nI j) s.1 s.2) = (fun s : Int32 × Hp => X4_passAll_s2 23 (nI 3) s.1 s.2) := funext fun s => duelLp _ _ _ _
  have v1 : h'.1 26 i = nI _ := f5.2.2.2.2.2.1 i hi
  have v2 : h'.1 26 j = nI _ := f5.2.2.2.2.2.1 j hj
  unfold X9_duelEnd
  rw [e1, ob_some, gd_ib (by omega) (by decide), lt_eq, gd_ib (by omega) (by decide), lt_eq, ix_nI (by omega), ix_nI (by omega), e3, e2, ob2_some, v1, v2]
  refine ⟨h', rfl, ScC.tr ⟨fun c hc => f2 c (by omega), f3⟩ (ScC.tr (ScC.tr (ScC.up (by omega)) (ScC.up (by omega))) (ScC.p o5))⟩
def FGs (f : Int32 → Int32 → Int32 → Int32 → Int32 → Hp → Option (Int32 × Hp)) (z : ZS) (d : DS) (i j m : Nat) : Prop := ∀ h p q, FrAt z 19 d h → p ≤ 9 → q ≤ 9 → ∃ h', f (nI i) (nI j) (nI p) (nI q) (nI m) h = some (dlv (dV z d i j) m p q, h') ∧ ScC h h'
theorem fg_0 {z : ZS} {d : DS} {i j : Nat} (hz : ZOk z) (hd : DOk z d) (hi : i < zp z) (hj : j < zp z) : FGs X9_firstGoes_0 z d i j 0 := by
  intro h p q H hp hq
  obtain ⟨h', e, s⟩ := duelEnd_c hz hd hi hj hp hq H
  unfold X9_firstGoes_0
  rw [if_neg (by decide), e, ob2_some]
  exact ⟨_, rfl, s⟩
theorem a_m1 : (-1 : Int32) + 1 = 0 := by decide
theorem a_01 : (0 : Int32) + 1 = 1 := by decide
theorem a_11 : (1 : Int32) + 1 = 2 := by decide
theorem sg_1 {z : ZS} {d : DS} {i j m : Nat} (hB : ∀ p q, p ≤ 9 → q ≤ 9 → Bd (dlv (dV z d i j) m p q)) (F : FGs X9_firstGoes_0 z d i j m) {h : Hp} {p q : Nat} (H : FrAt z 19 d h) (hp : p ≤ 9) (hq : q ≤ 9) : ∃ h', X9_secondGoes_1 (nI i) (nI j) (nI p) (nI q) (nI (m + 1)) h = some (sgv (dlv (dV z d i j) m) p q, h') ∧ ScC h h' := by
  obtain ⟨m1, m2, m3⟩ := flm3 q (by omega)
  obtain ⟨h1, e1, c1⟩ := F h p (stp q 0) H hp (stp_le _ _)
  obtain ⟨h2, e2, c2⟩ := F h1 p (stp q 1) (H.sc9 c1) hp (stp_le _ _)
  obtain ⟨h3, e3, c3⟩ := F h2 p (stp q 2) ((H.sc9 c1).sc9 c2) hp (stp_le _ _)
  have L : lp (fun s : Int32 × Int32 × Hp => X9_secondGoes_1_s7 (nI i) (nI j) (nI p) (nI q) (nI (m + 1)) s.1 s.2.1 s.2.2) FU ((30 : Int32), (-1 : Int32), h) = some (sgv (dlv (dV z d i j) m) p q, (2 : Int32), h3) := by
    refine lpq3 (s1 := (dlv (dV z d i j) m p (stp q 0), (0 : Int32), h1)) (s2 := (mnI (dlv (dV z d i j) m p (stp q 0)) (dlv (dV z d i j) m p (stp q 1)), (1 : Int32), h2)) (s3 := (sgv (dlv (dV z d i j) m) p q, (2 : Int32), h3)) ?_ ?_ ?_ ?_
    · show X9_secondGoes_1_s7 (nI i) (nI j) (nI p) (nI q) (nI (m + 1)) 30 (-1) h = _
      unfold X9_secondGoes_1_s7
      rw [if_neg (by decide), m1, ob_some, nI_pred, e1, ob2_some, lt_eq, lt_eq, mn_30 (hB _ _ hp (stp_le _ _)), a_m1]
    · show X9_secondGoes_1_s7 (nI i) (nI j) (nI p) (nI q) (nI (m + 1)) (dlv (dV z d i j) m p (stp q 0)) 0 h1 = _
      unfold X9_secondGoes_1_s7
      rw [if_neg (by decide), m2, ob_some, nI_pred, e2, ob2_some, lt_eq, lt_eq, a_01]
    · show X9_secondGoes_1_s7 (nI i) (nI j) (nI p) (nI q) (nI (m + 1)) (mnI (dlv (dV z d i j) m p (stp q 0)) (dlv (dV z d i j) m p (stp q 1))) 1 h2 = _
      unfold X9_secondGoes_1_s7
      rw [if_neg (by decide), m3, ob_some, nI_pred, e3, ob2_some, lt_eq, lt_eq, a_11]
      rfl
    · show X9_secondGoes_1_s7 (nI i) (nI j) (nI p) (nI q) (nI (m + 1)) (sgv (dlv (dV z d i j) m) p q) 2 h3 = _
      unfold X9_secondGoes_1_s7
      rw [if_pos (by decide)]
  unfold X9_secondGoes_1
  rw [L, ob3_some]
  exact ⟨_, rfl, (c1.tr c2).tr c3⟩
theorem fg_10 {z : ZS} {d : DS} {i j : Nat} (hz : ZOk z) (hd : DOk z d) (hi : i < zp z) (hj : j < zp z) : FGs X9_firstGoes_1 z d i j 0 := by
  intro h p q H hp hq
  obtain ⟨h', e, s⟩ := duelEnd_c hz hd hi hj hp hq H
  unfold X9_firstGoes_1
  rw [if_neg (by decide), e, ob2_some]
  exact ⟨_, rfl, s⟩
theorem fg_1 {z : ZS} {d : DS} {i j m : Nat} (hm : m < 100) (hB : ∀ p q, p ≤ 9 → q ≤ 9 → Bd (dlv (dV z d i j) m p q)) (F : FGs X9_firstGoes_0 z d i j m) : FGs X9_firstGoes_1 z d i j (m + 1) := by
  intro h p q H hp hq
  obtain ⟨m1, m2, m3⟩ := flm3 p (by omega)
  obtain ⟨h1, e1, c1⟩ := sg_1 hB F H (stp_le p 0) hq
  obtain ⟨h2, e2, c2⟩ := sg_1 hB F (H.sc9 c1) (stp_le p 1) hq
  obtain ⟨h3, e3, c3⟩ := sg_1 hB F ((H.sc9 c1).sc9 c2) (stp_le p 2) hq
  have L : lp (fun s : Int32 × Int32 × Hp => X9_firstGoes_1_s22 (nI i) (nI j) (nI p) (nI q) (nI (m + 1)) s.1 s.2.1 s.2.2) FU ((-30 : Int32), (-1 : Int32), h) = some (dlv (dV z d i j) (m + 1) p q, (2 : Int32), h3) := by
    refine lpq3 (s1 := (sgv (dlv (dV z d i j) m) (stp p 0) q, (0 : Int32), h1)) (s2 := (mxI (sgv (dlv (dV z d i j) m) (stp p 0) q) (sgv (dlv (dV z d i j) m) (stp p 1) q), (1 : Int32), h2)) (s3 := (dlv (dV z d i j) (m + 1) p q, (2 : Int32), h3)) ?_ ?_ ?_ ?_
    · show X9_firstGoes_1_s22 (nI i) (nI j) (nI p) (nI q) (nI (m + 1)) (-30) (-1) h = _
      unfold X9_firstGoes_1_s22
      rw [if_neg (by decide), m1, ob_some, e1, ob2_some, lt_eq, lt_eq, mx_30 (sgv_Bd hB _ _ (stp_le _ _)), a_m1]
    · show X9_firstGoes_1_s22 (nI i) (nI j) (nI p) (nI q) (nI (m + 1)) (sgv (dlv (dV z d i j) m) (stp p 0) q) 0 h1 = _
      unfold X9_firstGoes_1_s22
      rw [if_neg (by decide), m2, ob_some, e2, ob2_some, lt_eq, lt_eq, a_01]
    · show X9_firstGoes_1_s22 (nI i) (nI j) (nI p) (nI q) (nI (m + 1)) (mxI (sgv (dlv (dV z d i j) m) (stp p 0) q) (sgv (dlv (dV z d i j) m) (stp p 1) q)) 1 h2 = _
      unfold X9_firstGoes_1_s22
      rw [if_neg (by decide), m3, ob_some, e3, ob2_some, lt_eq, lt_eq, a_11]
      rfl
    · show X9_firstGoes_1_s22 (nI i) (nI j) (nI p) (nI q) (nI (m + 1)) (dlv (dV z d i j) (m + 1) p q) 2 h3 = _
      unfold X9_firstGoes_1_s22
      rw [if_pos (by decide)]
  unfold X9_firstGoes_1
  rw [if_pos ((nll_0 (by omega)).mpr (by omega)), L, ob3_some]
  exact ⟨_, rfl, (c1.tr c2).tr c3⟩
theorem sg_2 {z : ZS} {d : DS} {i j m : Nat} (hB : ∀ p q, p ≤ 9 → q ≤ 9 → Bd (dlv (dV z d i j) m p q)) (F : FGs X9_firstGoes_1 z d i j m) {h : Hp} {p q : Nat} (H : FrAt z 19 d h) (hp : p ≤ 9) (hq : q ≤ 9) : ∃ h', X9_secondGoes_2 (nI i) (nI j) (nI p) (nI q) (nI (m + 1)) h = some (sgv (dlv (dV z d i j) m) p q, h') ∧ ScC h h' := by
  obtain ⟨m1, m2, m3⟩ := flm3 q (by omega)
  obtain ⟨h1, e1, c1⟩ := F h p (stp q 0) H hp (stp_le _ _)
  obtain ⟨h2, e2, c2⟩ := F h1 p (stp q 1) (H.sc9 c1) hp (stp_le _ _)
  obtain ⟨h3, e3, c3⟩ := F h2 p (stp q 2) ((H.sc9 c1).sc9 c2) hp (stp_le _ _)
  have L : lp (fun s : Int32 × Int32 × Hp => X9_secondGoes_2_s7 (nI i) (nI j) (nI p) (nI q) (nI (m + 1)) s.1 s.2.1 s.2.2) FU ((30 : Int32), (-1 : Int32), h) = some (sgv (dlv (dV z d i j) m) p q, (2 : Int32), h3) := by
    refine lpq3 (s1 := (dlv (dV z d i j) m p (stp q 0), (0 : Int32), h1)) (s2 := (mnI (dlv (dV z d i j) m p (stp q 0)) (dlv (dV z d i j) m p (stp q 1)), (1 : Int32), h2)) (s3 := (sgv (dlv (dV z d i j) m) p q, (2 : Int32), h3)) ?_ ?_ ?_ ?_
    · show X9_secondGoes_2_s7 (nI i) (nI j) (nI p) (nI q) (nI (m + 1)) 30 (-1) h = _
      unfold X9_secondGoes_2_s7
      rw [if_neg (by decide), m1, ob_some, nI_pred, e1, ob2_some, lt_eq, lt_eq, mn_30 (hB _ _ hp (stp_le _ _)), a_m1]
    · show X9_secondGoes_2_s7 (nI i) (nI j) (nI p) (nI q) (nI (m + 1)) (dlv (dV z d i j) m p (stp q 0)) 0 h1 = _
      unfold X9_secondGoes_2_s7
      rw [if_neg (by decide), m2, ob_some, nI_pred, e2, ob2_some, lt_eq, lt_eq, a_01]
    · show X9_secondGoes_2_s7 (nI i) (nI j) (nI p) (nI q) (nI (m + 1)) (mnI (dlv (dV z d i j) m p (stp q 0)) (dlv (dV z d i j) m p (stp q 1))) 1 h2 = _
      unfold X9_secondGoes_2_s7
      rw [if_neg (by decide), m3, ob_some, nI_pred, e3, ob2_some, lt_eq, lt_eq, a_11]
      rfl
    · show X9_secondGoes_2_s7 (nI i) (nI j) (nI p) (nI q) (nI (m + 1)) (sgv (dlv (dV z d i j) m) p q) 2 h3 = _
      unfold X9_secondGoes_2_s7
      rw [if_pos (by decide)]
  unfold X9_secondGoes_2
  rw [L, ob3_some]
  exact ⟨_, rfl, (c1.tr c2).tr c3⟩
theorem fg_20 {z : ZS} {d : DS} {i j : Nat} (hz : ZOk z) (hd : DOk z d) (hi : i < zp z) (hj : j < zp z) : FGs X9_firstGoes_2 z d i j 0 := by
  intro h p q H hp hq
  obtain ⟨h', e, s⟩ := duelEnd_c hz hd hi hj hp hq H
  unfold X9_firstGoes_2
  rw [if_neg (by decide), e, ob2_some]
  exact ⟨_, rfl, s⟩
theorem fg_2 {z : ZS} {d : DS} {i j m : Nat} (hm : m < 100) (hB : ∀ p q, p ≤ 9 → q ≤ 9 → Bd (dlv (dV z d i j) m p q)) (F : FGs X9_firstGoes_1 z d i j m) : FGs X9_firstGoes_2 z d i j (m + 1) := by
  intro h p q H hp hq
  obtain ⟨m1, m2, m3⟩ := flm3 p (by omega)
  obtain ⟨h1, e1, c1⟩ := sg_2 hB F H (stp_le p 0) hq
  obtain ⟨h2, e2, c2⟩ := sg_2 hB F (H.sc9 c1) (stp_le p 1) hq
  obtain ⟨h3, e3, c3⟩ := sg_2 hB F ((H.sc9 c1).sc9 c2) (stp_le p 2) hq
  have L : lp (fun s : Int32 × Int32 × Hp => X9_firstGoes_2_s22 (nI i) (nI j) (nI p) (nI q) (nI (m + 1)) s.1 s.2.1 s.2.2) FU ((-30 : Int32), (-1 : Int32), h) = some (dlv (dV z d i j) (m + 1) p q, (2 : Int32), h3) := by
    refine lpq3 (s1 := (sgv (dlv (dV z d i j) m) (stp p 0) q, (0 : Int32), h1)) (s2 := (mxI (sgv (dlv (dV z d i j) m) (stp p 0) q) (sgv (dlv (dV z d i j) m) (stp p 1) q), (1 : Int32), h2)) (s3 := (dlv (dV z d i j) (m + 1) p q, (2 : Int32), h3)) ?_ ?_ ?_ ?_
    · show X9_firstGoes_2_s22 (nI i) (nI j) (nI p) (nI q) (nI (m + 1)) (-30) (-1) h = _
      unfold X9_firstGoes_2_s22
      rw [if_neg (by decide), m1, ob_some, e1, ob2_some, lt_eq, lt_eq, mx_30 (sgv_Bd hB _ _ (stp_le _ _)), a_m1]
    · show X9_firstGoes_2_s22 (nI i) (nI j) (nI p) (nI q) (nI (m + 1)) (sgv (dlv (dV z d i j) m) (stp p 0) q) 0 h1 = _
      unfold X9_firstGoes_2_s22
      rw [if_neg (by decide), m2, ob_some, e2, ob2_some, lt_eq, lt_eq, a_01]
    · show X9_firstGoes_2_s22 (nI i) (nI j) (nI p) (nI q) (nI (m + 1)) (mxI (sgv (dlv (dV z d i j) m) (stp p 0) q) (sgv (dlv (dV z d i j) m) (stp p 1) q)) 1 h2 = _
      unfold X9_firstGoes_2_s22
      rw [if_neg (by decide), m3, ob_some, e3, ob2_some, lt_eq, lt_eq, a_11]
      rfl
    · show X9_firstGoes_2_s22 (nI i) (nI j) (nI p) (nI q) (nI (m + 1)) (dlv (dV z d i j) (m + 1) p q) 2 h3 = _
      unfold X9_firstGoes_2_s22
      rw [if_pos (by decide)]
  unfold X9_firstGoes_2
  rw [if_pos ((nll_0 (by omega)).mpr (by omega)), L, ob3_some]
  exact ⟨_, rfl, (c1.tr c2).tr c3⟩
theorem fg_all {z : ZS} {d : DS} {i j m : Nat} (hz : ZOk z) (hd : DOk z d) (hi : i < zp z) (hj : j < zp z) (hm : m ≤ 2) : FGs X9_firstGoes_2 z d i j m := by
  have B := dlv_Bd (dV_Bd hz hd hi hj)
  match m, hm with
  | 0, _ => exact fg_20 hz hd hi hj
  | 1, _ => exact fg_2 (by decide) (B 0) (fg_10 hz hd hi hj)
  | 2, _ => exact fg_2 (by decide) (B 1) (fg_1 (by decide) (B 0) (fg_0 hz hd hi hj))
/-! the model's side -/
def mpos : Nat → Nat → Nat → Nat → Nat × Nat
  | 0, _, p, q => (p, q)
  | k + 1, m, p, q => if k % 2 = 0 then mpos k (m / 3) (stp p (m % 3)) q else mpos k (m / 3) p (stp q (m % 3))
theorem mpos_le : ∀ k m p q, p ≤ 9 → q ≤ 9 → (mpos k m p q).1 ≤ 9 ∧ (mpos k m p q).2 ≤ 9 := by
  intro k
  induction k with
  | zero => intro m p q hp hq; exact ⟨hp, hq⟩
  | succ k ih =>
    intro m p q hp hq
    unfold mpos
    split
    · exact ih _ _ _ (stp_le _ _) hq
    · exact ih _ _ _ hp (stp_le _ _)
theorem rm2 : ∀ k, k < 4 → irm (nI k) 2 = nI (k % 2) := by decide +kernel
theorem rm3 : ∀ m, m < 81 → irm (nI m) 3 = nI (m % 3) := by decide +kernel
theorem am1 : ∀ k, k < 5 → nI k + (-1) = nI k - 1 := by decide +kernel
theorem dE_i (d : DS) {i j : Nat} (hij : i ≠ j) (p q p' : Nat) : va_up (va_up (va_up (dp d) i p) j q) i p' = va_up (va_up (dp d) i p') j q := by
  funext k
  unfold va_up
  by_cases c : k = i
  · rw [if_pos c, if_neg (by omega), if_pos c]
  · rw [if_neg c, if_neg c, if_neg c]
theorem dE_j (d : DS) {i j : Nat} (p q q' : Nat) : va_up (va_up (va_up (dp d) i p) j q) j q' = va_up (va_up (dp d) i p) j q' := by
  funext k
  unfold va_up
  by_cases c : k = j
  · rw [if_pos c, if_pos c]
  · rw [if_neg c, if_neg c, if_neg c]
theorem endLoop {z : ZS} {d : DS} {i j : Nat} (hz : ZOk z) (hi : i < zp z) (hj : j < zp z) (hij : i ≠ j) : ∀ k, k ≤ 4 → ∀ m p q g f, m < 81 → p ≤ 9 → q ≤ 9 → k < f → RwAt z 2788 (dE d i j p q) g → ∃ m' g', lp (fun s : Int32 × Int32 × Hp => X10_endOf_s20 (nI i) (nI j) s.1 s.2.1 s.2.2) f (nI m, nI k - 1, g) = some (m', (-1 : Int32), g') ∧ RwAt z 2788 (dE d i j (mpos k m p q).1 (mpos k m p q).2) g' ∧ OffW 2788 g g' := by
  have h6 := hz.1
  intro k
  induction k with
  | zero =>
    intro _ m p q g f hm hp hq hf R
    obtain ⟨f, rfl⟩ : ∃ f', f = f' + 1 := ⟨f - 1, by omega⟩
    refine ⟨nI m, g, lp_out ?_, R, OffW.rf⟩
    show X10_endOf_s20 (nI i) (nI j) (nI m) (nI 0 - 1) g = _
    unfold X10_endOf_s20
    rw [show nI 0 - 1 = (-1 : Int32) from by decide, if_pos (by decide)]
  | succ k ih =>
    intro hk m p q g f hm hp hq hf R
    obtain ⟨f, rfl⟩ : ∃ f', f = f' + 1 := ⟨f - 1, by omega⟩
    rw [nI_pred]
    by_cases c : k % 2 = 0
    · have a1 : g.1 52 (2788 + i) = nI p := by
        rw [R.1 i hi]
        show nI (va_up (va_up (dp d) i p) j q i) = nI p
        unfold va_up
        rw [if_neg hij, if_pos rfl]
      have S : X10_endOf_s20 (nI i) (nI j) (nI m) (nI k) g = some (.inr (nI (m / 3), nI k - 1, up g 52 (2788 + i) (nI (stp p (m % 3))))) := by
        unfold X10_endOf_s20
        rw [if_neg (nI_pos (by omega)), rm2 k (by omega), c, if_pos (show nI 0 = (0 : Int32) from rfl), ob_some, show (2788 : Int32) = nI 2788 from rfl, nI_add, gd_ib (by omega) (by decide), ix_nI (by omega), a1, rm3 m hm, nI_add, nap_9, pf_rm10 _ (by omega), show (3 : Int32) = nI 3 from rfl, pk_div (by omega) (by decide) (by decide), am1 k (by omega)]
        rfl
      have F := RwAt.upl R h6 i (stp p (m % 3)) (by omega)
      have F : RwAt z 2788 (dE d i j (stp p (m % 3)) q) (up g 52 (2788 + i) (nI (stp p (m % 3)))) := by
        unfold dE
        rw [← dE_i d hij p q]
        exact F
      obtain ⟨m', g', e, r, o⟩ := ih (by omega) (m / 3) (stp p (m % 3)) q _ f (by omega) (stp_le _ _) hq (by omega) F
      refine ⟨m', g', by rw [lp_in (show (fun s : Int32 × Int32 × Hp => X10_endOf_s20 (nI i) (nI j) s.1 s.2.1 s.2.2) (nI m, nI k, g) = _ from S)]; exact e, ?_, (OffW.rf.up (by omega) (by omega)).tr o⟩
      rw [show mpos (k + 1) m p q = mpos k (m / 3) (stp p (m % 3)) q from if_pos c]
      exact r
    · have a1 : g.1 52 (2788 + j) = nI q := by
        rw [R.1 j hj]
        show nI (va_up (va_up (dp d) i p) j q j) = nI q
        unfold va_up
        rw [if_pos rfl]
      have S : X10_endOf_s20 (nI i) (nI j) (nI m) (nI k) g = some (.inr (nI (m / 3), nI k - 1, up g 52 (2788 + j) (nI (stp q (m % 3))))) := by
        unfold X10_endOf_s20
        rw [if_neg (nI_pos (by omega)), rm2 k (by omega), show k % 2 = 1 by omega, if_neg (show ¬ nI 1 = (0 : Int32) by decide), ob_some, show (2788 : Int32) = nI 2788 from rfl, nI_add, gd_ib (by omega) (by decide), ix_nI (by omega), a1, rm3 m hm, nI_add, nap_9, pf_rm10 _ (by omega), show (3 : Int32) = nI 3 from rfl, pk_div (by omega) (by decide) (by decide), am1 k (by omega)]
        rfl
      have F := RwAt.upl R h6 j (stp q (m % 3)) (by omega)
      have F : RwAt z 2788 (dE d i j p (stp q (m % 3))) (up g 52 (2788 + j) (nI (stp q (m % 3)))) := by
        unfold dE
        rw [← dE_j d p q]
        exact F
      obtain ⟨m', g', e, r, o⟩ := ih (by omega) (m / 3) p (stp q (m % 3)) _ f (by omega) hp (stp_le _ _) (by omega) F
      refine ⟨m', g', by rw [lp_in (show (fun s : Int32 × Int32 × Hp => X10_endOf_s20 (nI i) (nI j) s.1 s.2.1 s.2.2) (nI m, nI k, g) = _ from S)]; exact e, ?_, (OffW.rf.up (by omega) (by omega)).tr o⟩
      rw [show mpos (k + 1) m p q = mpos k (m / 3) p (stp q (m % 3)) from if_neg c]
      exact r
theorem plain3 {z : ZS} {d : DS} {g : Hp} (x1 x2 : Int32) (hz : ZOk z) (hd : DOk z d) (M : MZ z (-9) 0 g) (R : RwAt z 2788 d g) : ∃ g', lp (fun s : Int32 × Hp => X10_endOf_s87 x1 x2 s.1 s.2) FU ((0 : Int32), g) = some ((3 : Int32), g') ∧ RwAt z 2788 (tns z 0 d 3) g' ∧ OffW 2788 g g' := by
  obtain ⟨⟨r1, r2⟩, e, q0, q1, q2⟩ := lp_all (step := fun s : Int32 × Hp => X10_endOf_s87 x1 x2 s.1 s.2)
    (fun i s => s.1 = nI i ∧ RwAt z 2788 (tns z 0 d i) s.2 ∧ OffW 2788 g s.2) (fun r => r.1 = 3 ∧ RwAt z 2788 (tns z 0 d 3) r.2 ∧ OffW 2788 g r.2) 3 (by omega) (by
      rintro i ⟨s1, s2⟩ hi ⟨g1, g2, g3⟩
      cases g1
      show ∃ t, X10_endOf_s87 x1 x2 (nI i) s2 = some (.inr t) ∧ _
      obtain ⟨h', e1, f1, o1⟩ := turnIn_eq (aw := 0) (x := 2788) hz (tns_ok (aw := 0) hz hd i) (by decide) (by decide) (M.off g3) g2
      unfold X10_endOf_s87
      rw [if_neg (fun q => by have := (nel_3 (by omega)).mp q; omega), plain_ob2, show X10_turnIn (2788 : Int32) (nI 0) (-9) 0 s2 = _ from e1, ob2_some]
      exact ⟨_, rfl, nap_1 i, f1, g3.tr o1⟩) (by
      rintro ⟨s1, s2⟩ ⟨g1, g2, g3⟩
      cases g1
      show ∃ t, X10_endOf_s87 x1 x2 (nI 3) s2 = some (.inl t) ∧ _
      unfold X10_endOf_s87
      rw [if_pos (by decide)]
      exact ⟨_, rfl, rfl, g2, g3⟩) (s := ((0 : Int32), g)) ⟨rfl, R, OffW.rf⟩
  have q0 : r1 = 3 := q0
  subst q0
  exact ⟨r2, e, q1, q2⟩
theorem RZ.endOf {u w : Hp} {z : ZS} {d0 : DS} {cs : Nat → Nat} {n : Nat} {h g : Hp} (H : RZ u w z d0 cs n h g) {i j k m : Nat} (hi : i < zp z) (hj : j < zp z) (hij : i ≠ j) (hk : k ≤ 4) (hm : m < 81) : ∃ g', X10_endOf (nI i) (nI j) (nI m) (nI k) g = some (dV z (rn z d0 cs n) i j (mpos k m (dp (rn z d0 cs n) i) (dp (rn z d0 cs n) j)).1 (mpos k m (dp (rn z d0 cs n) i) (dp (rn z d0 cs n) j)).2, g') ∧ OffW 2788 g g' := by
  have hp := H.zok.1
  have h40 := H.n40
  have b1 := H.dok.1 i hi
  have b2 := H.dok.1 j hj
  obtain ⟨g1, e1, f1, o1⟩ := copyRow_eq (y := 2788) hp (by omega) (by decide) (by omega) H.row
  rw [← dE_self (rn z d0 cs n) i j] at f1
  obtain ⟨m', g2, e2, f2, o2⟩ := endLoop H.zok hi hj hij k hk m _ _ g1 FU hm b1 b2 (by unfold FU; omega) f1
  obtain ⟨l1, l2⟩ := mpos_le k m _ _ b1 b2
  obtain ⟨g3, e3, f3, o3⟩ := plain3 (nI i) (nI j) H.zok (dE_ok H.dok l1 l2) ((H.mz.off o1).off o2) f2
  have v1 : g3.1 52 (2794 + i) = nI _ := f3.2.1 i hi
  have v2 : g3.1 52 (2794 + j) = nI _ := f3.2.1 j hj
  unfold X10_endOf
  rw [H.now, show (2788 : Int32) = nI 2788 from rfl, e1, ob_some, lt_eq, e2, ob3_some, e3, ob2_some, show (2794 : Int32) = nI 2794 from rfl, nI_add, nI_add, gd_ib (by omega) (by decide), gd_ib (by omega) (by decide), ix_nI (by omega), ix_nI (by omega), v1, v2]
  exact ⟨g3, rfl, (o1.tr o2).tr o3⟩
theorem ScM.up64 {g : Hp} {k : Nat} {v : Int32} : ScM g (up g 64 k v) := ⟨fun i h1 _ _ => up_ne (by omega), fun k _ => by rw [up_ne (by decide)], fun k _ => by rw [up_ne (by decide)], rfl⟩
theorem RZ.fill {u w : Hp} {z : ZS} {d0 : DS} {cs : Nat → Nat} {n : Nat} {h g : Hp} (H : RZ u w z d0 cs n h g) {i j k a : Nat} (hi : i < zp z) (hj : j < zp z) (hij : i ≠ j) (hk : k ≤ 2) (ha : a ≤ 81) : ∃ g', lp (fun s : Int32 × Hp => X10_duel_s57 (nI i) (nI j) (nI k) (nI a) s.1 s.2) FU ((0 : Int32), g) = some (nI a, g') ∧ (∀ m, m < a → g'.1 64 m = dV z (rn z d0 cs n) i j (mpos (2 * k) m (dp (rn z d0 cs n) i) (dp (rn z d0 cs n) j)).1 (mpos (2 * k) m (dp (rn z d0 cs n) i) (dp (rn z d0 cs n) j)).2) ∧ ScM g g' := by
  obtain ⟨⟨r1, r2⟩, e, q0, q1, q2⟩ := lp_all (step := fun s : Int32 × Hp => X10_duel_s57 (nI i) (nI j) (nI k) (nI a) s.1 s.2)
    (fun t s => s.1 = nI t ∧ (∀ m, m < t → s.2.1 64 m = dV z (rn z d0 cs n) i j (mpos (2 * k) m (dp (rn z d0 cs n) i) (dp (rn z d0 cs n) j)).1 (mpos (2 * k) m (dp (rn z d0 cs n) i) (dp (rn z d0 cs n) j)).2) ∧ ScM g s.2)
    (fun s => s.1 = nI a ∧ (∀ m, m < a → s.2.1 64 m = dV z (rn z d0 cs n) i j (mpos (2 * k) m (dp (rn z d0 cs n) i) (dp (rn z d0 cs n) j)).1 (mpos (2 * k) m (dp (rn z d0 cs n) i) (dp (rn z d0 cs n) j)).2) ∧ ScM g s.2) a (by omega) (by
      rintro t ⟨s1, s2⟩ ht ⟨g1, g2, g3⟩
      cases g1
      have g2 : ∀ m, m < t → s2.1 64 m = _ := g2
      show ∃ r, X10_duel_s57 (nI i) (nI j) (nI k) (nI a) (nI t) s2 = some (.inr r) ∧ _
      obtain ⟨g', e1, o1⟩ := (H.sc ScC.rf g3).endOf (k := 2 * k) (m := t) hi hj hij (by omega) (by omega)
      unfold X10_duel_s57
      rw [if_neg (nI_ge ht (by omega)), show (2 : Int32) * nI k = nI (2 * k) from pk_mul 2 k, e1, ob2_some, gd_ib (by omega) (by decide), ix_nI (by omega)]
      refine ⟨_, rfl, nap_1 t, fun m hm => ?_, (g3.tr (ScM.w o1)).tr ScM.up64⟩
      by_cases c : m = t
      · subst c; exact up_at
      · show (up g' 64 t _).1 64 m = _
        rw [up_off c, o1.1 64 (by decide)]
        exact g2 m (by omega)) (by
      rintro ⟨s1, s2⟩ ⟨g1, g2, g3⟩
      cases g1
      show ∃ r, X10_duel_s57 (nI i) (nI j) (nI k) (nI a) (nI a) s2 = some (.inl r) ∧ _
      unfold X10_duel_s57
      rw [if_pos (nI_le (Nat.le_refl _) (by omega))]
      exact ⟨_, rfl, rfl, g2, g3⟩) (s := ((0 : Int32), g)) ⟨rfl, fun m hm => absurd hm (by omega), ScM.rf⟩
  have q0 : r1 = _ := q0
  subst q0
  exact ⟨r2, e, q1, q2⟩
def op2 (k : Nat) (a b : Int32) : Int32 := if k % 2 = 0 then mxI a b else mnI a b
def Lay (k : Nat) (W : Nat → Int32) (m : Nat) : Int32 := op2 k (op2 k (W (3 * m)) (W (3 * m + 1))) (W (3 * m + 2))
theorem i_le_nlt {a b : Int32} (h : a ≤ b) : ¬ b < a := Int32.not_lt.mpr h
theorem op_m {β : Type} {k : Nat} (hk : k < 4) (y v : Int32) (f : Int32 → Option β) : (ob (if (irm (nI k) (2 : Int32)) = (0 : Int32) then (if v ≤ y then (some (0 : Int32)) else (some (1 : Int32))) else (if y ≤ v then (some (0 : Int32)) else (some (1 : Int32)))) fun v32 => ob (if v32 = (0 : Int32) then (some y) else (some v)) f) = f (op2 k y v) := by
  rw [rm2 k hk]
  unfold op2
  by_cases c : k % 2 = 0
  · rw [if_pos c, c, if_pos (show nI 0 = (0 : Int32) from rfl)]
    by_cases c2 : v ≤ y
    · rw [if_pos c2, ob_some, if_pos rfl, ob_some]
      show f y = f (if y < v then v else y)
      rw [if_neg (i_le_nlt c2)]
    · rw [if_neg c2, ob_some, if_neg n10, ob_some]
      show f v = f (if y < v then v else y)
      rw [if_pos (i_nle c2)]
  · rw [if_neg c, show k % 2 = 1 by omega, if_neg (show ¬ nI 1 = (0 : Int32) by decide)]
    by_cases c2 : y ≤ v
    · rw [if_pos c2, ob_some, if_pos rfl, ob_some]
      show f y = f (if v < y then v else y)
      rw [if_neg (i_le_nlt c2)]
    · rw [if_neg c2, ob_some, if_neg n10, ob_some]
      show f v = f (if v < y then v else y)
      rw [if_pos (i_nle c2)]
theorem row3 {k t : Nat} {x4 : Int32} {g : Hp} {W : Nat → Int32} (hk : k < 4) (ht : t < 27) (h1 : g.1 64 (3 * t + 1) = W (3 * t + 1)) (h2 : g.1 64 (3 * t + 2) = W (3 * t + 2)) : lp (fun s : Int32 × Int32 => X10_duel_s130 x4 (nI k) (nI t) g s.1 s.2) FU (W (3 * t), (1 : Int32)) = some (Lay k W t, (3 : Int32)) := by
  refine lpq2 (s1 := (op2 k (W (3 * t)) (W (3 * t + 1)), (2 : Int32))) (s2 := (Lay k W t, (3 : Int32))) ?_ ?_ ?_
  · show X10_duel_s130 x4 (nI k) (nI t) g (W (3 * t)) 1 = _
    unfold X10_duel_s130
    rw [if_neg (by decide), nml_3, nap_1, gd_ib (by omega) (by decide), ix_nI (by omega), h1, lt_eq, op_m hk, lt_eq]
    rfl
  · show X10_duel_s130 x4 (nI k) (nI t) g (op2 k (W (3 * t)) (W (3 * t + 1))) 2 = _
    unfold X10_duel_s130
    rw [if_neg (by decide), nml_3, nap_2, gd_ib (by omega) (by decide), ix_nI (by omega), h2, lt_eq, op_m hk, lt_eq]
    rfl
  · show X10_duel_s130 x4 (nI k) (nI t) g (Lay k W t) 3 = _
    unfold X10_duel_s130
    rw [if_pos (by decide)]
theorem lay_m {k a : Nat} {g : Hp} {W : Nat → Int32} (hk : k < 4) (ha : a ≤ 27) (hW : ∀ m, m < 3 * a → g.1 64 m = W m) : ∃ g', X10_duel_s95 (nI (3 * a)) (nI k) g = some (.inr (nI a, nI k + (-1), g')) ∧ (∀ m, m < a → g'.1 64 m = Lay k W m) ∧ ScM g g' := by
  obtain ⟨⟨r1, r2⟩, e, q0, q1, q2⟩ := lp_all (step := fun s : Int32 × Hp => X10_duel_s109 (nI a) (nI k) s.1 s.2)
    (fun t s => s.1 = nI t ∧ (∀ m, m < t → s.2.1 64 m = Lay k W m) ∧ (∀ m, t ≤ m → m < 3 * a → s.2.1 64 m = W m) ∧ ScM g s.2)
    (fun s => s.1 = nI a ∧ (∀ m, m < a → s.2.1 64 m = Lay k W m) ∧ ScM g s.2) a (by omega) (by
      rintro t ⟨s1, s2⟩ ht ⟨g1, g2, g3, g4⟩
      cases g1
      have g2 : ∀ m, m < t → s2.1 64 m = Lay k W m := g2
      have g3 : ∀ m, t ≤ m → m < 3 * a → s2.1 64 m = W m := g3
      show ∃ r, X10_duel_s109 (nI a) (nI k) (nI t) s2 = some (.inr r) ∧ _
      unfold X10_duel_s109
      rw [if_neg (nI_ge ht (by omega)), nml_3, gd_ib (by omega) (by decide), lt_eq, ix_nI (by omega), g3 (3 * t) (by omega) (by omega), row3 hk (by omega) (g3 _ (by omega) (by omega)) (g3 _ (by omega) (by omega)), ob2_some, gd_ib (by omega) (by decide), ix_nI (by omega)]
      refine ⟨_, rfl, nap_1 t, fun m hm => ?_, fun m h1 h2 => ?_, g4.tr ScM.up64⟩
      · by_cases c : m = t
        · subst c; exact up_at
        · show (up s2 64 t _).1 64 m = _
          rw [up_off c]
          exact g2 m (by omega)
      · show (up s2 64 t _).1 64 m = _
        rw [up_off (by omega)]
        exact g3 m (by omega) h2) (by
      rintro ⟨s1, s2⟩ ⟨g1, g2, g3, g4⟩
      cases g1
      show ∃ r, X10_duel_s109 (nI a) (nI k) (nI a) s2 = some (.inl r) ∧ _
      unfold X10_duel_s109
      rw [if_pos (nI_le (Nat.le_refl _) (by omega))]
      exact ⟨_, rfl, rfl, g2, g4⟩) (s := ((0 : Int32), g)) ⟨rfl, fun m hm => absurd hm (by omega), fun m _ h => hW m h, ScM.rf⟩
  have q0 : r1 = _ := q0
  subst q0
  unfold X10_duel_s95
  rw [if_neg (nI_pos (by omega)), show (3 : Int32) = nI 3 from rfl, pk_div (by omega) (by decide) (by decide), lt_eq, Nat.mul_div_cancel_left a (by decide), e, ob2_some, lt_eq]
  exact ⟨r2, rfl, q1, q2⟩
theorem lay_ev {k m : Nat} {W F : Nat → Int32} (hk : k % 2 = 0) (h : ∀ d, d < 3 → W (3 * m + d) = F d) : Lay k W m = mx3 (F 0) (F 1) (F 2) := by
  unfold Lay op2
  rw [if_pos hk, if_pos hk, ← h 0 (by decide), ← h 1 (by decide), ← h 2 (by decide)]
  rfl
theorem lay_od {k m : Nat} {W F : Nat → Int32} (hk : k % 2 = 1) (h : ∀ d, d < 3 → W (3 * m + d) = F d) : Lay k W m = mn3 (F 0) (F 1) (F 2) := by
  unfold Lay op2
  rw [if_neg (by omega), if_neg (by omega), ← h 0 (by decide), ← h 1 (by decide), ← h 2 (by decide)]
  rfl
theorem mp2 (p q : Nat) {a b : Nat} (ha : a < 3) (hb : b < 3) : mpos 2 (3 * a + b) p q = (stp p a, stp q b) := by
  show mpos 0 ((3 * a + b) / 3 / 3) (stp p ((3 * a + b) / 3 % 3)) (stp q ((3 * a + b) % 3)) = _
  rw [show (3 * a + b) / 3 % 3 = a by omega, show (3 * a + b) % 3 = b by omega]
  rfl
theorem mp4 (p q : Nat) {a b c d : Nat} (ha : a < 3) (hb : b < 3) (hc : c < 3) (hd : d < 3) : mpos 4 (3 * (3 * (3 * a + b) + c) + d) p q = (stp (stp p a) c, stp (stp q b) d) := by
  show mpos 2 ((3 * (3 * (3 * a + b) + c) + d) / 3 / 3) (stp p ((3 * (3 * (3 * a + b) + c) + d) / 3 % 3)) (stp q ((3 * (3 * (3 * a + b) + c) + d) % 3)) = _
  rw [show (3 * (3 * (3 * a + b) + c) + d) / 3 / 3 = 3 * a + b by omega, show (3 * (3 * (3 * a + b) + c) + d) / 3 % 3 = c by omega, show (3 * (3 * (3 * a + b) + c) + d) % 3 = d by omega, mp2 _ _ ha hb, stp_c p c a, stp_c q d b]
theorem lay1_eq (E : Nat → Nat → Int32) (p q : Nat) : Lay 0 (Lay 1 (fun m => E (mpos 2 m p q).1 (mpos 2 m p q).2)) 0 = dlv E 1 p q := by
  refine lay_ev (F := fun a => sgv (dlv E 0) (stp p a) q) rfl (fun a ha => ?_)
  rw [Nat.mul_zero, Nat.zero_add]
  refine lay_od (F := fun b => E (stp p a) (stp q b)) rfl (fun b hb => ?_)
  show E (mpos 2 (3 * a + b) p q).1 (mpos 2 (3 * a + b) p q).2 = _
  rw [mp2 p q ha hb]
theorem lay2_eq (E : Nat → Nat → Int32) (p q : Nat) : Lay 0 (Lay 1 (Lay 2 (Lay 3 (fun m => E (mpos 4 m p q).1 (mpos 4 m p q).2)))) 0 = dlv E 2 p q := by
  refine lay_ev (F := fun a => sgv (dlv E 1) (stp p a) q) rfl (fun a ha => ?_)
  rw [Nat.mul_zero, Nat.zero_add]
  refine lay_od (F := fun b => dlv E 1 (stp p a) (stp q b)) rfl (fun b hb => ?_)
  refine lay_ev (F := fun c => sgv (dlv E 0) (stp (stp p a) c) (stp q b)) rfl (fun c hc => ?_)
  refine lay_od (F := fun d => E (stp (stp p a) c) (stp (stp q b) d)) rfl (fun d hd => ?_)
  show E (mpos 4 (3 * (3 * (3 * a + b) + c) + d) p q).1 (mpos 4 (3 * (3 * (3 * a + b) + c) + d) p q).2 = _
  rw [mp4 p q ha hb hc hd]
theorem RZ.duelM {u w : Hp} {z : ZS} {d0 : DS} {cs : Nat → Nat} {n : Nat} {h g : Hp} (H : RZ u w z d0 cs n h g) {i j k : Nat} (hi : i < zp z) (hj : j < zp z) (hij : i ≠ j) (hk : k ≤ 2) : ∃ a : Nat, ∃ g1 v1 v2 g2, (if nI k = (0 : Int32) then (some (1 : Int32)) else (if nI k = (1 : Int32) then (some (9 : Int32)) else (some (81 : Int32)))) = some (nI a) ∧ lp (fun s : Int32 × Hp => X10_duel_s57 (nI i) (nI j) (nI k) (nI a) s.1 s.2) FU ((0 : Int32), g) = some (nI a, g1) ∧ lp (fun s : Int32 × Int32 × Hp => X10_duel_s95 s.1 s.2.1 s.2.2) FU (nI a, (2 : Int32) * nI k - 1, g1) = some (v1, v2, g2) ∧ g2.1 64 0 = dlv (dV z (rn z d0 cs n) i j) k (dp (rn z d0 cs n) i) (dp (rn z d0 cs n) j) ∧ ScM g g2 := by
  match k, hk with
  | 0, _ =>
    obtain ⟨g1, e1, q1, s1⟩ := H.fill (k := 0) (a := 1) hi hj hij (by decide) (by decide)
    refine ⟨1, g1, nI 1, -1, g1, rfl, e1, ?_, q1 0 (by decide), s1⟩
    rw [FU1]
    refine lp_out ?_
    show X10_duel_s95 (nI 1) ((2 : Int32) * nI 0 - 1) g1 = _
    unfold X10_duel_s95
    rw [show (2 : Int32) * nI 0 - 1 = -1 by decide, if_pos (by decide)]
  | 1, _ =>
    obtain ⟨g1, e1, q1, s1⟩ := H.fill (k := 1) (a := 9) hi hj hij (by decide) (by decide)
    obtain ⟨g2, e2, q2, s2⟩ := lay_m (k := 1) (a := 3) (by decide) (by decide) q1
    obtain ⟨g3, e3, q3, s3⟩ := lay_m (k := 0) (a := 1) (by decide) (by decide) q2
    refine ⟨9, g1, nI 1, -1, g3, rfl, e1, ?_, (q3 0 (by decide)).trans (lay1_eq _ _ _), (s1.tr s2).tr s3⟩
    rw [show (2 : Int32) * nI 1 - 1 = nI 1 by decide]
    refine lpq2 (s1 := (nI 3, nI 0, g2)) (s2 := (nI 1, (-1 : Int32), g3)) (e2.trans (by rw [show nI 1 + (-1) = nI 0 by decide])) (e3.trans (by rw [show nI 0 + (-1) = (-1 : Int32) by decide])) ?_
    show X10_duel_s95 (nI 1) (-1) g3 = _
    unfold X10_duel_s95
    rw [if_pos (by decide)]
  | 2, _ =>
    obtain ⟨g1, e1, q1, s1⟩ := H.fill (k := 2) (a := 81) hi hj hij (by decide) (by decide)
    obtain ⟨g2, e2, q2, s2⟩ := lay_m (k := 3) (a := 27) (by decide) (by decide) q1
    obtain ⟨g3, e3, q3, s3⟩ := lay_m (k := 2) (a := 9) (by decide) (by decide) q2
    obtain ⟨g4, e4, q4, s4⟩ := lay_m (k := 1) (a := 3) (by decide) (by decide) q3
    obtain ⟨g5, e5, q5, s5⟩ := lay_m (k := 0) (a := 1) (by decide) (by decide) q4
    refine ⟨81, g1, nI 1, -1, g5, rfl, e1, ?_, (q5 0 (by decide)).trans (lay2_eq _ _ _), (((s1.tr s2).tr s3).tr s4).tr s5⟩
    rw [show (2 : Int32) * nI 2 - 1 = nI 3 by decide, FU5]
    have e2 : (fun s : Int32 × Int32 × Hp => X10_duel_s95 s.1 s.2.1 s.2.2) (nI 81, nI 3, g1) = some (.inr (nI 27, nI 2, g2)) := e2.trans (by rw [show nI 3 + (-1) = nI 2 by decide])
    have e3 : (fun s : Int32 × Int32 × Hp => X10_duel_s95 s.1 s.2.1 s.2.2) (nI 27, nI 2, g2) = some (.inr (nI 9, nI 1, g3)) := e3.trans (by rw [show nI 2 + (-1) = nI 1 by decide])
    have e4 : (fun s : Int32 × Int32 × Hp => X10_duel_s95 s.1 s.2.1 s.2.2) (nI 9, nI 1, g3) = some (.inr (nI 3, nI 0, g4)) := e4.trans (by rw [show nI 1 + (-1) = nI 0 by decide])
    have e5 : (fun s : Int32 × Int32 × Hp => X10_duel_s95 s.1 s.2.1 s.2.2) (nI 3, nI 0, g4) = some (.inr (nI 1, (-1 : Int32), g5)) := e5.trans (by rw [show nI 0 + (-1) = (-1 : Int32) by decide])
    rw [lp_in e2, lp_in e3, lp_in e4, lp_in e5]
    refine lp_out ?_
    show X10_duel_s95 (nI 1) (-1) g5 = _
    unfold X10_duel_s95
    rw [if_pos (by decide)]
theorem k_duel (a1 a2 a3 : Int32) : Lk (X9_duel a1 a2 a3) (X10_duel a1 a2 a3) := by
  rintro u w h g ⟨z, d0, cs, n, H⟩
  have hp := H.zok.1
  unfold X9_duel X10_duel
  rcases isOne_c hp H.p9 H.p10 a1 with ⟨q1, q2⟩ | ⟨i, hi, rfl, q1, q2⟩
  · rw [q1, q2, if_pos rfl, if_pos rfl]; exact ⟨_, _, _, rfl, rfl, H.rr⟩
  rw [q1, q2, if_neg n10, if_neg n10]
  rcases isOne_c hp H.p9 H.p10 a2 with ⟨q1, q2⟩ | ⟨j, hj, rfl, q1, q2⟩
  · rw [q1, q2, if_pos rfl, if_pos rfl]; exact ⟨_, _, _, rfl, rfl, H.rr⟩
  rw [q1, q2, if_neg n10, if_neg n10]
  by_cases cij : i = j
  · rw [if_pos (by rw [cij]), if_pos (by rw [cij])]; exact ⟨_, _, _, rfl, rfl, H.rr⟩
  have cn : ¬ nI i = nI j := fun q => cij ((nI_eq (by omega) (by omega)).mp q)
  rw [if_neg cn, if_neg cn]
  rcases rng a3 2 (by decide) with q | ⟨q1, q2, q3⟩ | ⟨k, hk, rfl⟩
  · rw [if_pos q, in0 q, if_pos rfl]; exact ⟨_, _, _, rfl, rfl, H.rr⟩
  · rw [if_neg q1, if_neg (show ¬ a3 ≤ 2 from q2), in1 (show 2 < a3 from q3), if_pos rfl]; exact ⟨_, _, _, rfl, rfl, H.rr⟩
  rw [if_neg (nI_pos (by omega)), if_pos ((ner_2 (by omega)).mpr hk), in2 (nI_pos (by omega)) (fun q => by have := (nll_2 (by omega)).mp q; omega), if_neg n10]
  have v1 : h.1 21 i = nI _ := H.f19.2.2.2.2.1 i hi
  have v2 : h.1 21 j = nI _ := H.f19.2.2.2.2.1 j hj
  obtain ⟨h', e1, c1⟩ := fg_all H.zok H.dok hi hj hk h _ _ H.f19 (H.dok.1 i hi) (H.dok.1 j hj)
  obtain ⟨a, g1, y1, y2, g2, m1, m2, m3, m4, s2⟩ := H.duelM hi hj cij hk
  rw [gd_ib (by omega) (by decide), gd_ib (by omega) (by decide), ix_nI (by omega), ix_nI (by omega), v1, v2, e1, ob2_some, lt_eq, m1, ob_some, m2, ob2_some, lt_eq, m3, ob3_some, gd_true (by decide), show ix (0 : Int32) = 0 from by decide, m4]
  unfold X10_tell
  rw [lt_eq, ob2_some]
  exact ⟨_, _, _, rfl, rfl, ((H.sc c1 s2).tell _).rr⟩
