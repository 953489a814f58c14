/-! a Front at o holds z, d -/
def FrAt (z : ZS) (o : Nat) (d : DS) (h : Hp) : Prop :=
  h.1 o 4 = nI (zd z) ∧ h.1 o 5 = nI (zg z) ∧ h.1 o 6 = nI (zp z) ∧ (∀ i, i < zp z → h.1 (o + 1) i = nI (zk z i)) ∧ (∀ i, i < zp z → h.1 (o + 2) i = nI (dp d i)) ∧ (∀ i, i < zp z → h.1 (o + 3) i = nI (dh d i)) ∧ h.1 o 7 = nI (dc d) ∧ h.1 o 8 = nI (da d) ∧ h.1 o 9 = nI (dw d) ∧ h.1 o 10 = nI (dr d) ∧ h.1 o 11 = nI (dt d)
/-- but for these cells nothing has changed -/
def Off (P : Nat → Prop) (h h' : Hp) : Prop := (∀ i, ¬ P i → h'.1 i = h.1 i) ∧ h'.2 = h.2
theorem Off.rf {P : Nat → Prop} {h : Hp} : Off P h h := ⟨fun _ _ => rfl, rfl⟩
theorem Off.tr {P : Nat → Prop} {h h1 h2 : Hp} (a : Off P h h1) (b : Off P h1 h2) : Off P h h2 := ⟨fun i hi => (b.1 i hi).trans (a.1 i hi), b.2.trans a.2⟩
theorem Off.up {P : Nat → Prop} {h h1 : Hp} {i k : Nat} {v : Int32} (a : Off P h h1) (hi : P i) : Off P h (up h1 i k v) := ⟨fun j hj => (up_ne (j := j) (i := i) (fun e => hj (by rw [e]; exact hi))).trans (a.1 j hj), a.2⟩
theorem Off.mono {P Q : Nat → Prop} {h h1 : Hp} (a : Off P h h1) (hPQ : ∀ i, P i → Q i) : Off Q h h1 := ⟨fun i hi => a.1 i (fun q => hi (hPQ i q)), a.2⟩
abbrev FrC (o : Nat) : Nat → Prop := fun i => i = o ∨ i = o + 2 ∨ i = o + 3
theorem FrAt.uc {z : ZS} {o : Nat} {d : DS} {h : Hp} (H : FrAt z o d h) (v : Nat) : FrAt z o (dp d, dh d, v, da d, dw d, dr d, dt d) (up h o 7 (nI v)) := by
  obtain ⟨a1, a2, a3, a4, a5, a6, a7, a8, a9, a10, a11⟩ := H
  exact ⟨by rw [up_off (by decide)]; exact a1, by rw [up_off (by decide)]; exact a2, by rw [up_off (by decide)]; exact a3, fun i hi => by rw [up_ne (by omega)]; exact a4 i hi, fun i hi => by rw [up_ne (by omega)]; exact a5 i hi, fun i hi => by rw [up_ne (by omega)]; exact a6 i hi, up_at, by rw [up_off (by decide)]; exact a8, by rw [up_off (by decide)]; exact a9, by rw [up_off (by decide)]; exact a10, by rw [up_off (by decide)]; exact a11⟩
theorem FrAt.ua {z : ZS} {o : Nat} {d : DS} {h : Hp} (H : FrAt z o d h) (v : Nat) : FrAt z o (dp d, dh d, dc d, v, dw d, dr d, dt d) (up h o 8 (nI v)) := by
  obtain ⟨a1, a2, a3, a4, a5, a6, a7, a8, a9, a10, a11⟩ := H
  exact ⟨by rw [up_off (by decide)]; exact a1, by rw [up_off (by decide)]; exact a2, by rw [up_off (by decide)]; exact a3, fun i hi => by rw [up_ne (by omega)]; exact a4 i hi, fun i hi => by rw [up_ne (by omega)]; exact a5 i hi, fun i hi => by rw [up_ne (by omega)]; exact a6 i hi, by rw [up_off (by decide)]; exact a7, up_at, by rw [up_off (by decide)]; exact a9, by rw [up_off (by decide)]; exact a10, by rw [up_off (by decide)]; exact a11⟩
theorem FrAt.uw {z : ZS} {o : Nat} {d : DS} {h : Hp} (H : FrAt z o d h) (v : Nat) : FrAt z o (dp d, dh d, dc d, da d, v, dr d, dt d) (up h o 9 (nI v)) := by
  obtain ⟨a1, a2, a3, a4, a5, a6, a7, a8, a9, a10, a11⟩ := H
  exact ⟨by rw [up_off (by decide)]; exact a1, by rw [up_off (by decide)]; exact a2, by rw [up_off (by decide)]; exact a3, fun i hi => by rw [up_ne (by omega)]; exact a4 i hi, fun i hi => by rw [up_ne (by omega)]; exact a5 i hi, fun i hi => by rw [up_ne (by omega)]; exact a6 i hi, by rw [up_off (by decide)]; exact a7, by rw [up_off (by decide)]; exact a8, up_at, by rw [up_off (by decide)]; exact a10, by rw [up_off (by decide)]; exact a11⟩
theorem FrAt.ur {z : ZS} {o : Nat} {d : DS} {h : Hp} (H : FrAt z o d h) (v : Nat) : FrAt z o (dp d, dh d, dc d, da d, dw d, v, dt d) (up h o 10 (nI v)) := by
  obtain ⟨a1, a2, a3, a4, a5, a6, a7, a8, a9, a10, a11⟩ := H
  exact ⟨by rw [up_off (by decide)]; exact a1, by rw [up_off (by decide)]; exact a2, by rw [up_off (by decide)]; exact a3, fun i hi => by rw [up_ne (by omega)]; exact a4 i hi, fun i hi => by rw [up_ne (by omega)]; exact a5 i hi, fun i hi => by rw [up_ne (by omega)]; exact a6 i hi, by rw [up_off (by decide)]; exact a7, by rw [up_off (by decide)]; exact a8, by rw [up_off (by decide)]; exact a9, up_at, by rw [up_off (by decide)]; exact a11⟩
theorem FrAt.ut {z : ZS} {o : Nat} {d : DS} {h : Hp} (H : FrAt z o d h) (v : Nat) : FrAt z o (dp d, dh d, dc d, da d, dw d, dr d, v) (up h o 11 (nI v)) := by
  obtain ⟨a1, a2, a3, a4, a5, a6, a7, a8, a9, a10, a11⟩ := H
  exact ⟨by rw [up_off (by decide)]; exact a1, by rw [up_off (by decide)]; exact a2, by rw [up_off (by decide)]; exact a3, fun i hi => by rw [up_ne (by omega)]; exact a4 i hi, fun i hi => by rw [up_ne (by omega)]; exact a5 i hi, fun i hi => by rw [up_ne (by omega)]; exact a6 i hi, by rw [up_off (by decide)]; exact a7, by rw [up_off (by decide)]; exact a8, by rw [up_off (by decide)]; exact a9, by rw [up_off (by decide)]; exact a10, up_at⟩
theorem FrAt.upl {z : ZS} {o : Nat} {d : DS} {h : Hp} (H : FrAt z o d h) (k v : Nat) : FrAt z o (va_up (dp d) k v, dh d, dc d, da d, dw d, dr d, dt d) (up h (o + 2) k (nI v)) := by
  obtain ⟨a1, a2, a3, a4, a5, a6, a7, a8, a9, a10, a11⟩ := H
  refine ⟨by rw [up_ne (by omega)]; exact a1,
    by rw [up_ne (by omega)]; exact a2,
    by rw [up_ne (by omega)]; exact a3,
    fun i hi => by rw [up_ne (by omega)]; exact a4 i hi,
    fun i hi => by
    show _ = nI (va_up (dp d) k v i)
    by_cases e : i = k
    · subst e; rw [up_at]; simp [va_up]
    · rw [up_off e, a5 i hi]; simp [va_up, e],
    fun i hi => by rw [up_ne (by omega)]; exact a6 i hi,
    by rw [up_ne (by omega)]; exact a7,
    by rw [up_ne (by omega)]; exact a8,
    by rw [up_ne (by omega)]; exact a9,
    by rw [up_ne (by omega)]; exact a10,
    by rw [up_ne (by omega)]; exact a11⟩
theorem FrAt.uh {z : ZS} {o : Nat} {d : DS} {h : Hp} (H : FrAt z o d h) (k v : Nat) : FrAt z o (dp d, va_up (dh d) k v, dc d, da d, dw d, dr d, dt d) (up h (o + 3) k (nI v)) := by
  obtain ⟨a1, a2, a3, a4, a5, a6, a7, a8, a9, a10, a11⟩ := H
  refine ⟨by rw [up_ne (by omega)]; exact a1,
    by rw [up_ne (by omega)]; exact a2,
    by rw [up_ne (by omega)]; exact a3,
    fun i hi => by rw [up_ne (by omega)]; exact a4 i hi,
    fun i hi => by rw [up_ne (by omega)]; exact a5 i hi,
    fun i hi => by
    show _ = nI (va_up (dh d) k v i)
    by_cases e : i = k
    · subst e; rw [up_at]; simp [va_up]
    · rw [up_off e, a6 i hi]; simp [va_up, e],
    by rw [up_ne (by omega)]; exact a7,
    by rw [up_ne (by omega)]; exact a8,
    by rw [up_ne (by omega)]; exact a9,
    by rw [up_ne (by omega)]; exact a10,
    by rw [up_ne (by omega)]; exact a11⟩
theorem drift_eq {z : ZS} {o : Nat} {d : DS} {h : Hp} (hz : ZOk z) (hd : DOk z d) (H : FrAt z o d h) : ∃ h', X4_drift o h = some h' ∧ FrAt z o (dp d, dh d, drC z d, drA d, dw d, dr d, dt d) h' ∧ Off (FrC o) h h' := by
  obtain ⟨a1, a2, a3, a4, a5, a6, a7, a8, a9, a10, a11⟩ := H
  obtain ⟨b1, b2, b3, b4, b5, b6⟩ := hd
  have hg := hz.2.2.2
  unfold X4_drift
  by_cases hc : dc d = 0
  · rw [if_pos (by rw [a7, hc]; rfl)]
    refine ⟨h, rfl, ⟨a1, a2, a3, a4, a5, a6, ?_, ?_, a9, a10, a11⟩, Off.rf⟩
    · rw [a7]; show nI (dc d) = nI (drC z d); rw [show drC z d = 0 from if_pos hc, hc]
    · rw [a8]; show nI (da d) = nI (drA d); rw [show drA d = da d from if_pos hc]
  · rw [if_neg (by rw [a7]; exact nI_ne0 (by omega) (by omega))]
    have e1 : (if h.1 o 10 = (1 : Int32) then some (h.1 o 7 / (2 : Int32)) else some (mnI (60 : Int32) (h.1 o 7 + h.1 o 5))) = some (nI (drC z d)) := by
      rw [a10, a7, a2]
      by_cases hr : dr d = 1
      · rw [if_pos (by rw [hr]; rfl), nI_half (by omega)]
        rw [show drC z d = dc d / 2 by unfold drC; rw [if_neg hc, if_pos hr]]
      · rw [if_neg (fun q => hr ((nq_1 (by omega)).mp q)), nI_add, show (60 : Int32) = nI 60 from rfl, mnI_nI (by decide) (by omega)]
        rw [show drC z d = min 60 (dc d + zg z) by unfold drC; rw [if_neg hc, if_neg hr]]
    rw [e1, ob_some, lt_eq]
    have e2 : (up h o 7 (nI (drC z d))).1 o 8 = nI (da d) := by rw [up_off (by decide), a8]
    have e3 : (up h o 7 (nI (drC z d))).1 o 9 = nI (dw d) := by rw [up_off (by decide), a9]
    have e4 : J9_floorMod_7cf53 (nI (da d) + nI (dw d) - 1) 10 = some (nI (drA d)) := by
      rw [show drA d = (da d + dw d + 9) % 10 from if_neg hc, nI_add]
      rcases Nat.eq_zero_or_pos (da d + dw d) with q | q
      · rw [q]; exact pf_m10m
      · obtain ⟨n, hn⟩ : ∃ n, da d + dw d = n + 1 := ⟨da d + dw d - 1, by omega⟩
        rw [hn, nI_pred, pf_m10 n (by omega)]
        congr 2
        omega
    rw [e2, e3, e4, ob_some, lt_eq]
    exact ⟨_, rfl, (FrAt.uc ⟨a1, a2, a3, a4, a5, a6, a7, a8, a9, a10, a11⟩ (drC z d)).ua (drA d), (Off.rf.up (Or.inl rfl)).up (Or.inl rfl)⟩
set_option maxHeartbeats 1000000 in
theorem gatherFor_eq {z : ZS} {o aw pa i : Nat} {pl : Nat → Nat} {q : Nat × (Nat → Nat) × Nat} {dws drs dts : Nat} {h : Hp} (hz : ZOk z) (hi : i < zp z) (hc : q.1 ≤ 60) (hh : q.2.1 i ≤ 30) (hpl : pl i ≤ 9) (hpa : pa ≤ 9) (haw : aw.testBit i = false) (H : FrAt z o (pl, q.2.1, q.1, pa, dws, drs, dts) h) :
    ∃ h', X4_gatherFor o (nI i) h = some (nI (if pl i = pa ∧ 0 < gath (zk z i) q.1 then 1 else 0), h') ∧ FrAt z o (pl, (gst z aw pa pl i q).2.1, (gst z aw pa pl i q).1, pa, dws, drs, dts) h' ∧ Off (FrC o) h h' := by
  obtain ⟨a1, a2, a3, a4, a5, a6, a7, a8, a9, a10, a11⟩ := H
  have hp := hz.1
  have hk := hz.2.1 i hi
  have hgl := gath_le (zk z i) q.1
  unfold X4_gatherFor
  rw [gd_true (ib_nI (by omega) (by decide)), ix_nI (by omega), a5 i hi, a8]
  by_cases c1 : pl i = pa
  · rw [if_pos (by rw [show dp (pl, q.2.1, q.1, pa, dws, drs, dts) i = da (pl, q.2.1, q.1, pa, dws, drs, dts) from c1]), lt_eq, a4 i hi, a7, show dc (pl, q.2.1, q.1, pa, dws, drs, dts) = q.1 from rfl, gath_c _ hk _ (by omega)]
    by_cases c2 : 0 < gath (zk z i) q.1
    · have eg : gst z aw pa pl i q = (min 60 (q.1 - gath (zk z i) q.1 + (if zk z i = 4 then 3 else 0)), va_up q.2.1 i (min 30 (q.2.1 i + gath (zk z i) q.1)), q.2.2 ||| 2 ^ i) := if_pos ⟨c1, haw, c2⟩
      rw [if_pos ((nll_0 (by omega)).mpr c2), lt_eq, lt_eq, brth_c _ hk, a6 i hi, if_pos (show pl i = pa ∧ 0 < gath (zk z i) q.1 from ⟨c1, c2⟩)]
      have e1 : mnI (30 : Int32) (nI (dh (pl, q.2.1, q.1, pa, dws, drs, dts) i) + nI (gath (zk z i) q.1)) = nI (min 30 (q.2.1 i + gath (zk z i) q.1)) := by
        rw [nI_add, show (30 : Int32) = nI 30 from rfl, mnI_nI (by decide) (by show q.2.1 i + gath (zk z i) q.1 < 2 ^ 31; omega)]
      have e2 : mnI (60 : Int32) ((up h (o + 3) i (mnI (30 : Int32) (nI (dh (pl, q.2.1, q.1, pa, dws, drs, dts) i) + nI (gath (zk z i) q.1)))).1 o 7 - nI (gath (zk z i) q.1) + nI (if zk z i = 4 then 3 else 0)) = nI (min 60 (q.1 - gath (zk z i) q.1 + (if zk z i = 4 then 3 else 0))) := by
        rw [up_ne (by omega), a7, show dc (pl, q.2.1, q.1, pa, dws, drs, dts) = q.1 from rfl, pk_sub hgl, nI_add, show (60 : Int32) = nI 60 from rfl, mnI_nI (by decide) (by split <;> omega)]
      rw [e2, e1, eg]
      exact ⟨_, rfl, ((FrAt.uh ⟨a1, a2, a3, a4, a5, a6, a7, a8, a9, a10, a11⟩ i (min 30 (q.2.1 i + gath (zk z i) q.1)))).uc (min 60 (q.1 - gath (zk z i) q.1 + (if zk z i = 4 then 3 else 0))), (Off.rf.up (Or.inr (Or.inr rfl))).up (Or.inl rfl)⟩
    · have eg : gst z aw pa pl i q = q := if_neg (fun w => c2 w.2.2)
      rw [if_neg (fun w => c2 ((nll_0 (by omega)).mp w)), if_neg (fun w => c2 w.2), eg]
      exact ⟨h, rfl, ⟨a1, a2, a3, a4, a5, a6, a7, a8, a9, a10, a11⟩, Off.rf⟩
  · have eg : gst z aw pa pl i q = q := if_neg (fun w => c1 w.1)
    rw [if_neg (fun w => c1 ((nI_eq (a := pl i) (b := pa) (by omega) (by omega)).mp w)), if_neg (fun w => c1 w.1), eg]
    exact ⟨h, rfl, ⟨a1, a2, a3, a4, a5, a6, a7, a8, a9, a10, a11⟩, Off.rf⟩
/-- the people of a pass, one behind the other -/
theorem testBit_cases (aw i : Nat) : aw.testBit i = true ∨ aw.testBit i = false := by cases aw.testBit i <;> simp
set_option maxHeartbeats 1000000 in
theorem passLoop_eq {z : ZS} {o aw pa : Nat} {pl : Nat → Nat} {q : Nat × (Nat → Nat) × Nat} {dws drs dts : Nat} {h : Hp} (hz : ZOk z) (hc : q.1 ≤ 60) (hh : ∀ i, i < zp z → q.2.1 i ≤ 30) (hs : q.2.2 = 0) (hpl : ∀ i, i < zp z → pl i ≤ 9) (hpa : pa ≤ 9) (haw : aw < 2 ^ 31) (H : FrAt z o (pl, q.2.1, q.1, pa, dws, drs, dts) h) :
    ∃ h', lp (fun s : Int32 × Int32 × Hp => X4_pass_s8 o (nI aw) s.1 s.2.1 s.2.2) FU ((0 : Int32), (0 : Int32), h) = some (nI (gfo z aw pa pl q (zp z)).2.2, nI (zp z), h') ∧ FrAt z o (pl, (gfo z aw pa pl q (zp z)).2.1, (gfo z aw pa pl q (zp z)).1, pa, dws, drs, dts) h' ∧ Off (FrC o) h h' := by
  have hp := hz.1
  refine (lp_all (step := fun s : Int32 × Int32 × Hp => X4_pass_s8 o (nI aw) s.1 s.2.1 s.2.2)
    (fun i s => s.1 = nI (gfo z aw pa pl q i).2.2 ∧ s.2.1 = nI i ∧ FrAt z o (pl, (gfo z aw pa pl q i).2.1, (gfo z aw pa pl q i).1, pa, dws, drs, dts) s.2.2 ∧ Off (FrC o) h s.2.2)
    (fun r => r.1 = nI (gfo z aw pa pl q (zp z)).2.2 ∧ r.2.1 = nI (zp z) ∧ FrAt z o (pl, (gfo z aw pa pl q (zp z)).2.1, (gfo z aw pa pl q (zp z)).1, pa, dws, drs, dts) r.2.2 ∧ Off (FrC o) h r.2.2)
    (zp z) (by omega) ?_ ?_ (s := ((0 : Int32), (0 : Int32), h)) ⟨by rw [show (gfo z aw pa pl q 0) = q from rfl, hs]; rfl, rfl, H, Off.rf⟩).elim ?_
  · rintro i ⟨s1, s2, hp2⟩ hi ⟨g1, g2, g3, g4⟩
    cases g1; cases g2
    obtain ⟨k1, k2, k3⟩ := gfo_ok (aw := aw) (pa := pa) (pl := pl) hc hh hs i (by omega)
    show ∃ t, X4_pass_s8 o (nI aw) (nI (gfo z aw pa pl q i).2.2) (nI i) hp2 = some (.inr t) ∧ _
    unfold X4_pass_s8
    have g36 : hp2.1 o 6 = nI (zp z) := g3.2.2.1
    rw [if_neg (by rw [g36]; exact nI_ge hi (by omega)), bitI haw (by omega)]
    rw [show gfo z aw pa pl q (i + 1) = gst z aw pa pl i (gfo z aw pa pl q i) from rfl]
    rcases testBit_cases aw i with tb | tb
    · rw [tb, if_pos rfl, if_neg (by decide), ob2_some, lt_eq]
      have eg : gst z aw pa pl i (gfo z aw pa pl q i) = gfo z aw pa pl q i := if_neg (fun w => by rw [tb] at w; cases w.2.1)
      rw [eg]
      exact ⟨_, rfl, rfl, nI_1 i, g3, g4⟩
    · obtain ⟨h', e1, e2, e3⟩ := gatherFor_eq (aw := aw) (q := gfo z aw pa pl q i) hz hi k1 (k2 i hi) (hpl i hi) hpa tb g3
      rw [tb, if_neg (show ¬ (false = true) by decide), if_pos (show nI 0 = (0 : Int32) from rfl), e1, ob2_some]
      by_cases c : pl i = pa ∧ 0 < gath (zk z i) (gfo z aw pa pl q i).1
      · rw [if_pos c, if_neg (show ¬ nI 1 = (0 : Int32) by decide), lt_eq, ob2_some, lt_eq, sh1 i (by omega), nI_or]
        have eg : (gst z aw pa pl i (gfo z aw pa pl q i)).2.2 = (gfo z aw pa pl q i).2.2 ||| 2 ^ i := by unfold gst; rw [if_pos ⟨c.1, tb, c.2⟩]
        exact ⟨_, rfl, by rw [eg], nI_1 i, e2, g4.tr e3⟩
      · rw [if_neg c, if_pos (show nI 0 = (0 : Int32) from rfl), ob2_some, lt_eq]
        have eg : (gst z aw pa pl i (gfo z aw pa pl q i)).2.2 = (gfo z aw pa pl q i).2.2 := by unfold gst; rw [if_neg (fun w => c ⟨w.1, w.2.2⟩)]
        exact ⟨_, rfl, by rw [eg], nI_1 i, e2, g4.tr e3⟩
  · rintro ⟨s1, s2, hp2⟩ ⟨g1, g2, g3, g4⟩
    cases g1; cases g2
    show ∃ r, X4_pass_s8 o (nI aw) (nI (gfo z aw pa pl q (zp z)).2.2) (nI (zp z)) hp2 = some (.inl r) ∧ _
    unfold X4_pass_s8
    have g36 : hp2.1 o 6 = nI (zp z) := g3.2.2.1
    rw [if_pos (by rw [g36]; exact nI_le (Nat.le_refl _) (by omega))]
    exact ⟨_, rfl, rfl, rfl, g3, g4⟩
  · rintro ⟨r1, r2, r3⟩ ⟨h1, g1, g2, g3, g4⟩
    cases g1; cases g2
    exact ⟨r3, h1, g3, g4⟩
set_option maxHeartbeats 1000000 in
theorem loseInRain_eq {z : ZS} {o : Nat} {d : DS} {h : Hp} (hz : ZOk z) (hd : DOk z d) (H : FrAt z o d h) : ∃ h', X4_loseInRain o h = some h' ∧ FrAt z o (dp d, los z 1 (dh d), dc d, da d, dw d, dr d, dt d) h' ∧ Off (FrC o) h h' := by
  have hp := hz.1
  refine (lp_all (step := fun s : Int32 × Hp => X4_loseInRain_s2 o s.1 s.2)
    (fun i s => s.1 = nI i ∧ FrAt z o (dp d, (fun j => if j < i then los z 1 (dh d) j else dh d j), dc d, da d, dw d, dr d, dt d) s.2 ∧ Off (FrC o) h s.2)
    (fun r => FrAt z o (dp d, los z 1 (dh d), dc d, da d, dw d, dr d, dt d) r.2 ∧ Off (FrC o) h r.2)
    (zp z) (by omega) ?_ ?_ (s := ((0 : Int32), h)) ⟨rfl, H, Off.rf⟩).elim ?_
  · rintro i ⟨s1, hp2⟩ hi ⟨g1, g3, g4⟩
    cases g1
    show ∃ t, X4_loseInRain_s2 o (nI i) hp2 = some (.inr t) ∧ _
    obtain ⟨a1, a2, a3, a4, a5, a6, a7, a8, a9, a10, a11⟩ := g3
    unfold X4_loseInRain_s2 X4_personOf
    rw [if_neg (by rw [a3]; exact nI_ge hi (by omega)), gd_true (ib_nI (by omega) (by decide)), ob_some, gd_true (pB_c _), gd_true (ib_nI (by omega) (by decide)), ix_nI (by omega), a4 i hi, a6 i hi]
    have e0 : dh (dp d, (fun j => if j < i then los z 1 (dh d) j else dh d j), dc d, da d, dw d, dr d, dt d) i = dh d i := if_neg (by omega)
    have b2 := hd.2.1 i hi
    rw [e0, left_c _ (hz.2.1 i hi) _ (by omega), lt_eq, lt_eq]
    refine ⟨_, rfl, nI_1 i, ?_, g4.up (Or.inr (Or.inr rfl))⟩
    have F := FrAt.uh ⟨a1, a2, a3, a4, a5, a6, a7, a8, a9, a10, a11⟩ i (if zk z i ≠ 1 ∧ zk z i ≠ 4 then dh d i / 2 else dh d i)
    have ef : va_up (dh (dp d, (fun j => if j < i then los z 1 (dh d) j else dh d j), dc d, da d, dw d, dr d, dt d)) i (if zk z i ≠ 1 ∧ zk z i ≠ 4 then dh d i / 2 else dh d i) = fun j => if j < i + 1 then los z 1 (dh d) j else dh d j := by
      funext j
      show (if j = i then _ else (if j < i then los z 1 (dh d) j else dh d j)) = _
      by_cases e : j = i
      · subst e
        rw [if_pos (show j = j from rfl), if_pos (show j < j + 1 from Nat.lt_succ_self j)]
        unfold los
        by_cases c : zk z j ≠ 1 ∧ zk z j ≠ 4
        · rw [if_pos c, if_pos (show 1 = 1 ∧ zk z j ≠ 1 ∧ zk z j ≠ 4 from ⟨rfl, c⟩)]
        · rw [if_neg c, if_neg (show ¬ (1 = 1 ∧ zk z j ≠ 1 ∧ zk z j ≠ 4) from fun w => c w.2)]
      · rw [if_neg e]
        by_cases q : j < i
        · rw [if_pos q, if_pos (by omega)]
        · rw [if_neg q, if_neg (by omega)]
    rw [ef] at F
    exact F
  · rintro ⟨s1, hp2⟩ ⟨g1, g3, g4⟩
    cases g1
    show ∃ r, X4_loseInRain_s2 o (nI (zp z)) hp2 = some (.inl r) ∧ _
    obtain ⟨a1, a2, a3, a4, a5, a6, a7, a8, a9, a10, a11⟩ := g3
    unfold X4_loseInRain_s2
    rw [if_pos (by rw [a3]; exact nI_le (Nat.le_refl _) (by omega))]
    refine ⟨_, rfl, ⟨a1, a2, a3, a4, a5, fun i hi => ?_, a7, a8, a9, a10, a11⟩, g4⟩
    rw [a6 i hi]
    show nI (if i < zp z then los z 1 (dh d) i else dh d i) = nI (los z 1 (dh d) i)
    rw [if_pos hi]
  · rintro r ⟨h1, h2⟩
    unfold X4_loseInRain
    rw [h1]
    exact ⟨r.2, rfl, h2.1, h2.2⟩
theorem los_0 {z : ZS} {r : Nat} {f : Nat → Nat} (h : r ≠ 1) : los z r f = f := by funext i; unfold los; rw [if_neg (fun w => h w.1)]
set_option maxHeartbeats 1000000 in
/-- THE CLASS's TURN -/
theorem pass_eq {z : ZS} {o aw : Nat} {d : DS} {h : Hp} (hz : ZOk z) (hd : DOk z d) (haw : aw < 2 ^ 31) (H : FrAt z o d h) : ∃ h', X4_pass o (nI aw) h = some (nI (tnS z aw d), h') ∧ FrAt z o (tnD z aw d) h' ∧ Off (FrC o) h h' := by
  obtain ⟨h1, e1, f1, o1⟩ := drift_eq hz hd H
  obtain ⟨h2, e2, f2, o2⟩ := passLoop_eq (aw := aw) (q := (drC z d, dh d, 0)) hz (drC_le hd) hd.2.1 rfl hd.1 (drA_le hd) haw f1
  obtain ⟨t1, t2, t3⟩ := tq_ok (aw := aw) hz hd
  unfold X4_pass
  rw [e1, ob_some, e2, ob3_some]
  have r2 : h2.1 o 10 = nI (dr d) := f2.2.2.2.2.2.2.2.2.2.1
  obtain ⟨h3, e3, f3, o3⟩ : ∃ h3, (if h2.1 o 10 = (1 : Int32) then (ob (X4_loseInRain o h2) fun h22 => some h22) else some h2) = some h3 ∧ FrAt z o (dp d, los z (dr d) (tq z aw d).2.1, (tq z aw d).1, drA d, dw d, dr d, dt d) h3 ∧ Off (FrC o) h2 h3 := by
    rw [r2]
    by_cases c : dr d = 1
    · rw [if_pos (by rw [c]; rfl)]
      obtain ⟨h3, e3, f3, o3⟩ := loseInRain_eq (d := (dp d, (tq z aw d).2.1, (tq z aw d).1, drA d, dw d, dr d, dt d)) hz ⟨hd.1, t2, t1, drA_le hd, hd.2.2.2.2.1, hd.2.2.2.2.2⟩ f2
      rw [e3, ob_some]
      refine ⟨h3, rfl, ?_, o3⟩
      rw [c]
      rw [c] at f3
      exact f3
    · rw [if_neg (fun w => c ((nq_1 (by have := hd.2.2.2.2.2; omega)).mp w)), los_0 c]
      exact ⟨h2, rfl, f2, Off.rf⟩
  rw [e3, ob_some]
  have c3 : h3.1 o 7 = nI (tq z aw d).1 := f3.2.2.2.2.2.2.1
  obtain ⟨h4, e4, f4, o4⟩ : ∃ h4, (if h3.1 o 7 = (0 : Int32) then (lt_ (up h3 o 8 (h3.1 o 4)) fun h25 => some h25) else some h3) = some h4 ∧ FrAt z o (dp d, los z (dr d) (tq z aw d).2.1, (tq z aw d).1, (if (tq z aw d).1 = 0 then zd z else drA d), dw d, dr d, dt d) h4 ∧ Off (FrC o) h3 h4 := by
    rw [c3]
    obtain ⟨a1, a2, a3, a4, a5, a6, a7, a8, a9, a10, a11⟩ := f3
    by_cases c : (tq z aw d).1 = 0
    · rw [if_pos (by rw [c]; rfl), lt_eq, if_pos c, a1]
      exact ⟨_, rfl, FrAt.ua ⟨a1, a2, a3, a4, a5, a6, a7, a8, a9, a10, a11⟩ (zd z), Off.rf.up (Or.inl rfl)⟩
    · rw [if_neg (fun w => c ((nq_0 (by omega)).mp w)), if_neg c]
      exact ⟨h3, rfl, ⟨a1, a2, a3, a4, a5, a6, a7, a8, a9, a10, a11⟩, Off.rf⟩
  rw [e4, ob_some, lt_eq]
  have c4 : h4.1 o 11 = nI (dt d) := f4.2.2.2.2.2.2.2.2.2.2
  rw [c4, show nI (dt d) + 1 = nI (dt d + 1) from nI_1 _]
  exact ⟨_, rfl, f4.ut (dt d + 1), (((o1.tr o2).tr o3).tr o4).up (Or.inl rfl)⟩
