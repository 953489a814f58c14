theorem nap_1 (a : Nat) : nI a + (1 : Int32) = nI (a + 1) := nI_add a 1
theorem nap_3 (a : Nat) : nI a + (3 : Int32) = nI (a + 3) := nI_add a 3
theorem nap_6 (a : Nat) : nI a + (6 : Int32) = nI (a + 6) := nI_add a 6
theorem nap_9 (a : Nat) : nI a + (9 : Int32) = nI (a + 9) := nI_add a 9
theorem nap_12 (a : Nat) : nI a + (12 : Int32) = nI (a + 12) := nI_add a 12
theorem nap_13 (a : Nat) : nI a + (13 : Int32) = nI (a + 13) := nI_add a 13
theorem nap_14 (a : Nat) : nI a + (14 : Int32) = nI (a + 14) := nI_add a 14
theorem nap_15 (a : Nat) : nI a + (15 : Int32) = nI (a + 15) := nI_add a 15
theorem nap_16 (a : Nat) : nI a + (16 : Int32) = nI (a + 16) := nI_add a 16
theorem nap_17 (a : Nat) : nI a + (17 : Int32) = nI (a + 17) := nI_add a 17
theorem ibx {a n : Nat} (h : a < n) (hn : n < 2 ^ 31) : ib (nI a) n = true := ib_nI h hn
/-! the model: a row of w at x -/
def RwAt (z : ZS) (x : Nat) (d : DS) (h : Hp) : Prop := (∀ i, i < zp z → h.1 52 (x + i) = nI (dp d i)) ∧ (∀ i, i < zp z → h.1 52 (x + 6 + i) = nI (dh d i)) ∧ h.1 52 (x + 12) = nI (dc d) ∧ h.1 52 (x + 13) = nI (da d) ∧ h.1 52 (x + 14) = nI (dw d) ∧ h.1 52 (x + 15) = nI (dr d) ∧ h.1 52 (x + 16) = nI (dt d)
/-- its fixed things; one of another kind -/
def MZ (z : ZS) (ot okd : Int32) (h : Hp) : Prop := h.1 51 2 = nI (zp z) ∧ h.1 51 3 = nI (zd z) ∧ h.1 51 4 = nI (zg z) ∧ ∀ i, i < zp z → (if nI i = ot then okd else h.1 53 i) = nI (zk z i)
def OffW (x : Nat) (h h' : Hp) : Prop := (∀ i, i ≠ 52 → h'.1 i = h.1 i) ∧ h'.2 = h.2 ∧ ∀ j, (j < x ∨ x + 17 ≤ j) → h'.1 52 j = h.1 52 j
theorem OffW.rf {x : Nat} {h : Hp} : OffW x h h := ⟨fun _ _ => rfl, rfl, fun _ _ => rfl⟩
theorem OffW.tr {x : Nat} {h h1 h2 : Hp} (a : OffW x h h1) (b : OffW x h1 h2) : OffW x h h2 := ⟨fun i hi => (b.1 i hi).trans (a.1 i hi), b.2.1.trans a.2.1, fun j hj => (b.2.2 j hj).trans (a.2.2 j hj)⟩
theorem OffW.up {x k : Nat} {h h1 : Hp} {v : Int32} (a : OffW x h h1) (h1' : x ≤ k) (h2' : k < x + 17) : OffW x h (up h1 52 k v) := ⟨fun i hi => (up_ne hi).trans (a.1 i hi), a.2.1, fun j hj => (up_off (by omega)).trans (a.2.2 j hj)⟩
theorem MZ.off {z : ZS} {ot okd : Int32} {x : Nat} {h h1 : Hp} (H : MZ z ot okd h) (a : OffW x h h1) : MZ z ot okd h1 := by
  obtain ⟨a1, a2, a3, a4⟩ := H
  have e1 := a.1 51 (by decide)
  have e2 := a.1 53 (by decide)
  exact ⟨by rw [e1]; exact a1, by rw [e1]; exact a2, by rw [e1]; exact a3, fun i hi => by rw [e2]; exact a4 i hi⟩
theorem RwAt.uc {z : ZS} {x : Nat} {d : DS} {h : Hp} (H : RwAt z x d h) (hp : zp z ≤ 6) (v : Nat) : RwAt z x (dp d, dh d, v, da d, dw d, dr d, dt d) (up h 52 (x + 12) (nI v)) := by
  obtain ⟨a1, a2, a3, a4, a5, a6, a7⟩ := H
  exact ⟨fun i hi => by rw [up_off (by omega)]; exact a1 i hi, fun i hi => by rw [up_off (by omega)]; exact a2 i hi, up_at, by rw [up_off (by omega)]; exact a4, by rw [up_off (by omega)]; exact a5, by rw [up_off (by omega)]; exact a6, by rw [up_off (by omega)]; exact a7⟩
theorem RwAt.ua {z : ZS} {x : Nat} {d : DS} {h : Hp} (H : RwAt z x d h) (hp : zp z ≤ 6) (v : Nat) : RwAt z x (dp d, dh d, dc d, v, dw d, dr d, dt d) (up h 52 (x + 13) (nI v)) := by
  obtain ⟨a1, a2, a3, a4, a5, a6, a7⟩ := H
  exact ⟨fun i hi => by rw [up_off (by omega)]; exact a1 i hi, fun i hi => by rw [up_off (by omega)]; exact a2 i hi, by rw [up_off (by omega)]; exact a3, up_at, by rw [up_off (by omega)]; exact a5, by rw [up_off (by omega)]; exact a6, by rw [up_off (by omega)]; exact a7⟩
theorem RwAt.uw {z : ZS} {x : Nat} {d : DS} {h : Hp} (H : RwAt z x d h) (hp : zp z ≤ 6) (v : Nat) : RwAt z x (dp d, dh d, dc d, da d, v, dr d, dt d) (up h 52 (x + 14) (nI v)) := by
  obtain ⟨a1, a2, a3, a4, a5, a6, a7⟩ := H
  exact ⟨fun i hi => by rw [up_off (by omega)]; exact a1 i hi, fun i hi => by rw [up_off (by omega)]; exact a2 i hi, by rw [up_off (by omega)]; exact a3, by rw [up_off (by omega)]; exact a4, up_at, by rw [up_off (by omega)]; exact a6, by rw [up_off (by omega)]; exact a7⟩
theorem RwAt.ur {z : ZS} {x : Nat} {d : DS} {h : Hp} (H : RwAt z x d h) (hp : zp z ≤ 6) (v : Nat) : RwAt z x (dp d, dh d, dc d, da d, dw d, v, dt d) (up h 52 (x + 15) (nI v)) := by
  obtain ⟨a1, a2, a3, a4, a5, a6, a7⟩ := H
  exact ⟨fun i hi => by rw [up_off (by omega)]; exact a1 i hi, fun i hi => by rw [up_off (by omega)]; exact a2 i hi, by rw [up_off (by omega)]; exact a3, by rw [up_off (by omega)]; exact a4, by rw [up_off (by omega)]; exact a5, up_at, by rw [up_off (by omega)]; exact a7⟩
theorem RwAt.ut {z : ZS} {x : Nat} {d : DS} {h : Hp} (H : RwAt z x d h) (hp : zp z ≤ 6) (v : Nat) : RwAt z x (dp d, dh d, dc d, da d, dw d, dr d, v) (up h 52 (x + 16) (nI v)) := by
  obtain ⟨a1, a2, a3, a4, a5, a6, a7⟩ := H
  exact ⟨fun i hi => by rw [up_off (by omega)]; exact a1 i hi, fun i hi => by rw [up_off (by omega)]; exact a2 i hi, by rw [up_off (by omega)]; exact a3, by rw [up_off (by omega)]; exact a4, by rw [up_off (by omega)]; exact a5, by rw [up_off (by omega)]; exact a6, up_at⟩
theorem RwAt.upl {z : ZS} {x : Nat} {d : DS} {h : Hp} (H : RwAt z x d h) (hp : zp z ≤ 6) (k v : Nat) (hk : k < 6) : RwAt z x (va_up (dp d) k v, dh d, dc d, da d, dw d, dr d, dt d) (up h 52 (x + k) (nI v)) := by
  obtain ⟨a1, a2, a3, a4, a5, a6, a7⟩ := H
  refine ⟨fun i hi => by
    show _ = nI (va_up (dp d) k v i)
    by_cases e : i = k
    · subst e; rw [up_at]; simp [va_up]
    · rw [up_off (by omega), a1 i hi]; simp [va_up, e],
    fun i hi => by rw [up_off (by omega)]; exact a2 i hi,
    by rw [up_off (by omega)]; exact a3,
    by rw [up_off (by omega)]; exact a4,
    by rw [up_off (by omega)]; exact a5,
    by rw [up_off (by omega)]; exact a6,
    by rw [up_off (by omega)]; exact a7⟩
theorem RwAt.uh {z : ZS} {x : Nat} {d : DS} {h : Hp} (H : RwAt z x d h) (hp : zp z ≤ 6) (k v : Nat) (hk : k < 6) : RwAt z x (dp d, va_up (dh d) k v, dc d, da d, dw d, dr d, dt d) (up h 52 (x + 6 + k) (nI v)) := by
  obtain ⟨a1, a2, a3, a4, a5, a6, a7⟩ := H
  refine ⟨fun i hi => by rw [up_off (by omega)]; exact a1 i hi,
    fun i hi => by
    show _ = nI (va_up (dh d) k v i)
    by_cases e : i = k
    · subst e; rw [up_at]; simp [va_up]
    · rw [up_off (by omega), a2 i hi]; simp [va_up, e],
    by rw [up_off (by omega)]; exact a3,
    by rw [up_off (by omega)]; exact a4,
    by rw [up_off (by omega)]; exact a5,
    by rw [up_off (by omega)]; exact a6,
    by rw [up_off (by omega)]; exact a7⟩
theorem has_nI {aw i : Nat} (haw : aw < 2 ^ 31) (hi : i < 31) : X10_has (nI aw) (nI i) = nI (if aw.testBit i then 1 else 0) := by
  unfold X10_has
  rw [bitI haw hi]
  rcases testBit_cases aw i with t | t <;> rw [t] <;> rfl
/-- what the row holds in the midst of the people: those ahead have lost already -/
def mix (z : ZS) (r i : Nat) (f : Nat → Nat) : Nat → Nat := fun j => if j < i then los z r f j else f j
theorem gfo_past {z : ZS} {aw pa : Nat} {pl : Nat → Nat} {q : Nat × (Nat → Nat) × Nat} : ∀ n j, n ≤ j → (gfo z aw pa pl q n).2.1 j = q.2.1 j := by
  intro n
  induction n with
  | zero => intro j _; rfl
  | succ n ih =>
    intro j hj
    rw [show gfo z aw pa pl q (n + 1) = gst z aw pa pl n (gfo z aw pa pl q n) from rfl]
    unfold gst
    split
    · show va_up _ _ _ j = _
      unfold va_up
      rw [if_neg (by omega)]
      exact ih j (by omega)
    · exact ih j (by omega)
set_option maxHeartbeats 2000000 in
theorem turnStep_eq {z : ZS} {x aw pa i : Nat} {ot okd : Int32} {pl : Nat → Nat} {q : Nat × (Nat → Nat) × Nat} {cold dws drs dts : Nat} {h : Hp} (hz : ZOk z) (hx : x + 17 ≤ 2805) (hi : i < zp z) (hc : q.1 ≤ 60) (hh : q.2.1 i ≤ 30) (hpl : pl i ≤ 9) (hpa : pa ≤ 9) (hdr : drs ≤ 1) (haw : aw < 2 ^ 31) (M : MZ z ot okd h) (H : RwAt z x (pl, mix z drs i q.2.1, cold, pa, dws, drs, dts) h) :
    ∃ h', X10_turnIn_s90 (nI x) (nI aw) ot okd (nI q.1) (nI q.2.2) (nI i) h = some (.inr (nI (gst z aw pa pl i q).1, nI (gst z aw pa pl i q).2.2, nI (i + 1), h')) ∧ RwAt z x (pl, mix z drs (i + 1) (gst z aw pa pl i q).2.1, cold, pa, dws, drs, dts) h' ∧ OffW x h h' := by
  have hp := hz.1
  have hk := hz.2.1 i hi
  have hgl := gath_le (zk z i) q.1
  have m1 := M.1
  have m4 := M.2.2.2 i hi
  have a1 := H.1 i hi
  have a2 : h.1 52 (x + 6 + i) = nI (q.2.1 i) := by rw [H.2.1 i hi]; show nI (mix z drs i q.2.1 i) = _; unfold mix; rw [if_neg (by omega)]
  have a4 := H.2.2.2.1
  have a6 := H.2.2.2.2.2.1
  unfold X10_turnIn_s90
  rw [if_neg (by rw [m1]; exact nI_ge hi (by omega))]
  have e1 : (if nI i = ot then some okd else gd (ib (nI i) 6) (some (h.1 53 (ix (nI i))))) = some (nI (zk z i)) := by
    rw [gd_true (ib_nI (by omega) (by decide)), ix_nI (by omega), ← m4]
    split <;> rfl
  rw [e1, ob_some, nI_add, nap_13, gd_true (ibx (by omega) (by decide)), gd_true (ibx (by omega) (by decide)), ix_nI (by omega), ix_nI (by omega), a1, a4, has_nI haw (by omega), gath_m _ hk _ (by omega), nap_6, nI_add, nap_15]
  have e2 : (if nI (dp (pl, mix z drs i q.2.1, cold, pa, dws, drs, dts) i) = nI (da (pl, mix z drs i q.2.1, cold, pa, dws, drs, dts)) then (if nI (if aw.testBit i = true then 1 else 0) = (0 : Int32) then some (nI (gath (zk z i) q.1)) else some (0 : Int32)) else some (0 : Int32)) = some (nI (if pl i = pa ∧ aw.testBit i = false then gath (zk z i) q.1 else 0)) := by
    show (if nI (pl i) = nI pa then _ else _) = _
    by_cases c : pl i = pa
    · rw [if_pos (by rw [c])]
      rcases testBit_cases aw i with t | t
      · rw [t, if_pos rfl, if_neg (by decide), if_neg (fun w => by cases w.2)]; rfl
      · rw [t, if_neg (show ¬ (false = true) by decide), if_pos (show nI 0 = (0 : Int32) from rfl), if_pos (show pl i = pa ∧ false = false from ⟨c, rfl⟩)]
    · rw [if_neg (fun w => c ((nI_eq (by omega) (by omega)).mp w)), if_neg (fun w => c w.1)]; rfl
  rw [e2, ob_some]
  obtain ⟨h26, e3, f3, o3, v3⟩ : ∃ h26, (if nI (if pl i = pa ∧ aw.testBit i = false then gath (zk z i) q.1 else 0) ≤ (0 : Int32) then some (nI q.1, nI q.2.2, h) else (lt_ (nI q.2.2 ||| ((1 : Int32) <<< (nI i &&& 31))) fun v28 => gd (ib (nI (x + 6 + i)) 2805) (lt_ (up h 52 (ix (nI (x + 6 + i))) (X10_lesser (30 : Int32) ((h.1 52 (ix (nI (x + 6 + i)))) + nI (if pl i = pa ∧ aw.testBit i = false then gath (zk z i) q.1 else 0)))) fun h31 => lt_ (nI q.1 - nI (if pl i = pa ∧ aw.testBit i = false then gath (zk z i) q.1 else 0)) fun v33 => if nI (zk z i) = (4 : Int32) then (lt_ (X10_lesser (60 : Int32) (v33 + (3 : Int32))) fun v36 => some (v36, v28, h31)) else some (v33, v28, h31)))) = some (nI (gst z aw pa pl i q).1, nI (gst z aw pa pl i q).2.2, h26) ∧ RwAt z x (pl, mix z drs i (gst z aw pa pl i q).2.1, cold, pa, dws, drs, dts) h26 ∧ OffW x h h26 ∧ h26.1 52 (x + 6 + i) = nI ((gst z aw pa pl i q).2.1 i) := by
    by_cases c : pl i = pa ∧ aw.testBit i = false ∧ 0 < gath (zk z i) q.1
    · have eg : gst z aw pa pl i q = (min 60 (q.1 - gath (zk z i) q.1 + (if zk z i = 4 then 3 else 0)), va_up q.2.1 i (min 30 (q.2.1 i + gath (zk z i) q.1)), q.2.2 ||| 2 ^ i) := if_pos c
      rw [if_pos (show pl i = pa ∧ aw.testBit i = false from ⟨c.1, c.2.1⟩), if_neg (fun w => absurd ((ner_0 (by omega)).mp w) (by omega)), lt_eq, gd_true (ibx (by omega) (by decide)), lt_eq, lt_eq, ix_nI (by omega), sh1 i (by omega), nI_or, a2, nI_add, show (30 : Int32) = nI 30 from rfl, les_nI (by decide) (by omega), pk_sub hgl, nap_3, show (60 : Int32) = nI 60 from rfl, les_nI (by decide) (by omega), eg]
      have F := RwAt.uh H hp i (min 30 (q.2.1 i + gath (zk z i) q.1)) (by omega)
      have ef : va_up (dh (pl, mix z drs i q.2.1, cold, pa, dws, drs, dts)) i (min 30 (q.2.1 i + gath (zk z i) q.1)) = mix z drs i (va_up q.2.1 i (min 30 (q.2.1 i + gath (zk z i) q.1))) := by
        funext j
        show (if j = i then _ else mix z drs i q.2.1 j) = _
        unfold mix los va_up
        by_cases e : j = i
        · subst e; rw [if_pos (show j = j from rfl), if_neg (Nat.lt_irrefl j), if_pos (show j = j from rfl)]
        · rw [if_neg e, if_neg e]
      rw [ef] at F
      have hv : ∀ v : Int32, (up h 52 (x + 6 + i) v).1 52 (x + 6 + i) = v := fun v => up_at
      by_cases c4 : zk z i = 4
      · rw [if_pos (by rw [c4]; rfl), lt_eq, if_pos c4]
        refine ⟨_, rfl, F, OffW.rf.up (by omega) (by omega), ?_⟩
        rw [hv]; show _ = nI (va_up _ i _ i); simp [va_up]
      · rw [if_neg (fun w => c4 ((nq_4 (by omega)).mp w)), if_neg c4, show min 60 (q.1 - gath (zk z i) q.1 + 0) = q.1 - gath (zk z i) q.1 by omega]
        refine ⟨_, rfl, F, OffW.rf.up (by omega) (by omega), ?_⟩
        rw [hv]; show _ = nI (va_up _ i _ i); simp [va_up]
    · have eg : gst z aw pa pl i q = q := if_neg c
      have e0 : (if pl i = pa ∧ aw.testBit i = false then gath (zk z i) q.1 else 0) = 0 := by
        by_cases c' : pl i = pa ∧ aw.testBit i = false
        · rw [if_pos c']
          have : ¬ 0 < gath (zk z i) q.1 := fun w => c ⟨c'.1, c'.2, w⟩
          omega
        · rw [if_neg c']
      rw [e0, if_pos (show nI 0 ≤ (0 : Int32) by decide), eg]
      exact ⟨h, rfl, H, OffW.rf, a2⟩
  rw [e3, ob3_some]
  have r3 : h26.1 52 (x + 15) = nI drs := f3.2.2.2.2.2.1
  have hb30 : (gst z aw pa pl i q).2.1 i ≤ 30 := by
    unfold gst
    split
    · show va_up _ i _ i ≤ 30; simp only [va_up, if_true]; omega
    · exact hh
  have e4 : (if nI (zk z i) = (1 : Int32) then some (1 : Int32) else if nI (zk z i) = (4 : Int32) then some (1 : Int32) else gd (ib (nI (x + 15)) 2805) (if h26.1 52 (ix (nI (x + 15))) = (0 : Int32) then some (1 : Int32) else some (0 : Int32))) = some (nI (if drs = 1 ∧ zk z i ≠ 1 ∧ zk z i ≠ 4 then 0 else 1)) := by
    rw [gd_true (ibx (by omega) (by decide)), ix_nI (by omega), r3]
    by_cases c1 : zk z i = 1
    · rw [if_pos (by rw [c1]; rfl), if_neg (fun w => w.2.1 c1)]; rfl
    · rw [if_neg (fun w => c1 ((nq_1 (by omega)).mp w))]
      by_cases c4 : zk z i = 4
      · rw [if_pos (by rw [c4]; rfl), if_neg (fun w => w.2.2 c4)]; rfl
      · rw [if_neg (fun w => c4 ((nq_4 (by omega)).mp w))]
        by_cases c0 : drs = 0
        · rw [if_pos (by rw [c0]; rfl), if_neg (fun w => by omega)]; rfl
        · rw [if_neg (fun w => c0 ((nq_0 (by omega)).mp w)), if_pos ⟨by omega, c1, c4⟩]; rfl
  rw [e4, ob_some]
  have e5 : (if nI (if drs = 1 ∧ zk z i ≠ 1 ∧ zk z i ≠ 4 then 0 else 1) = (0 : Int32) then gd (ib (nI (x + 6 + i)) 2805) (some (h26.1 52 (ix (nI (x + 6 + i))) / (2 : Int32))) else gd (ib (nI (x + 6 + i)) 2805) (some (h26.1 52 (ix (nI (x + 6 + i)))))) = some (nI (los z drs (gst z aw pa pl i q).2.1 i)) := by
    rw [gd_true (ibx (by omega) (by decide)), gd_true (ibx (by omega) (by decide)), ix_nI (by omega), v3, nI_half (by omega)]
    unfold los
    by_cases c : drs = 1 ∧ zk z i ≠ 1 ∧ zk z i ≠ 4
    · rw [if_pos c, if_pos (show nI 0 = (0 : Int32) from rfl), if_pos c]
    · rw [if_neg c, if_neg (show ¬ nI 1 = (0 : Int32) by decide), if_neg c]
  rw [e5, ob_some, gd_true (ibx (by omega) (by decide)), lt_eq, lt_eq, ix_nI (by omega), nap_1]
  refine ⟨_, rfl, ?_, o3.up (by omega) (by omega)⟩
  have F := RwAt.uh f3 hp i (los z drs (gst z aw pa pl i q).2.1 i) (by omega)
  have ef : va_up (dh (pl, mix z drs i (gst z aw pa pl i q).2.1, cold, pa, dws, drs, dts)) i (los z drs (gst z aw pa pl i q).2.1 i) = mix z drs (i + 1) (gst z aw pa pl i q).2.1 := by
    funext j
    show (if j = i then _ else mix z drs i (gst z aw pa pl i q).2.1 j) = _
    unfold mix
    by_cases e : j = i
    · subst e; rw [if_pos (show j = j from rfl), if_pos (Nat.lt_succ_self j)]
    · rw [if_neg e]
      by_cases q9 : j < i
      · rw [if_pos q9, if_pos (by omega)]
      · rw [if_neg q9, if_neg (by omega)]
  rw [ef] at F
  exact F
set_option maxHeartbeats 2000000 in
/-- THE MODEL's TURN -/
theorem turnIn_eq {z : ZS} {x aw : Nat} {ot okd : Int32} {d : DS} {h : Hp} (hz : ZOk z) (hd : DOk z d) (hx : x + 17 ≤ 2805) (haw : aw < 2 ^ 31) (M : MZ z ot okd h) (H : RwAt z x d h) : ∃ h', X10_turnIn (nI x) (nI aw) ot okd h = some (nI (tnS z aw d), h') ∧ RwAt z x (tnD z aw d) h' ∧ OffW x h h' := by
  have hp := hz.1
  have hg := hz.2.2.2
  obtain ⟨b1, b2, b3, b4, b5, b6⟩ := hd
  have hd : DOk z d := ⟨b1, b2, b3, b4, b5, b6⟩
  obtain ⟨t1, t2, t3⟩ := tq_ok (aw := aw) hz hd
  obtain ⟨a1, a2, a3, a4, a5, a6, a7⟩ := id H
  have m3 := M.2.2.1
  unfold X10_turnIn
  rw [nap_12, nap_13, nap_14, nap_15, nap_16]
  rw [gd_true (ibx (by omega) (by decide)), lt_eq, ix_nI (by omega), a3]
  obtain ⟨h5, e1, f1, o1⟩ : ∃ h5, (if nI (dc d) ≤ (0 : Int32) then some (nI (dc d), h) else gd (ib (nI (x + 15)) 2805) (ob (if (h.1 52 (ix (nI (x + 15)))) = (1 : Int32) then (some (nI (dc d) / (2 : Int32))) else (some (X10_lesser (60 : Int32) (nI (dc d) + (h.1 51 4))))) fun v8 => gd (ib (nI (x + 13)) 2805) (gd (ib (nI (x + 14)) 2805) (lt_ (up h 52 (ix (nI (x + 13))) (irm (((h.1 52 (ix (nI (x + 13)))) + (h.1 52 (ix (nI (x + 14))))) + (9 : Int32)) (10 : Int32))) fun h12 => some (v8, h12))))) = some (nI (drC z d), h5) ∧ RwAt z x (dp d, dh d, dc d, drA d, dw d, dr d, dt d) h5 ∧ OffW x h h5 := by
    by_cases c : dc d = 0
    · rw [if_pos (by rw [c]; decide), show drC z d = dc d by unfold drC; rw [if_pos c, c], show drA d = da d from if_pos c]
      exact ⟨h, rfl, H, OffW.rf⟩
    · rw [if_neg (fun w => absurd ((ner_0 (by omega)).mp w) (by omega)), gd_true (ibx (by omega) (by decide)), ix_nI (i := x + 15) (by omega), a6, m3, nI_add]
      have e2 : (if nI (dr d) = (1 : Int32) then some (nI (dc d) / (2 : Int32)) else some (X10_lesser (60 : Int32) (nI (dc d + zg z)))) = some (nI (drC z d)) := by
        by_cases hr : dr d = 1
        · rw [if_pos (by rw [hr]; rfl), nI_half (by omega)]
          rw [show drC z d = dc d / 2 by unfold drC; rw [if_neg c, if_pos hr]]
        · rw [if_neg (fun q => hr ((nq_1 (by omega)).mp q)), show (60 : Int32) = nI 60 from rfl, les_nI (by decide) (by omega)]
          rw [show drC z d = min 60 (dc d + zg z) by unfold drC; rw [if_neg c, if_neg hr]]
      rw [e2, ob_some, gd_true (ibx (by omega) (by decide)), gd_true (ibx (by omega) (by decide)), ix_nI (i := x + 13) (by omega), ix_nI (i := x + 14) (by omega), a4, a5, nI_add, nap_9, pf_rm10 _ (by omega), lt_eq, show drA d = (da d + dw d + 9) % 10 from if_neg c]
      exact ⟨_, rfl, H.ua hp _, OffW.rf.up (by omega) (by omega)⟩
  rw [e1, ob2_some]
  have M5 := M.off o1
  obtain ⟨h60, e3, f3, o3⟩ : ∃ h60, lp (fun s : Int32 × Int32 × Int32 × Hp => X10_turnIn_s90 (nI x) (nI aw) ot okd s.1 s.2.1 s.2.2.1 s.2.2.2) FU (nI (drC z d), (0 : Int32), (0 : Int32), h5) = some (nI (tq z aw d).1, nI (tq z aw d).2.2, nI (zp z), h60) ∧ RwAt z x (dp d, los z (dr d) (tq z aw d).2.1, dc d, drA d, dw d, dr d, dt d) h60 ∧ OffW x h5 h60 := by
    refine (lp_all (step := fun s : Int32 × Int32 × Int32 × Hp => X10_turnIn_s90 (nI x) (nI aw) ot okd s.1 s.2.1 s.2.2.1 s.2.2.2)
      (fun i s => s.1 = nI (gfo z aw (drA d) (dp d) (drC z d, dh d, 0) i).1 ∧ s.2.1 = nI (gfo z aw (drA d) (dp d) (drC z d, dh d, 0) i).2.2 ∧ s.2.2.1 = nI i ∧ RwAt z x (dp d, mix z (dr d) i (gfo z aw (drA d) (dp d) (drC z d, dh d, 0) i).2.1, dc d, drA d, dw d, dr d, dt d) s.2.2.2 ∧ OffW x h5 s.2.2.2)
      (fun r => r.1 = nI (tq z aw d).1 ∧ r.2.1 = nI (tq z aw d).2.2 ∧ r.2.2.1 = nI (zp z) ∧ RwAt z x (dp d, los z (dr d) (tq z aw d).2.1, dc d, drA d, dw d, dr d, dt d) r.2.2.2 ∧ OffW x h5 r.2.2.2)
      (zp z) (by omega) ?_ ?_ (s := (nI (drC z d), (0 : Int32), (0 : Int32), h5)) ⟨rfl, rfl, rfl, f1, OffW.rf⟩).elim ?_
    · rintro i ⟨s1, s2, s3, hp2⟩ hi ⟨g1, g2, g3, g4, g5⟩
      cases g1; cases g2; cases g3
      obtain ⟨k1, k2, k3⟩ := gfo_ok (aw := aw) (pa := drA d) (pl := dp d) (q := (drC z d, dh d, 0)) (drC_le hd) hd.2.1 rfl i (by omega)
      obtain ⟨h', s1, s2, s3⟩ := turnStep_eq (q := gfo z aw (drA d) (dp d) (drC z d, dh d, 0) i) hz hx hi k1 (k2 i hi) (b1 i hi) (drA_le hd) b6 haw (M5.off g5) g4
      exact ⟨_, s1, rfl, rfl, rfl, s2, g5.tr s3⟩
    · rintro ⟨s1, s2, s3, hp2⟩ ⟨g1, g2, g3, g4, g5⟩
      cases g1; cases g2; cases g3
      show ∃ r, X10_turnIn_s90 _ _ _ _ _ _ _ hp2 = some (.inl r) ∧ _
      unfold X10_turnIn_s90
      rw [if_pos (by rw [(M5.off g5).1]; exact nI_le (Nat.le_refl _) (by omega))]
      refine ⟨_, rfl, rfl, rfl, rfl, ?_, g5⟩
      obtain ⟨c1, c2, c3, c4, c5, c6, c7⟩ := g4
      refine ⟨c1, fun i hi => ?_, c3, c4, c5, c6, c7⟩
      rw [c2 i hi]
      show nI (mix z (dr d) (zp z) (tq z aw d).2.1 i) = nI (los z (dr d) (tq z aw d).2.1 i)
      unfold mix
      rw [if_pos hi]
    · rintro ⟨r1, r2, r3, r4⟩ ⟨h1, g1, g2, g3, g4, g5⟩
      cases g1; cases g2; cases g3
      exact ⟨r4, h1, g4, g5⟩
  rw [e3, ob4_some, lt_eq]
  have f4 := RwAt.uc f3 hp (tq z aw d).1
  have M6 := (M5.off o3).off (OffW.up (x := x) (k := x + 12) (v := nI (tq z aw d).1) OffW.rf (by omega) (by omega))
  generalize hh4 : up h60 52 (x + 12) (nI (tq z aw d).1) = h61
  rw [hh4] at f4 M6
  have o4 : OffW x h60 h61 := by rw [← hh4]; exact OffW.rf.up (by omega) (by omega)
  have e5 : (if nI (tq z aw d).1 = (0 : Int32) then some (h61.1 51 3) else gd (ib (nI (x + 13)) 2805) (some (h61.1 52 (ix (nI (x + 13)))))) = some (nI (if (tq z aw d).1 = 0 then zd z else drA d)) := by
    rw [gd_true (ibx (by omega) (by decide)), ix_nI (by omega), M6.2.1, f4.2.2.2.1]
    by_cases c : (tq z aw d).1 = 0
    · rw [if_pos (by rw [c]; rfl), if_pos c]
    · rw [if_neg (fun w => c ((nq_0 (by omega)).mp w)), if_neg c]
  rw [e5, ob_some, gd_true (ibx (by omega) (by decide)), lt_eq, gd_true (ibx (by omega) (by decide)), lt_eq, ix_nI (by omega), ix_nI (by omega)]
  have f6 := RwAt.ua f4 hp (if (tq z aw d).1 = 0 then zd z else drA d)
  rw [f6.2.2.2.2.2.2, show nI (dt (dp (dp (dp d, los z (dr d) (tq z aw d).2.1, dc d, drA d, dw d, dr d, dt d), dh (dp d, los z (dr d) (tq z aw d).2.1, dc d, drA d, dw d, dr d, dt d), (tq z aw d).1, da (dp d, los z (dr d) (tq z aw d).2.1, dc d, drA d, dw d, dr d, dt d), dw (dp d, los z (dr d) (tq z aw d).2.1, dc d, drA d, dw d, dr d, dt d), dr (dp d, los z (dr d) (tq z aw d).2.1, dc d, drA d, dw d, dr d, dt d), dt (dp d, los z (dr d) (tq z aw d).2.1, dc d, drA d, dw d, dr d, dt d)), dh (dp d, los z (dr d) (tq z aw d).2.1, dc d, drA d, dw d, dr d, dt d), (tq z aw d).1, (if (tq z aw d).1 = 0 then zd z else drA d), dw d, dr d, dt d)) = nI (dt d) from rfl, nap_1]
  exact ⟨_, rfl, f6.ut hp (dt d + 1), (((o1.tr o3).tr o4).up (by omega) (by omega)).up (by omega) (by omega)⟩
