/-! the pure part: plain facts -/
theorem ob_some {α β : Type} (v : α) (f : α → Option β) : ob (some v) f = f v := rfl
theorem ob2_some {α β γ : Type} (v : α) (w : β) (f : α → β → Option γ) : ob2 (some (v, w)) f = f v w := rfl
theorem ob3_some {α β γ δ : Type} (v : α) (w : β) (y : γ) (f : α → β → γ → Option δ) : ob3 (some (v, w, y)) f = f v w y := rfl
theorem ob4_some {α β γ δ ε : Type} (v : α) (w : β) (y : γ) (z : δ) (f : α → β → γ → δ → Option ε) : ob4 (some (v, w, y, z)) f = f v w y z := rfl
theorem gd_true {β : Type} {b : Bool} {f : Option β} (h : b = true) : gd b f = f := if_pos h
theorem lt_eq {α β : Type} (a : α) (f : α → β) : lt_ a f = f a := rfl
theorem ib_nI {i n : Nat} (h : i < n) (hn : n < 2 ^ 31) : ib (nI i) n = true := by
  unfold ib; exact decide_eq_true (vp_in_nI h hn)
theorem ix_nI {i : Nat} (h : i < 2 ^ 31) : ix (nI i) = i := nI_clamp h
/-- a loop that runs its n turns -/
theorem lp_run {σ ρ : Type} {step : σ → Option (ρ ⊕ σ)} (I : Nat → σ → Prop) (Q : ρ → Prop) (n : Nat) (hs : ∀ i s, i < n → I i s → ∃ t, step s = some (.inr t) ∧ I (i + 1) t) (he : ∀ s, I n s → ∃ r, step s = some (.inl r) ∧ Q r) :
    ∀ (k i : Nat) (s : σ) (f : Nat), i + k = n → k < f → I i s → ∃ r, lp step f s = some r ∧ Q r := by
  intro k
  induction k with
  | zero =>
    intro i s f hi hf hI
    obtain ⟨f, rfl⟩ : ∃ g, f = g + 1 := ⟨f - 1, by omega⟩
    have e : i = n := by omega
    subst e
    obtain ⟨r, h1, h2⟩ := he s hI
    exact ⟨r, by unfold lp; rw [h1], h2⟩
  | succ k ih =>
    intro i s f hi hf hI
    obtain ⟨f, rfl⟩ : ∃ g, f = g + 1 := ⟨f - 1, by omega⟩
    obtain ⟨t, h1, h2⟩ := hs i s (by omega) hI
    obtain ⟨r, h3, h4⟩ := ih (i + 1) t f (by omega) (by omega) h2
    exact ⟨r, by unfold lp; rw [h1]; exact h3, h4⟩
theorem lp_all {σ ρ : Type} {step : σ → Option (ρ ⊕ σ)} (I : Nat → σ → Prop) (Q : ρ → Prop) (n : Nat) (hn : n < 10000000) (hs : ∀ i s, i < n → I i s → ∃ t, step s = some (.inr t) ∧ I (i + 1) t) (he : ∀ s, I n s → ∃ r, step s = some (.inl r) ∧ Q r) {s : σ} (h0 : I 0 s) : ∃ r, lp step FU s = some r ∧ Q r :=
  lp_run I Q n hs he n 0 s FU (by omega) (by unfold FU; exact hn) h0
theorem nI_lit (n : Nat) : (OfNat.ofNat n : Int32) = nI n := rfl
theorem nI_or (a b : Nat) : nI a ||| nI b = nI (a ||| b) := by
  apply Int32.toBitVec_inj.mp
  show BitVec.ofNat 32 a ||| BitVec.ofNat 32 b = BitVec.ofNat 32 (a ||| b)
  apply BitVec.eq_of_toNat_eq
  simp [BitVec.toNat_or, BitVec.toNat_ofNat, Nat.or_mod_two_pow]
theorem nI_and (a b : Nat) : nI a &&& nI b = nI (a &&& b) := by
  apply Int32.toBitVec_inj.mp
  show BitVec.ofNat 32 a &&& BitVec.ofNat 32 b = BitVec.ofNat 32 (a &&& b)
  apply BitVec.eq_of_toNat_eq
  simp [BitVec.toNat_and, BitVec.toNat_ofNat, Nat.and_mod_two_pow]
theorem sh1 : ∀ i, i < 31 → (1 : Int32) <<< (nI i &&& 31) = nI (2 ^ i) := by decide +kernel
theorem cnt31 : ∀ i, i < 31 → ((nI i &&& 31).toBitVec.smod 32).toNat = i := by decide +kernel
theorem bitI {n i : Nat} (hn : n < 2 ^ 31) (hi : i < 31) : (nI n >>> (nI i &&& 31)) &&& 1 = nI (if n.testBit i then 1 else 0) := by
  rw [pk_shrN hn _ i (cnt31 i hi), show (1 : Int32) = nI (2 ^ 1 - 1) from rfl, show nI (n / 2 ^ i) &&& nI (2 ^ 1 - 1) = nI (n / 2 ^ i % 2 ^ 1) from pk_andN (Nat.lt_of_le_of_lt (Nat.div_le_self _ _) (by omega)) 1 (by decide)]
  congr 1
  rw [Nat.testBit_eq_decide_div_mod_eq]
  rcases Nat.mod_two_eq_zero_or_one (n / 2 ^ i) with h | h <;> simp [h]
theorem nI_half {n : Nat} (h : n < 2 ^ 31) : nI n / (2 : Int32) = nI (n / 2) := pk_div (d := 2) h (by decide) (by decide)
theorem mnI_nI {a b : Nat} (ha : a < 2 ^ 31) (hb : b < 2 ^ 31) : mnI (nI a) (nI b) = nI (min a b) := by
  unfold mnI
  by_cases h : b < a
  · rw [if_pos ((nI_ltI hb ha).mpr h), Nat.min_eq_right (by omega)]
  · rw [if_neg (fun q => h ((nI_ltI hb ha).mp q)), Nat.min_eq_left (by omega)]
theorem les_nI {a b : Nat} (ha : a < 2 ^ 31) (hb : b < 2 ^ 31) : X10_lesser (nI a) (nI b) = nI (min a b) := by
  unfold X10_lesser
  by_cases h : b ≤ a
  · rw [if_pos ((nI_leI hb ha).mpr h), Nat.min_eq_right h]
  · rw [if_neg (fun q => h ((nI_leI hb ha).mp q)), Nat.min_eq_left (by omega)]
theorem pf_m10 : ∀ n, n < 30 → J9_floorMod_7cf53 (nI n) 10 = some (nI (n % 10)) := by decide +kernel
theorem pf_m10m : J9_floorMod_7cf53 (-1) 10 = some 9 := by decide +kernel
theorem pf_rm10 : ∀ n, n < 100 → irm (nI n) 10 = nI (n % 10) := by decide +kernel
/-- who gathers how much -/
def gath (k c : Nat) : Nat := if k = 2 then min c 9 else if k = 3 then c / 2 else if k = 5 then (if 20 ≤ c then c else c / 2) else min c 2
theorem gath_le (k c : Nat) : gath k c ≤ c := by unfold gath; (repeat' split) <;> omega
theorem gath_m : ∀ k, k < 6 → ∀ c, c < 100 → X10_gatheredBy (nI k) (nI c) = nI (gath k c) := by decide +kernel
theorem gath_c : ∀ k, k < 6 → ∀ c, c < 100 → pv_partOf (X6_ofNumber (nI k)) (nI c) = nI (gath k c) := by decide +kernel
theorem brth_c : ∀ k, k < 6 → pv_breath (X6_ofNumber (nI k)) = nI (if k = 4 then 3 else 0) := by decide +kernel
theorem left_c : ∀ k, k < 6 → ∀ a, a < 100 → pv_leftByRain (X6_ofNumber (nI k)) (nI a) = nI (if k ≠ 1 ∧ k ≠ 4 then a / 2 else a) := by decide +kernel
theorem pB_c (a : Int32) : pB (X6_ofNumber a) = true := by
  unfold X6_ofNumber pB
  repeat' split
  all_goals decide
abbrev ZS : Type := Nat × (Nat → Nat) × Nat × Nat
abbrev DS : Type := (Nat → Nat) × (Nat → Nat) × Nat × Nat × Nat × Nat × Nat
abbrev zp (z : ZS) : Nat := z.1
abbrev zk (z : ZS) : Nat → Nat := z.2.1
abbrev zd (z : ZS) : Nat := z.2.2.1
abbrev zg (z : ZS) : Nat := z.2.2.2
abbrev dp (d : DS) : Nat → Nat := d.1
abbrev dh (d : DS) : Nat → Nat := d.2.1
abbrev dc (d : DS) : Nat := d.2.2.1
abbrev da (d : DS) : Nat := d.2.2.2.1
abbrev dw (d : DS) : Nat := d.2.2.2.2.1
abbrev dr (d : DS) : Nat := d.2.2.2.2.2.1
abbrev dt (d : DS) : Nat := d.2.2.2.2.2.2
def ZOk (z : ZS) : Prop := zp z ≤ 6 ∧ (∀ i, i < zp z → zk z i < 6) ∧ zd z ≤ 9 ∧ zg z ≤ 9
def DOk (z : ZS) (d : DS) : Prop := (∀ i, i < zp z → dp d i ≤ 9) ∧ (∀ i, i < zp z → dh d i ≤ 30) ∧ dc d ≤ 60 ∧ da d ≤ 9 ∧ dw d ≤ 2 ∧ dr d ≤ 1
def drC (z : ZS) (d : DS) : Nat := if dc d = 0 then 0 else if dr d = 1 then dc d / 2 else min 60 (dc d + zg z)
def drA (d : DS) : Nat := if dc d = 0 then da d else (da d + dw d + 9) % 10
/-- one of PEOPLE at its place: cloud, has, who -/
def gst (z : ZS) (aw pa : Nat) (pl : Nat → Nat) (i : Nat) (q : Nat × (Nat → Nat) × Nat) : Nat × (Nat → Nat) × Nat :=
  if pl i = pa ∧ aw.testBit i = false ∧ 0 < gath (zk z i) q.1 then (min 60 (q.1 - gath (zk z i) q.1 + (if zk z i = 4 then 3 else 0)), va_up q.2.1 i (min 30 (q.2.1 i + gath (zk z i) q.1)), q.2.2 ||| 2 ^ i) else q
def gfo (z : ZS) (aw pa : Nat) (pl : Nat → Nat) (q : Nat × (Nat → Nat) × Nat) : Nat → Nat × (Nat → Nat) × Nat
  | 0 => q
  | n + 1 => gst z aw pa pl n (gfo z aw pa pl q n)
def los (z : ZS) (r : Nat) (f : Nat → Nat) : Nat → Nat := fun i => if r = 1 ∧ zk z i ≠ 1 ∧ zk z i ≠ 4 then f i / 2 else f i
def tq (z : ZS) (aw : Nat) (d : DS) : Nat × (Nat → Nat) × Nat := gfo z aw (drA d) (dp d) (drC z d, dh d, 0) (zp z)
/-- a TURN: who gathers, and all behind it -/
def tnS (z : ZS) (aw : Nat) (d : DS) : Nat := (tq z aw d).2.2
def tnD (z : ZS) (aw : Nat) (d : DS) : DS := (dp d, los z (dr d) (tq z aw d).2.1, (tq z aw d).1, (if (tq z aw d).1 = 0 then zd z else drA d), dw d, dr d, dt d + 1)
theorem drC_le {z : ZS} {d : DS} (hd : DOk z d) : drC z d ≤ 60 := by
  have := hd.2.2.1
  unfold drC; repeat' split
  all_goals omega
theorem drA_le {z : ZS} {d : DS} (hd : DOk z d) : drA d ≤ 9 := by
  have := hd.2.2.2.1
  unfold drA; split <;> omega
theorem gfo_ok {z : ZS} {aw pa : Nat} {pl : Nat → Nat} {q : Nat × (Nat → Nat) × Nat} (hc : q.1 ≤ 60) (hh : ∀ i, i < zp z → q.2.1 i ≤ 30) (hs : q.2.2 = 0) : ∀ n, n ≤ 6 → (gfo z aw pa pl q n).1 ≤ 60 ∧ (∀ i, i < zp z → (gfo z aw pa pl q n).2.1 i ≤ 30) ∧ (gfo z aw pa pl q n).2.2 < 2 ^ n := by
  intro n
  induction n with
  | zero => intro _; exact ⟨hc, hh, by show q.2.2 < 1; omega⟩
  | succ n ih =>
    intro hn
    obtain ⟨h1, h2, h3⟩ := ih (by omega)
    rw [show gfo z aw pa pl q (n + 1) = gst z aw pa pl n (gfo z aw pa pl q n) from rfl]
    unfold gst
    split
    · refine ⟨Nat.min_le_left _ _, fun i hi => ?_, ?_⟩
      · show va_up _ _ _ i ≤ 30
        unfold va_up
        split
        · exact Nat.min_le_left _ _
        · exact h2 i hi
      · exact Nat.or_lt_two_pow (Nat.lt_of_lt_of_le h3 (Nat.pow_le_pow_right (by decide) (by omega))) (Nat.pow_lt_pow_right (by decide) (by omega))
    · exact ⟨h1, h2, Nat.lt_of_lt_of_le h3 (Nat.pow_le_pow_right (by decide) (by omega))⟩
theorem tq_ok {z : ZS} {aw : Nat} {d : DS} (hz : ZOk z) (hd : DOk z d) : (tq z aw d).1 ≤ 60 ∧ (∀ i, i < zp z → (tq z aw d).2.1 i ≤ 30) ∧ (tq z aw d).2.2 < 2 ^ zp z := gfo_ok (drC_le hd) hd.2.1 rfl _ hz.1
theorem tnD_ok {z : ZS} {aw : Nat} {d : DS} (hz : ZOk z) (hd : DOk z d) : DOk z (tnD z aw d) := by
  obtain ⟨h1, h2, h3⟩ := tq_ok (aw := aw) hz hd
  refine ⟨hd.1, fun i hi => ?_, h1, ?_, hd.2.2.2.2.1, hd.2.2.2.2.2⟩
  · show los z (dr d) (tq z aw d).2.1 i ≤ 30
    unfold los
    have := h2 i hi
    split <;> omega
  · show (if (tq z aw d).1 = 0 then zd z else drA d) ≤ 9
    split
    · exact hz.2.2.1
    · exact drA_le hd
theorem nq_0 {a : Nat} (h : a < 2 ^ 31) : nI a = (0 : Int32) ↔ a = 0 := nI_eq (b := 0) h (by decide)
theorem nlr_0 {a : Nat} (h : a < 2 ^ 31) : nI a < (0 : Int32) ↔ a < 0 := nI_ltI (b := 0) h (by decide)
theorem nll_0 {a : Nat} (h : a < 2 ^ 31) : (0 : Int32) < nI a ↔ 0 < a := nI_ltI (a := 0) (by decide) h
theorem ner_0 {a : Nat} (h : a < 2 ^ 31) : nI a ≤ (0 : Int32) ↔ a ≤ 0 := nI_leI (b := 0) h (by decide)
theorem nel_0 {a : Nat} (h : a < 2 ^ 31) : (0 : Int32) ≤ nI a ↔ 0 ≤ a := nI_leI (a := 0) (by decide) h
theorem nq_1 {a : Nat} (h : a < 2 ^ 31) : nI a = (1 : Int32) ↔ a = 1 := nI_eq (b := 1) h (by decide)
theorem nlr_1 {a : Nat} (h : a < 2 ^ 31) : nI a < (1 : Int32) ↔ a < 1 := nI_ltI (b := 1) h (by decide)
theorem nll_1 {a : Nat} (h : a < 2 ^ 31) : (1 : Int32) < nI a ↔ 1 < a := nI_ltI (a := 1) (by decide) h
theorem ner_1 {a : Nat} (h : a < 2 ^ 31) : nI a ≤ (1 : Int32) ↔ a ≤ 1 := nI_leI (b := 1) h (by decide)
theorem nel_1 {a : Nat} (h : a < 2 ^ 31) : (1 : Int32) ≤ nI a ↔ 1 ≤ a := nI_leI (a := 1) (by decide) h
theorem nq_2 {a : Nat} (h : a < 2 ^ 31) : nI a = (2 : Int32) ↔ a = 2 := nI_eq (b := 2) h (by decide)
theorem nlr_2 {a : Nat} (h : a < 2 ^ 31) : nI a < (2 : Int32) ↔ a < 2 := nI_ltI (b := 2) h (by decide)
theorem nll_2 {a : Nat} (h : a < 2 ^ 31) : (2 : Int32) < nI a ↔ 2 < a := nI_ltI (a := 2) (by decide) h
theorem ner_2 {a : Nat} (h : a < 2 ^ 31) : nI a ≤ (2 : Int32) ↔ a ≤ 2 := nI_leI (b := 2) h (by decide)
theorem nel_2 {a : Nat} (h : a < 2 ^ 31) : (2 : Int32) ≤ nI a ↔ 2 ≤ a := nI_leI (a := 2) (by decide) h
theorem nq_3 {a : Nat} (h : a < 2 ^ 31) : nI a = (3 : Int32) ↔ a = 3 := nI_eq (b := 3) h (by decide)
theorem nlr_3 {a : Nat} (h : a < 2 ^ 31) : nI a < (3 : Int32) ↔ a < 3 := nI_ltI (b := 3) h (by decide)
theorem nll_3 {a : Nat} (h : a < 2 ^ 31) : (3 : Int32) < nI a ↔ 3 < a := nI_ltI (a := 3) (by decide) h
theorem ner_3 {a : Nat} (h : a < 2 ^ 31) : nI a ≤ (3 : Int32) ↔ a ≤ 3 := nI_leI (b := 3) h (by decide)
theorem nel_3 {a : Nat} (h : a < 2 ^ 31) : (3 : Int32) ≤ nI a ↔ 3 ≤ a := nI_leI (a := 3) (by decide) h
theorem nq_4 {a : Nat} (h : a < 2 ^ 31) : nI a = (4 : Int32) ↔ a = 4 := nI_eq (b := 4) h (by decide)
theorem nlr_4 {a : Nat} (h : a < 2 ^ 31) : nI a < (4 : Int32) ↔ a < 4 := nI_ltI (b := 4) h (by decide)
theorem nll_4 {a : Nat} (h : a < 2 ^ 31) : (4 : Int32) < nI a ↔ 4 < a := nI_ltI (a := 4) (by decide) h
theorem ner_4 {a : Nat} (h : a < 2 ^ 31) : nI a ≤ (4 : Int32) ↔ a ≤ 4 := nI_leI (b := 4) h (by decide)
theorem nel_4 {a : Nat} (h : a < 2 ^ 31) : (4 : Int32) ≤ nI a ↔ 4 ≤ a := nI_leI (a := 4) (by decide) h
theorem nq_5 {a : Nat} (h : a < 2 ^ 31) : nI a = (5 : Int32) ↔ a = 5 := nI_eq (b := 5) h (by decide)
theorem nlr_5 {a : Nat} (h : a < 2 ^ 31) : nI a < (5 : Int32) ↔ a < 5 := nI_ltI (b := 5) h (by decide)
theorem nll_5 {a : Nat} (h : a < 2 ^ 31) : (5 : Int32) < nI a ↔ 5 < a := nI_ltI (a := 5) (by decide) h
theorem ner_5 {a : Nat} (h : a < 2 ^ 31) : nI a ≤ (5 : Int32) ↔ a ≤ 5 := nI_leI (b := 5) h (by decide)
theorem nel_5 {a : Nat} (h : a < 2 ^ 31) : (5 : Int32) ≤ nI a ↔ 5 ≤ a := nI_leI (a := 5) (by decide) h
theorem nq_6 {a : Nat} (h : a < 2 ^ 31) : nI a = (6 : Int32) ↔ a = 6 := nI_eq (b := 6) h (by decide)
theorem nlr_6 {a : Nat} (h : a < 2 ^ 31) : nI a < (6 : Int32) ↔ a < 6 := nI_ltI (b := 6) h (by decide)
theorem nll_6 {a : Nat} (h : a < 2 ^ 31) : (6 : Int32) < nI a ↔ 6 < a := nI_ltI (a := 6) (by decide) h
theorem ner_6 {a : Nat} (h : a < 2 ^ 31) : nI a ≤ (6 : Int32) ↔ a ≤ 6 := nI_leI (b := 6) h (by decide)
theorem nel_6 {a : Nat} (h : a < 2 ^ 31) : (6 : Int32) ≤ nI a ↔ 6 ≤ a := nI_leI (a := 6) (by decide) h
theorem nq_9 {a : Nat} (h : a < 2 ^ 31) : nI a = (9 : Int32) ↔ a = 9 := nI_eq (b := 9) h (by decide)
theorem nlr_9 {a : Nat} (h : a < 2 ^ 31) : nI a < (9 : Int32) ↔ a < 9 := nI_ltI (b := 9) h (by decide)
theorem nll_9 {a : Nat} (h : a < 2 ^ 31) : (9 : Int32) < nI a ↔ 9 < a := nI_ltI (a := 9) (by decide) h
theorem ner_9 {a : Nat} (h : a < 2 ^ 31) : nI a ≤ (9 : Int32) ↔ a ≤ 9 := nI_leI (b := 9) h (by decide)
theorem nel_9 {a : Nat} (h : a < 2 ^ 31) : (9 : Int32) ≤ nI a ↔ 9 ≤ a := nI_leI (a := 9) (by decide) h
theorem nq_10 {a : Nat} (h : a < 2 ^ 31) : nI a = (10 : Int32) ↔ a = 10 := nI_eq (b := 10) h (by decide)
theorem nlr_10 {a : Nat} (h : a < 2 ^ 31) : nI a < (10 : Int32) ↔ a < 10 := nI_ltI (b := 10) h (by decide)
theorem nll_10 {a : Nat} (h : a < 2 ^ 31) : (10 : Int32) < nI a ↔ 10 < a := nI_ltI (a := 10) (by decide) h
theorem ner_10 {a : Nat} (h : a < 2 ^ 31) : nI a ≤ (10 : Int32) ↔ a ≤ 10 := nI_leI (b := 10) h (by decide)
theorem nel_10 {a : Nat} (h : a < 2 ^ 31) : (10 : Int32) ≤ nI a ↔ 10 ≤ a := nI_leI (a := 10) (by decide) h
theorem nq_12 {a : Nat} (h : a < 2 ^ 31) : nI a = (12 : Int32) ↔ a = 12 := nI_eq (b := 12) h (by decide)
theorem nlr_12 {a : Nat} (h : a < 2 ^ 31) : nI a < (12 : Int32) ↔ a < 12 := nI_ltI (b := 12) h (by decide)
theorem nll_12 {a : Nat} (h : a < 2 ^ 31) : (12 : Int32) < nI a ↔ 12 < a := nI_ltI (a := 12) (by decide) h
theorem ner_12 {a : Nat} (h : a < 2 ^ 31) : nI a ≤ (12 : Int32) ↔ a ≤ 12 := nI_leI (b := 12) h (by decide)
theorem nel_12 {a : Nat} (h : a < 2 ^ 31) : (12 : Int32) ≤ nI a ↔ 12 ≤ a := nI_leI (a := 12) (by decide) h
theorem nq_15 {a : Nat} (h : a < 2 ^ 31) : nI a = (15 : Int32) ↔ a = 15 := nI_eq (b := 15) h (by decide)
theorem nlr_15 {a : Nat} (h : a < 2 ^ 31) : nI a < (15 : Int32) ↔ a < 15 := nI_ltI (b := 15) h (by decide)
theorem nll_15 {a : Nat} (h : a < 2 ^ 31) : (15 : Int32) < nI a ↔ 15 < a := nI_ltI (a := 15) (by decide) h
theorem ner_15 {a : Nat} (h : a < 2 ^ 31) : nI a ≤ (15 : Int32) ↔ a ≤ 15 := nI_leI (b := 15) h (by decide)
theorem nel_15 {a : Nat} (h : a < 2 ^ 31) : (15 : Int32) ≤ nI a ↔ 15 ≤ a := nI_leI (a := 15) (by decide) h
theorem nq_17 {a : Nat} (h : a < 2 ^ 31) : nI a = (17 : Int32) ↔ a = 17 := nI_eq (b := 17) h (by decide)
theorem nlr_17 {a : Nat} (h : a < 2 ^ 31) : nI a < (17 : Int32) ↔ a < 17 := nI_ltI (b := 17) h (by decide)
theorem nll_17 {a : Nat} (h : a < 2 ^ 31) : (17 : Int32) < nI a ↔ 17 < a := nI_ltI (a := 17) (by decide) h
theorem ner_17 {a : Nat} (h : a < 2 ^ 31) : nI a ≤ (17 : Int32) ↔ a ≤ 17 := nI_leI (b := 17) h (by decide)
theorem nel_17 {a : Nat} (h : a < 2 ^ 31) : (17 : Int32) ≤ nI a ↔ 17 ≤ a := nI_leI (a := 17) (by decide) h
theorem nq_20 {a : Nat} (h : a < 2 ^ 31) : nI a = (20 : Int32) ↔ a = 20 := nI_eq (b := 20) h (by decide)
theorem nlr_20 {a : Nat} (h : a < 2 ^ 31) : nI a < (20 : Int32) ↔ a < 20 := nI_ltI (b := 20) h (by decide)
theorem nll_20 {a : Nat} (h : a < 2 ^ 31) : (20 : Int32) < nI a ↔ 20 < a := nI_ltI (a := 20) (by decide) h
theorem ner_20 {a : Nat} (h : a < 2 ^ 31) : nI a ≤ (20 : Int32) ↔ a ≤ 20 := nI_leI (b := 20) h (by decide)
theorem nel_20 {a : Nat} (h : a < 2 ^ 31) : (20 : Int32) ≤ nI a ↔ 20 ≤ a := nI_leI (a := 20) (by decide) h
theorem nq_30 {a : Nat} (h : a < 2 ^ 31) : nI a = (30 : Int32) ↔ a = 30 := nI_eq (b := 30) h (by decide)
theorem nlr_30 {a : Nat} (h : a < 2 ^ 31) : nI a < (30 : Int32) ↔ a < 30 := nI_ltI (b := 30) h (by decide)
theorem nll_30 {a : Nat} (h : a < 2 ^ 31) : (30 : Int32) < nI a ↔ 30 < a := nI_ltI (a := 30) (by decide) h
theorem ner_30 {a : Nat} (h : a < 2 ^ 31) : nI a ≤ (30 : Int32) ↔ a ≤ 30 := nI_leI (b := 30) h (by decide)
theorem nel_30 {a : Nat} (h : a < 2 ^ 31) : (30 : Int32) ≤ nI a ↔ 30 ≤ a := nI_leI (a := 30) (by decide) h
theorem nq_31 {a : Nat} (h : a < 2 ^ 31) : nI a = (31 : Int32) ↔ a = 31 := nI_eq (b := 31) h (by decide)
theorem nlr_31 {a : Nat} (h : a < 2 ^ 31) : nI a < (31 : Int32) ↔ a < 31 := nI_ltI (b := 31) h (by decide)
theorem nll_31 {a : Nat} (h : a < 2 ^ 31) : (31 : Int32) < nI a ↔ 31 < a := nI_ltI (a := 31) (by decide) h
theorem ner_31 {a : Nat} (h : a < 2 ^ 31) : nI a ≤ (31 : Int32) ↔ a ≤ 31 := nI_leI (b := 31) h (by decide)
theorem nel_31 {a : Nat} (h : a < 2 ^ 31) : (31 : Int32) ≤ nI a ↔ 31 ≤ a := nI_leI (a := 31) (by decide) h
theorem nq_32 {a : Nat} (h : a < 2 ^ 31) : nI a = (32 : Int32) ↔ a = 32 := nI_eq (b := 32) h (by decide)
theorem nlr_32 {a : Nat} (h : a < 2 ^ 31) : nI a < (32 : Int32) ↔ a < 32 := nI_ltI (b := 32) h (by decide)
theorem nll_32 {a : Nat} (h : a < 2 ^ 31) : (32 : Int32) < nI a ↔ 32 < a := nI_ltI (a := 32) (by decide) h
theorem ner_32 {a : Nat} (h : a < 2 ^ 31) : nI a ≤ (32 : Int32) ↔ a ≤ 32 := nI_leI (b := 32) h (by decide)
theorem nel_32 {a : Nat} (h : a < 2 ^ 31) : (32 : Int32) ≤ nI a ↔ 32 ≤ a := nI_leI (a := 32) (by decide) h
theorem nq_40 {a : Nat} (h : a < 2 ^ 31) : nI a = (40 : Int32) ↔ a = 40 := nI_eq (b := 40) h (by decide)
theorem nlr_40 {a : Nat} (h : a < 2 ^ 31) : nI a < (40 : Int32) ↔ a < 40 := nI_ltI (b := 40) h (by decide)
theorem nll_40 {a : Nat} (h : a < 2 ^ 31) : (40 : Int32) < nI a ↔ 40 < a := nI_ltI (a := 40) (by decide) h
theorem ner_40 {a : Nat} (h : a < 2 ^ 31) : nI a ≤ (40 : Int32) ↔ a ≤ 40 := nI_leI (b := 40) h (by decide)
theorem nel_40 {a : Nat} (h : a < 2 ^ 31) : (40 : Int32) ≤ nI a ↔ 40 ≤ a := nI_leI (a := 40) (by decide) h
theorem nq_48 {a : Nat} (h : a < 2 ^ 31) : nI a = (48 : Int32) ↔ a = 48 := nI_eq (b := 48) h (by decide)
theorem nlr_48 {a : Nat} (h : a < 2 ^ 31) : nI a < (48 : Int32) ↔ a < 48 := nI_ltI (b := 48) h (by decide)
theorem nll_48 {a : Nat} (h : a < 2 ^ 31) : (48 : Int32) < nI a ↔ 48 < a := nI_ltI (a := 48) (by decide) h
theorem ner_48 {a : Nat} (h : a < 2 ^ 31) : nI a ≤ (48 : Int32) ↔ a ≤ 48 := nI_leI (b := 48) h (by decide)
theorem nel_48 {a : Nat} (h : a < 2 ^ 31) : (48 : Int32) ≤ nI a ↔ 48 ≤ a := nI_leI (a := 48) (by decide) h
theorem nq_57 {a : Nat} (h : a < 2 ^ 31) : nI a = (57 : Int32) ↔ a = 57 := nI_eq (b := 57) h (by decide)
theorem nlr_57 {a : Nat} (h : a < 2 ^ 31) : nI a < (57 : Int32) ↔ a < 57 := nI_ltI (b := 57) h (by decide)
theorem nll_57 {a : Nat} (h : a < 2 ^ 31) : (57 : Int32) < nI a ↔ 57 < a := nI_ltI (a := 57) (by decide) h
theorem ner_57 {a : Nat} (h : a < 2 ^ 31) : nI a ≤ (57 : Int32) ↔ a ≤ 57 := nI_leI (b := 57) h (by decide)
theorem nel_57 {a : Nat} (h : a < 2 ^ 31) : (57 : Int32) ≤ nI a ↔ 57 ≤ a := nI_leI (a := 57) (by decide) h
theorem nq_60 {a : Nat} (h : a < 2 ^ 31) : nI a = (60 : Int32) ↔ a = 60 := nI_eq (b := 60) h (by decide)
theorem nlr_60 {a : Nat} (h : a < 2 ^ 31) : nI a < (60 : Int32) ↔ a < 60 := nI_ltI (b := 60) h (by decide)
theorem nll_60 {a : Nat} (h : a < 2 ^ 31) : (60 : Int32) < nI a ↔ 60 < a := nI_ltI (a := 60) (by decide) h
theorem ner_60 {a : Nat} (h : a < 2 ^ 31) : nI a ≤ (60 : Int32) ↔ a ≤ 60 := nI_leI (b := 60) h (by decide)
theorem nel_60 {a : Nat} (h : a < 2 ^ 31) : (60 : Int32) ≤ nI a ↔ 60 ≤ a := nI_leI (a := 60) (by decide) h
theorem nq_99 {a : Nat} (h : a < 2 ^ 31) : nI a = (99 : Int32) ↔ a = 99 := nI_eq (b := 99) h (by decide)
theorem nlr_99 {a : Nat} (h : a < 2 ^ 31) : nI a < (99 : Int32) ↔ a < 99 := nI_ltI (b := 99) h (by decide)
theorem nll_99 {a : Nat} (h : a < 2 ^ 31) : (99 : Int32) < nI a ↔ 99 < a := nI_ltI (a := 99) (by decide) h
theorem ner_99 {a : Nat} (h : a < 2 ^ 31) : nI a ≤ (99 : Int32) ↔ a ≤ 99 := nI_leI (b := 99) h (by decide)
theorem nel_99 {a : Nat} (h : a < 2 ^ 31) : (99 : Int32) ≤ nI a ↔ 99 ≤ a := nI_leI (a := 99) (by decide) h
theorem nq_100 {a : Nat} (h : a < 2 ^ 31) : nI a = (100 : Int32) ↔ a = 100 := nI_eq (b := 100) h (by decide)
theorem nlr_100 {a : Nat} (h : a < 2 ^ 31) : nI a < (100 : Int32) ↔ a < 100 := nI_ltI (b := 100) h (by decide)
theorem nll_100 {a : Nat} (h : a < 2 ^ 31) : (100 : Int32) < nI a ↔ 100 < a := nI_ltI (a := 100) (by decide) h
theorem ner_100 {a : Nat} (h : a < 2 ^ 31) : nI a ≤ (100 : Int32) ↔ a ≤ 100 := nI_leI (b := 100) h (by decide)
theorem nel_100 {a : Nat} (h : a < 2 ^ 31) : (100 : Int32) ≤ nI a ↔ 100 ≤ a := nI_leI (a := 100) (by decide) h
theorem nq_180 {a : Nat} (h : a < 2 ^ 31) : nI a = (180 : Int32) ↔ a = 180 := nI_eq (b := 180) h (by decide)
theorem nlr_180 {a : Nat} (h : a < 2 ^ 31) : nI a < (180 : Int32) ↔ a < 180 := nI_ltI (b := 180) h (by decide)
theorem nll_180 {a : Nat} (h : a < 2 ^ 31) : (180 : Int32) < nI a ↔ 180 < a := nI_ltI (a := 180) (by decide) h
theorem ner_180 {a : Nat} (h : a < 2 ^ 31) : nI a ≤ (180 : Int32) ↔ a ≤ 180 := nI_leI (b := 180) h (by decide)
theorem nel_180 {a : Nat} (h : a < 2 ^ 31) : (180 : Int32) ≤ nI a ↔ 180 ≤ a := nI_leI (a := 180) (by decide) h
