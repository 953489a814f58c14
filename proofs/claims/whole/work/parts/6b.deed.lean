theorem irm_nI {a d : Nat} (ha : a < 2 ^ 31) (h0 : 0 < d) (hd : d < 2 ^ 31) : irm (nI a) (nI d) = nI (a % d) := pk_rem ha h0 hd
theorem irm_100 {a : Nat} (ha : a < 2 ^ 31) : irm (nI a) (100 : Int32) = nI (a % 100) := irm_nI (d := 100) ha (by decide) (by decide)
theorem irm_10 {a : Nat} (ha : a < 2 ^ 31) : irm (nI a) (10 : Int32) = nI (a % 10) := irm_nI (d := 10) ha (by decide) (by decide)
theorem irm_9 {a : Nat} (ha : a < 2 ^ 31) : irm (nI a) (9 : Int32) = nI (a % 9) := irm_nI (d := 9) ha (by decide) (by decide)
theorem irm_8 {a : Nat} (ha : a < 2 ^ 31) : irm (nI a) (8 : Int32) = nI (a % 8) := irm_nI (d := 8) ha (by decide) (by decide)
theorem irm_3 {a : Nat} (ha : a < 2 ^ 31) : irm (nI a) (3 : Int32) = nI (a % 3) := irm_nI (d := 3) ha (by decide) (by decide)
theorem dv_100 {a : Nat} (ha : a < 2 ^ 31) : nI a / (100 : Int32) = nI (a / 100) := pk_div (d := 100) ha (by decide) (by decide)
theorem dv_10 {a : Nat} (ha : a < 2 ^ 31) : nI a / (10 : Int32) = nI (a / 10) := pk_div (d := 10) ha (by decide) (by decide)
theorem dv_8 {a : Nat} (ha : a < 2 ^ 31) : nI a / (8 : Int32) = nI (a / 8) := pk_div (d := 8) ha (by decide) (by decide)
theorem dv_64 {a : Nat} (ha : a < 2 ^ 31) : nI a / (64 : Int32) = nI (a / 64) := pk_div (d := 64) ha (by decide) (by decide)
theorem dv_3 {a : Nat} (ha : a < 2 ^ 31) : nI a / (3 : Int32) = nI (a / 3) := pk_div (d := 3) ha (by decide) (by decide)
theorem undergo_eq {z : ZS} {o c : Nat} {d : DS} {h : Hp} (hz : ZOk z) (hd : DOk z d) (hc : Cd c) (F : FrAt z o d h) : ∃ h', X4_undergo o (nI c) h = some (nI (if c / 100 = 0 then tnS z 0 d else 0), h') ∧ FrAt z o (dd z c d) h' ∧ Off (FrC o) h h' := by
  have hp := hz.1
  have hd60 := hd.2.2.1
  unfold Cd at hc
  unfold X4_undergo dd
  rw [irm_100 (by omega), dv_100 (by omega), lt_eq, lt_eq]
  by_cases c0 : c / 100 = 0
  · obtain ⟨h', e1, f1, o1⟩ := pass_eq (aw := 0) hz hd (by decide) F
    rw [c0, if_pos (show nI 0 = (0 : Int32) from rfl), show X4_pass o (0 : Int32) h = _ from e1, ob2_some, if_pos rfl, if_pos rfl]
    exact ⟨_, rfl, f1, o1⟩
  rw [if_neg (fun q => c0 ((nq_0 (by omega)).mp q)), if_neg c0, if_neg c0]
  by_cases c1 : c / 100 = 1
  · rw [if_pos (by rw [c1]; rfl), if_pos c1]
    unfold X4_putIn
    rw [F.2.2.2.2.2.2.1, nI_add, show (60 : Int32) = nI 60 from rfl, mnI_nI (by decide) (by omega), lt_eq, ob_some]
    exact ⟨_, rfl, F.uc _, Off.rf.up (Or.inl rfl)⟩
  rw [if_neg (fun q => c1 ((nq_1 (by omega)).mp q)), if_neg c1]
  by_cases c2 : c / 100 = 2
  · rw [if_pos (by rw [c2]; rfl), if_pos c2, lt_eq]
    exact ⟨_, rfl, F.uw _, Off.rf.up (Or.inl rfl)⟩
  rw [if_neg (fun q => c2 ((nq_2 (by omega)).mp q)), if_neg c2]
  by_cases c3 : c / 100 = 3
  · rw [if_pos (by rw [c3]; rfl), if_pos c3, lt_eq]
    exact ⟨_, rfl, F.ur _, Off.rf.up (Or.inl rfl)⟩
  rw [if_neg (fun q => c3 ((nq_3 (by omega)).mp q)), if_neg c3, dv_10 (by omega), irm_10 (by omega)]
  unfold X4_moveTo X4_isOne
  rw [F.2.2.1, if_neg (nI_pos (by omega))]
  by_cases c4 : c % 100 / 10 < zp z
  · rw [if_neg (nI_ge c4 (by omega)), if_neg n10, gd_ib (by omega) (by decide), ix_nI (by omega), lt_eq, ob_some, if_pos c4, show c % 100 % 10 = c % 10 by omega]
    exact ⟨_, rfl, F.upl _ _, Off.rf.up (Or.inr (Or.inl rfl))⟩
  · rw [if_pos (nI_le (by omega) (by omega)), if_pos rfl, ob_some, if_neg c4]
    exact ⟨_, rfl, F, Off.rf⟩
/-- a DEED more: the class's half -/
def AddC (n c : Nat) (h h' : Hp) : Prop := (∀ i, i ≠ 19 → i ≠ 21 → i ≠ 22 → i ≠ 27 → i ≠ 28 → h'.1 i = h.1 i) ∧ h'.2 = h.2 ∧ (∀ j, j < n → h'.1 28 j = h.1 28 j) ∧ h'.1 28 n = nI c ∧ h'.1 27 1 = nI (n + 1)
theorem deedC {u w : Hp} {z : ZS} {d0 : DS} {cs : Nat → Nat} {n : Nat} {h g : Hp} (H : RZ u w z d0 cs n h g) (hn : n < 40) {a b : Nat} (hc : Cd (100 * a + b)) (ha : a < 5) (hb : b < 100) : ∃ h', X9_doDeed (nI a) (nI b) h = some (nI (if a = 0 then tnS z 0 (rn z d0 cs n) else 0), h') ∧ FrAt z 19 (dd z (100 * a + b) (rn z d0 cs n)) h' ∧ AddC n (100 * a + b) h h' := by
  unfold X9_doDeed X3_add X3_isFull
  have ec : nI a * (100 : Int32) + nI b = nI (100 * a + b) := by
    rw [show (100 : Int32) = nI 100 from rfl, pk_mul, nI_add, Nat.mul_comm]
  rw [ec, lt_eq, H.d9, if_pos ((nlr_40 (by omega)).mpr hn), if_pos rfl, gd_ib hn (by decide), ix_nI (by omega), lt_eq, lt_eq, up_ne (by decide), H.d9, nap_1, ob_some]
  obtain ⟨h', e1, f1, o1⟩ := undergo_eq (o := 19) (h := up (up h (27 + 1) n (nI (100 * a + b))) 27 1 (nI (n + 1))) H.zok H.dok hc (H.f19.fr (fun i h1 h2 => by rw [up_ne (by omega), up_ne (by omega)]))
  rw [e1, ob2_some, show (100 * a + b) / 100 = a by omega]
  refine ⟨h', rfl, f1, fun i h1 h2 h3 h4 h5 => ?_, o1.2, fun j hj => ?_, ?_, ?_⟩
  · rw [o1.1 i (by show ¬ (i = 19 ∨ i = 19 + 2 ∨ i = 19 + 3); omega), up_ne h4, up_ne h5]
  · rw [o1.1 28 (by decide), up_ne (by decide), up_off (by omega)]
  · rw [o1.1 28 (by decide), up_ne (by decide), up_at]
  · rw [o1.1 27 (by decide), up_at]
/-- the model's half -/
def AddM (n : Nat) (g g' : Hp) : Prop := (∀ i, i ≠ 51 → i ≠ 52 → g'.1 i = g.1 i) ∧ g'.2 = g.2 ∧ (∀ k, k ≠ 5 → g'.1 51 k = g.1 51 k) ∧ g'.1 51 5 = nI (n + 1) ∧ ∀ j, j < 17 * (n + 1) ∨ 17 * (n + 1) + 17 ≤ j → g'.1 52 j = g.1 52 j
theorem AddM.w {n : Nat} {g g1 g2 : Hp} (a : AddM n g g1) (b : OffW (17 * (n + 1)) g1 g2) : AddM n g g2 := ⟨fun i h1 h2 => (b.1 i h2).trans (a.1 i h1 h2), b.2.1.trans a.2.1, fun k hk => by rw [b.1 51 (by decide)]; exact a.2.2.1 k hk, by rw [b.1 51 (by decide)]; exact a.2.2.2.1, fun j hj => (b.2.2 j hj).trans (a.2.2.2.2 j hj)⟩
theorem AddM.mz {z : ZS} {n : Nat} {g g1 : Hp} (a : AddM n g g1) (M : MZ z (-9) 0 g) : MZ z (-9) 0 g1 := by
  obtain ⟨a1, a2, a3, a4⟩ := M
  exact ⟨(a.2.2.1 2 (by decide)).trans a1, (a.2.2.1 3 (by decide)).trans a2, (a.2.2.1 4 (by decide)).trans a3, fun i hi => by rw [a.1 53 (by decide) (by decide)]; exact a4 i hi⟩
theorem beginM {u w : Hp} {z : ZS} {d0 : DS} {cs : Nat → Nat} {n : Nat} {h g : Hp} (H : RZ u w z d0 cs n h g) (hn : n < 40) : ∃ g', X10_begin g = some (nI (17 * (n + 1)), g') ∧ RwAt z (17 * (n + 1)) (rn z d0 cs n) g' ∧ AddM n g g' := by
  have hp := H.zok.1
  obtain ⟨g1, e1, f1, o1⟩ := copyRow_eq (y := 17 * n + 17) hp (by omega) (by omega) (by omega) H.row
  unfold X10_begin
  rw [H.now, nap_17, e1, ob_some, lt_eq]
  have e5 : g1.1 51 5 = nI n := by rw [o1.1 51 (by decide)]; exact H.d10
  rw [e5, nap_1]
  have en : X10_now (up g1 51 5 (nI (n + 1))) = nI (17 * (n + 1)) := by unfold X10_now; rw [up_at]; exact nml_17 _
  rw [en]
  refine ⟨_, rfl, RwAt.fr (by rw [show 17 * (n + 1) = 17 * n + 17 by omega]; exact f1) hp (fun j _ _ => by rw [up_ne (by decide)]), fun i h1 h2 => by rw [up_ne h1]; exact o1.1 i h2, o1.2.1, fun k hk => by rw [up_off hk, o1.1 51 (by decide)], up_at, fun j hj => by rw [up_ne (by decide)]; exact o1.2.2 j (by omega)⟩
theorem RZ.ext {u w : Hp} {z : ZS} {d0 : DS} {cs : Nat → Nat} {n : Nat} {h g : Hp} {h' g' : Hp} (H : RZ u w z d0 cs n h g) (hn : n < 40) {c : Nat} (hc : Cd c) (F : FrAt z 19 (dd z c (rn z d0 cs n)) h') (a : AddC n c h h') (b : AddM n g g') (W : RwAt z (17 * (n + 1)) (dd z c (rn z d0 cs n)) g') : RZ u w z d0 (va_up cs n c) (n + 1) h' g' := by
  have hp := H.zok.1
  obtain ⟨H1, H2, H3, ⟨hz, hd, f15, f19, hr, h5, hm, hk⟩, hl, hi⟩ := H
  obtain ⟨a1, a2, a3, a4, a5⟩ := a
  have er : ∀ j, j ≤ n → rn z d0 (va_up cs n c) j = rn z d0 cs j := fun j hj => rn_ext j (fun q hq => by unfold va_up; rw [if_neg (by omega)])
  have e1 : rn z d0 (va_up cs n c) (n + 1) = dd z c (rn z d0 cs n) := by
    show dd z (va_up cs n c n) (rn z d0 (va_up cs n c) n) = _
    rw [er n (Nat.le_refl _)]
    unfold va_up
    rw [if_pos rfl]
  refine ⟨H1.fr (fun i _ _ => a1 i (by omega) (by omega) (by omega) (by omega) (by omega)) (b.1 _ (by decide) (by decide)) (b.1 _ (by decide) (by decide)), H2.fr (fun i _ _ => a1 i (by omega) (by omega) (by omega) (by omega) (by omega)) (b.1 _ (by decide) (by decide)) (b.1 _ (by decide) (by decide)), H3.fr (a1 _ (by decide) (by decide) (by decide) (by decide) (by decide)) (a1 _ (by decide) (by decide) (by decide) (by decide) (by decide)) (by rw [a2]) (b.2.2.1 _ (by decide)) (b.2.2.1 _ (by decide)) (b.1 _ (by decide) (by decide)) (by rw [b.2.1]), ⟨hz, hd, f15.fr (fun i _ _ => a1 i (by omega) (by omega) (by omega) (by omega) (by omega)), by rw [e1]; exact F, ⟨by omega, a5, fun j hj => ?_, fun j hj => ?_, fun j hj => ?_⟩, b.2.2.2.1, b.mz hm, fun k hk3 => ?_⟩, hl.fr (fun i _ => a1 i (by omega) (by omega) (by omega) (by omega) (by omega)) (fun i _ => by rw [a2]), hi.fr (fun i _ => b.1 i (by omega) (by omega)) (fun i _ => by rw [b.2.1])⟩
  · show h'.1 28 j = nI (va_up cs n c j)
    unfold va_up
    by_cases e : j = n
    · subst e; rw [if_pos rfl]; exact a4
    · rw [if_neg e, a3 j (by omega)]; exact hr.2.2.1 j (by omega)
  · show Cd (va_up cs n c j)
    unfold va_up
    by_cases e : j = n
    · rw [if_pos e]; exact hc
    · rw [if_neg e]; exact hr.2.2.2.1 j (by omega)
  · rw [Nat.zero_add]
    by_cases e : j = n + 1
    · subst e; rw [e1]; exact W
    · rw [er j (by omega)]
      have := hr.2.2.2.2 j (by omega)
      rw [Nat.zero_add] at this
      exact this.fr hp (fun q h1 h2 => b.2.2.2.2 q (by omega))
  · rw [a1 (30 + 2 * k) (by omega) (by omega) (by omega) (by omega) (by omega), b.1 54 (by decide) (by decide)]
    rcases hk k hk3 with q | ⟨cs', n', q1, q2⟩
    · exact Or.inl q
    · exact Or.inr ⟨cs', n', q1.fr hp (a1 _ (by omega) (by omega) (by omega) (by omega) (by omega)) (a1 _ (by omega) (by omega) (by omega) (by omega) (by omega)) (fun j h1 h2 => b.2.2.2.2 j (by omega)), q2⟩
theorem RZ.turnD {u w : Hp} {z : ZS} {d0 : DS} {cs : Nat → Nat} {n : Nat} {h g : Hp} (H : RZ u w z d0 cs n h g) (hn : n < 40) : ∃ v h' g1 g', X9_doDeed 0 0 h = some (nI v, h') ∧ X10_begin g = some (nI (17 * (n + 1)), g1) ∧ X10_plainTurn (nI (17 * (n + 1))) g1 = some (nI v, g') ∧ RZ u w z d0 (va_up cs n 0) (n + 1) h' g' := by
  obtain ⟨h', e1, f1, a1⟩ := deedC (a := 0) (b := 0) H hn (Or.inl rfl) (by decide) (by decide)
  obtain ⟨g1, e2, f2, a2⟩ := beginM H hn
  obtain ⟨g', e3, f3, o3⟩ := turnIn_eq (aw := 0) H.zok H.dok (by omega) (by decide) (a2.mz H.mz) f2
  refine ⟨_, h', g1, g', e1, e2, ?_, H.ext hn (Or.inl rfl) f1 a1 (a2.w o3) f3⟩
  unfold X10_plainTurn
  rw [show X10_turnIn (nI (17 * (n + 1))) (0 : Int32) (-9) 0 g1 = _ from e3, ob2_some]
  rfl
theorem RZ.spoonD {u w : Hp} {z : ZS} {d0 : DS} {cs : Nat → Nat} {n : Nat} {h g : Hp} (H : RZ u w z d0 cs n h g) (hn : n < 40) {k : Nat} (hk : k ≤ 9) : ∃ h' g1 g', X9_doDeed 1 (nI k) h = some (0, h') ∧ X10_begin g = some (nI (17 * (n + 1)), g1) ∧ X10_spoonIn (nI (17 * (n + 1))) (nI k) g1 = some g' ∧ RZ u w z d0 (va_up cs n (100 + k)) (n + 1) h' g' := by
  have hc : Cd (100 * 1 + k) := Or.inr (Or.inl ⟨by omega, by omega⟩)
  obtain ⟨h', e1, f1, a1⟩ := deedC (a := 1) (b := k) H hn hc (by decide) (by omega)
  obtain ⟨g1, e2, f2, a2⟩ := beginM H hn
  have hd := H.dok.2.2.1
  have ed : dd z (100 * 1 + k) (rn z d0 cs n) = (dp (rn z d0 cs n), dh (rn z d0 cs n), min 60 (dc (rn z d0 cs n) + k), da (rn z d0 cs n), dw (rn z d0 cs n), dr (rn z d0 cs n), dt (rn z d0 cs n)) := by
    unfold dd
    rw [if_neg (by omega), if_pos (by omega), show (100 * 1 + k) % 100 = k by omega]
  refine ⟨h', g1, up g1 52 (17 * (n + 1) + 12) (nI (min 60 (dc (rn z d0 cs n) + k))), e1, e2, ?_, H.ext hn hc f1 a1 (a2.w (OffW.rf.up (by omega) (by omega))) ?_⟩
  · unfold X10_spoonIn
    rw [nap_12, gd_ib (by omega) (by decide), ix_nI (by omega), f2.2.2.1, nI_add, show (60 : Int32) = nI 60 from rfl, les_nI (by decide) (by omega), lt_eq]
  · rw [ed]; exact f2.uc H.zok.1 _
theorem RZ.windD {u w : Hp} {z : ZS} {d0 : DS} {cs : Nat → Nat} {n : Nat} {h g : Hp} (H : RZ u w z d0 cs n h g) (hn : n < 40) {k : Nat} (hk : k ≤ 2) : ∃ h' g1, X9_doDeed 2 (nI k) h = some (0, h') ∧ X10_begin g = some (nI (17 * (n + 1)), g1) ∧ RZ u w z d0 (va_up cs n (200 + k)) (n + 1) h' (up g1 52 (17 * (n + 1) + 14) (nI k)) := by
  have hc : Cd (100 * 2 + k) := Or.inr (Or.inr (Or.inl ⟨by omega, by omega⟩))
  obtain ⟨h', e1, f1, a1⟩ := deedC (a := 2) (b := k) H hn hc (by decide) (by omega)
  obtain ⟨g1, e2, f2, a2⟩ := beginM H hn
  have ed : dd z (100 * 2 + k) (rn z d0 cs n) = (dp (rn z d0 cs n), dh (rn z d0 cs n), dc (rn z d0 cs n), da (rn z d0 cs n), k, dr (rn z d0 cs n), dt (rn z d0 cs n)) := by
    unfold dd
    rw [if_neg (by omega), if_neg (by omega), if_pos (by omega), show (100 * 2 + k) % 100 = k by omega]
  refine ⟨h', g1, e1, e2, H.ext hn hc f1 a1 (a2.w (OffW.rf.up (by omega) (by omega))) ?_⟩
  rw [ed]; exact f2.uw H.zok.1 _
theorem RZ.rainD {u w : Hp} {z : ZS} {d0 : DS} {cs : Nat → Nat} {n : Nat} {h g : Hp} (H : RZ u w z d0 cs n h g) (hn : n < 40) {k : Nat} (hk : k ≤ 1) : ∃ h' g1, X9_doDeed 3 (nI k) h = some (0, h') ∧ X10_begin g = some (nI (17 * (n + 1)), g1) ∧ RwAt z (17 * (n + 1)) (rn z d0 cs n) g1 ∧ RZ u w z d0 (va_up cs n (300 + k)) (n + 1) h' (up g1 52 (17 * (n + 1) + 15) (nI k)) := by
  have hc : Cd (100 * 3 + k) := Or.inr (Or.inr (Or.inr (Or.inl ⟨by omega, by omega⟩)))
  obtain ⟨h', e1, f1, a1⟩ := deedC (a := 3) (b := k) H hn hc (by decide) (by omega)
  obtain ⟨g1, e2, f2, a2⟩ := beginM H hn
  have ed : dd z (100 * 3 + k) (rn z d0 cs n) = (dp (rn z d0 cs n), dh (rn z d0 cs n), dc (rn z d0 cs n), da (rn z d0 cs n), dw (rn z d0 cs n), k, dt (rn z d0 cs n)) := by
    unfold dd
    rw [if_neg (by omega), if_neg (by omega), if_neg (by omega), if_pos (by omega), show (100 * 3 + k) % 100 = k by omega]
  refine ⟨h', g1, e1, e2, f2, H.ext hn hc f1 a1 (a2.w (OffW.rf.up (by omega) (by omega))) ?_⟩
  rw [ed]; exact f2.ur H.zok.1 _
theorem RZ.standD {u w : Hp} {z : ZS} {d0 : DS} {cs : Nat → Nat} {n : Nat} {h g : Hp} (H : RZ u w z d0 cs n h g) (hn : n < 40) {i p : Nat} (hi : i < zp z) (hp9 : p ≤ 9) : ∃ h' g1, X9_doDeed 4 (nI (i * 10 + p)) h = some (0, h') ∧ X10_begin g = some (nI (17 * (n + 1)), g1) ∧ g1.1 51 2 = nI (zp z) ∧ RZ u w z d0 (va_up cs n (400 + (i * 10 + p))) (n + 1) h' (up g1 52 (17 * (n + 1) + i) (nI p)) := by
  have hp := H.zok.1
  have hc : Cd (100 * 4 + (i * 10 + p)) := Or.inr (Or.inr (Or.inr (Or.inr ⟨by omega, by omega⟩)))
  obtain ⟨h', e1, f1, a1⟩ := deedC (a := 4) (b := i * 10 + p) H hn hc (by decide) (by omega)
  obtain ⟨g1, e2, f2, a2⟩ := beginM H hn
  have ed : dd z (100 * 4 + (i * 10 + p)) (rn z d0 cs n) = (va_up (dp (rn z d0 cs n)) i p, dh (rn z d0 cs n), dc (rn z d0 cs n), da (rn z d0 cs n), dw (rn z d0 cs n), dr (rn z d0 cs n), dt (rn z d0 cs n)) := by
    unfold dd
    rw [if_neg (by omega), if_neg (by omega), if_neg (by omega), if_neg (by omega), show (100 * 4 + (i * 10 + p)) % 100 / 10 = i by omega, show (100 * 4 + (i * 10 + p)) % 10 = p by omega, if_pos hi]
  refine ⟨h', g1, e1, e2, (a2.mz H.mz).1, H.ext hn hc f1 a1 (a2.w (OffW.rf.up (by omega) (by omega))) ?_⟩
  rw [ed]; exact f2.upl hp i p (by omega)
theorem RZ.full {u w : Hp} {z : ZS} {d0 : DS} {cs : Nat → Nat} {n : Nat} {h g : Hp} (H : RZ u w z d0 cs n h g) : (n < 40 ∧ X3_isFull 27 h = 0 ∧ ¬ g.1 51 5 = (40 : Int32)) ∨ (n = 40 ∧ ¬ X3_isFull 27 h = 0 ∧ g.1 51 5 = (40 : Int32)) := by
  have h40 := H.n40
  unfold X3_isFull
  rw [H.d9, H.d10]
  by_cases c : n < 40
  · left
    exact ⟨c, if_pos ((nlr_40 (by omega)).mpr c), fun q => by have := (nq_40 (by omega)).mp q; omega⟩
  · right
    have e : n = 40 := by omega
    refine ⟨e, ?_, (nq_40 (by omega)).mpr e⟩
    rw [if_neg (fun q => c ((nlr_40 (by omega)).mp q))]
    exact n10
theorem k_turn : Lk X9_turn X10_turn := by
  rintro u w h g ⟨z, d0, cs, n, H⟩
  unfold X9_turn X10_turn
  rw [H.p9, H.p10]
  by_cases c : nI (zp z) = (0 : Int32)
  · rw [if_pos c, if_pos c]; exact ⟨_, _, _, rfl, rfl, H.rr⟩
  rw [if_neg c, if_neg c]
  rcases H.full with ⟨hn, q1, q2⟩ | ⟨hn, q1, q2⟩
  · obtain ⟨v, h', g1, g', e1, e2, e3, H'⟩ := H.turnD hn
    rw [if_pos q1, if_neg q2, e1, e2, ob2_some, ob2_some, e3, ob2_some]
    exact ⟨_, _, _, rfl, rfl, H'.rr⟩
  · rw [if_neg q1, if_pos q2]; exact ⟨_, _, _, rfl, rfl, H.rr⟩
theorem k_spoon (a1 : Int32) : Lk (X9_spoon a1) (X10_spoon a1) := by
  rintro u w h g ⟨z, d0, cs, n, H⟩
  have h40 := H.n40
  unfold X9_spoon X10_spoon
  by_cases c1 : a1 < 1
  · rw [if_pos c1, in0 c1, if_pos rfl]; exact ⟨_, _, _, rfl, rfl, H.rr⟩
  rw [if_neg c1]
  rcases rng a1 9 (by decide) with q | ⟨q1, q2, q3⟩ | ⟨k, hk, rfl⟩
  · exact absurd (Int32.lt_trans q (by decide)) c1
  · rw [if_neg (show ¬ a1 ≤ 9 from q2), in1 (show 9 < a1 from q3), if_pos rfl]; exact ⟨_, _, _, rfl, rfl, H.rr⟩
  have r1 : h.1 19 7 = nI (dc (rn z d0 cs n)) := H.f19.2.2.2.2.2.2.1
  have c60 := H.dok.2.2.1
  rw [if_pos ((ner_9 (by omega)).mpr hk), in2 c1 (fun q => by have := (nll_9 (by omega)).mp q; omega), if_neg n10, H.p9, H.p10, H.now, nap_12, gd_ib (by omega) (by decide), ix_nI (by omega), H.row.2.2.1, r1]
  by_cases c : nI (zp z) = (0 : Int32)
  · rw [if_pos c, if_pos c]; exact ⟨_, _, _, rfl, rfl, H.rr⟩
  rw [if_neg c, if_neg c]
  by_cases c6 : dc (rn z d0 cs n) < 60
  · rw [if_pos ((nlr_60 (by omega)).mpr c6), if_neg (show ¬ nI (dc (rn z d0 cs n)) = (60 : Int32) from fun q => by have := (nq_60 (by omega)).mp q; omega)]
    rcases H.full with ⟨hn, q1, q2⟩ | ⟨hn, q1, q2⟩
    · obtain ⟨h', g1, g', e1, e2, e3, H'⟩ := H.spoonD hn hk
      rw [if_pos q1, if_neg q2, e1, e2, ob2_some, ob2_some, e3, ob_some, H'.now, nap_12, gd_ib (by omega) (by decide), ix_nI (by omega), H'.row.2.2.1, show h'.1 19 7 = nI _ from H'.f19.2.2.2.2.2.2.1]
      exact ⟨_, _, _, rfl, rfl, H'.rr⟩
    · rw [if_neg q1, if_pos q2]; exact ⟨_, _, _, rfl, rfl, H.rr⟩
  · rw [if_neg (fun q => c6 ((nlr_60 (by omega)).mp q)), if_pos (show nI (dc (rn z d0 cs n)) = (60 : Int32) from (nq_60 (by omega)).mpr (by omega))]; exact ⟨_, _, _, rfl, rfl, H.rr⟩
theorem k_wind (a1 : Int32) : Lk (X9_wind a1) (X10_wind a1) := by
  rintro u w h g ⟨z, d0, cs, n, H⟩
  have h40 := H.n40
  unfold X9_wind X10_wind
  rcases rng a1 2 (by decide) with q | ⟨q1, q2, q3⟩ | ⟨k, hk, rfl⟩
  · rw [if_pos q, in0 q, if_pos rfl]; exact ⟨_, _, _, rfl, rfl, H.rr⟩
  · rw [if_neg q1, if_neg (show ¬ a1 ≤ 2 from q2), in1 (show 2 < a1 from q3), if_pos rfl]; exact ⟨_, _, _, rfl, rfl, H.rr⟩
  have r1 : h.1 19 9 = nI (dw (rn z d0 cs n)) := H.f19.2.2.2.2.2.2.2.2.1
  rw [if_neg (nI_pos (by omega)), if_pos ((ner_2 (by omega)).mpr hk), in2 (nI_pos (by omega)) (fun q => by have := (nll_2 (by omega)).mp q; omega), if_neg n10, H.p9, H.p10, H.now, nap_14, gd_ib (by omega) (by decide), ix_nI (by omega), H.row.2.2.2.2.1, r1]
  by_cases c : nI (zp z) = (0 : Int32)
  · rw [if_pos c, if_pos c]; exact ⟨_, _, _, rfl, rfl, H.rr⟩
  rw [if_neg c, if_neg c]
  by_cases c6 : nI (dw (rn z d0 cs n)) = nI k
  · rw [if_pos c6, if_pos c6]; exact ⟨_, _, _, rfl, rfl, H.rr⟩
  rw [if_neg c6, if_neg c6]
  rcases H.full with ⟨hn, q1, q2⟩ | ⟨hn, q1, q2⟩
  · obtain ⟨h', g1, e1, e2, H'⟩ := H.windD hn hk
    rw [if_pos q1, if_neg q2, lt_eq, lt_eq, e1, e2, ob2_some, ob2_some, nap_14, gd_ib (by omega) (by decide), ix_nI (by omega), lt_eq]
    exact ⟨_, _, _, rfl, rfl, H'.rr⟩
  · rw [if_neg q1, if_pos q2]; exact ⟨_, _, _, rfl, rfl, H.rr⟩
theorem k_rain (a1 : Int32) : Lk (X9_rain a1) (X10_rain a1) := by
  rintro u w h g ⟨z, d0, cs, n, H⟩
  have h40 := H.n40
  unfold X9_rain X10_rain
  rcases rng a1 1 (by decide) with q | ⟨q1, q2, q3⟩ | ⟨k, hk, rfl⟩
  · rw [if_pos q, in0 q, if_pos rfl]; exact ⟨_, _, _, rfl, rfl, H.rr⟩
  · rw [if_neg q1, if_neg (show ¬ a1 ≤ 1 from q2), in1 (show 1 < a1 from q3), if_pos rfl]; exact ⟨_, _, _, rfl, rfl, H.rr⟩
  have r1 : h.1 19 10 = nI (dr (rn z d0 cs n)) := H.f19.2.2.2.2.2.2.2.2.2.1
  rw [if_neg (nI_pos (by omega)), if_pos ((ner_1 (by omega)).mpr hk), in2 (nI_pos (by omega)) (fun q => by have := (nll_1 (by omega)).mp q; omega), if_neg n10, H.p9, H.p10, H.now, nap_15, gd_ib (by omega) (by decide), ix_nI (by omega), H.row.2.2.2.2.2.1, r1]
  by_cases c : nI (zp z) = (0 : Int32)
  · rw [if_pos c, if_pos c]; exact ⟨_, _, _, rfl, rfl, H.rr⟩
  rw [if_neg c, if_neg c]
  by_cases c6 : nI (dr (rn z d0 cs n)) = nI k
  · rw [if_pos c6, if_pos c6]; exact ⟨_, _, _, rfl, rfl, H.rr⟩
  rw [if_neg c6, if_neg c6]
  rcases H.full with ⟨hn, q1, q2⟩ | ⟨hn, q1, q2⟩
  · obtain ⟨h', g1, e1, e2, _, H'⟩ := H.rainD hn hk
    have r2 : h'.1 19 10 = _ := H'.f19.2.2.2.2.2.2.2.2.2.1
    have r3 := H'.row.2.2.2.2.2.1
    rw [up_at] at r3
    rw [if_pos q1, if_neg q2, e1, e2, ob2_some, ob2_some, nap_15, gd_ib (by omega) (by decide), ix_nI (by omega), lt_eq, r2, ← r3]
    exact ⟨_, _, _, rfl, rfl, H'.rr⟩
  · rw [if_neg q1, if_pos q2]; exact ⟨_, _, _, rfl, rfl, H.rr⟩
theorem k_stand (a1 a2 : Int32) : Lk (X9_stand a1 a2) (X10_stand a1 a2) := by
  rintro u w h g ⟨z, d0, cs, n, H⟩
  have h40 := H.n40
  have hp := H.zok.1
  unfold X9_stand X10_stand
  rcases isOne_c hp H.p9 H.p10 a1 with ⟨q1, q2⟩ | ⟨i, hi, rfl, q1, q2⟩
  · rw [q1, q2, if_pos rfl, if_pos rfl]; exact ⟨_, _, _, rfl, rfl, H.rr⟩
  rw [q1, q2, if_neg n10, if_neg n10]
  rcases rng a2 9 (by decide) with q | ⟨q1, q2, q3⟩ | ⟨k, hk, rfl⟩
  · rw [if_pos q, in0 q, if_pos rfl]; exact ⟨_, _, _, rfl, rfl, H.rr⟩
  · rw [if_neg q1, in1 (show 9 < a2 from q3), if_pos rfl]
    obtain ⟨j, hj, rfl⟩ := nI_of q1
    have := (nI_ltI (by omega) hj).mp q3
    rw [if_neg (fun q => by have := (nlr_10 hj).mp q; omega)]
    exact ⟨_, _, _, rfl, rfl, H.rr⟩
  have r1 : h.1 21 i = nI (dp (rn z d0 cs n) i) := H.f19.2.2.2.2.1 i hi
  rw [if_neg (nI_pos (by omega)), if_pos ((nlr_10 (by omega)).mpr (by omega)), in2 (nI_pos (by omega)) (fun q => by have := (nll_9 (by omega)).mp q; omega), if_neg n10, H.now, nI_add, gd_ib (by omega) (by decide), gd_ib (by omega) (by decide), ix_nI (by omega), ix_nI (by omega), H.row.1 i hi, r1, lt_eq]
  by_cases c6 : nI (dp (rn z d0 cs n) i) = nI k
  · rw [if_pos c6, if_pos c6]; exact ⟨_, _, _, rfl, rfl, H.rr⟩
  rw [if_neg c6, if_neg c6]
  rcases H.full with ⟨hn, q1, q2⟩ | ⟨hn, q1, q2⟩
  · obtain ⟨h', g1, e1, e2, _, H'⟩ := H.standD hn hi hk
    rw [if_pos q1, if_neg q2, lt_eq, show nI i * (10 : Int32) + nI k = nI (i * 10 + k) by rw [show (10 : Int32) = nI 10 from rfl, pk_mul, nI_add], e1, e2, ob2_some, ob2_some, nI_add, gd_ib (by omega) (by decide), ix_nI (by omega), lt_eq]
    exact ⟨_, _, _, rfl, rfl, H'.rr⟩
  · rw [if_neg q1, if_pos q2]; exact ⟨_, _, _, rfl, rfl, H.rr⟩
