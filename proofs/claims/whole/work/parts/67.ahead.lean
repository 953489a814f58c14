theorem RZ.zok {u w : Hp} {z : ZS} {d0 : DS} {cs : Nat → Nat} {n : Nat} {h g : Hp} (H : RZ u w z d0 cs n h g) : ZOk z := H.2.2.2.1.1
theorem RZ.cds {u w : Hp} {z : ZS} {d0 : DS} {cs : Nat → Nat} {n : Nat} {h g : Hp} (H : RZ u w z d0 cs n h g) : ∀ j, j < n → Cd (cs j) := H.2.2.2.1.2.2.2.2.1.2.2.2.1
theorem RZ.dok {u w : Hp} {z : ZS} {d0 : DS} {cs : Nat → Nat} {n : Nat} {h g : Hp} (H : RZ u w z d0 cs n h g) : DOk z (rn z d0 cs n) := rn_ok H.zok H.2.2.2.1.2.1 n H.cds
theorem RZ.f19 {u w : Hp} {z : ZS} {d0 : DS} {cs : Nat → Nat} {n : Nat} {h g : Hp} (H : RZ u w z d0 cs n h g) : FrAt z 19 (rn z d0 cs n) h := H.2.2.2.1.2.2.2.1
theorem RZ.run {u w : Hp} {z : ZS} {d0 : DS} {cs : Nat → Nat} {n : Nat} {h g : Hp} (H : RZ u w z d0 cs n h g) : RunR z d0 cs n 27 0 h g := H.2.2.2.1.2.2.2.2.1
theorem RZ.n40 {u w : Hp} {z : ZS} {d0 : DS} {cs : Nat → Nat} {n : Nat} {h g : Hp} (H : RZ u w z d0 cs n h g) : n ≤ 40 := H.run.1
theorem RZ.row {u w : Hp} {z : ZS} {d0 : DS} {cs : Nat → Nat} {n : Nat} {h g : Hp} (H : RZ u w z d0 cs n h g) : RwAt z (17 * n) (rn z d0 cs n) g := by
  have := H.run.2.2.2.2 n (Nat.le_refl _)
  rw [Nat.zero_add] at this
  exact this
theorem RZ.mz {u w : Hp} {z : ZS} {d0 : DS} {cs : Nat → Nat} {n : Nat} {h g : Hp} (H : RZ u w z d0 cs n h g) : MZ z (-9) 0 g := H.2.2.2.1.2.2.2.2.2.2.1
theorem RZ.p9 {u w : Hp} {z : ZS} {d0 : DS} {cs : Nat → Nat} {n : Nat} {h g : Hp} (H : RZ u w z d0 cs n h g) : h.1 19 6 = nI (zp z) := H.f19.2.2.1
theorem RZ.p10 {u w : Hp} {z : ZS} {d0 : DS} {cs : Nat → Nat} {n : Nat} {h g : Hp} (H : RZ u w z d0 cs n h g) : g.1 51 2 = nI (zp z) := H.mz.1
theorem RZ.d9 {u w : Hp} {z : ZS} {d0 : DS} {cs : Nat → Nat} {n : Nat} {h g : Hp} (H : RZ u w z d0 cs n h g) : h.1 27 1 = nI n := H.run.2.1
theorem RZ.d10 {u w : Hp} {z : ZS} {d0 : DS} {cs : Nat → Nat} {n : Nat} {h g : Hp} (H : RZ u w z d0 cs n h g) : g.1 51 5 = nI n := H.2.2.2.1.2.2.2.2.2.1
theorem RZ.now {u w : Hp} {z : ZS} {d0 : DS} {cs : Nat → Nat} {n : Nat} {h g : Hp} (H : RZ u w z d0 cs n h g) : X10_now g = nI (17 * n) := by unfold X10_now; rw [H.d10]; exact nml_17 n
def RA (u w : Hp) (z : ZS) (d0 : DS) (cs : Nat → Nat) (n : Nat) (z' : ZS) (ot okd : Int32) (d : DS) (h g : Hp) : Prop := RZ u w z d0 cs n h g ∧ ZOk z' ∧ DOk z' d ∧ FrAt z' 23 d h ∧ RwAt z' 2788 d g ∧ MZ z' ot okd g
theorem RZ.ahead {u w : Hp} {z : ZS} {d0 : DS} {cs : Nat → Nat} {n : Nat} {h g : Hp} (H : RZ u w z d0 cs n h g) : ∃ h' g', X4_become 23 19 h = some h' ∧ X10_copyRow (X10_now g) 2788 g = some g' ∧ RA u w z d0 cs n z (-9) 0 (rn z d0 cs n) h' g' := by
  have hp := H.zok.1
  have h40 := H.n40
  obtain ⟨h', e1, f1, f2, f3⟩ := become_eq (o := 23) hp (by decide) H.f19
  obtain ⟨g', e2, f4, f5⟩ := copyRow_eq (y := 2788) hp (by omega) (by decide) (by omega) H.row
  refine ⟨h', g', e1, by rw [H.now]; exact e2, H.sc ⟨fun i hi => f2 i (by omega), f3⟩ (ScM.w f5), H.zok, H.dok, f1, f4, H.mz.sc (ScM.w f5)⟩
theorem tnS_lt {z : ZS} {aw : Nat} {d : DS} (hz : ZOk z) (hd : DOk z d) : tnS z aw d < 64 := Nat.lt_of_lt_of_le (tq_ok (aw := aw) hz hd).2.2 (Nat.pow_le_pow_right (by decide) hz.1)
theorem RA.pass {u w : Hp} {z : ZS} {d0 : DS} {cs : Nat → Nat} {n : Nat} {h g : Hp} {z' : ZS} {ot okd : Int32} {d : DS} (A : RA u w z d0 cs n z' ot okd d h g) (aw : Nat) (haw : aw < 2 ^ 31) : ∃ h' g', X4_pass 23 (nI aw) h = some (nI (tnS z' aw d), h') ∧ X10_turnIn 2788 (nI aw) ot okd g = some (nI (tnS z' aw d), g') ∧ RA u w z d0 cs n z' ot okd (tnD z' aw d) h' g' := by
  obtain ⟨H, hz, hd, f, r, m⟩ := A
  obtain ⟨h', e1, f1, o1⟩ := pass_eq (o := 23) hz hd haw f
  obtain ⟨g', e2, f2, o2⟩ := turnIn_eq (x := 2788) hz hd (by decide) haw m r
  exact ⟨h', g', e1, e2, H.sc (ScC.p o1) (ScM.w o2), hz, tnD_ok hz hd, f1, f2, m.sc (ScM.w o2)⟩
theorem plain_ob2 {β : Type} (g : Hp) (F : Int32 → Hp → Option β) : ob2 (X10_plainTurn 2788 g) F = ob2 (X10_turnIn 2788 (nI 0) (-9) 0 g) F := by
  unfold X10_plainTurn
  show ob2 (ob2 (X10_turnIn 2788 (nI 0) (-9) 0 g) _) F = _
  rcases X10_turnIn 2788 (nI 0) (-9) 0 g with _ | ⟨a, b⟩ <;> rfl
theorem RA.go {u w : Hp} {z : ZS} {d0 : DS} {cs : Nat → Nat} {n : Nat} {h g : Hp} {z' : ZS} {ot okd : Int32} {d : DS} {f9 f10 : Int32 × Hp → Option ((Int32 × Hp) ⊕ (Int32 × Hp))} (A : RA u w z d0 cs n z' ot okd d h g) (aw k : Nat) (haw : aw < 2 ^ 31) (hk : k < 1000)
    (h9 : ∀ y h, f9 (y, h) = if nI k ≤ y then some (.inl (y, h)) else ob2 (X4_pass 23 (nI aw) h) fun _ h' => some (.inr (y + 1, h')))
    (h10 : ∀ y g, f10 (y, g) = if nI k ≤ y then some (.inl (y, g)) else ob2 (X10_turnIn 2788 (nI aw) ot okd g) fun _ g' => some (.inr (y + 1, g'))) :
    ∃ h' g', lp f9 FU ((0 : Int32), h) = some (nI k, h') ∧ lp f10 FU ((0 : Int32), g) = some (nI k, g') ∧ RA u w z d0 cs n z' ot okd (tns z' aw d k) h' g' := by
  obtain ⟨⟨s1, s2⟩, ⟨t1, t2⟩, e1, e2, q1, q2, q3⟩ := lpp (f := f9) (g := f10) (fun i s t => s.1 = nI i ∧ t.1 = nI i ∧ RA u w z d0 cs n z' ot okd (tns z' aw d i) s.2 t.2) (fun s t => s.1 = nI k ∧ t.1 = nI k ∧ RA u w z d0 cs n z' ot okd (tns z' aw d k) s.2 t.2) k (by omega) (by
    rintro i ⟨s1, s2⟩ ⟨t1, t2⟩ hi ⟨g1, g2, g3⟩
    obtain rfl : s1 = nI i := g1
    obtain rfl : t1 = nI i := g2
    rw [h9, h10]
    by_cases c : i < k
    · left
      obtain ⟨h', g', e1, e2, A'⟩ := RA.pass g3 aw haw
      rw [if_neg (nI_ge c (by omega)), if_neg (nI_ge c (by omega)), e1, e2, ob2_some, ob2_some]
      exact ⟨_, _, rfl, rfl, c, nap_1 i, nap_1 i, A'⟩
    · right
      have e : i = k := by omega
      subst e
      rw [if_pos (nI_le (Nat.le_refl _) (by omega)), if_pos (nI_le (Nat.le_refl _) (by omega))]
      exact ⟨_, _, rfl, rfl, rfl, rfl, g3⟩) (s := ((0 : Int32), h)) (t := ((0 : Int32), g)) ⟨rfl, rfl, A⟩
  cases q1; cases q2
  exact ⟨s2, t2, e1, e2, q3⟩
theorem RA.all {u w : Hp} {z : ZS} {d0 : DS} {cs : Nat → Nat} {n : Nat} {h g : Hp} {z' : ZS} {d : DS} {f10 : Int32 × Hp → Option ((Int32 × Hp) ⊕ (Int32 × Hp))} (A : RA u w z d0 cs n z' (-9) 0 d h g) (k : Nat) (hk : k < 1000) (h10 : ∀ y g, f10 (y, g) = if nI k ≤ y then some (.inl (y, g)) else ob2 (X10_plainTurn 2788 g) fun _ g' => some (.inr (y + 1, g'))) : ∃ h' g', X4_passAll 23 (nI k) h = some h' ∧ lp f10 FU ((0 : Int32), g) = some (nI k, g') ∧ RA u w z d0 cs n z' (-9) 0 (tns z' 0 d k) h' g' := by
  obtain ⟨h', g', e1, e2, A'⟩ := A.go (f9 := fun s : Int32 × Hp => X4_passAll_s2 23 (nI k) s.1 s.2) (f10 := f10) 0 k (by decide) hk (fun y h => rfl) (fun y g => by rw [h10, plain_ob2])
  exact ⟨h', g', by unfold X4_passAll; rw [e1]; rfl, e2, A'⟩
theorem RZ.goOn {u w : Hp} {z : ZS} {d0 : DS} {cs : Nat → Nat} {n : Nat} {h g : Hp} (H : RZ u w z d0 cs n h g) (aw k : Nat) (haw : aw < 2 ^ 31) (hk : k < 1000) : ∃ h1 h' g', X4_become 23 19 h = some h1 ∧ lp (fun s : Int32 × Hp => if nI k ≤ s.1 then some (.inl (s.1, s.2)) else ob2 (X4_pass 23 (nI aw) s.2) fun _ h' => some (.inr (s.1 + 1, h'))) FU ((0 : Int32), h1) = some (nI k, h') ∧ X10_goOn (nI k) (nI aw) g = some g' ∧ RA u w z d0 cs n z (-9) 0 (tns z aw (rn z d0 cs n) k) h' g' := by
  obtain ⟨h1, g1, e1, e2, A⟩ := H.ahead
  obtain ⟨h', g', e3, e4, A'⟩ := A.go (f9 := fun s : Int32 × Hp => if nI k ≤ s.1 then some (.inl (s.1, s.2)) else ob2 (X4_pass 23 (nI aw) s.2) fun _ h' => some (.inr (s.1 + 1, h'))) (f10 := fun s : Int32 × Hp => X10_goOn_s13 (nI k) (nI aw) s.1 s.2) aw k haw hk (fun y h => rfl) (fun y g => rfl)
  refine ⟨h1, h', g', e1, e3, ?_, A'⟩
  unfold X10_goOn
  rw [e2, ob_some, e4, ob2_some]
theorem RZ.goOn0 {u w : Hp} {z : ZS} {d0 : DS} {cs : Nat → Nat} {n : Nat} {h g : Hp} (H : RZ u w z d0 cs n h g) (k : Nat) (hk : k < 1000) : ∃ h1 h' g', X4_become 23 19 h = some h1 ∧ X4_passAll 23 (nI k) h1 = some h' ∧ X10_goOn (nI k) 0 g = some g' ∧ RA u w z d0 cs n z (-9) 0 (tns z 0 (rn z d0 cs n) k) h' g' := by
  obtain ⟨h1, h', g', e1, e2, e3, A⟩ := H.goOn 0 k (by decide) hk
  refine ⟨h1, h', g', e1, ?_, e3, A⟩
  unfold X4_passAll
  rw [show (lp (fun s : Int32 × Hp => X4_passAll_s2 23 (nI k) s.1 s.2) FU ((0 : Int32), h1)) = some (nI k, h') from e2, ob2_some]
theorem k_cloud (a1 : Int32) : Lk (X9_cloud a1) (X10_cloud a1) := by
  rintro u w h g ⟨z, d0, cs, n, H⟩
  unfold X9_cloud X10_cloud
  rcases rng a1 40 (by decide) with q | ⟨q1, q2, q3⟩ | ⟨k, hk, rfl⟩
  · rw [if_pos q, in0 q, if_pos rfl]; exact ⟨_, _, _, rfl, rfl, H.rr⟩
  · rw [if_neg q1, if_neg (show ¬ a1 ≤ 40 from q2), in1 (show 40 < a1 from q3), if_pos rfl]; exact ⟨_, _, _, rfl, rfl, H.rr⟩
  · rw [if_neg (nI_pos (by omega)), if_pos ((ner_40 (by omega)).mpr hk), in2 (nI_pos (by omega)) (fun q => by have := (nll_40 (by omega)).mp q; omega), if_neg n10, H.p9, H.p10]
    by_cases c : nI (zp z) = (0 : Int32)
    · rw [if_pos c, if_pos c]; exact ⟨_, _, _, rfl, rfl, H.rr⟩
    · rw [if_neg c, if_neg c]
      obtain ⟨h1, h', g', e1, e2, e3, A⟩ := H.goOn0 k (by omega)
      rw [e1, ob_some, e2, ob_some, e3, ob_some, gd_true (by decide), lt_eq, lt_eq, gd_true (by decide)]
      rw [show ix (2801 : Int32) = 2801 from by decide, show ix (2800 : Int32) = 2800 from by decide]
      have r1 : g'.1 52 2801 = nI _ := A.2.2.2.2.1.2.2.2.1
      have r2 : g'.1 52 2800 = nI _ := A.2.2.2.2.1.2.2.1
      have r3 : h'.1 23 8 = nI _ := A.2.2.2.1.2.2.2.2.2.2.2.1
      have r4 : h'.1 23 7 = nI _ := A.2.2.2.1.2.2.2.2.2.2.1
      rw [up_ne (by decide), up_ne (by decide), r1, r2, r3, r4]
      exact ⟨_, _, _, rfl, rfl, (A.1.tell _).rr⟩
theorem k_share (a1 a2 : Int32) : Lk (X9_share a1 a2) (X10_share a1 a2) := by
  rintro u w h g ⟨z, d0, cs, n, H⟩
  have hp := H.zok.1
  unfold X9_share X10_share
  rcases isOne_c hp H.p9 H.p10 a1 with ⟨q1, q2⟩ | ⟨i, hi, rfl, q1, q2⟩
  · rw [q1, q2, if_pos rfl, if_pos rfl]; exact ⟨_, _, _, rfl, rfl, H.rr⟩
  rw [q1, q2, if_neg n10, if_neg n10]
  rcases rng a2 40 (by decide) with q | ⟨q1, q2, q3⟩ | ⟨k, hk, rfl⟩
  · rw [if_pos q, in0 q, if_pos rfl]; exact ⟨_, _, _, rfl, rfl, H.rr⟩
  · rw [if_neg q1, if_neg (show ¬ a2 ≤ 40 from q2), in1 (show 40 < a2 from q3), if_pos rfl]; exact ⟨_, _, _, rfl, rfl, H.rr⟩
  · rw [if_neg (nI_pos (by omega)), if_pos ((ner_40 (by omega)).mpr hk), in2 (nI_pos (by omega)) (fun q => by have := (nll_40 (by omega)).mp q; omega), if_neg n10]
    obtain ⟨h1, h', g', e1, e2, e3, A⟩ := H.goOn0 k (by omega)
    have r1 : g'.1 52 (2794 + i) = nI _ := A.2.2.2.2.1.2.1 i hi
    have r2 : h'.1 26 i = nI _ := A.2.2.2.1.2.2.2.2.2.1 i hi
    rw [e1, ob_some, e2, ob_some, e3, ob_some, show (2794 : Int32) = nI 2794 from rfl, nI_add, gd_ib (by omega) (by decide), gd_ib (by omega) (by decide), ix_nI (by omega), ix_nI (by omega), r1, r2]
    exact ⟨_, _, _, rfl, rfl, A.1.rr⟩
theorem has1 {S i : Nat} (hS : S < 64) (hi : i < 6) : (((nI S >>> (nI i &&& 31)) &&& (1 : Int32)) = 1 ∧ ¬ X10_has (nI S) (nI i) = 0 ∧ S.testBit i = true) ∨ (¬ ((nI S >>> (nI i &&& 31)) &&& (1 : Int32)) = 1 ∧ X10_has (nI S) (nI i) = 0 ∧ S.testBit i = false) := by
  rw [bitI (by omega) (by omega), has_nI (by omega) (by omega)]
  rcases testBit_cases S i with t | t
  · left; rw [t]; exact ⟨rfl, by decide, rfl⟩
  · right; rw [t]; exact ⟨by decide, rfl, rfl⟩
theorem k_first (a1 : Int32) : Lk (X9_first a1) (X10_first a1) := by
  rintro u w h g ⟨z, d0, cs, n, H⟩
  have hp := H.zok.1
  unfold X9_first X10_first
  rcases isOne_c hp H.p9 H.p10 a1 with ⟨q1, q2⟩ | ⟨i, hi, rfl, q1, q2⟩
  · rw [q1, q2, if_pos rfl, if_pos rfl]; exact ⟨_, _, _, rfl, rfl, H.rr⟩
  rw [q1, q2, if_neg n10, if_neg n10]
  obtain ⟨h1, g1, e1, e2, A⟩ := H.ahead
  rw [e1, e2, ob_some, ob_some]
  obtain ⟨s, t, e3, e4, Q⟩ := lpp (f := fun s : Int32 × Hp => X9_first_s26 (nI i) s.1 s.2) (g := fun s : Int32 × Hp => X10_first_s23 (nI i) s.1 s.2)
    (fun k s t => s.1 = nI (k + 1) ∧ t.1 = nI (k + 1) ∧ RA u w z d0 cs n z (-9) 0 (tns z 0 (rn z d0 cs n) k) s.2 t.2)
    (fun s t => (∃ v h' g', s = .inl (v, h') ∧ t = .inl (v, g') ∧ RR u w h' g') ∨ (∃ v h' g', s = .inr (v, h') ∧ t = .inr (v, g') ∧ RR u w h' g')) 40 (by omega) (by
      rintro k ⟨s1, s2⟩ ⟨t1, t2⟩ hk ⟨g1, g2, g3⟩
      cases g1; cases g2
      show (∃ s' t', X9_first_s26 (nI i) (nI (k + 1)) s2 = some (.inr s') ∧ X10_first_s23 (nI i) (nI (k + 1)) t2 = some (.inr t') ∧ _) ∨ ∃ a b, X9_first_s26 (nI i) (nI (k + 1)) s2 = some (.inl a) ∧ X10_first_s23 (nI i) (nI (k + 1)) t2 = some (.inl b) ∧ _
      unfold X9_first_s26 X10_first_s23
      by_cases c : k < 40
      · have c' : ¬ (40 : Int32) < nI (k + 1) := fun q => by have := (nll_40 (by omega)).mp q; omega
        obtain ⟨h', g', e1, e2, A'⟩ := RA.pass g3 0 (by decide)
        rw [if_neg c', if_neg c', plain_ob2, e2, show X4_pass 23 (0 : Int32) s2 = _ from e1, ob2_some, ob2_some]
        rcases has1 (tnS_lt (aw := 0) g3.2.1 g3.2.2.1) (show i < 6 by omega) with ⟨b1, b2, _⟩ | ⟨b1, b2, _⟩
        · right
          rw [if_pos b1, if_neg b2]
          exact ⟨_, _, rfl, rfl, Or.inl ⟨_, _, _, rfl, rfl, A'.1.rr⟩⟩
        · left
          rw [if_neg b1, if_pos b2]
          exact ⟨_, _, rfl, rfl, c, nap_1 (k + 1), nap_1 (k + 1), A'⟩
      · right
        have e : k = 40 := by omega
        subst e
        rw [if_pos (by decide), if_pos (by decide)]
        exact ⟨_, _, rfl, rfl, Or.inr ⟨_, _, _, rfl, rfl, g3.1.rr⟩⟩) (s := ((1 : Int32), h1)) (t := ((1 : Int32), g1)) ⟨rfl, rfl, A⟩
  rw [e3, e4]
  rcases Q with ⟨v, h', g', rfl, rfl, R⟩ | ⟨v, h', g', rfl, rfl, R⟩
  · exact ⟨_, _, _, rfl, rfl, R⟩
  · exact ⟨_, _, _, rfl, rfl, R⟩
theorem RA.upl {u w : Hp} {z : ZS} {d0 : DS} {cs : Nat → Nat} {n : Nat} {h g : Hp} {z' : ZS} {ot okd : Int32} {d : DS} (A : RA u w z d0 cs n z' ot okd d h g) (i v : Nat) (hi : i < 6) (hv : v ≤ 9) : RA u w z d0 cs n z' ot okd (va_up (dp d) i v, dh d, dc d, da d, dw d, dr d, dt d) (up h 25 i (nI v)) (up g 52 (2788 + i) (nI v)) := by
  obtain ⟨H, hz, hd, f, r, m⟩ := A
  have b : ScM g (up g 52 (2788 + i) (nI v)) := ScM.w (OffW.rf.up (by omega) (by omega))
  refine ⟨H.sc (ScC.up (by omega)) b, hz, ⟨fun j hj => ?_, hd.2⟩, f.upl i v, r.upl hz.1 i v hi, m.sc b⟩
  show va_up _ _ _ j ≤ 9
  unfold va_up
  split
  · exact hv
  · exact hd.1 j hj
theorem RA.uc {u w : Hp} {z : ZS} {d0 : DS} {cs : Nat → Nat} {n : Nat} {h g : Hp} {z' : ZS} {ot okd : Int32} {d : DS} (A : RA u w z d0 cs n z' ot okd d h g) (v : Nat) (hv : v ≤ 60) : RA u w z d0 cs n z' ot okd (dp d, dh d, v, da d, dw d, dr d, dt d) (up h 23 7 (nI v)) (up g 52 2800 (nI v)) := by
  obtain ⟨H, hz, hd, f, r, m⟩ := A
  have b : ScM g (up g 52 2800 (nI v)) := ScM.w (OffW.rf.up (by omega) (by omega))
  exact ⟨H.sc (ScC.up (by omega)) b, hz, ⟨hd.1, hd.2.1, hv, hd.2.2.2⟩, f.uc v, r.uc hz.1 v, m.sc b⟩
theorem RA.uw {u w : Hp} {z : ZS} {d0 : DS} {cs : Nat → Nat} {n : Nat} {h g : Hp} {z' : ZS} {ot okd : Int32} {d : DS} (A : RA u w z d0 cs n z' ot okd d h g) (v : Nat) (hv : v ≤ 2) : RA u w z d0 cs n z' ot okd (dp d, dh d, dc d, da d, v, dr d, dt d) (up h 23 9 (nI v)) (up g 52 2802 (nI v)) := by
  obtain ⟨H, hz, hd, f, r, m⟩ := A
  have b : ScM g (up g 52 2802 (nI v)) := ScM.w (OffW.rf.up (by omega) (by omega))
  exact ⟨H.sc (ScC.up (by omega)) b, hz, ⟨hd.1, hd.2.1, hd.2.2.1, hd.2.2.2.1, hv, hd.2.2.2.2.2⟩, f.uw v, r.uw hz.1 v, m.sc b⟩
theorem RA.hs {u w : Hp} {z : ZS} {d0 : DS} {cs : Nat → Nat} {n : Nat} {h g : Hp} {z' : ZS} {ot okd : Int32} {d : DS} (A : RA u w z d0 cs n z' ot okd d h g) {i : Nat} (hi : i < zp z') : h.1 26 i = nI (dh d i) ∧ g.1 52 (2794 + i) = nI (dh d i) ∧ dh d i ≤ 30 := ⟨A.2.2.2.1.2.2.2.2.2.1 i hi, A.2.2.2.2.1.2.1 i hi, A.2.2.1.2.1 i hi⟩
theorem k_best (a1 a2 : Int32) : Lk (X9_best a1 a2) (X10_best a1 a2) := by
  rintro u w h g ⟨z, d0, cs, n, H⟩
  have hp := H.zok.1
  unfold X9_best X10_best
  rcases isOne_c hp H.p9 H.p10 a1 with ⟨q1, q2⟩ | ⟨i, hi, rfl, q1, q2⟩
  · rw [q1, q2, if_pos rfl, if_pos rfl]; exact ⟨_, _, _, rfl, rfl, H.rr⟩
  rw [q1, q2, if_neg n10, if_neg n10]
  rcases isPlan_c a2 with ⟨q1, q2⟩ | ⟨k, hk1, hk, rfl, q1, q2⟩
  · rw [q1, q2, if_pos rfl, if_pos rfl]; exact ⟨_, _, _, rfl, rfl, H.rr⟩
  rw [q1, q2, if_neg n10, if_neg n10]
  obtain ⟨⟨s1, s2, s3, s4⟩, ⟨t1, t2, t3, t4⟩, e3, e4, Q1, Q2, Q3⟩ := lpp (f := fun s : Int32 × Int32 × Int32 × Hp => X9_best_s28 (nI i) (nI k) s.1 s.2.1 s.2.2.1 s.2.2.2) (g := fun s : Int32 × Int32 × Int32 × Hp => X10_best_s29 (nI i) (nI k) s.1 s.2.1 s.2.2.1 s.2.2.2)
    (fun p s t => s.1 = t.2.1 ∧ ((p = 0 ∧ s.1 = -1) ∨ (0 < p ∧ s.2.1 = t.1)) ∧ s.2.2.1 = nI p ∧ t.2.2.1 = nI p ∧ RZ u w z d0 cs n s.2.2.2 t.2.2.2)
    (fun s t => s.1 = t.2.1 ∧ s.2.1 = t.1 ∧ RZ u w z d0 cs n s.2.2.2 t.2.2.2) 10 (by omega) (by
      rintro p ⟨s1, s2, s3, s4⟩ ⟨t1, t2, t3, t4⟩ hk ⟨g1, g2, g3, g4, g5⟩
      cases g1; cases g3; cases g4
      show (∃ s' t', X9_best_s28 (nI i) (nI k) s1 s2 (nI p) s4 = some (.inr s') ∧ X10_best_s29 (nI i) (nI k) t1 s1 (nI p) t4 = some (.inr t') ∧ _) ∨ ∃ a b, X9_best_s28 (nI i) (nI k) s1 s2 (nI p) s4 = some (.inl a) ∧ X10_best_s29 (nI i) (nI k) t1 s1 (nI p) t4 = some (.inl b) ∧ _
      unfold X9_best_s28 X10_best_s29
      by_cases c : p < 10
      · left
        have c' : ¬ (10 : Int32) ≤ nI p := fun q => by have := (nel_10 (by omega)).mp q; omega
        obtain ⟨h1, k1, e1, e2, A⟩ := RZ.ahead g5
        obtain ⟨h2, k2, e3, e4, A2⟩ := (A.upl i p (by omega) (by omega)).all (f10 := fun s : Int32 × Hp => X10_best_s62 (nI i) (nI k) t1 s1 (nI p) s.1 s.2) k (by omega) (fun y g => rfl)
        obtain ⟨v1, v2, v3⟩ := A2.hs hi
        rw [if_neg c', if_neg c', e1, e2, ob_some, ob_some, show (2788 : Int32) = nI 2788 from rfl, show (2794 : Int32) = nI 2794 from rfl, nI_add, nI_add, gd_ib (by omega) (by decide), gd_ib (by omega) (by decide), ix_nI (i := i) (by omega), ix_nI (i := 2788 + i) (by omega), ix_nI (i := 2794 + i) (by omega), lt_eq, lt_eq, e3, ob_some, e4, ob2_some, gd_ib (by omega) (by decide), v1, v2]
        generalize dh (tns z 0 (va_up (dp (rn z d0 cs n)) i p, dh (rn z d0 cs n), dc (rn z d0 cs n), da (rn z d0 cs n), dw (rn z d0 cs n), dr (rn z d0 cs n), dt (rn z d0 cs n)) k) i = x at v3
        by_cases cx : nI x ≤ s1
        · rw [if_pos cx, if_pos cx, if_pos cx, ob2_some, ob_some, ob_some]
          refine ⟨_, _, rfl, rfl, c, rfl, Or.inr ⟨by omega, ?_⟩, nap_1 p, nap_1 p, A2.1⟩
          rcases g2 with ⟨rfl, q⟩ | ⟨_, q⟩
          · exfalso
            have q : s1 = -1 := q
            rw [q] at cx
            exact absurd (Int32.lt_of_lt_of_le (show (-1 : Int32) < 0 by decide) (nI_pos' (by omega))) (Int32.not_lt.mpr cx)
          · exact q
        · rw [if_neg cx, if_neg cx, if_neg cx, lt_eq, ob2_some, ob_some, ob_some]
          exact ⟨_, _, rfl, rfl, c, rfl, Or.inr ⟨by omega, rfl⟩, nap_1 p, nap_1 p, A2.1⟩
      · right
        have e : p = 10 := by omega
        subst e
        rw [if_pos (by decide), if_pos (by decide)]
        rcases g2 with ⟨q, _⟩ | ⟨_, q⟩
        · omega
        · exact ⟨_, _, rfl, rfl, rfl, q, g5⟩) (s := ((-1 : Int32), (0 : Int32), (0 : Int32), h)) (t := ((-9 : Int32), (-1 : Int32), (0 : Int32), g)) ⟨rfl, Or.inl ⟨rfl, rfl⟩, rfl, rfl, H⟩
  have Q1 : s1 = t2 := Q1
  have Q2 : s2 = t1 := Q2
  subst Q1 Q2
  rw [e3, e4, ob4_some, ob4_some, lt_eq, lt_eq]
  exact ⟨_, _, _, rfl, rfl, (Q3.tell _).rr⟩
