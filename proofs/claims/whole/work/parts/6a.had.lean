theorem RA.pass' {u w : Hp} {z : ZS} {d0 : DS} {cs : Nat → Nat} {n : Nat} {h g : Hp} {z' : ZS} {ot okd : Int32} {d : DS} (A : RA u w z d0 cs n z' ot okd d h g) (aw : Nat) (haw : aw < 2 ^ 31) : ∃ h' g', X4_pass 23 (nI aw) h = some (nI (tnS z' aw d), h') ∧ X10_turnIn 2788 (nI aw) ot okd g = some (nI (tnS z' aw d), g') ∧ RA u w z d0 cs n z' ot okd (tnD z' aw d) h' g' ∧ ScC h h' ∧ ScM g g' := by
  obtain ⟨H, hz, hd, f, r, m⟩ := A
  obtain ⟨h', e1, f1, o1⟩ := pass_eq (o := 23) hz hd haw f
  obtain ⟨g', e2, f2, o2⟩ := turnIn_eq (x := 2788) hz hd (by decide) haw m r
  exact ⟨h', g', e1, e2, ⟨H.sc (ScC.p o1) (ScM.w o2), hz, tnD_ok hz hd, f1, f2, m.sc (ScM.w o2)⟩, ScC.p o1, ScM.w o2⟩
/-- what one had, and whether it is so -/
theorem RA.fits {u w : Hp} {z : ZS} {d0 : DS} {cs : Nat → Nat} {n : Nat} {h g : Hp} {z' : ZS} {i r : Nat} {okd : Int32} {d : DS} (A : RA u w z d0 cs n z' (nI i) okd d h g) (hi : i < zp z') (hr : r < 6) : ∃ v h' g', X9_asideFits (nI i) (nI r) h = some (v, h') ∧ X10_isSo (nI i) (nI r) okd g = some (v, g') ∧ RZ u w z d0 cs n h' g' := by
  have hp := A.2.1.1
  unfold X9_asideFits X10_isSo
  obtain ⟨s, t, e3, e4, Q⟩ := lpp (f := fun s : Int32 × Hp => X9_asideFits_s2 (nI i) (nI r) s.1 s.2) (g := fun s : Int32 × Hp => X10_isSo_s3 (nI i) (nI r) okd s.1 s.2)
    (fun k s t => s.1 = nI k ∧ t.1 = nI k ∧ ∃ d, RA u w z d0 cs n z' (nI i) okd d s.2 t.2)
    (fun s t => (∃ v h' g', s = .inl (v, h') ∧ t = .inl (v, g') ∧ RZ u w z d0 cs n h' g') ∨ (∃ v h' g', s = .inr (v, h') ∧ t = .inr (v, g') ∧ RZ u w z d0 cs n h' g')) 40 (by omega) (by
      rintro k ⟨s1, s2⟩ ⟨t1, t2⟩ hk ⟨g1, g2, d, g3⟩
      cases g1; cases g2
      show (∃ s' t', X9_asideFits_s2 (nI i) (nI r) (nI k) s2 = some (.inr s') ∧ X10_isSo_s3 (nI i) (nI r) okd (nI k) t2 = some (.inr t') ∧ _) ∨ ∃ a b, X9_asideFits_s2 (nI i) (nI r) (nI k) s2 = some (.inl a) ∧ X10_isSo_s3 (nI i) (nI r) okd (nI k) t2 = some (.inl b) ∧ _
      have g3 : RA u w z d0 cs n z' (nI i) okd d s2 t2 := g3
      unfold X9_asideFits_s2 X10_isSo_s3
      rw [gd_ib hr (by decide), gd_ib hr (by decide), ix_nI (i := r) (by omega)]
      rcases g3.1.1 r hr with ⟨x1, x2⟩ | ⟨m, hm, x1, x2, x3⟩
      · right
        rw [x1, x2, if_pos (Int32.le_of_lt (Int32.lt_of_lt_of_le (show (-1 : Int32) < 0 by decide) (nI_pos' (by omega)))), if_pos (Int32.le_of_lt (Int32.lt_of_lt_of_le (show (-9 : Int32) < 0 by decide) (nI_pos' (by omega))))]
        exact ⟨_, _, rfl, rfl, Or.inr ⟨_, _, _, rfl, rfl, g3.1⟩⟩
      · by_cases c : k < m
        · obtain ⟨h', g', e1, e2, A', oc, om⟩ := g3.pass' 0 (by decide)
          obtain ⟨v1, v2, v3⟩ := A'.hs hi
          rw [x1, x2, if_neg (nI_ge c (by omega)), if_neg (nI_ge c (by omega)), show X4_pass 23 (0 : Int32) s2 = _ from e1, show X10_turnIn 2788 (0 : Int32) (nI i) okd t2 = _ from e2, ob2_some, ob2_some, gd_ib (by omega) (by decide), gd_ib (by omega) (by decide), show (2794 : Int32) = nI 2794 from rfl, nml_40, nI_add, nI_add, gd_ib (by omega) (by decide), gd_ib (by omega) (by decide), ix_nI (by omega), ix_nI (by omega), ix_nI (by omega), ix_nI (by omega), v1, v2, oc.1 (2 + r) (by omega), om.1 55 (by decide) (by decide) (by decide), x3 k c]
          by_cases cv : nI (dh (tnD z' 0 d) i) = t2.1 55 (40 * r + k)
          · left
            rw [if_pos cv, if_pos cv]
            exact ⟨_, _, rfl, rfl, by omega, nap_1 k, nap_1 k, _, A'⟩
          · right
            rw [if_neg cv, if_neg cv]
            exact ⟨_, _, rfl, rfl, Or.inl ⟨_, _, _, rfl, rfl, A'.1⟩⟩
        · right
          rw [x1, x2, if_pos (nI_le (by omega) (by omega)), if_pos (nI_le (by omega) (by omega))]
          exact ⟨_, _, rfl, rfl, Or.inr ⟨_, _, _, rfl, rfl, g3.1⟩⟩) (s := ((0 : Int32), h)) (t := ((0 : Int32), g)) ⟨rfl, rfl, _, A⟩
  rw [e3, e4]
  rcases Q with ⟨v, h', g', rfl, rfl, R⟩ | ⟨v, h', g', rfl, rfl, R⟩
  · exact ⟨_, _, _, rfl, rfl, R⟩
  · exact ⟨_, _, _, rfl, rfl, R⟩
theorem RA.own {u w : Hp} {z : ZS} {d0 : DS} {cs : Nat → Nat} {n : Nat} {h g : Hp} {d : DS} (A : RA u w z d0 cs n z (-9) 0 d h g) {i : Nat} (hi : i < zp z) : RA u w z d0 cs n z (nI i) (nI (zk z i)) d h g := by
  obtain ⟨H, hz, hd, f, r, m⟩ := A
  have hp := hz.1
  refine ⟨H, hz, hd, f, r, m.1, m.2.1, m.2.2.1, fun j hj => ?_⟩
  by_cases e : j = i
  · subst e; rw [if_pos rfl]
  · rw [if_neg (fun q => e ((nI_eq (by omega) (by omega)).mp q)), H.k10 hj]
theorem RA.kind {u w : Hp} {z : ZS} {d0 : DS} {cs : Nat → Nat} {n : Nat} {h g : Hp} {d : DS} (A : RA u w z d0 cs n z (-9) 0 d h g) {i k : Nat} (hi : i < zp z) (hk : k < 6) : RA u w z d0 cs n (zp z, va_up (zk z) i k, zd z, zg z) (nI i) (nI k) d (up h 24 i (nI k)) g := by
  obtain ⟨H, hz, hd, f, r, m⟩ := A
  have hp := hz.1
  obtain ⟨a1, a2, a3, a4, a5, a6, a7, a8, a9, a10, a11⟩ := f
  refine ⟨H.sc (ScC.up (by omega)) ScM.rf, ⟨hz.1, fun j hj => ?_, hz.2.2⟩, hd, ⟨by rw [up_ne (by decide)]; exact a1, by rw [up_ne (by decide)]; exact a2, by rw [up_ne (by decide)]; exact a3, fun j hj => ?_, fun j hj => by rw [up_ne (by decide)]; exact a5 j hj, fun j hj => by rw [up_ne (by decide)]; exact a6 j hj, by rw [up_ne (by decide)]; exact a7, by rw [up_ne (by decide)]; exact a8, by rw [up_ne (by decide)]; exact a9, by rw [up_ne (by decide)]; exact a10, by rw [up_ne (by decide)]; exact a11⟩, r, m.1, m.2.1, m.2.2.1, fun j hj => ?_⟩
  · show va_up (zk z) i k j < 6
    unfold va_up
    split
    · exact hk
    · exact hz.2.1 j hj
  · show (up h 24 i (nI k)).1 24 j = nI (va_up (zk z) i k j)
    by_cases e : j = i
    · subst e; rw [up_at]; simp [va_up]
    · rw [up_off e, show h.1 24 j = nI (zk z j) from a4 j hj]; simp [va_up, e]
  · show _ = nI (va_up (zk z) i k j)
    have hj : j < zp z := hj
    by_cases e : j = i
    · subst e; rw [if_pos rfl]; simp [va_up]
    · rw [if_neg (fun q => e ((nI_eq (by omega) (by omega)).mp q)), H.k10 hj]; simp [va_up, e]
def szD (z : ZS) (d : DS) (s : Nat) : DS := (dp d, dh d, s, (if s = 0 then zd z else da d), dw d, dr d, dt d)
theorem szD_ok {z : ZS} {d : DS} {s : Nat} (hz : ZOk z) (hd : DOk z d) (hs : s ≤ 60) : DOk z (szD z d s) := by
  refine ⟨hd.1, hd.2.1, hs, ?_, hd.2.2.2.2⟩
  show (if s = 0 then zd z else da d) ≤ 9
  split
  · exact hz.2.2.1
  · exact hd.2.2.2.1
theorem beOf_eq {z : ZS} {d : DS} {s : Nat} {h : Hp} (hs : s ≤ 60) (F : FrAt z 23 d h) : ∃ h', X4_beOfSize 23 (nI s) h = some h' ∧ FrAt z 23 (szD z d s) h' ∧ Off (FrC 23) h h' := by
  unfold X4_beOfSize
  rw [lt_eq, up_at]
  have F1 := F.uc s
  by_cases c : s = 0
  · subst c
    rw [if_pos (show nI 0 = (0 : Int32) from rfl), lt_eq, up_off (by decide), F.1]
    exact ⟨_, rfl, F1.ua (zd z), (Off.rf.up (Or.inl rfl)).up (Or.inl rfl)⟩
  · rw [if_neg (nI_ne0 (by omega) (by omega))]
    refine ⟨_, rfl, ?_, Off.rf.up (Or.inl rfl)⟩
    unfold szD
    rw [if_neg c]
    exact F1
theorem lay_eq {z : ZS} {d : DS} {x s : Nat} {g : Hp} (hp : zp z ≤ 6) (hx : x + 17 ≤ 2788) (hn : X10_now g = nI x) (hs : s ≤ 60) (M : MZ z (-9) 0 g) (F : RwAt z x d g) : ∃ g', X10_laySize (nI s) g = some g' ∧ RwAt z 2788 (szD z d s) g' ∧ OffW 2788 g g' := by
  obtain ⟨g1, e1, f1, o1⟩ := copyRow_eq (y := 2788) hp (by omega) (by decide) (by omega) F
  unfold X10_laySize
  rw [hn, show (2788 : Int32) = nI 2788 from rfl, e1, ob_some, gd_true (by decide), show ix (2800 : Int32) = 2800 by decide, show ix (2801 : Int32) = 2801 by decide, lt_eq, gd_true (by decide)]
  have F1 := f1.uc hp s
  have o2 : OffW 2788 g (up g1 52 2800 (nI s)) := o1.up (by omega) (by omega)
  have r1 : (up g1 52 2800 (nI s)).1 51 3 = nI (zd z) := (M.off o2).2.1
  have r2 : (up g1 52 2800 (nI s)).1 52 2801 = nI (da d) := F1.2.2.2.1
  rw [r1, r2]
  by_cases c : s = 0
  · subst c
    rw [if_pos (show nI 0 = (0 : Int32) from rfl), ob_some, gd_true (by decide), lt_eq]
    exact ⟨_, rfl, F1.ua hp (zd z), o2.up (by omega) (by omega)⟩
  · rw [if_neg (nI_ne0 (by omega) (by omega)), ob_some, gd_true (by decide), lt_eq]
    refine ⟨_, rfl, ?_, o2.up (by omega) (by omega)⟩
    unfold szD
    rw [if_neg c]
    exact F1.ua hp (da d)
theorem RZ.size {u w : Hp} {z : ZS} {d0 : DS} {cs : Nat → Nat} {n : Nat} {h g : Hp} (H : RZ u w z d0 cs n h g) {s : Nat} (hs : s ≤ 60) : ∃ h1 h2 g', X4_become 23 19 h = some h1 ∧ X4_beOfSize 23 (nI s) h1 = some h2 ∧ X10_laySize (nI s) g = some g' ∧ RA u w z d0 cs n z (-9) 0 (szD z (rn z d0 cs n) s) h2 g' := by
  have hp := H.zok.1
  have h40 := H.n40
  obtain ⟨h1, e1, f1, f2, f3⟩ := become_eq (o := 23) hp (by decide) H.f19
  obtain ⟨h2, e2, f4, o2⟩ := beOf_eq hs f1
  obtain ⟨g', e3, f5, o3⟩ := lay_eq hp (by omega) H.now hs H.mz H.row
  refine ⟨h1, h2, g', e1, e2, e3, H.sc ?_ (ScM.w o3), H.zok, szD_ok H.zok H.dok hs, f4, f5, H.mz.sc (ScM.w o3)⟩
  exact ScC.tr ⟨fun i hi => f2 i (by omega), f3⟩ (ScC.p o2)
/-- a row of what one had -/
theorem good_c {h g : Hp} {r m : Nat} (hr : r < 6) (hm : m ≤ 10) (x1 : h.1 8 r = nI m) (x2 : g.1 56 r = nI m) (x3 : ∀ i, i < m → h.1 (2 + r) i = g.1 55 (40 * r + i)) :
    ((∀ h' : Hp, X9_answerFinding 3 h = some (-3, h') → lp (fun s : Int32 => X9_refusedHad_s55 (nI r) h s) FU (0 : Int32) = some (.inl (-3, h'))) ∧ ∃ y, lp (fun s : Int32 × Int32 => X10_wrongRow_s34 (nI r) g s.1 s.2) FU ((0 : Int32), (0 : Int32)) = some (3, y)) ∨
    ((∃ y, lp (fun s : Int32 => X9_refusedHad_s55 (nI r) h s) FU (0 : Int32) = some (.inr y)) ∧ ∃ y, lp (fun s : Int32 × Int32 => X10_wrongRow_s34 (nI r) g s.1 s.2) FU ((0 : Int32), (0 : Int32)) = some (0, y)) := by
  have M : ∃ t, lp (fun s : Int32 × Int32 => X10_wrongRow_s34 (nI r) g s.1 s.2) FU ((0 : Int32), (0 : Int32)) = some t ∧ ((t.1 = 3 ∧ ∃ j, j < m ∧ X10_in (g.1 55 (40 * r + j)) 0 30 = 0) ∨ (t.1 = 0 ∧ ∀ j, j < m → ¬ X10_in (g.1 55 (40 * r + j)) 0 30 = 0)) := by
    refine lp_all (step := fun s : Int32 × Int32 => X10_wrongRow_s34 (nI r) g s.1 s.2)
      (fun i s => s.2 = nI i ∧ ((s.1 = 3 ∧ ∃ j, j < m ∧ X10_in (g.1 55 (40 * r + j)) 0 30 = 0) ∨ (s.1 = 0 ∧ ∀ j, j < i → ¬ X10_in (g.1 55 (40 * r + j)) 0 30 = 0)))
      (fun t => (t.1 = 3 ∧ ∃ j, j < m ∧ X10_in (g.1 55 (40 * r + j)) 0 30 = 0) ∨ (t.1 = 0 ∧ ∀ j, j < m → ¬ X10_in (g.1 55 (40 * r + j)) 0 30 = 0)) m (by omega) ?_ ?_ (s := ((0 : Int32), (0 : Int32))) ⟨rfl, Or.inr ⟨rfl, fun j hj => by omega⟩⟩
    · rintro i ⟨s1, s2⟩ hi ⟨g1, g2⟩
      cases g1
      show ∃ t, X10_wrongRow_s34 (nI r) g s1 (nI i) = some (.inr t) ∧ _
      unfold X10_wrongRow_s34
      rw [gd_ib hr (by decide), ix_nI (i := r) (by omega), x2, if_neg (nI_ge hi (by omega)), nml_40, nI_add, gd_ib (by omega) (by decide), ix_nI (by omega)]
      by_cases c : X10_in (g.1 55 (40 * r + i)) 0 30 = 0
      · rw [if_pos c, ob_some]
        exact ⟨_, rfl, nap_1 i, Or.inl ⟨rfl, i, hi, c⟩⟩
      · rw [if_neg c, ob_some]
        refine ⟨_, rfl, nap_1 i, ?_⟩
        rcases g2 with g2 | ⟨g2, g3⟩
        · exact Or.inl g2
        · refine Or.inr ⟨g2, fun j hj => ?_⟩
          by_cases e : j = i
          · subst e; exact c
          · exact g3 j (by omega)
    · rintro ⟨s1, s2⟩ ⟨g1, g2⟩
      cases g1
      show ∃ t, X10_wrongRow_s34 (nI r) g s1 (nI m) = some (.inl t) ∧ _
      unfold X10_wrongRow_s34
      rw [gd_ib hr (by decide), ix_nI (i := r) (by omega), x2, if_pos (nI_le (Nat.le_refl _) (by omega))]
      exact ⟨_, rfl, g2⟩
  have stp : ∀ i, i < m → ¬ X10_in (g.1 55 (40 * r + i)) 0 30 = 0 → X9_refusedHad_s55 (nI r) h (nI i) = some (.inr (nI (i + 1))) := by
    intro i hi c
    unfold X9_refusedHad_s55
    rw [gd_ib hr (by decide), ix_nI (i := r) (by omega), x1, if_neg (nI_ge hi (by omega)), gd_ib (by omega) (by decide), ix_nI (by omega), x3 i hi]
    by_cases c1 : g.1 55 (40 * r + i) < 0
    · exact absurd (in0 c1) c
    · rw [if_neg c1]
      by_cases c2 : g.1 55 (40 * r + i) ≤ 30
      · rw [if_pos c2, lt_eq, nap_1]
      · exact absurd (in1 (i_nle c2)) c
  obtain ⟨⟨t1, t2⟩, e, ⟨q1, q2⟩ | ⟨q1, q2⟩⟩ := M
  · left
    have q1 : t1 = 3 := q1
    subst q1
    refine ⟨fun h' ef => ?_, t2, e⟩
    obtain ⟨j, ⟨hj, cj⟩, lj⟩ := pk_least (fun j => j < m ∧ X10_in (g.1 55 (40 * r + j)) 0 30 = 0) q2
    obtain ⟨s, e1, rfl⟩ := lp_all (step := fun s : Int32 => X9_refusedHad_s55 (nI r) h s) (fun i s => s = nI i) (fun s => s = .inl (-3, h')) j (by omega) (by
      rintro i s hi rfl
      exact ⟨_, stp i (by omega) (fun c => lj i hi ⟨by omega, c⟩), rfl⟩) (by
      rintro s rfl
      refine ⟨_, ?_, rfl⟩
      unfold X9_refusedHad_s55
      rw [gd_ib hr (by decide), ix_nI (i := r) (by omega), x1, if_neg (nI_ge hj (by omega)), gd_ib (by omega) (by decide), ix_nI (by omega), x3 j hj, ef, ob2_some]
      by_cases c1 : g.1 55 (40 * r + j) < 0
      · rw [if_pos c1]
      · rw [if_neg c1]
        by_cases c2 : g.1 55 (40 * r + j) ≤ 30
        · rw [in2 c1 (Int32.not_lt.mpr c2)] at cj
          exact absurd cj n10
        · rw [if_neg c2]) (s := (0 : Int32)) rfl
    exact e1
  · right
    have q1 : t1 = 0 := q1
    subst q1
    refine ⟨?_, t2, e⟩
    obtain ⟨s, e1, y, rfl⟩ := lp_all (step := fun s : Int32 => X9_refusedHad_s55 (nI r) h s) (fun i s => s = nI i) (fun s => ∃ y, s = .inr y) m (by omega) (by
      rintro i s hi rfl
      exact ⟨_, stp i (by omega) (q2 i hi), rfl⟩) (by
      rintro s rfl
      refine ⟨.inr (nI m), ?_, nI m, rfl⟩
      unfold X9_refusedHad_s55
      rw [gd_ib hr (by decide), ix_nI (i := r) (by omega), x1, if_pos (nI_le (Nat.le_refl _) (by omega))]) (s := (0 : Int32)) rfl
    exact ⟨y, e1⟩
theorem had_c {u w : Hp} {z : ZS} {d0 : DS} {cs : Nat → Nat} {n : Nat} {h g : Hp} (H : RZ u w z d0 cs n h g) (a1 a2 : Int32) : (∃ r h' g', ¬ r = (0 : Int32) ∧ X9_refusedHad a1 a2 h = some (r, h') ∧ RZ u w z d0 cs n h' g' ∧ ((X10_isOne a1 g = 0 ∧ r = -1 ∧ g' = g) ∨ (X10_isOne a1 g = 1 ∧ X10_isRow a2 = 0 ∧ r = -1 ∧ g' = g) ∨ (X10_isOne a1 g = 1 ∧ X10_isRow a2 = 1 ∧ ∃ q, X10_wrongRow a2 g = some q ∧ ¬ q ≤ 0 ∧ X10_find q g = some (r, g')))) ∨
    (∃ i r m, i < zp z ∧ r < 6 ∧ 1 ≤ m ∧ m ≤ 10 ∧ a1 = nI i ∧ a2 = nI r ∧ X9_refusedHad a1 a2 h = some (0, h) ∧ X10_isOne a1 g = 1 ∧ X10_isRow a2 = 1 ∧ X10_wrongRow a2 g = some 0 ∧ h.1 8 r = nI m ∧ g.1 56 r = nI m) := by
  have hp := H.zok.1
  unfold X9_refusedHad X9_refusedRow X10_wrongRow
  rcases isOne_c hp H.p9 H.p10 a1 with ⟨q1, q2⟩ | ⟨i, hi, rfl, q1, q2⟩
  · left; rw [q1, if_pos rfl]; exact ⟨_, _, _, by decide, rfl, H, Or.inl ⟨q2, rfl, rfl⟩⟩
  rw [q1, if_neg n10]
  rcases isRow_c a2 with ⟨p1, p2⟩ | ⟨r, hr, rfl, p1, p2⟩
  · left; rw [p1, if_pos rfl, ob2_some, if_neg (show ¬ (-1 : Int32) = 0 by decide)]; exact ⟨_, _, _, by decide, rfl, H, Or.inr (Or.inl ⟨q2, p2, rfl, rfl⟩)⟩
  rw [p1, if_neg n10, gd_ib hr (by decide), gd_ib hr (by decide), ix_nI (i := r) (by omega)]
  rcases H.1 r hr with ⟨x1, x2⟩ | ⟨m, hm, x1, x2, x3⟩
  · left
    obtain ⟨h', g', e1, e2, H'⟩ := H.find 1 (by decide)
    rw [x1, x2, if_pos rfl, if_pos rfl, show (1 : Int32) = nI 1 from rfl, e1, ob2_some, ob2_some, if_neg (show ¬ (-3 : Int32) = 0 by decide)]
    exact ⟨_, _, _, by decide, rfl, H', Or.inr (Or.inr ⟨q2, p2, _, rfl, by decide, e2⟩)⟩
  rw [x1, x2, if_neg (nm1 (by omega)), if_neg (nm9 (by omega)), ob2_some, if_pos rfl, gd_ib hr (by decide), x1]
  obtain ⟨h5, g5, e5, f5, H5⟩ := H.find 5 (by decide)
  by_cases c1 : nI m < 1
  · left
    rw [if_pos c1, in0 c1, if_pos rfl, show (5 : Int32) = nI 5 from rfl, e5, ob2_some]
    exact ⟨_, _, _, by decide, rfl, H5, Or.inr (Or.inr ⟨q2, p2, _, rfl, by decide, f5⟩)⟩
  rw [if_neg c1]
  by_cases c2 : nI m ≤ 10
  · have hm10 := (ner_10 (by omega)).mp c2
    have hm1 : 1 ≤ m := by
      rcases Nat.eq_zero_or_pos m with e | e
      · subst e; exact absurd (by decide) c1
      · exact e
    rw [if_pos c2, in2 c1 (Int32.not_lt.mpr c2), if_neg n10]
    obtain ⟨h3, g3, e3, f3, H3⟩ := H.find 3 (by decide)
    rcases good_c hr hm10 x1 x2 x3 with ⟨l1, y, l2⟩ | ⟨⟨y', l1⟩, y, l2⟩
    · left
      rw [l1 h3 e3, l2, ob2_some]
      exact ⟨_, _, _, by decide, rfl, H3, Or.inr (Or.inr ⟨q2, p2, _, rfl, by decide, f3⟩)⟩
    · right
      rw [l1, l2, ob2_some]
      exact ⟨i, r, m, hi, hr, hm1, hm10, rfl, rfl, rfl, q2, p2, rfl, x1, x2⟩
  · left
    rw [if_neg c2, in1 (i_nle c2), if_pos rfl, show (5 : Int32) = nI 5 from rfl, e5, ob2_some]
    exact ⟨_, _, _, by decide, rfl, H5, Or.inr (Or.inr ⟨q2, p2, _, rfl, by decide, f5⟩)⟩
/-- the sizes that fit, both -/
theorem RZ.fitS {u w : Hp} {z : ZS} {d0 : DS} {cs : Nat → Nat} {n : Nat} {h g : Hp} (H : RZ u w z d0 cs n h g) {i r : Nat} (hi : i < zp z) (hr : r < 6) : ∃ v h' g', X9_fittingSizes (nI i) (nI r) h = some (v, h') ∧ X10_sizesOf (nI i) (nI r) g = some (v, g') ∧ RZ u w z d0 cs n h' g' := by
  have hp := H.zok.1
  unfold X9_fittingSizes X10_sizesOf
  obtain ⟨⟨s1, s2, s3⟩, ⟨t1, t2, t3⟩, e3, e4, Q1, Q2⟩ := lpp (f := fun s : Int32 × Int32 × Hp => X9_fittingSizes_s5 (nI i) (nI r) s.1 s.2.1 s.2.2) (g := fun s : Int32 × Int32 × Hp => X10_sizesOf_s5 (nI i) (nI r) s.1 s.2.1 s.2.2)
    (fun k s t => s.1 = t.1 ∧ s.2.1 = nI k ∧ t.2.1 = nI k ∧ RZ u w z d0 cs n s.2.2 t.2.2) (fun s t => s.1 = t.1 ∧ RZ u w z d0 cs n s.2.2 t.2.2) 31 (by omega) (by
      rintro k ⟨s1, s2, s3⟩ ⟨t1, t2, t3⟩ hk ⟨g1, g2, g3, g4⟩
      cases g1; cases g2; cases g3
      show (∃ s' t', X9_fittingSizes_s5 (nI i) (nI r) s1 (nI k) s3 = some (.inr s') ∧ X10_sizesOf_s5 (nI i) (nI r) s1 (nI k) t3 = some (.inr t') ∧ _) ∨ ∃ a b, X9_fittingSizes_s5 (nI i) (nI r) s1 (nI k) s3 = some (.inl a) ∧ X10_sizesOf_s5 (nI i) (nI r) s1 (nI k) t3 = some (.inl b) ∧ _
      have g4 : RZ u w z d0 cs n s3 t3 := g4
      unfold X9_fittingSizes_s5 X10_sizesOf_s5
      by_cases c : k ≤ 30
      · left
        have c' : ¬ (30 : Int32) < nI k := fun q => by have := (nll_30 (by omega)).mp q; omega
        obtain ⟨h1, h2, g1, x1, x2, x3, A⟩ := g4.size (s := k) (by omega)
        obtain ⟨v, h3, g3, y1, y2, H'⟩ := (A.own hi).fits hi hr
        rw [if_neg c', if_neg c', x1, ob_some, x2, ob_some, x3, ob_some, gd_ib (by omega) (by decide), ix_nI (by omega), A.1.k10 hi, y1, y2, ob2_some, ob2_some]
        by_cases cv : v = 0
        · rw [if_pos cv, if_pos cv, ob_some, ob_some, Int32.or_zero]
          exact ⟨_, _, rfl, rfl, by omega, rfl, nap_1 k, nap_1 k, H'⟩
        · rw [if_neg cv, if_neg cv, lt_eq, ob_some, ob_some]
          exact ⟨_, _, rfl, rfl, by omega, rfl, nap_1 k, nap_1 k, H'⟩
      · right
        have e : k = 31 := by omega
        subst e
        rw [if_pos (by decide), if_pos (by decide)]
        exact ⟨_, _, rfl, rfl, rfl, g4⟩) (s := ((0 : Int32), (0 : Int32), h)) (t := ((0 : Int32), (0 : Int32), g)) ⟨rfl, rfl, rfl, H⟩
  have Q1 : s1 = t1 := Q1
  subst Q1
  rw [e3, e4, ob3_some, ob3_some]
  exact ⟨_, _, _, rfl, rfl, Q2⟩
theorem k_sizes (a1 a2 : Int32) : Lk (X9_sizes a1 a2) (X10_sizes a1 a2) := by
  rintro u w h g ⟨z, d0, cs, n, H⟩
  unfold X9_sizes X10_sizes
  rcases had_c H a1 a2 with ⟨r, h', g', c0, e1, H', ⟨e2, rfl, rfl⟩ | ⟨e2, e3, rfl, rfl⟩ | ⟨e2, e3, q, e4, c1, e5⟩⟩ | ⟨i, r, m, hi, hr, hm1, hm, rfl, rfl, e1, e2, e3, e4, x1, x2⟩
  · rw [e1, ob2_some, if_neg c0, e2, if_pos rfl]; exact ⟨_, _, _, rfl, rfl, H'.rr⟩
  · rw [e1, ob2_some, if_neg c0, e2, if_neg n10, e3, if_pos rfl]; exact ⟨_, _, _, rfl, rfl, H'.rr⟩
  · rw [e1, ob2_some, if_neg c0, e2, if_neg n10, e3, if_neg n10, e4, ob_some, if_neg c1, ob_some, e5, ob2_some]; exact ⟨_, _, _, rfl, rfl, H'.rr⟩
  · obtain ⟨v, h', g', y1, y2, H'⟩ := H.fitS hi hr
    rw [e1, ob2_some, if_pos rfl, e2, if_neg n10, e3, if_neg n10, e4, ob_some, if_pos (by decide), y1, y2, ob2_some, ob2_some]
    exact ⟨_, _, _, rfl, rfl, H'.rr⟩
theorem k_winds (a1 a2 : Int32) : Lk (X9_winds a1 a2) (X10_winds a1 a2) := by
  rintro u w h g ⟨z, d0, cs, n, H⟩
  have hp := H.zok.1
  unfold X9_winds X10_winds
  rcases had_c H a1 a2 with ⟨r, h', g', c0, e1, H', ⟨e2, rfl, rfl⟩ | ⟨e2, e3, rfl, rfl⟩ | ⟨e2, e3, q, e4, c1, e5⟩⟩ | ⟨i, r, m, hi, hr, hm1, hm, rfl, rfl, e1, e2, e3, e4, x1, x2⟩
  · rw [e1, ob2_some, if_neg c0, e2, if_pos rfl]; exact ⟨_, _, _, rfl, rfl, H'.rr⟩
  · rw [e1, ob2_some, if_neg c0, e2, if_neg n10, e3, if_pos rfl]; exact ⟨_, _, _, rfl, rfl, H'.rr⟩
  · rw [e1, ob2_some, if_neg c0, e2, if_neg n10, e3, if_neg n10, e4, ob_some, if_neg c1, ob_some, e5, ob2_some]; exact ⟨_, _, _, rfl, rfl, H'.rr⟩
  · rw [e1, ob2_some, if_pos rfl, e2, if_neg n10, e3, if_neg n10, e4, ob_some, if_pos (by decide)]
    obtain ⟨⟨s1, s2, s3⟩, ⟨t1, t2, t3⟩, e3, e4, Q1, Q2⟩ := lpp (f := fun s : Int32 × Int32 × Hp => X9_winds_s19 (nI i) (nI r) s.1 s.2.1 s.2.2) (g := fun s : Int32 × Int32 × Hp => X10_winds_s40 (nI i) (nI r) s.1 s.2.1 s.2.2)
      (fun k s t => s.1 = t.1 ∧ s.2.1 = nI k ∧ t.2.1 = nI k ∧ RZ u w z d0 cs n s.2.2 t.2.2) (fun s t => s.1 = t.1 ∧ RZ u w z d0 cs n s.2.2 t.2.2) 3 (by omega) (by
        rintro k ⟨s1, s2, s3⟩ ⟨t1, t2, t3⟩ hk ⟨g1, g2, g3, g4⟩
        cases g1; cases g2; cases g3
        show (∃ s' t', X9_winds_s19 (nI i) (nI r) s1 (nI k) s3 = some (.inr s') ∧ X10_winds_s40 (nI i) (nI r) s1 (nI k) t3 = some (.inr t') ∧ _) ∨ ∃ a b, X9_winds_s19 (nI i) (nI r) s1 (nI k) s3 = some (.inl a) ∧ X10_winds_s40 (nI i) (nI r) s1 (nI k) t3 = some (.inl b) ∧ _
        have g4 : RZ u w z d0 cs n s3 t3 := g4
        unfold X9_winds_s19 X10_winds_s40
        by_cases c : k ≤ 2
        · left
          have c' : ¬ (2 : Int32) < nI k := fun q => by have := (nll_2 (by omega)).mp q; omega
          have c'' : ¬ (3 : Int32) ≤ nI k := fun q => by have := (nel_3 (by omega)).mp q; omega
          obtain ⟨h1, g1, x1, x2, A⟩ := g4.ahead
          obtain ⟨v, h3, g3, y1, y2, H'⟩ := ((A.uw k c).own hi).fits hi hr
          rw [if_neg c', if_neg c'', x1, ob_some, x2, ob_some, gd_true (by decide), show ix (2802 : Int32) = 2802 by decide]
          simp only [lt_eq]
          rw [gd_ib (by omega) (by decide), ix_nI (by omega), (A.uw k c).1.k10 hi, y1, y2, ob2_some, ob2_some]
          by_cases cv : v = 0
          · rw [if_pos cv, if_pos cv, ob_some, ob_some, Int32.or_zero]
            exact ⟨_, _, rfl, rfl, by omega, rfl, nap_1 k, nap_1 k, H'⟩
          · rw [if_neg cv, if_neg cv, ob_some, ob_some]
            exact ⟨_, _, rfl, rfl, by omega, rfl, nap_1 k, nap_1 k, H'⟩
        · right
          have e : k = 3 := by omega
          subst e
          rw [if_pos (by decide), if_pos (by decide)]
          exact ⟨_, _, rfl, rfl, rfl, g4⟩) (s := ((0 : Int32), (0 : Int32), h)) (t := ((0 : Int32), (0 : Int32), g)) ⟨rfl, rfl, rfl, H⟩
    have Q1 : s1 = t1 := Q1
    subst Q1
    rw [e3, e4, ob3_some, ob3_some]
    exact ⟨_, _, _, rfl, rfl, RZ.rr Q2⟩
theorem k_kinds (a1 a2 : Int32) : Lk (X9_kinds a1 a2) (X10_kinds a1 a2) := by
  rintro u w h g ⟨z, d0, cs, n, H⟩
  have hp := H.zok.1
  unfold X9_kinds X10_kinds
  rcases had_c H a1 a2 with ⟨r, h', g', c0, e1, H', ⟨e2, rfl, rfl⟩ | ⟨e2, e3, rfl, rfl⟩ | ⟨e2, e3, q, e4, c1, e5⟩⟩ | ⟨i, r, m, hi, hr, hm1, hm, rfl, rfl, e1, e2, e3, e4, x1, x2⟩
  · rw [e1, ob2_some, if_neg c0, e2, if_pos rfl]; exact ⟨_, _, _, rfl, rfl, H'.rr⟩
  · rw [e1, ob2_some, if_neg c0, e2, if_neg n10, e3, if_pos rfl]; exact ⟨_, _, _, rfl, rfl, H'.rr⟩
  · rw [e1, ob2_some, if_neg c0, e2, if_neg n10, e3, if_neg n10, e4, ob_some, if_neg c1, ob_some, e5, ob2_some]; exact ⟨_, _, _, rfl, rfl, H'.rr⟩
  · rw [e1, ob2_some, if_pos rfl, e2, if_neg n10, e3, if_neg n10, e4, ob_some, if_pos (by decide)]
    obtain ⟨⟨s1, s2, s3⟩, ⟨t1, t2, t3⟩, e3, e4, Q1, Q2⟩ := lpp (f := fun s : Int32 × Int32 × Hp => X9_kinds_s19 (nI i) (nI r) s.1 s.2.1 s.2.2) (g := fun s : Int32 × Int32 × Hp => X10_kinds_s40 (nI i) (nI r) s.1 s.2.1 s.2.2)
      (fun k s t => s.1 = t.1 ∧ s.2.1 = nI k ∧ t.2.1 = nI k ∧ RZ u w z d0 cs n s.2.2 t.2.2) (fun s t => s.1 = t.1 ∧ RZ u w z d0 cs n s.2.2 t.2.2) 6 (by omega) (by
        rintro k ⟨s1, s2, s3⟩ ⟨t1, t2, t3⟩ hk ⟨g1, g2, g3, g4⟩
        cases g1; cases g2; cases g3
        show (∃ s' t', X9_kinds_s19 (nI i) (nI r) s1 (nI k) s3 = some (.inr s') ∧ X10_kinds_s40 (nI i) (nI r) s1 (nI k) t3 = some (.inr t') ∧ _) ∨ ∃ a b, X9_kinds_s19 (nI i) (nI r) s1 (nI k) s3 = some (.inl a) ∧ X10_kinds_s40 (nI i) (nI r) s1 (nI k) t3 = some (.inl b) ∧ _
        have g4 : RZ u w z d0 cs n s3 t3 := g4
        unfold X9_kinds_s19 X10_kinds_s40
        by_cases c : k < 6
        · left
          have c' : ¬ (6 : Int32) ≤ nI k := fun q => by have := (nel_6 (by omega)).mp q; omega
          obtain ⟨h1, g1, x1, x2, A⟩ := g4.ahead
          obtain ⟨v, h3, g3, y1, y2, H'⟩ := (A.kind hi c).fits hi hr
          rw [if_neg c', if_neg c', x1, ob_some, x2, ob_some, gd_ib (by omega) (by decide), ix_nI (by omega), lt_eq, y1, y2, ob2_some, ob2_some]
          by_cases cv : v = 0
          · rw [if_pos cv, if_pos cv, ob_some, ob_some, Int32.or_zero]
            exact ⟨_, _, rfl, rfl, by omega, rfl, nap_1 k, nap_1 k, H'⟩
          · rw [if_neg cv, if_neg cv, lt_eq, ob_some, ob_some]
            exact ⟨_, _, rfl, rfl, by omega, rfl, nap_1 k, nap_1 k, H'⟩
        · right
          have e : k = 6 := by omega
          subst e
          rw [if_pos (by decide), if_pos (by decide)]
          exact ⟨_, _, rfl, rfl, rfl, g4⟩) (s := ((0 : Int32), (0 : Int32), h)) (t := ((0 : Int32), (0 : Int32), g)) ⟨rfl, rfl, rfl, H⟩
    have Q1 : s1 = t1 := Q1
    subst Q1
    rw [e3, e4, ob3_some, ob3_some]
    exact ⟨_, _, _, rfl, rfl, RZ.rr Q2⟩
