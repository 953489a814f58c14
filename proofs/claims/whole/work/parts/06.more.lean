theorem V_min {x : Cx} {cc : ByteArray} {own : String} {nL : Nat} {ret : Option FieldType} {d pc : Nat} {lv : List (Nat × Value)} {st : List Value} {h : Hp} {idx : Nat} {a b : Int32} (K : Ok x cc own nL ret (d + 1)) (hm1 : Cond.methodLink own idx Lib.Math.min.name ∈ TB) (hm2 : Cond.static Lib.Math.min.name ∈ TB) (hm3 : Cond.initialized "java/lang/Math" ∈ TB) (hm4 : Cond.code Lib.Math.min.name Lib.Math.min.code 2 (some .int) ∈ TB) (hW : (st.map fun v => v.category).sum ≤ 8) (hdg : decode cc pc = .ok (.invokestatic idx, 3)) (kk : VV x (pc + 3) lv (.int (if b < a then b else a) :: st) h) : VV x pc lv (.int b :: .int a :: st) h := by
  obtain ⟨⟨p, l, e, R, s, m, args, below, meth, c, cn, sn⟩, A, G, nL0, r, h'⟩ := x
  obtain ⟨hx, hb, hr, hlocks, hml, hnl, hown, hts, hK, hD, hA, hE, hR, hcs⟩ := K
  subst hnl
  intro H locs ls hP hS hl
  exact va_mmin hx hb (hml.trans hl.1.symm) hown (hts _ hm1) (hts _ hm2) (hts _ hm3) (hts _ hm4) (by omega) (by omega) hcs.1 hcs.2 hdg (kk H locs ls hP hS hl)
theorem V_max {x : Cx} {cc : ByteArray} {own : String} {nL : Nat} {ret : Option FieldType} {d pc : Nat} {lv : List (Nat × Value)} {st : List Value} {h : Hp} {idx : Nat} {a b : Int32} (K : Ok x cc own nL ret (d + 1)) (hm1 : Cond.methodLink own idx Lib.Math.max.name ∈ TB) (hm2 : Cond.static Lib.Math.max.name ∈ TB) (hm3 : Cond.initialized "java/lang/Math" ∈ TB) (hm4 : Cond.code Lib.Math.max.name Lib.Math.max.code 2 (some .int) ∈ TB) (hW : (st.map fun v => v.category).sum ≤ 8) (hdg : decode cc pc = .ok (.invokestatic idx, 3)) (kk : VV x (pc + 3) lv (.int (if a < b then b else a) :: st) h) : VV x pc lv (.int b :: .int a :: st) h := by
  obtain ⟨⟨p, l, e, R, s, m, args, below, meth, c, cn, sn⟩, A, G, nL0, r, h'⟩ := x
  obtain ⟨hx, hb, hr, hlocks, hml, hnl, hown, hts, hK, hD, hA, hE, hR, hcs⟩ := K
  subst hnl
  intro H locs ls hP hS hl
  exact va_mmax hx hb (hml.trans hl.1.symm) hown (hts _ hm1) (hts _ hm2) (hts _ hm3) (hts _ hm4) (by omega) (by omega) hcs.1 hcs.2 hdg (kk H locs ls hP hS hl)
theorem V_abs {x : Cx} {cc : ByteArray} {own : String} {nL : Nat} {ret : Option FieldType} {d pc : Nat} {lv : List (Nat × Value)} {st : List Value} {h : Hp} {idx : Nat} {a : Int32} (K : Ok x cc own nL ret (d + 1)) (hm1 : Cond.methodLink own idx Lib.Math.abs.name ∈ TB) (hm2 : Cond.static Lib.Math.abs.name ∈ TB) (hm3 : Cond.initialized "java/lang/Math" ∈ TB) (hm4 : Cond.code Lib.Math.abs.name Lib.Math.abs.code 1 (some .int) ∈ TB) (hW : (st.map fun v => v.category).sum ≤ 8) (hdg : decode cc pc = .ok (.invokestatic idx, 3)) (kk : VV x (pc + 3) lv (.int (if 0 ≤ a then a else 0 - a) :: st) h) : VV x pc lv (.int a :: st) h := by
  obtain ⟨⟨p, l, e, R, s, m, args, below, meth, c, cn, sn⟩, A, G, nL0, r, h'⟩ := x
  obtain ⟨hx, hb, hr, hlocks, hml, hnl, hown, hts, hK, hD, hA, hE, hR, hcs⟩ := K
  subst hnl
  intro H locs ls hP hS hl
  exact va_mabs hx hb (hml.trans hl.1.symm) hown (hts _ hm1) (hts _ hm2) (hts _ hm3) (hts _ hm4) (by omega) (by omega) hcs.1 hcs.2 hdg (kk H locs ls hP hS hl)
theorem V_copy {x : Cx} {cc : ByteArray} {own : String} {nL : Nat} {ret : Option FieldType} {d pc : Nat} {lv : List (Nat × Value)} {st : List Value} {h : Hp} {idx o0 o1 : Nat} {sp dp n : Int32} (K : Ok x cc own nL ret (d + 1)) (hm1 : Cond.methodLink own idx arraycopyName ∈ TB) (hm2 : Cond.native arraycopyName ∈ TB) (hm3 : Cond.static arraycopyName ∈ TB) (hm4 : Cond.initialized "java/lang/System" ∈ TB) (h0 : shK o0 = 12) (h1 : shK o1 = 12) (g1 : ¬ sp < 0) (g2 : ¬ dp < 0) (g3 : ¬ n < 0) (g4 : ix sp + ix n ≤ shN o0) (g5 : ix dp + ix n ≤ shN o1) (hW : (st.map fun v => v.category).sum ≤ 8) (hdg : decode cc pc = .ok (.invokestatic idx, 3)) (kk : VV x (pc + 3) lv st (upA h o1 (va_cpy (h.1 o0) (h.1 o1) (ix sp) (ix dp) (ix n)))) : VV x pc lv (.int n :: .int dp :: .ref (ad x o1) :: .int sp :: .ref (ad x o0) :: st) h := by
  obtain ⟨⟨p, l, e, R, s, m, args, below, meth, c, cn, sn⟩, A, G, nL0, r, h'⟩ := x
  obtain ⟨hx, hb, hr, hlocks, hml, hnl, hown, hts, hK, hD, hA, hE, hR, hcs⟩ := K
  subst hnl
  intro H locs ls hP hS hl
  have hnf : nativeFrameWords "java/lang/System" "arraycopy" 5 + 11 ≤ 32 := by decide
  refine va_copyi (ty := .int) hx hb (hml.trans hl.1.symm) hown (hts _ hm1) (hts _ hm2) (hts _ hm3) (hts _ hm4) hK hP (hD h) hS o0 o1 1 1 ((wd_get (sh_lt h0 (by decide))).trans (by rw [cl_12 h0])) ((wd_get (sh_lt h1 (by decide))).trans (by rw [cl_12 h1])) rfl rfl rfl g1 g2 g3 g4 g5 (fun _ _ => rfl) (by omega) (by omega) hdg (fun H1 locs1 hP1 hD1 hS1 => ?_)
  have e1 : cl_ G (upA h o1 (va_cpy (h.1 o0) (h.1 o1) (ix sp) (ix dp) (ix n))) o1 = .inl (G.2.1 1, shN o1, .inl (va_cpy (h.1 o0) (h.1 o1) (ix sp) (ix dp) (ix n))) := by
    rw [cl_12 h1]; simp [upA]
  rw [← e1, wd_set (sh_lt h1 (by decide)) upA_cl] at hP1
  exact kk H1 locs1 ls hP1 hS1 hl
theorem V_gets {x : Cx} {cc : ByteArray} {own : String} {nL : Nat} {ret : Option FieldType} {d pc : Nat} {lv : List (Nat × Value)} {st : List Value} {h : Hp} {idx : Nat} (K : Ok x cc own nL ret d) (hm : Cond.fieldLink own idx "FlossRumours" "LETTERS" "[I" ∈ TB) (hdg : decode cc pc = .ok (.getstatic idx, 3)) (kk : VV x (pc + 3) lv (.ref x.2.2.1.2.2.2 :: st) h) : VV x pc lv st h := by
  obtain ⟨⟨p, l, e, R, s, m, args, below, meth, c, cn, sn⟩, A, G, nL0, r, h'⟩ := x
  obtain ⟨hx, hb, hr, hlocks, hml, hnl, hown, hts, hK, hD, hA, hE, hR, hcs⟩ := K
  subst hnl
  intro H locs ls hP hS hl
  exact va_gets hx hb hE.2.1 hS hown (hts _ hm) (fun _ h9 => h9) hdg (kk H locs ls hP hS hl)
def lettersI (j : Nat) : Int32 := ([112, 98, 103, 119, 105, 108] : List Int32).getD j 0
theorem V_lt {x : Cx} {cc : ByteArray} {own : String} {nL : Nat} {ret : Option FieldType} {d pc : Nat} {lv : List (Nat × Value)} {st : List Value} {h : Hp} {i : Int32} (K : Ok x cc own nL ret d) (hi : ib i 6 = true) (hdg : decode cc pc = .ok (.iaload, 1)) (kk : VV x (pc + 1) lv (.int (lettersI (ix i)) :: st) h) : VV x pc lv (.int i :: .ref x.2.2.1.2.2.2 :: st) h := by
  obtain ⟨⟨p, l, e, R, s, m, args, below, meth, c, cn, sn⟩, A, G, nL0, r, h'⟩ := x
  obtain ⟨hx, hb, hr, hlocks, hml, hnl, hown, hts, hK, hD, hA, hE, hR, hcs⟩ := K
  subst hnl
  intro H locs ls hP hS hl
  exact va_ti hx hb hE.2.2.1 hS (ib_in hi) rfl hdg (kk H locs ls hP hS hl)
def isP (p : Nat) : Prop := p = 45 ∨ p = 46 ∨ p = 47 ∨ p = 48 ∨ p = 49 ∨ p = 50
def inBeard (p : Nat) : Int32 := if p = 46 ∨ p = 49 then 1 else 0
theorem V_instBeard {x : Cx} {cc : ByteArray} {own : String} {nL : Nat} {ret : Option FieldType} {d pc : Nat} {lv : List (Nat × Value)} {st : List Value} {h : Hp} {idx p : Nat} (K : Ok x cc own nL ret d) (hm : Cond.classLink own idx "FlossRumours$Beard" ∈ TB) (hp : isP p) (hdg : decode cc pc = .ok (.instanceof idx, 3)) (kk : VV x (pc + 3) lv (.int (inBeard p) :: st) h) : VV x pc lv (.ref (ad x p) :: st) h := by
  obtain ⟨⟨p, l, e, R, s, m, args, below, meth, c, cn, sn⟩, A, G, nL0, r, h'⟩ := x
  obtain ⟨hx, hb, hr, hlocks, hml, hnl, hown, hts, hK, hD, hA, hE, hR, hcs⟩ := K
  subst hnl
  intro H locs ls hP hS hl
  have kk2 := kk H locs ls hP hS hl
  rcases hp with rfl | rfl | rfl | rfl | rfl | rfl
  · exact va_instNo hx hb hown (hts _ hm) (hE.1 ("FlossRumours$Person", "FlossRumours$Beard") (by decide)) (va_recv hK hP (ci := 7) rfl ((wd_get (i := 45) (by decide)).trans (by rw [cl_7 (i := 45) (by decide)]))) hdg kk2
  · exact va_instS hx hb hown (hts _ hm) (hK.1 1 _ rfl).2 (va_recv hK hP (ci := 1) rfl ((wd_get (i := 46) (by decide)).trans (by rw [cl_1 (i := 46) (by decide)]))) hdg kk2
  · exact va_instNo hx hb hown (hts _ hm) (hE.1 ("FlossRumours$Bag", "FlossRumours$Beard") (by decide)) (va_recv hK hP (ci := 0) rfl ((wd_get (i := 47) (by decide)).trans (by rw [cl_0 (i := 47) (by decide)]))) hdg kk2
  · exact va_instNo hx hb hown (hts _ hm) (hE.1 ("FlossRumours$Wasp", "FlossRumours$Beard") (by decide)) (va_recv hK hP (ci := 8) rfl ((wd_get (i := 48) (by decide)).trans (by rw [cl_8 (i := 48) (by decide)]))) hdg kk2
  · exact va_instY hx hb hown (hts _ hm) (hE.2.2.2 ("FlossRumours$Bishop", "FlossRumours$Beard") (by decide)) (va_recv hK hP (ci := 2) rfl ((wd_get (i := 49) (by decide)).trans (by rw [cl_2 (i := 49) (by decide)]))) hdg kk2
  · exact va_instNo hx hb hown (hts _ hm) (hE.1 ("FlossRumours$Girl", "FlossRumours$Beard") (by decide)) (va_recv hK hP (ci := 5) rfl ((wd_get (i := 50) (by decide)).trans (by rw [cl_5 (i := 50) (by decide)]))) hdg kk2

def inBag (p : Nat) : Int32 := if p = 47 then 1 else 0
theorem V_instBag {x : Cx} {cc : ByteArray} {own : String} {nL : Nat} {ret : Option FieldType} {d pc : Nat} {lv : List (Nat × Value)} {st : List Value} {h : Hp} {idx p : Nat} (K : Ok x cc own nL ret d) (hm : Cond.classLink own idx "FlossRumours$Bag" ∈ TB) (hp : isP p) (hdg : decode cc pc = .ok (.instanceof idx, 3)) (kk : VV x (pc + 3) lv (.int (inBag p) :: st) h) : VV x pc lv (.ref (ad x p) :: st) h := by
  obtain ⟨⟨p, l, e, R, s, m, args, below, meth, c, cn, sn⟩, A, G, nL0, r, h'⟩ := x
  obtain ⟨hx, hb, hr, hlocks, hml, hnl, hown, hts, hK, hD, hA, hE, hR, hcs⟩ := K
  subst hnl
  intro H locs ls hP hS hl
  have kk2 := kk H locs ls hP hS hl
  rcases hp with rfl | rfl | rfl | rfl | rfl | rfl
  · exact va_instNo hx hb hown (hts _ hm) (hE.1 ("FlossRumours$Person", "FlossRumours$Bag") (by decide)) (va_recv hK hP (ci := 7) rfl ((wd_get (i := 45) (by decide)).trans (by rw [cl_7 (i := 45) (by decide)]))) hdg kk2
  · exact va_instNo hx hb hown (hts _ hm) (hE.1 ("FlossRumours$Beard", "FlossRumours$Bag") (by decide)) (va_recv hK hP (ci := 1) rfl ((wd_get (i := 46) (by decide)).trans (by rw [cl_1 (i := 46) (by decide)]))) hdg kk2
  · exact va_instS hx hb hown (hts _ hm) (hK.1 0 _ rfl).2 (va_recv hK hP (ci := 0) rfl ((wd_get (i := 47) (by decide)).trans (by rw [cl_0 (i := 47) (by decide)]))) hdg kk2
  · exact va_instNo hx hb hown (hts _ hm) (hE.1 ("FlossRumours$Wasp", "FlossRumours$Bag") (by decide)) (va_recv hK hP (ci := 8) rfl ((wd_get (i := 48) (by decide)).trans (by rw [cl_8 (i := 48) (by decide)]))) hdg kk2
  · exact va_instNo hx hb hown (hts _ hm) (hE.1 ("FlossRumours$Bishop", "FlossRumours$Bag") (by decide)) (va_recv hK hP (ci := 2) rfl ((wd_get (i := 49) (by decide)).trans (by rw [cl_2 (i := 49) (by decide)]))) hdg kk2
  · exact va_instNo hx hb hown (hts _ hm) (hE.1 ("FlossRumours$Girl", "FlossRumours$Bag") (by decide)) (va_recv hK hP (ci := 5) rfl ((wd_get (i := 50) (by decide)).trans (by rw [cl_5 (i := 50) (by decide)]))) hdg kk2

def inWasp (p : Nat) : Int32 := if p = 48 ∨ p = 50 then 1 else 0
theorem V_instWasp {x : Cx} {cc : ByteArray} {own : String} {nL : Nat} {ret : Option FieldType} {d pc : Nat} {lv : List (Nat × Value)} {st : List Value} {h : Hp} {idx p : Nat} (K : Ok x cc own nL ret d) (hm : Cond.classLink own idx "FlossRumours$Wasp" ∈ TB) (hp : isP p) (hdg : decode cc pc = .ok (.instanceof idx, 3)) (kk : VV x (pc + 3) lv (.int (inWasp p) :: st) h) : VV x pc lv (.ref (ad x p) :: st) h := by
  obtain ⟨⟨p, l, e, R, s, m, args, below, meth, c, cn, sn⟩, A, G, nL0, r, h'⟩ := x
  obtain ⟨hx, hb, hr, hlocks, hml, hnl, hown, hts, hK, hD, hA, hE, hR, hcs⟩ := K
  subst hnl
  intro H locs ls hP hS hl
  have kk2 := kk H locs ls hP hS hl
  rcases hp with rfl | rfl | rfl | rfl | rfl | rfl
  · exact va_instNo hx hb hown (hts _ hm) (hE.1 ("FlossRumours$Person", "FlossRumours$Wasp") (by decide)) (va_recv hK hP (ci := 7) rfl ((wd_get (i := 45) (by decide)).trans (by rw [cl_7 (i := 45) (by decide)]))) hdg kk2
  · exact va_instNo hx hb hown (hts _ hm) (hE.1 ("FlossRumours$Beard", "FlossRumours$Wasp") (by decide)) (va_recv hK hP (ci := 1) rfl ((wd_get (i := 46) (by decide)).trans (by rw [cl_1 (i := 46) (by decide)]))) hdg kk2
  · exact va_instNo hx hb hown (hts _ hm) (hE.1 ("FlossRumours$Bag", "FlossRumours$Wasp") (by decide)) (va_recv hK hP (ci := 0) rfl ((wd_get (i := 47) (by decide)).trans (by rw [cl_0 (i := 47) (by decide)]))) hdg kk2
  · exact va_instS hx hb hown (hts _ hm) (hK.1 8 _ rfl).2 (va_recv hK hP (ci := 8) rfl ((wd_get (i := 48) (by decide)).trans (by rw [cl_8 (i := 48) (by decide)]))) hdg kk2
  · exact va_instNo hx hb hown (hts _ hm) (hE.1 ("FlossRumours$Bishop", "FlossRumours$Wasp") (by decide)) (va_recv hK hP (ci := 2) rfl ((wd_get (i := 49) (by decide)).trans (by rw [cl_2 (i := 49) (by decide)]))) hdg kk2
  · exact va_instY hx hb hown (hts _ hm) (hE.2.2.2 ("FlossRumours$Girl", "FlossRumours$Wasp") (by decide)) (va_recv hK hP (ci := 5) rfl ((wd_get (i := 50) (by decide)).trans (by rw [cl_5 (i := 50) (by decide)]))) hdg kk2

def inBishop (p : Nat) : Int32 := if p = 49 then 1 else 0
theorem V_instBishop {x : Cx} {cc : ByteArray} {own : String} {nL : Nat} {ret : Option FieldType} {d pc : Nat} {lv : List (Nat × Value)} {st : List Value} {h : Hp} {idx p : Nat} (K : Ok x cc own nL ret d) (hm : Cond.classLink own idx "FlossRumours$Bishop" ∈ TB) (hp : isP p) (hdg : decode cc pc = .ok (.instanceof idx, 3)) (kk : VV x (pc + 3) lv (.int (inBishop p) :: st) h) : VV x pc lv (.ref (ad x p) :: st) h := by
  obtain ⟨⟨p, l, e, R, s, m, args, below, meth, c, cn, sn⟩, A, G, nL0, r, h'⟩ := x
  obtain ⟨hx, hb, hr, hlocks, hml, hnl, hown, hts, hK, hD, hA, hE, hR, hcs⟩ := K
  subst hnl
  intro H locs ls hP hS hl
  have kk2 := kk H locs ls hP hS hl
  rcases hp with rfl | rfl | rfl | rfl | rfl | rfl
  · exact va_instNo hx hb hown (hts _ hm) (hE.1 ("FlossRumours$Person", "FlossRumours$Bishop") (by decide)) (va_recv hK hP (ci := 7) rfl ((wd_get (i := 45) (by decide)).trans (by rw [cl_7 (i := 45) (by decide)]))) hdg kk2
  · exact va_instNo hx hb hown (hts _ hm) (hE.1 ("FlossRumours$Beard", "FlossRumours$Bishop") (by decide)) (va_recv hK hP (ci := 1) rfl ((wd_get (i := 46) (by decide)).trans (by rw [cl_1 (i := 46) (by decide)]))) hdg kk2
  · exact va_instNo hx hb hown (hts _ hm) (hE.1 ("FlossRumours$Bag", "FlossRumours$Bishop") (by decide)) (va_recv hK hP (ci := 0) rfl ((wd_get (i := 47) (by decide)).trans (by rw [cl_0 (i := 47) (by decide)]))) hdg kk2
  · exact va_instNo hx hb hown (hts _ hm) (hE.1 ("FlossRumours$Wasp", "FlossRumours$Bishop") (by decide)) (va_recv hK hP (ci := 8) rfl ((wd_get (i := 48) (by decide)).trans (by rw [cl_8 (i := 48) (by decide)]))) hdg kk2
  · exact va_instS hx hb hown (hts _ hm) (hK.1 2 _ rfl).2 (va_recv hK hP (ci := 2) rfl ((wd_get (i := 49) (by decide)).trans (by rw [cl_2 (i := 49) (by decide)]))) hdg kk2
  · exact va_instNo hx hb hown (hts _ hm) (hE.1 ("FlossRumours$Girl", "FlossRumours$Bishop") (by decide)) (va_recv hK hP (ci := 5) rfl ((wd_get (i := 50) (by decide)).trans (by rw [cl_5 (i := 50) (by decide)]))) hdg kk2

def inGirl (p : Nat) : Int32 := if p = 50 then 1 else 0
theorem V_instGirl {x : Cx} {cc : ByteArray} {own : String} {nL : Nat} {ret : Option FieldType} {d pc : Nat} {lv : List (Nat × Value)} {st : List Value} {h : Hp} {idx p : Nat} (K : Ok x cc own nL ret d) (hm : Cond.classLink own idx "FlossRumours$Girl" ∈ TB) (hp : isP p) (hdg : decode cc pc = .ok (.instanceof idx, 3)) (kk : VV x (pc + 3) lv (.int (inGirl p) :: st) h) : VV x pc lv (.ref (ad x p) :: st) h := by
  obtain ⟨⟨p, l, e, R, s, m, args, below, meth, c, cn, sn⟩, A, G, nL0, r, h'⟩ := x
  obtain ⟨hx, hb, hr, hlocks, hml, hnl, hown, hts, hK, hD, hA, hE, hR, hcs⟩ := K
  subst hnl
  intro H locs ls hP hS hl
  have kk2 := kk H locs ls hP hS hl
  rcases hp with rfl | rfl | rfl | rfl | rfl | rfl
  · exact va_instNo hx hb hown (hts _ hm) (hE.1 ("FlossRumours$Person", "FlossRumours$Girl") (by decide)) (va_recv hK hP (ci := 7) rfl ((wd_get (i := 45) (by decide)).trans (by rw [cl_7 (i := 45) (by decide)]))) hdg kk2
  · exact va_instNo hx hb hown (hts _ hm) (hE.1 ("FlossRumours$Beard", "FlossRumours$Girl") (by decide)) (va_recv hK hP (ci := 1) rfl ((wd_get (i := 46) (by decide)).trans (by rw [cl_1 (i := 46) (by decide)]))) hdg kk2
  · exact va_instNo hx hb hown (hts _ hm) (hE.1 ("FlossRumours$Bag", "FlossRumours$Girl") (by decide)) (va_recv hK hP (ci := 0) rfl ((wd_get (i := 47) (by decide)).trans (by rw [cl_0 (i := 47) (by decide)]))) hdg kk2
  · exact va_instNo hx hb hown (hts _ hm) (hE.1 ("FlossRumours$Wasp", "FlossRumours$Girl") (by decide)) (va_recv hK hP (ci := 8) rfl ((wd_get (i := 48) (by decide)).trans (by rw [cl_8 (i := 48) (by decide)]))) hdg kk2
  · exact va_instNo hx hb hown (hts _ hm) (hE.1 ("FlossRumours$Bishop", "FlossRumours$Girl") (by decide)) (va_recv hK hP (ci := 2) rfl ((wd_get (i := 49) (by decide)).trans (by rw [cl_2 (i := 49) (by decide)]))) hdg kk2
  · exact va_instS hx hb hown (hts _ hm) (hK.1 5 _ rfl).2 (va_recv hK hP (ci := 5) rfl ((wd_get (i := 50) (by decide)).trans (by rw [cl_5 (i := 50) (by decide)]))) hdg kk2

theorem V_callO {x : Cx} {cc : ByteArray} {own : String} {nL : Nat} {ret : Option FieldType} {d pc : Nat} {lv : List (Nat × Value)} {st : List Value} {h : Hp} {y : MethodName} {bytes : ByteArray} {maxL idx n : Nat} {rt : Option FieldType} {As : (Nat → Nat) → List Value} {rr : (Nat → Nat) → Option Value} {h2 : Hp} {o ci : Nat} {fs : List Value} {T : u_T} {N : Nat} {C owner : String} {xm : MethodName} {b0 : ByteArray} {m0 : Nat} {r0 : Option FieldType} (K : Ok x cc own nL ret (d + 1)) (Rn : Runs d y bytes maxL rt (fun f => .ref (f o) :: As f) h rr h2) (ho : o < 65) (hc : cl_ x.2.2.1 h o = .inr (ci, fs)) (hcl : vwCl[ci]? = some (C, T, N)) (hm1 : Cond.methodLink own idx xm ∈ TB) (hm2 : Cond.sameMethod xm.cls owner xm.name xm.desc ∈ TB) (hm3 : Cond.instanceMethod ⟨owner, xm.name, xm.desc⟩ ∈ TB) (hm4 : Cond.selects C xm y ∈ TB) (hm6 : Cond.instanceMethod y ∈ TB) (hm7 : Cond.initialized y.cls ∈ TB) (hm8 : Cond.code ⟨owner, xm.name, xm.desc⟩ b0 m0 r0 ∈ TB) (hd : owner ≠ "java/lang/invoke/MethodHandle" ∧ owner ≠ "java/lang/invoke/VarHandle" ∧ (parseMethodDescriptor xm.desc).map (fun d => d.parameters.length) = some n) (hm5 : Cond.code y bytes maxL rt ∈ TB) (hx5 : maxL ≤ 20) (hdg : decode cc pc = .ok (.invokevirtual idx, 3)) (hn : (As (ad x)).length = n) (hW : (st.map fun v => v.category).sum ≤ 8) (kk : VV x (pc + 3) lv ((rr (ad x)).toList ++ st) h2) : VV x pc lv ((As (ad x)).reverse ++ .ref (ad x o) :: st) h := by
  obtain ⟨⟨p, l, e, R, s, m, args, below, meth, c, cn, sn⟩, A, G, nL0, r, h'⟩ := x
  obtain ⟨hx, hb, hr, hlocks, hml, hnl, hown, hts, hK, hD, hA, hE, hR, hcs⟩ := K
  subst hnl
  intro H locs ls hP hS hl
  have hF : ∀ q, va_A (wd G h) H.size q → A q := by
    intro q hq
    rcases hq with ⟨k, e, hk⟩ | hq
    · exact (hD h).2 k _ hk
    · exact hA q (Nat.le_trans hS.1 hq)
  have hbl : FrameBlind (va_Pc (.ref (G.2.2.1 o) :: As G.2.2.1) (PP G H.size h)) := fun a U g mk q => by
    obtain ⟨q0, q1, qP, qK, qD, qE⟩ := q
    exact ⟨q0, q1, qP, va_K.moved (u := U) (U := U.calling g mk a) (Vm.Alike.refl U.vm) qK, qD, qE.moved (u := U.calling g mk a) (Vm.Alike.refl U.vm)⟩
  have hpre : ∀ U : State, U.heap = H → s.WarmedH U.vm → va_Pc (.ref (G.2.2.1 o) :: As G.2.2.1) (PP G H.size h) (.ref (G.2.2.1 o) :: As G.2.2.1).toArray U := fun U hU hW => ⟨rfl, by rw [hU], by rw [hU]; exact hP, va_K.moved hW.alike hK, (hD h).weaken (fun _ _ _ _ => trivial), by rw [hU]; exact ((hE.kept hS.2.1).narrow hF).moved hW.alike⟩
  have hcode : (Cond.code y bytes maxL rt) ∈ (.code y bytes maxL rt :: TB : List Cond) := List.mem_cons_self
  have hGI : GoodIn TB (.code y bytes maxL rt :: TB) := fun w hw => by
    rcases List.mem_cons.mp hw with e | hw
    · rw [e]; exact TB_self _ hm5
    · exact TB_self _ hw
  have hroom : (rmD d).frames + 1 ≤ R.frames ∧ 8 + (maxL + 11) + (rmD d).locals ≤ R.locals := by
    show d + 1 ≤ R.frames ∧ 8 + (maxL + 11) + 40 * d ≤ R.locals
    omega
  have hT9 : GoodIn TB (va_wsO own idx C owner xm y (.code y bytes maxL rt :: TB)) := fun w hw => by
    rcases List.mem_append.mp hw with h9 | h9
    · rcases List.mem_cons.mp h9 with e | h9
      · rw [e]; exact TB_self _ hm1
      · rcases List.mem_cons.mp h9 with e | h9
        · rw [e]; exact TB_self _ hm2
        · rcases List.mem_cons.mp h9 with e | h9
          · rw [e]; exact TB_self _ hm3
          · rcases List.mem_cons.mp h9 with e | h9
            · rw [e]; exact TB_self _ hm4
            · rcases List.mem_cons.mp h9 with e | h9
              · rw [e]; exact TB_self _ hm6
              · rcases List.mem_cons.mp h9 with e | h9
                · rw [e]; exact TB_self _ hm7
                · cases h9
    · exact hGI _ h9
  have RR := va_runU (locs := locs) (cells := cn) (slots := sn) (below := below) (e := e) (meth := meth) (H := H) (rest := st) (As := As G.2.2.1) (b := G.2.2.1 o) (g := F0 m pc ls ((As G.2.2.1).reverse ++ .ref (G.2.2.1 o) :: st)) ⟨hx, hb, hml, hown, hts⟩ (Rn l G H.size) (va_cwO n hts hT9 rfl rfl rfl hm8 hd hroom) ⟨hbl, va_recv hK hP hcl ((wd_get ho).trans (by rw [hc])), hpre⟩ rfl hn hl.1 rfl (by show 2 * 0 + _ ≤ 8; omega) hdg hcs
  intro T hT X
  obtain ⟨v, st₀, t, T', L, h0, X', hL, e1, e2, ⟨hv, hP1, hFr⟩, stp⟩ := RR T hT X
  cases hv
  have hz : H.size ≤ t.heap.size := by have := hFr.1; rw [h0] at this; exact this
  obtain ⟨t2, a1, b1⟩ := kk T'.heap (locs ++ L) ls (by rw [e1]; exact hP1) ⟨Nat.le_trans hS.1 (by rw [e1]; exact hz), fun q h1 h2 => by
      rw [e1, hFr.2 q (by rw [h0]; exact Nat.lt_of_lt_of_le h1 hS.1) (fun z => h2 (hF q z)), h0]; exact hS.2.1 q h1 h2, fun q hq => by
      rcases List.mem_append.mp hq with h | h
      · exact hS.2.2 q h
      · exact hF _ (hL q h)⟩ hl T' rfl X'
  exact ⟨t2, stp t2 a1, b1⟩
theorem V_callSU {x : Cx} {cc : ByteArray} {own : String} {nL : Nat} {ret : Option FieldType} {d pc : Nat} {lv : List (Nat × Value)} {st : List Value} {h : Hp} {y : MethodName} {bytes : ByteArray} {maxL idx n : Nat} {rt : Option FieldType} {As : (Nat → Nat) → List Value} {rr : (Nat → Nat) → Option Value} {h2 : Hp} {o ci : Nat} {fs : List Value} {T : u_T} {N : Nat} {C : String} (K : Ok x cc own nL ret (d + 1)) (Rn : Runs d y bytes maxL rt (fun f => .ref (f o) :: As f) h rr h2) (ho : o < 65) (hc : cl_ x.2.2.1 h o = .inr (ci, fs)) (hcl : vwCl[ci]? = some (C, T, N)) (hm1 : Cond.methodLink own idx y ∈ TB) (hm2 : Cond.sameMethod y.cls y.cls y.name y.desc ∈ TB) (hm3 : Cond.superclass own y.cls ∈ TB) (hm4 : Cond.instanceMethod y ∈ TB) (hm6 : Cond.initialized y.cls ∈ TB) (hd : y.name ≠ "<init>" ∧ (parseMethodDescriptor y.desc).map (fun d => d.parameters.length) = some n) (hm5 : Cond.code y bytes maxL rt ∈ TB) (hx5 : maxL ≤ 20) (hdg : decode cc pc = .ok (.invokespecial idx, 3)) (hn : (As (ad x)).length = n) (hW : (st.map fun v => v.category).sum ≤ 8) (kk : VV x (pc + 3) lv ((rr (ad x)).toList ++ st) h2) : VV x pc lv ((As (ad x)).reverse ++ .ref (ad x o) :: st) h := by
  obtain ⟨⟨p, l, e, R, s, m, args, below, meth, c, cn, sn⟩, A, G, nL0, r, h'⟩ := x
  obtain ⟨hx, hb, hr, hlocks, hml, hnl, hown, hts, hK, hD, hA, hE, hR, hcs⟩ := K
  subst hnl
  intro H locs ls hP hS hl
  have hF : ∀ q, va_A (wd G h) H.size q → A q := by
    intro q hq
    rcases hq with ⟨k, e, hk⟩ | hq
    · exact (hD h).2 k _ hk
    · exact hA q (Nat.le_trans hS.1 hq)
  have hbl : FrameBlind (va_Pc (.ref (G.2.2.1 o) :: As G.2.2.1) (PP G H.size h)) := fun a U g mk q => by
    obtain ⟨q0, q1, qP, qK, qD, qE⟩ := q
    exact ⟨q0, q1, qP, va_K.moved (u := U) (U := U.calling g mk a) (Vm.Alike.refl U.vm) qK, qD, qE.moved (u := U.calling g mk a) (Vm.Alike.refl U.vm)⟩
  have hpre : ∀ U : State, U.heap = H → s.WarmedH U.vm → va_Pc (.ref (G.2.2.1 o) :: As G.2.2.1) (PP G H.size h) (.ref (G.2.2.1 o) :: As G.2.2.1).toArray U := fun U hU hW => ⟨rfl, by rw [hU], by rw [hU]; exact hP, va_K.moved hW.alike hK, (hD h).weaken (fun _ _ _ _ => trivial), by rw [hU]; exact ((hE.kept hS.2.1).narrow hF).moved hW.alike⟩
  have hcode : (Cond.code y bytes maxL rt) ∈ (.code y bytes maxL rt :: TB : List Cond) := List.mem_cons_self
  have hGI : GoodIn TB (.code y bytes maxL rt :: TB) := fun w hw => by
    rcases List.mem_cons.mp hw with e | hw
    · rw [e]; exact TB_self _ hm5
    · exact TB_self _ hw
  have hroom : (rmD d).frames + 1 ≤ R.frames ∧ 8 + (maxL + 11) + (rmD d).locals ≤ R.locals := by
    show d + 1 ≤ R.frames ∧ 8 + (maxL + 11) + 40 * d ≤ R.locals
    omega
  have hT9 : GoodIn TB (va_wsSU own idx y (.code y bytes maxL rt :: TB)) := fun w hw => by
    rcases List.mem_append.mp hw with h9 | h9
    · rcases List.mem_cons.mp h9 with e | h9
      · rw [e]; exact TB_self _ hm1
      · rcases List.mem_cons.mp h9 with e | h9
        · rw [e]; exact TB_self _ hm2
        · rcases List.mem_cons.mp h9 with e | h9
          · rw [e]; exact TB_self _ hm3
          · rcases List.mem_cons.mp h9 with e | h9
            · rw [e]; exact TB_self _ hm4
            · rcases List.mem_cons.mp h9 with e | h9
              · rw [e]; exact TB_self _ hm6
              · cases h9
    · exact hGI _ h9
  have RR := va_runSU (locs := locs) (cells := cn) (slots := sn) (below := below) (e := e) (meth := meth) (H := H) (rest := st) (As := As G.2.2.1) (b := G.2.2.1 o) (g := F0 m pc ls ((As G.2.2.1).reverse ++ .ref (G.2.2.1 o) :: st)) (hK.1 ci _ hcl).2 ⟨hx, hb, hml, hown, hts⟩ (Rn l G H.size) (va_cwSU n hts hT9 rfl rfl rfl hd hroom) ⟨hbl, va_recv hK hP hcl ((wd_get ho).trans (by rw [hc])), hpre⟩ rfl hn hl.1 rfl (by show 2 * 0 + _ ≤ 8; omega) hdg hcs
  intro T hT X
  obtain ⟨v, st₀, t, T', L, h0, X', hL, e1, e2, ⟨hv, hP1, hFr⟩, stp⟩ := RR T hT X
  cases hv
  have hz : H.size ≤ t.heap.size := by have := hFr.1; rw [h0] at this; exact this
  obtain ⟨t2, a1, b1⟩ := kk T'.heap (locs ++ L) ls (by rw [e1]; exact hP1) ⟨Nat.le_trans hS.1 (by rw [e1]; exact hz), fun q h1 h2 => by
      rw [e1, hFr.2 q (by rw [h0]; exact Nat.lt_of_lt_of_le h1 hS.1) (fun z => h2 (hF q z)), h0]; exact hS.2.1 q h1 h2, fun q hq => by
      rcases List.mem_append.mp hq with h | h
      · exact hS.2.2 q h
      · exact hF _ (hL q h)⟩ hl T' rfl X'
  exact ⟨t2, stp t2 a1, b1⟩
def lt_ {α β : Type} (a : α) (f : α → β) : β := f a
theorem lt_inv {α β : Type} {a : α} {f : α → β} {z : β} (E : lt_ a f = z) : ∃ v, v = a ∧ f v = z := ⟨a, rfl, E⟩
def ob {α β : Type} (a : Option α) (f : α → Option β) : Option β := match a with
  | none => none
  | some v => f v
theorem ob_inv {α β : Type} {a : Option α} {f : α → Option β} {z : β} (E : ob a f = some z) : ∃ v, a = some v ∧ f v = some z := by
  cases a with
  | none => cases E
  | some v => exact ⟨v, rfl, E⟩
def gd {β : Type} (b : Bool) (f : Option β) : Option β := if b = true then f else none
theorem gd_inv {β : Type} {b : Bool} {f : Option β} {z : β} (E : gd b f = some z) : b = true ∧ f = some z := by
  cases b with
  | false => cases E
  | true => exact ⟨rfl, E⟩
theorem if_inv {β : Type} {c : Prop} [Decidable c] {f g : β} {z : β} (E : (if c then f else g) = z) : (c ∧ f = z) ∨ (¬ c ∧ g = z) := by
  by_cases h : c
  · exact Or.inl ⟨h, (if_pos h).symm.trans E⟩
  · exact Or.inr ⟨h, (if_neg h).symm.trans E⟩
/-- a step ends (inl) or goes on (inr) -/
def lp {σ ρ : Type} (step : σ → Option (ρ ⊕ σ)) : Nat → σ → Option ρ
  | 0, _ => none
  | n + 1, s => match step s with
    | none => none
    | some (.inl r) => some r
    | some (.inr t) => lp step n t
theorem lp_walk {σ ρ : Type} {step : σ → Option (ρ ⊕ σ)} {Vh : σ → Prop} {Vx : ρ → Prop} (body : ∀ s z, step s = some z → (match z with | .inl r => Vx r | .inr t => Vh t) → Vh s) : ∀ n s r, lp step n s = some r → Vx r → Vh s := by
  intro n
  induction n with
  | zero => intro s r E; cases E
  | succ n ih =>
    intro s r E T
    cases hs : step s with
    | none => unfold lp at E; rw [hs] at E; cases E
    | some z =>
      unfold lp at E; rw [hs] at E
      cases z with
      | inl r' => cases E; exact body s _ hs T
      | inr t => exact body s _ hs (ih t r E T)

