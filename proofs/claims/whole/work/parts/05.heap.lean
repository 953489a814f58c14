def ib (i : Int32) (n : Nat) : Bool := decide (¬ (i < 0 ∨ n ≤ i.toNatClampNeg))
theorem ib_in {i : Int32} {n : Nat} (h : ib i n = true) : vp_in i n := by unfold ib at h; exact of_decide_eq_true (p := ¬ (i < 0 ∨ n ≤ i.toNatClampNeg)) h
abbrev ix (i : Int32) : Nat := i.toNatClampNeg
theorem V_get {x : Cx} {cc : ByteArray} {own : String} {nL : Nat} {ret : Option FieldType} {d pc : Nat} {lv : List (Nat × Value)} {st : List Value} {h : Hp} {o ci idx : Nat} {fs : List Value} {C : String} {T : u_T} {N : Nat} {v : Value} (K : Ok x cc own nL ret d) (ho : o < 65) (hc : cl_ x.2.2.1 h o = .inr (ci, fs)) (hcl : vwCl[ci]? = some (C, T, N)) (hin : ∀ w ∈ u_ws C T N, w ∈ TB) (k : Nat) (hk : k < N) (hm : Cond.fieldLink own idx (T k).1 (T k).2.1 (T k).2.2.1 ∈ TB) (hv : fs[k]? = some v) (hdg : decode cc pc = .ok (.getfield idx, 3)) (kk : VV x (pc + 3) lv (v :: st) h) : VV x pc lv (.ref (ad x o) :: st) h := by
  obtain ⟨⟨p, l, e, R, s, m, args, below, meth, c, cn, sn⟩, A, G, nL0, r, h'⟩ := x
  obtain ⟨hx, hb, hr, hlocks, hml, hnl, hown, hts, hK, hD, hA, hE, hR, hcs⟩ := K
  subst hnl
  intro H locs ls hP hS hl
  exact va_get hx hb hts hin hown hK hP o ((wd_get ho).trans (by rw [hc])) hcl k hk (hts _ hm) (fun _ h9 => h9) hv hdg (kk H locs ls hP hS hl)
theorem V_put {x : Cx} {cc : ByteArray} {own : String} {nL : Nat} {ret : Option FieldType} {d pc : Nat} {lv : List (Nat × Value)} {st : List Value} {h : Hp} {h2 : Hp} {o ci idx : Nat} {fs : List Value} {C : String} {T : u_T} {N : Nat} {v : Value} {ty : FieldType} (K : Ok x cc own nL ret d) (ho : o < 65) (hc : cl_ x.2.2.1 h o = .inr (ci, fs)) (hcl : vwCl[ci]? = some (C, T, N)) (hin : ∀ w ∈ u_ws C T N, w ∈ TB) (ty0 : Nat → FieldType) (hty : ∀ k, k < N → parseFieldDescriptor (T k).2.2.1 = some (ty0 k)) (hnm : ∀ a, a < N → ∀ b, b < N → a ≠ b → (T a).2.1 ≠ (T b).2.1) (k : Nat) (hk : k < N) (hm : Cond.fieldLink own idx (T k).1 (T k).2.1 (T k).2.2.1 ∈ TB) (hfin : (T k).2.2.2 = false) (hd : parseFieldDescriptor (T k).2.2.1 = some ty) (hn : narrow ty v = v) (hfit : fits ty v = true) (hlen : k < fs.length) (hc2 : cl_ x.2.2.1 h2 o = .inr (ci, fs.set k v)) (hoth : ∀ j, j ≠ o → cl_ x.2.2.1 h2 j = cl_ x.2.2.1 h j) (hdg : decode cc pc = .ok (.putfield idx, 3)) (kk : VV x (pc + 3) lv st h2) : VV x pc lv (v :: .ref (ad x o) :: st) h := by
  obtain ⟨⟨p, l, e, R, s, m, args, below, meth, c, cn, sn⟩, A, G, nL0, r, h'⟩ := x
  obtain ⟨hx, hb, hr, hlocks, hml, hnl, hown, hts, hK, hD, hA, hE, hR, hcs⟩ := K
  subst hnl
  intro H locs ls hP hS hl
  refine va_put hx hb hts hin ty0 hty hnm hown hK hP (hD h) hS o ((wd_get ho).trans (by rw [hc])) hcl k hk (hts _ hm) (fun _ h9 => h9) hfin hd hn hfit hlen hdg (fun H1 locs1 hP1 hD1 hS1 => ?_)
  rw [← hc2, wd_set ho hoth] at hP1
  exact kk H1 locs1 ls hP1 hS1 hl
theorem V_iaload {x : Cx} {cc : ByteArray} {own : String} {nL : Nat} {ret : Option FieldType} {d pc : Nat} {lv : List (Nat × Value)} {st : List Value} {h : Hp} {o : Nat} {i : Int32} (K : Ok x cc own nL ret d) (ho : shK o = 12) (hi : ib i (shN o) = true) (hdg : decode cc pc = .ok (.iaload, 1)) (kk : VV x (pc + 1) lv (.int (h.1 o (ix i)) :: st) h) : VV x pc lv (.int i :: .ref (ad x o) :: st) h := by
  obtain ⟨⟨p, l, e, R, s, m, args, below, meth, c, cn, sn⟩, A, G, nL0, r, h'⟩ := x
  obtain ⟨hx, hb, hr, hlocks, hml, hnl, hown, hts, hK, hD, hA, hE, hR, hcs⟩ := K
  subst hnl
  intro H locs ls hP hS hl
  exact va_iald hx hb hK hP o 1 ((wd_get (sh_lt ho (by decide))).trans (by rw [cl_12 ho])) rfl (ib_in hi) hdg (kk H locs ls hP hS hl)
theorem V_baload {x : Cx} {cc : ByteArray} {own : String} {nL : Nat} {ret : Option FieldType} {d pc : Nat} {lv : List (Nat × Value)} {st : List Value} {h : Hp} {o : Nat} {i : Int32} (K : Ok x cc own nL ret d) (ho : shK o = 11) (hi : ib i (shN o) = true) (hdg : decode cc pc = .ok (.baload, 1)) (kk : VV x (pc + 1) lv (.int (h.1 o (ix i)) :: st) h) : VV x pc lv (.int i :: .ref (ad x o) :: st) h := by
  obtain ⟨⟨p, l, e, R, s, m, args, below, meth, c, cn, sn⟩, A, G, nL0, r, h'⟩ := x
  obtain ⟨hx, hb, hr, hlocks, hml, hnl, hown, hts, hK, hD, hA, hE, hR, hcs⟩ := K
  subst hnl
  intro H locs ls hP hS hl
  exact va_bald hx hb hK hP o 0 ((wd_get (sh_lt ho (by decide))).trans (by rw [cl_11 ho])) rfl (ib_in hi) hdg (kk H locs ls hP hS hl)
theorem up_arr {G : Gx} {h : Hp} {o k : Nat} {v : Int32} (ho : shK o = 12) : cl_ G (up h o k v) o = .inl (G.2.1 1, shN o, .inl (upd (h.1 o) k v)) := by rw [cl_12 ho, up_row]
theorem up_arrB {G : Gx} {h : Hp} {o k : Nat} {v : Int32} (ho : shK o = 11) : cl_ G (up h o k v) o = .inl (G.2.1 0, shN o, .inl (upd (h.1 o) k v)) := by rw [cl_11 ho, up_row]
theorem V_iastore {x : Cx} {cc : ByteArray} {own : String} {nL : Nat} {ret : Option FieldType} {d pc : Nat} {lv : List (Nat × Value)} {st : List Value} {h : Hp} {o : Nat} {i v : Int32} (K : Ok x cc own nL ret d) (ho : shK o = 12) (hi : ib i (shN o) = true) (hdg : decode cc pc = .ok (.iastore, 1)) (kk : VV x (pc + 1) lv st (up h o (ix i) v)) : VV x pc lv (.int v :: .int i :: .ref (ad x o) :: st) h := by
  obtain ⟨⟨p, l, e, R, s, m, args, below, meth, c, cn, sn⟩, A, G, nL0, r, h'⟩ := x
  obtain ⟨hx, hb, hr, hlocks, hml, hnl, hown, hts, hK, hD, hA, hE, hR, hcs⟩ := K
  subst hnl
  intro H locs ls hP hS hl
  refine va_iast hx hb hK hP (hD h) hS o 1 ((wd_get (sh_lt ho (by decide))).trans (by rw [cl_12 ho])) rfl (ib_in hi) hdg (fun H1 locs1 hP1 hD1 hS1 => ?_)
  rw [← up_arr (G := G) ho, wd_set (sh_lt ho (by decide)) up_cl] at hP1
  exact kk H1 locs1 ls hP1 hS1 hl
theorem V_bastore {x : Cx} {cc : ByteArray} {own : String} {nL : Nat} {ret : Option FieldType} {d pc : Nat} {lv : List (Nat × Value)} {st : List Value} {h : Hp} {o : Nat} {i v : Int32} (K : Ok x cc own nL ret d) (ho : shK o = 11) (hi : ib i (shN o) = true) (hdg : decode cc pc = .ok (.bastore, 1)) (kk : VV x (pc + 1) lv st (up h o (ix i) (v.toInt8.toInt32))) : VV x pc lv (.int v :: .int i :: .ref (ad x o) :: st) h := by
  obtain ⟨⟨p, l, e, R, s, m, args, below, meth, c, cn, sn⟩, A, G, nL0, r, h'⟩ := x
  obtain ⟨hx, hb, hr, hlocks, hml, hnl, hown, hts, hK, hD, hA, hE, hR, hcs⟩ := K
  subst hnl
  intro H locs ls hP hS hl
  refine va_bast hx hb hK hP (hD h) hS o 0 ((wd_get (sh_lt ho (by decide))).trans (by rw [cl_11 ho])) rfl (ib_in hi) hdg (fun H1 locs1 hP1 hD1 hS1 => ?_)
  rw [vp_nar_byte] at hP1
  rw [← up_arrB (G := G) ho, wd_set (sh_lt ho (by decide)) up_cl] at hP1
  exact kk H1 locs1 ls hP1 hS1 hl
theorem V_alen {x : Cx} {cc : ByteArray} {own : String} {nL : Nat} {ret : Option FieldType} {d pc : Nat} {lv : List (Nat × Value)} {st : List Value} {h : Hp} {o : Nat} (K : Ok x cc own nL ret d) (ho : shK o = 12 ∨ shK o = 11) (hdg : decode cc pc = .ok (.arraylength, 1)) (kk : VV x (pc + 1) lv (.int (Int32.ofNat (shN o)) :: st) h) : VV x pc lv (.ref (ad x o) :: st) h := by
  obtain ⟨⟨p, l, e, R, s, m, args, below, meth, c, cn, sn⟩, A, G, nL0, r, h'⟩ := x
  obtain ⟨hx, hb, hr, hlocks, hml, hnl, hown, hts, hK, hD, hA, hE, hR, hcs⟩ := K
  subst hnl
  intro H locs ls hP hS hl
  rcases ho with ho | ho
  · exact va_alen hx hb hK hP o 1 ((wd_get (sh_lt ho (by decide))).trans (by rw [cl_12 ho])) rfl rfl hdg (kk H locs ls hP hS hl)
  · exact va_alen hx hb hK hP o 0 ((wd_get (sh_lt ho (by decide))).trans (by rw [cl_11 ho])) rfl rfl hdg (kk H locs ls hP hS hl)
theorem V_aaload13 {x : Cx} {cc : ByteArray} {own : String} {nL : Nat} {ret : Option FieldType} {d pc : Nat} {lv : List (Nat × Value)} {st : List Value} {h : Hp} {o q : Nat} {i : Int32} (K : Ok x cc own nL ret d) (ho : shK o = 13) (hi : ib i (shN o) = true) (hq : rf o (ix i) = some q) (hdg : decode cc pc = .ok (.aaload, 1)) (kk : VV x (pc + 1) lv (.ref (ad x q) :: st) h) : VV x pc lv (.int i :: .ref (ad x o) :: st) h := by
  obtain ⟨⟨p, l, e, R, s, m, args, below, meth, c, cn, sn⟩, A, G, nL0, r, h'⟩ := x
  obtain ⟨hx, hb, hr, hlocks, hml, hnl, hown, hts, hK, hD, hA, hE, hR, hcs⟩ := K
  subst hnl
  intro H locs ls hP hS hl
  have hin := ib_in hi
  have hlt : i.toNatClampNeg < shN o := Nat.not_le.mp fun q => hin (Or.inr q)
  have ha : (wd G h)[o]? = some (G.2.2.1 o, .inl (G.2.1 2, shN o, .inr (.inr (.inr (.inr (fun j => (rf o j).map G.2.2.1)))))) := (wd_get (sh_lt ho (by decide))).trans (by rw [cl_13 ho])
  have hv : va_rf ((rf o i.toNatClampNeg).map G.2.2.1) = Value.ref (G.2.2.1 q) := by rw [hq]; rfl
  refine W.aald (v := va_rf ((rf o i.toNatClampNeg).map G.2.2.1)) (ty := .object "FlossRumours$Deeds") hx hb (hP o _ ha) ((hK.2 2 _ rfl).1 (shN o) (fun j => va_rf ((rf o j).map G.2.2.1))) rfl (fun q => by cases q) (by show ¬ (i < 0 ∨ (arrV _ _ _).slots.size ≤ _); rw [arrV_size]; exact hin) (by show (arrV _ _ _).slots[_]? = _; rw [arrV_read _ _ hlt]) rfl rfl hdg ?_
  rw [hv]
  exact kk H locs ls hP hS hl
theorem V_aaload14 {x : Cx} {cc : ByteArray} {own : String} {nL : Nat} {ret : Option FieldType} {d pc : Nat} {lv : List (Nat × Value)} {st : List Value} {h : Hp} {o q : Nat} {i : Int32} (K : Ok x cc own nL ret d) (ho : shK o = 14) (hi : ib i (shN o) = true) (hq : rf o (ix i) = some q) (hdg : decode cc pc = .ok (.aaload, 1)) (kk : VV x (pc + 1) lv (.ref (ad x q) :: st) h) : VV x pc lv (.int i :: .ref (ad x o) :: st) h := by
  obtain ⟨⟨p, l, e, R, s, m, args, below, meth, c, cn, sn⟩, A, G, nL0, r, h'⟩ := x
  obtain ⟨hx, hb, hr, hlocks, hml, hnl, hown, hts, hK, hD, hA, hE, hR, hcs⟩ := K
  subst hnl
  intro H locs ls hP hS hl
  have hin := ib_in hi
  have hlt : i.toNatClampNeg < shN o := Nat.not_le.mp fun q => hin (Or.inr q)
  have ha : (wd G h)[o]? = some (G.2.2.1 o, .inl (G.2.1 3, shN o, .inr (.inr (.inr (.inr (fun j => (rf o j).map G.2.2.1)))))) := (wd_get (sh_lt ho (by decide))).trans (by rw [cl_14 ho])
  have hv : va_rf ((rf o i.toNatClampNeg).map G.2.2.1) = Value.ref (G.2.2.1 q) := by rw [hq]; rfl
  refine W.aald (v := va_rf ((rf o i.toNatClampNeg).map G.2.2.1)) (ty := .array .byte) hx hb (hP o _ ha) ((hK.2 3 _ rfl).1 (shN o) (fun j => va_rf ((rf o j).map G.2.2.1))) rfl (fun q => by cases q) (by show ¬ (i < 0 ∨ (arrV _ _ _).slots.size ≤ _); rw [arrV_size]; exact hin) (by show (arrV _ _ _).slots[_]? = _; rw [arrV_read _ _ hlt]) rfl rfl hdg ?_
  rw [hv]
  exact kk H locs ls hP hS hl
theorem V_aaload15 {x : Cx} {cc : ByteArray} {own : String} {nL : Nat} {ret : Option FieldType} {d pc : Nat} {lv : List (Nat × Value)} {st : List Value} {h : Hp} {o q : Nat} {i : Int32} (K : Ok x cc own nL ret d) (ho : shK o = 15) (hi : ib i (shN o) = true) (hq : rf o (ix i) = some q) (hdg : decode cc pc = .ok (.aaload, 1)) (kk : VV x (pc + 1) lv (.ref (ad x q) :: st) h) : VV x pc lv (.int i :: .ref (ad x o) :: st) h := by
  obtain ⟨⟨p, l, e, R, s, m, args, below, meth, c, cn, sn⟩, A, G, nL0, r, h'⟩ := x
  obtain ⟨hx, hb, hr, hlocks, hml, hnl, hown, hts, hK, hD, hA, hE, hR, hcs⟩ := K
  subst hnl
  intro H locs ls hP hS hl
  have hin := ib_in hi
  have hlt : i.toNatClampNeg < shN o := Nat.not_le.mp fun q => hin (Or.inr q)
  have ha : (wd G h)[o]? = some (G.2.2.1 o, .inl (G.2.1 4, shN o, .inr (.inr (.inr (.inr (fun j => (rf o j).map G.2.2.1)))))) := (wd_get (sh_lt ho (by decide))).trans (by rw [cl_15 ho])
  have hv : va_rf ((rf o i.toNatClampNeg).map G.2.2.1) = Value.ref (G.2.2.1 q) := by rw [hq]; rfl
  refine W.aald (v := va_rf ((rf o i.toNatClampNeg).map G.2.2.1)) (ty := .array .int) hx hb (hP o _ ha) ((hK.2 4 _ rfl).1 (shN o) (fun j => va_rf ((rf o j).map G.2.2.1))) rfl (fun q => by cases q) (by show ¬ (i < 0 ∨ (arrV _ _ _).slots.size ≤ _); rw [arrV_size]; exact hin) (by show (arrV _ _ _).slots[_]? = _; rw [arrV_read _ _ hlt]) rfl rfl hdg ?_
  rw [hv]
  exact kk H locs ls hP hS hl
theorem V_alenq {x : Cx} {cc : ByteArray} {own : String} {nL : Nat} {ret : Option FieldType} {d pc : Nat} {lv : List (Nat × Value)} {st : List Value} {h : Hp} {o : Nat} (K : Ok x cc own nL ret d) (ho : shK o = 13) (hdg : decode cc pc = .ok (.arraylength, 1)) (kk : VV x (pc + 1) lv (.int (Int32.ofNat (shN o)) :: st) h) : VV x pc lv (.ref (ad x o) :: st) h := by
  obtain ⟨⟨p, l, e, R, s, m, args, below, meth, c, cn, sn⟩, A, G, nL0, r, h'⟩ := x
  obtain ⟨hx, hb, hr, hlocks, hml, hnl, hown, hts, hK, hD, hA, hE, hR, hcs⟩ := K
  subst hnl
  intro H locs ls hP hS hl
  exact va_alen hx hb hK hP o 2 ((wd_get (sh_lt ho (by decide))).trans (by rw [cl_13 ho])) rfl rfl hdg (kk H locs ls hP hS hl)
theorem V_iret {x : Cx} {cc : ByteArray} {own : String} {nL : Nat} {ret : FieldType} {d pc : Nat} {lv : List (Nat × Value)} {h : Hp} {v : Int32} (K : Ok x cc own nL (some ret) d) (hdg : decode cc pc = .ok (.ireturn, 1)) (hn : narrow ret (.int v) = .int v) (ht : x.2.2.2.2 = (some (.int v), h)) : VV x pc lv [.int v] h := by
  obtain ⟨⟨p, l, e, R, s, m, args, below, meth, c, cn, sn⟩, A, G, nL0, r, h'⟩ := x
  obtain ⟨hx, hb, hr, hlocks, hml, hnl, hown, hts, hK, hD, hA, hE, hR, hcs⟩ := K
  subst hnl
  intro H locs ls hP hS hl
  cases ht
  exact W.zret hx hb hr hn (fun t ht hW => ⟨rfl, by rw [ht]; exact hP, hS.F ht⟩) hS.2.2 hdg hlocks
theorem V_lret {x : Cx} {cc : ByteArray} {own : String} {nL : Nat} {d pc : Nat} {lv : List (Nat × Value)} {h : Hp} {v : Int64} (K : Ok x cc own nL (some .long) d) (hdg : decode cc pc = .ok (.lreturn, 1)) (ht : x.2.2.2.2 = (some (.long v), h)) : VV x pc lv [.long v] h := by
  obtain ⟨⟨p, l, e, R, s, m, args, below, meth, c, cn, sn⟩, A, G, nL0, r, h'⟩ := x
  obtain ⟨hx, hb, hr, hlocks, hml, hnl, hown, hts, hK, hD, hA, hE, hR, hcs⟩ := K
  subst hnl
  intro H locs ls hP hS hl
  cases ht
  exact W.lret hx hb hr (fun t ht hW => ⟨rfl, by rw [ht]; exact hP, hS.F ht⟩) hS.2.2 hdg hlocks
theorem V_aret {x : Cx} {cc : ByteArray} {own : String} {nL : Nat} {n : String} {d pc : Nat} {lv : List (Nat × Value)} {h : Hp} {v : Nat} (K : Ok x cc own nL (some (.object n)) d) (hdg : decode cc pc = .ok (.areturn, 1)) (ht : x.2.2.2.2 = (some (.ref (ad x v)), h)) : VV x pc lv [.ref (ad x v)] h := by
  obtain ⟨⟨p, l, e, R, s, m, args, below, meth, c, cn, sn⟩, A, G, nL0, r, h'⟩ := x
  obtain ⟨hx, hb, hr, hlocks, hml, hnl, hown, hts, hK, hD, hA, hE, hR, hcs⟩ := K
  subst hnl
  intro H locs ls hP hS hl
  obtain ⟨rfl, rfl⟩ : r = some (.ref (G.2.2.1 v)) ∧ h' = h := ⟨congrArg Prod.fst ht, congrArg Prod.snd ht⟩
  exact W.aret hx hb hr (Or.inl ⟨_, rfl⟩) (Or.inr ⟨_, rfl⟩) (fun t ht hW => ⟨rfl, by rw [ht]; exact hP, hS.F ht⟩) hS.2.2 hdg hlocks
theorem V_vret {x : Cx} {cc : ByteArray} {own : String} {nL : Nat} {d pc : Nat} {lv : List (Nat × Value)} {h : Hp} (K : Ok x cc own nL none d) (hdg : decode cc pc = .ok (.return_, 1)) (ht : x.2.2.2.2 = (none, h)) : VV x pc lv [] h := by
  obtain ⟨⟨p, l, e, R, s, m, args, below, meth, c, cn, sn⟩, A, G, nL0, r, h'⟩ := x
  obtain ⟨hx, hb, hr, hlocks, hml, hnl, hown, hts, hK, hD, hA, hE, hR, hcs⟩ := K
  subst hnl
  intro H locs ls hP hS hl
  cases ht
  exact W.vret hx hb hr (fun t ht hW => ⟨rfl, by rw [ht]; exact hP, hS.F ht⟩) hS.2.2 hdg hlocks
theorem Met_of {l : Launch} {y : MethodName} {ws ws' : List Cond} {rm : Room} {Pc : Array Value → State → Prop} {Qc : Array Value → State → Outcome → State → Prop} {mc ms : Nat} {free : Addr → Prop} {cc : ByteArray} {maxL : Nat} {ret : Option FieldType}
    (hy : plainFor y = true) (hw : ws = Cond.code y cc maxL ret :: ws')
    (body : ∀ p e s m args below meth c s₁, BodyLoose p l y (headSpec ws rm) cc maxL ret e s m args below meth c s₁ → c.maxLocals = maxL → Pc args s →
      W p l e (headSpec ws rm).room s m args below meth c s.heap [] 0 0 (MQ below Qc args s mc ms free) (entryFrame m args maxL)) : Met l y ws rm Pc Qc mc ms free := by
  refine MetFree.of_bodySF (code := cc) (maxLocals := maxL) (ret := ret) hy ?_ ?_
  · intro args s m h hn
    obtain ⟨meth, c, h1, h2, h3, h4, h5, h6, -, -⟩ := Cond.code_spec hn (atoms_spec (ws := ws) h _ (by rw [hw]; exact List.mem_cons_self))
    exact ⟨meth, c, h1, h2, h3, h4, h5, h6⟩
  · intro p e s m args below meth c s₁ B hml hP _
    have hh0 : s₁.heap = s.heap := by rw [B.state]; rfl
    obtain ⟨t, a1, o, b1, b2, b3⟩ := body p e s m args below meth c s₁ B hml hP s₁ hh0 (Stand.of_body B)
    exact ⟨t, o, a1, b1, b2, ⟨b3.1, b3.2⟩⟩
abbrev rmD (d : Nat) : Room := { frames := d, cells := 0, slots := 0, locals := 40 * d }
def PP (G : Gx) (sz : Nat) (h : Hp) (U : State) : Prop := U.heap.size = sz ∧ va_P G.1 vwCl (wd G h) U.heap ∧ va_K G.1 vwCl (tyL G) U ∧ va_D (fun _ => True) (wd G h) ∧ EX G (va_A (wd G h) sz) U U.heap
/-- a method's run: from every state with the heap h it answers r, with the heap h' behind it -/
def Runs (d : Nat) (y : MethodName) (cc : ByteArray) (nL : Nat) (ret : Option FieldType) (As : (Nat → Nat) → List Value) (h : Hp) (r : (Nat → Nat) → Option Value) (h' : Hp) : Prop := ∀ (l : Launch) (G : Gx) (sz : Nat), Met l y (.code y cc nL ret :: TB) (rmD d) (va_Pc (As G.2.2.1) (PP G sz h)) (QQ G (va_A (wd G h) sz) (r G.2.2.1) h') 0 0 (va_A (wd G h) sz)
theorem Runs.of {d : Nat} {y : MethodName} {cc : ByteArray} {nL : Nat} {ret : Option FieldType} {As : (Nat → Nat) → List Value} {h : Hp} {r : (Nat → Nat) → Option Value} {h' : Hp} (hy : plainFor y = true) (hlen : ∀ f : Nat → Nat, (lg_sl (As f)).length ≤ nL)
    (body : ∀ x : Cx, Ok x cc y.cls nL ret d → x.2.2.2.2 = (r (ad x), h') → VV x 0 (lv_args 0 (As (ad x))) [] h) : Runs d y cc nL ret As h r h' := by
  intro l G sz
  refine Met_of (cc := cc) (maxL := nL) (ret := ret) hy rfl ?_
  intro p e s m args below meth c s₁ B hml hv
  obtain ⟨rfl, hsz, hP, hK, hD0, hE⟩ := hv
  subst hsz
  have hts := atoms_spec (ws := .code y cc nL ret :: TB) B.pre
  have hown : s.vm.findClass y.cls = some m.cls := findClass_of_methodNamed B.named
  have hk := body ((p, l, e, rmD d, s, m, (As G.2.2.1).toArray, below, meth, c, 0, 0), va_A (wd G h) s.heap.size, G, nL, r G.2.2.1, h')
    ⟨B.exec, B.bytes, B.returns, B.notSynchronized, hml, rfl, hown, fun w hw => hts w (List.mem_cons_of_mem _ hw), hK, fun _ => wd_D (hD0.self (sz := s.heap.size)), fun q hq => Or.inr hq, hE, ⟨Nat.le_refl _, Nat.le_refl _⟩, Nat.le_refl _, Nat.le_refl _⟩ rfl
  have hl := lv_entry (As G.2.2.1) (n := nL) (hlen _)
  rw [lg_entry_eq]
  exact hk s.heap [] _ hP va_S.rf hl

theorem V_callS {x : Cx} {cc : ByteArray} {own : String} {nL : Nat} {ret : Option FieldType} {d pc : Nat} {lv : List (Nat × Value)} {st : List Value} {h : Hp} {y : MethodName} {bytes : ByteArray} {maxL idx n : Nat} {rt : Option FieldType} {As : (Nat → Nat) → List Value} {rr : (Nat → Nat) → Option Value} {h2 : Hp} (K : Ok x cc own nL ret (d + 1)) (Rn : Runs d y bytes maxL rt As h rr h2) (hm1 : Cond.methodLink own idx y ∈ TB) (hm2 : Cond.static y ∈ TB) (hm3 : Cond.initialized y.cls ∈ TB) (hd : y.cls ≠ "java/lang/invoke/MethodHandle" ∧ y.cls ≠ "java/lang/invoke/VarHandle" ∧ (parseMethodDescriptor y.desc).map (fun d => d.parameters.length) = some n) (hm5 : Cond.code y bytes maxL rt ∈ TB) (hx5 : maxL ≤ 20) (hdg : decode cc pc = .ok (.invokestatic idx, 3)) (hn : (As (ad x)).length = n) (hW : (st.map fun v => v.category).sum ≤ 8) (kk : VV x (pc + 3) lv ((rr (ad x)).toList ++ st) h2) : VV x pc lv ((As (ad x)).reverse ++ st) h := by
  obtain ⟨⟨p, l, e, R, s, m, args, below, meth, c, cn, sn⟩, A, G, nL0, r, h'⟩ := x
  obtain ⟨hx, hb, hr, hlocks, hml, hnl, hown, hts, hK, hD, hA, hE, hR, hcs⟩ := K
  subst hnl
  intro H locs ls hP hS hl
  have hF : ∀ q, va_A (wd G h) H.size q → A q := by
    intro q hq
    rcases hq with ⟨k, e, hk⟩ | hq
    · exact (hD h).2 k _ hk
    · exact hA q (Nat.le_trans hS.1 hq)
  have hbl : FrameBlind (va_Pc (As G.2.2.1) (PP G H.size h)) := fun a U g mk q => by
    obtain ⟨q0, q1, qP, qK, qD, qE⟩ := q
    exact ⟨q0, q1, qP, va_K.moved (u := U) (U := U.calling g mk a) (Vm.Alike.refl U.vm) qK, qD, qE.moved (u := U.calling g mk a) (Vm.Alike.refl U.vm)⟩
  have hpre : ∀ U : State, U.heap = H → s.WarmedH U.vm → va_Pc (As G.2.2.1) (PP G H.size h) (As G.2.2.1).toArray U := fun U hU hW => ⟨rfl, by rw [hU], by rw [hU]; exact hP, va_K.moved hW.alike hK, (hD h).weaken (fun _ _ _ _ => trivial), by rw [hU]; exact ((hE.kept hS.2.1).narrow hF).moved hW.alike⟩
  have hcode : (Cond.code y bytes maxL rt) ∈ (.code y bytes maxL rt :: TB : List Cond) := List.mem_cons_self
  have hGI : GoodIn TB (.code y bytes maxL rt :: TB) := fun w hw => by
    rcases List.mem_cons.mp hw with e | hw
    · rw [e]; exact TB_self _ hm5
    · exact TB_self _ hw
  have hroom : (rmD d).frames + 1 ≤ R.frames ∧ 8 + (maxL + 11) + (rmD d).locals ≤ R.locals := by
    show d + 1 ≤ R.frames ∧ 8 + (maxL + 11) + 40 * d ≤ R.locals
    omega
  have hT9 : GoodIn TB (va_wsS own idx y (.code y bytes maxL rt :: TB)) := fun w hw => by
    rcases List.mem_append.mp hw with h9 | h9
    · rcases List.mem_cons.mp h9 with e | h9
      · rw [e]; exact TB_self _ hm1
      · rcases List.mem_cons.mp h9 with e | h9
        · rw [e]; exact TB_self _ hm2
        · rcases List.mem_cons.mp h9 with e | h9
          · rw [e]; exact TB_self _ hm3
          · cases h9
    · exact hGI _ h9
  have RR := va_runS (locs := locs) (cells := cn) (slots := sn) (below := below) (e := e) (meth := meth) (H := H) (rest := st) (g := F0 m pc ls ((As G.2.2.1).reverse ++ st)) ⟨hx, hb, hml, hown, hts⟩ (Rn l G H.size) (va_cwS n hts hT9 rfl rfl rfl hd hroom) ⟨hbl, hpre⟩ rfl hn hl.1 rfl (by show 2 * 0 + _ ≤ 8; omega) hdg hcs
  intro T hT X
  obtain ⟨v, st₀, t, T', L, h0, X', hL, e1, e2, ⟨hv, hP1, hFr⟩, stp⟩ := RR T hT X
  cases hv
  have hz : H.size ≤ t.heap.size := by have := hFr.1; rw [h0] at this; exact this
  obtain ⟨t2, a1, b1⟩ := kk T'.heap (locs ++ L) ls (by rw [e1]; exact hP1) ⟨Nat.le_trans hS.1 (by rw [e1]; exact hz), fun q h1 h2 => by
      rw [e1, hFr.2 q (by rw [h0]; exact Nat.lt_of_lt_of_le h1 hS.1) (fun z => h2 (hF q z)), h0]; exact hS.2.1 q h1 h2, fun q hq => by
      rcases List.mem_append.mp hq with h | h
      · exact hS.2.2 q h
      · exact hF _ (hL q h)⟩ hl T' rfl X'
  exact ⟨t2, stp t2 a1, b1⟩
theorem V_callV {x : Cx} {cc : ByteArray} {own : String} {nL : Nat} {ret : Option FieldType} {d pc : Nat} {lv : List (Nat × Value)} {st : List Value} {h : Hp} {y : MethodName} {bytes : ByteArray} {maxL idx n : Nat} {rt : Option FieldType} {As : (Nat → Nat) → List Value} {rr : (Nat → Nat) → Option Value} {h2 : Hp} {o ci : Nat} {fs : List Value} {T : u_T} {N : Nat} (K : Ok x cc own nL ret (d + 1)) (Rn : Runs d y bytes maxL rt (fun f => .ref (f o) :: As f) h rr h2) (ho : o < 65) (hc : cl_ x.2.2.1 h o = .inr (ci, fs)) (hcl : vwCl[ci]? = some (y.cls, T, N)) (hm1 : Cond.methodLink own idx y ∈ TB) (hm2 : Cond.instanceMethod y ∈ TB) (hm3 : Cond.selects y.cls y y ∈ TB) (hm4 : Cond.initialized y.cls ∈ TB) (hd : y.cls ≠ "java/lang/invoke/MethodHandle" ∧ y.cls ≠ "java/lang/invoke/VarHandle" ∧ (parseMethodDescriptor y.desc).map (fun d => d.parameters.length) = some n) (hm5 : Cond.code y bytes maxL rt ∈ TB) (hx5 : maxL ≤ 20) (hdg : decode cc pc = .ok (.invokevirtual idx, 3)) (hn : (As (ad x)).length = n) (hW : (st.map fun v => v.category).sum ≤ 8) (kk : VV x (pc + 3) lv ((rr (ad x)).toList ++ st) h2) : VV x pc lv ((As (ad x)).reverse ++ .ref (ad x o) :: st) h := by
  obtain ⟨⟨p, l, e, R, s, m, args, below, meth, c, cn, sn⟩, A, G, nL0, r, h'⟩ := x
  obtain ⟨hx, hb, hr, hlocks, hml, hnl, hown, hts, hK, hD, hA, hE, hR, hcs⟩ := K
  subst hnl
  intro H locs ls hP hS hl
  have hF : ∀ q, va_A (wd G h) H.size q → A q := by
    intro q hq
    rcases hq with ⟨k, e, hk⟩ | hq
    · exact (hD h).2 k _ hk
    · exact hA q (Nat.le_trans hS.1 hq)
  have hbl : FrameBlind (va_Pc (.ref (G.2.2.1 o) :: As G.2.2.1) (PP G H.size h)) := fun a U g mk q => by
    obtain ⟨q0, q1, qP, qK, qD, qE⟩ := q
    exact ⟨q0, q1, qP, va_K.moved (u := U) (U := U.calling g mk a) (Vm.Alike.refl U.vm) qK, qD, qE.moved (u := U.calling g mk a) (Vm.Alike.refl U.vm)⟩
  have hpre : ∀ U : State, U.heap = H → s.WarmedH U.vm → va_Pc (.ref (G.2.2.1 o) :: As G.2.2.1) (PP G H.size h) (.ref (G.2.2.1 o) :: As G.2.2.1).toArray U := fun U hU hW => ⟨rfl, by rw [hU], by rw [hU]; exact hP, va_K.moved hW.alike hK, (hD h).weaken (fun _ _ _ _ => trivial), by rw [hU]; exact ((hE.kept hS.2.1).narrow hF).moved hW.alike⟩
  have hcode : (Cond.code y bytes maxL rt) ∈ (.code y bytes maxL rt :: TB : List Cond) := List.mem_cons_self
  have hGI : GoodIn TB (.code y bytes maxL rt :: TB) := fun w hw => by
    rcases List.mem_cons.mp hw with e | hw
    · rw [e]; exact TB_self _ hm5
    · exact TB_self _ hw
  have hroom : (rmD d).frames + 1 ≤ R.frames ∧ 8 + (maxL + 11) + (rmD d).locals ≤ R.locals := by
    show d + 1 ≤ R.frames ∧ 8 + (maxL + 11) + 40 * d ≤ R.locals
    omega
  have hT9 : GoodIn TB (wsV own idx y.cls y (.code y bytes maxL rt :: TB)) := fun w hw => by
    rcases List.mem_append.mp hw with h9 | h9
    · rcases List.mem_cons.mp h9 with e | h9
      · rw [e]; exact TB_self _ hm1
      · rcases List.mem_cons.mp h9 with e | h9
        · rw [e]; exact TB_self _ hm2
        · rcases List.mem_cons.mp h9 with e | h9
          · rw [e]; exact TB_self _ hm3
          · rcases List.mem_cons.mp h9 with e | h9
            · rw [e]; exact TB_self _ hm4
            · cases h9
    · exact hGI _ h9
  have RR := va_runV (locs := locs) (cells := cn) (slots := sn) (below := below) (e := e) (meth := meth) (H := H) (rest := st) (As := As G.2.2.1) (b := G.2.2.1 o) (g := F0 m pc ls ((As G.2.2.1).reverse ++ .ref (G.2.2.1 o) :: st)) ⟨hx, hb, hml, hown, hts⟩ (Rn l G H.size) (cwV n hts hT9 rfl rfl rfl ⟨rfl, hd⟩ hroom) ⟨hbl, va_recv hK hP hcl ((wd_get ho).trans (by rw [hc])), hpre⟩ rfl hn hl.1 rfl (by show 2 * 0 + _ ≤ 8; omega) hdg hcs
  intro T hT X
  obtain ⟨v, st₀, t, T', L, h0, X', hL, e1, e2, ⟨hv, hP1, hFr⟩, stp⟩ := RR T hT X
  cases hv
  have hz : H.size ≤ t.heap.size := by have := hFr.1; rw [h0] at this; exact this
  obtain ⟨t2, a1, b1⟩ := kk T'.heap (locs ++ L) ls (by rw [e1]; exact hP1) ⟨Nat.le_trans hS.1 (by rw [e1]; exact hz), fun q h1 h2 => by
      rw [e1, hFr.2 q (by rw [h0]; exact Nat.lt_of_lt_of_le h1 hS.1) (fun z => h2 (hF q z)), h0]; exact hS.2.1 q h1 h2, fun q hq => by
      rcases List.mem_append.mp hq with h | h
      · exact hS.2.2 q h
      · exact hF _ (hL q h)⟩ hl T' rfl X'
  exact ⟨t2, stp t2 a1, b1⟩
