abbrev Lx : Type := (Program × Launch × Env × State × MethodId × List Frame × Method × Code) × (Nat × Nat × (Nat → Int32)) × Gx
abbrev la (x : Lx) : Nat → Nat := x.2.2.2.2.1
def LW (x : Lx) (pc : Nat) (lv : List (Nat × Value)) (st : List Value) (h : Hp) : Prop := match x with
  | ((p, l, e, s, m, below, meth, c), (b, L, xs), G) => ∀ (H : Heap) (locs : List Loc) (ls : Array Slot), va_P G.1 vwCl (wd G h) H → va_S (fun q : Nat => s.heap.size ≤ q) s.heap H locs → lv_has ls 4 lv → W p l e room_1 s m #[Value.ref b] below meth c H locs 600000 7302250 (lw_Z below #[Value.ref b] s) (F0 m pc ls st)
def LK (x : Lx) : Prop := match x with
  | ((p, l, e, s, m, below, meth, c), (b, L, xs), G) => p.tables.exec = Jvm.exec ∧ c.code = code ∧ meth.sig.returnType = ret ∧ meth.locks = false ∧ c.maxLocals = 4 ∧ s.vm.findClass RL = some m.cls ∧ (∀ w ∈ TB, w.before #[Value.ref b] s = true) ∧ va_K G.1 vwCl (tyL G) s ∧ (∀ h, va_D (fun q : Nat => s.heap.size ≤ q) (wd G h)) ∧ EX G (fun q : Nat => s.heap.size ≤ q) s s.heap ∧ va_X b L xs s s.heap ∧ b < s.heap.size
theorem L_aload {x : Lx} {pc : Nat} {lv : List (Nat × Value)} {st : List Value} {h : Hp} {q : Fin 4} {a : Nat} (K : LK x) (j : Nat) (hdg : decode code pc = .ok (.aload_n q, 1)) (hj : lv[j]? = some ((q : Nat), .ref a)) (k : LW x (pc + 1) lv (.ref a :: st) h) : LW x pc lv (st) h := by
  obtain ⟨⟨p, l, e, s, m, below, meth, c⟩, ⟨b, L, xs⟩, G⟩ := x
  obtain ⟨hx, hb, hr, hlocks, hml, hown, hts, hK, hD, hE, hX, hbl⟩ := K
  intro H locs ls hP hS hl
  exact lv_aload_n hx hb hdg rfl (lv_at hl j hj) (k H locs ls hP hS hl)
theorem L_iload {x : Lx} {pc : Nat} {lv : List (Nat × Value)} {st : List Value} {h : Hp} {q : Fin 4} {a : Int32} (K : LK x) (j : Nat) (hdg : decode code pc = .ok (.iload_n q, 1)) (hj : lv[j]? = some ((q : Nat), .int a)) (k : LW x (pc + 1) lv (.int a :: st) h) : LW x pc lv (st) h := by
  obtain ⟨⟨p, l, e, s, m, below, meth, c⟩, ⟨b, L, xs⟩, G⟩ := x
  obtain ⟨hx, hb, hr, hlocks, hml, hown, hts, hK, hD, hE, hX, hbl⟩ := K
  intro H locs ls hP hS hl
  exact lv_iload_n hx hb hdg rfl (lv_at hl j hj) (k H locs ls hP hS hl)
theorem L_ic {x : Lx} {pc : Nat} {lv : List (Nat × Value)} {st : List Value} {h : Hp} {n : Int} {v : Int32} (K : LK x) (hdg : decode code pc = .ok (.iconst n, 1)) (hv : Int32.ofInt n = v) (k : LW x (pc + 1) lv (.int v :: st) h) : LW x pc lv (st) h := by
  obtain ⟨⟨p, l, e, s, m, below, meth, c⟩, ⟨b, L, xs⟩, G⟩ := x
  obtain ⟨hx, hb, hr, hlocks, hml, hown, hts, hK, hD, hE, hX, hbl⟩ := K
  intro H locs ls hP hS hl
  exact lv_iconst hx hb hdg hv (k H locs ls hP hS hl)
theorem L_bp {x : Lx} {pc : Nat} {lv : List (Nat × Value)} {st : List Value} {h : Hp} {n : Int} {v : Int32} (K : LK x) (hdg : decode code pc = .ok (.bipush n, 2)) (hv : (Int8.ofInt n).toInt32 = v) (k : LW x (pc + 2) lv (.int v :: st) h) : LW x pc lv (st) h := by
  obtain ⟨⟨p, l, e, s, m, below, meth, c⟩, ⟨b, L, xs⟩, G⟩ := x
  obtain ⟨hx, hb, hr, hlocks, hml, hown, hts, hK, hD, hE, hX, hbl⟩ := K
  intro H locs ls hP hS hl
  exact lv_bipush hx hb hdg hv (k H locs ls hP hS hl)
theorem L_iadd {x : Lx} {pc : Nat} {lv : List (Nat × Value)} {st : List Value} {h : Hp} {a b : Int32} (K : LK x) (hdg : decode code pc = .ok (.iadd, 1)) (k : LW x (pc + 1) lv (.int (a + b) :: st) h) : LW x pc lv (.int b :: .int a :: st) h := by
  obtain ⟨⟨p, l, e, s, m, below, meth, c⟩, ⟨b, L, xs⟩, G⟩ := x
  obtain ⟨hx, hb, hr, hlocks, hml, hown, hts, hK, hD, hE, hX, hbl⟩ := K
  intro H locs ls hP hS hl
  exact lv_iadd hx hb hdg (k H locs ls hP hS hl)
theorem L_isub {x : Lx} {pc : Nat} {lv : List (Nat × Value)} {st : List Value} {h : Hp} {a b : Int32} (K : LK x) (hdg : decode code pc = .ok (.isub, 1)) (k : LW x (pc + 1) lv (.int (a - b) :: st) h) : LW x pc lv (.int b :: .int a :: st) h := by
  obtain ⟨⟨p, l, e, s, m, below, meth, c⟩, ⟨b, L, xs⟩, G⟩ := x
  obtain ⟨hx, hb, hr, hlocks, hml, hown, hts, hK, hD, hE, hX, hbl⟩ := K
  intro H locs ls hP hS hl
  exact lv_isub hx hb hdg (k H locs ls hP hS hl)
theorem L_iand {x : Lx} {pc : Nat} {lv : List (Nat × Value)} {st : List Value} {h : Hp} {a b : Int32} (K : LK x) (hdg : decode code pc = .ok (.iand, 1)) (k : LW x (pc + 1) lv (.int (a &&& b) :: st) h) : LW x pc lv (.int b :: .int a :: st) h := by
  obtain ⟨⟨p, l, e, s, m, below, meth, c⟩, ⟨b, L, xs⟩, G⟩ := x
  obtain ⟨hx, hb, hr, hlocks, hml, hown, hts, hK, hD, hE, hX, hbl⟩ := K
  intro H locs ls hP hS hl
  exact lv_iand hx hb hdg (k H locs ls hP hS hl)
theorem L_sld {x : Lx} {pc : Nat} {lv : List (Nat × Value)} {st : List Value} {h : Hp} {i : Int32} (K : LK x) (hi : vp_in i x.2.1.2.1) (hdg : decode code pc = .ok (.iaload, 1)) (k : LW x (pc + 1) lv (.int (x.2.1.2.2 i.toNatClampNeg) :: st) h) : LW x pc lv (.int i :: .ref x.2.1.1 :: st) h := by
  obtain ⟨⟨p, l, e, s, m, below, meth, c⟩, ⟨b, L, xs⟩, G⟩ := x
  obtain ⟨hx, hb, hr, hlocks, hml, hown, hts, hK, hD, hE, hX, hbl⟩ := K
  intro H locs ls hP hS hl
  exact va_sld hx hb hX hbl (Nat.not_le.mpr hbl) hS hi hdg (k H locs ls hP hS hl)
theorem L_slen {x : Lx} {pc : Nat} {lv : List (Nat × Value)} {st : List Value} {h : Hp} (K : LK x) (hdg : decode code pc = .ok (.arraylength, 1)) (k : LW x (pc + 1) lv (.int (Int32.ofNat x.2.1.2.1) :: st) h) : LW x pc lv (.ref x.2.1.1 :: st) h := by
  obtain ⟨⟨p, l, e, s, m, below, meth, c⟩, ⟨b, L, xs⟩, G⟩ := x
  obtain ⟨hx, hb, hr, hlocks, hml, hown, hts, hK, hD, hE, hX, hbl⟩ := K
  intro H locs ls hP hS hl
  exact va_slen hx hb hX hbl (Nat.not_le.mpr hbl) hS hdg (k H locs ls hP hS hl)
theorem L_lcmp {x : Lx} {pc : Nat} {lv : List (Nat × Value)} {st : List Value} {h : Hp} {a b : Int64} (K : LK x) (hdg : decode code pc = .ok (.lcmp, 1)) (k : LW x (pc + 1) lv (.int (lg_cmp a b) :: st) h) : LW x pc lv (.long b :: .long a :: st) h := by
  obtain ⟨⟨p, l, e, s, m, below, meth, c⟩, ⟨b, L, xs⟩, G⟩ := x
  obtain ⟨hx, hb, hr, hlocks, hml, hown, hts, hK, hD, hE, hX, hbl⟩ := K
  intro H locs ls hP hS hl
  exact W.lcmp hx hb hdg (k H locs ls hP hS hl)
theorem L_eqt {x : Lx} {pc : Nat} {lv : List (Nat × Value)} {st : List Value} {h : Hp} {a : Int32} {off : Int} (K : LK x) (tgt : Nat) (hdg : decode code pc = .ok (.if_icmp .eq off, 3)) (ht : (pc : Int) + off = (tgt : Int)) (k : LW x tgt lv st h) : LW x pc lv (.int a :: .int a :: st) h := by
  obtain ⟨⟨p, l, e, s, m, below, meth, c⟩, ⟨b, L, xs⟩, G⟩ := x
  obtain ⟨hx, hb, hr, hlocks, hml, hown, hts, hK, hD, hE, hX, hbl⟩ := K
  intro H locs ls hP hS hl
  exact lv_icmp_eq hx hb hdg ht (fun _ => k H locs ls hP hS hl) (fun c9 => absurd rfl c9)
theorem L_zt {x : Lx} {pc : Nat} {lv : List (Nat × Value)} {st : List Value} {h : Hp} {a : Int32} {off : Int} (K : LK x) (tgt : Nat) (ha : a = 0) (hdg : decode code pc = .ok (.ifCond .eq off, 3)) (ht : (pc : Int) + off = (tgt : Int)) (k : LW x tgt lv st h) : LW x pc lv (.int a :: st) h := by
  obtain ⟨⟨p, l, e, s, m, below, meth, c⟩, ⟨b, L, xs⟩, G⟩ := x
  obtain ⟨hx, hb, hr, hlocks, hml, hown, hts, hK, hD, hE, hX, hbl⟩ := K
  intro H locs ls hP hS hl
  exact lv_if_eq hx hb hdg ht (fun _ => k H locs ls hP hS hl) (fun c9 => absurd ha c9)
theorem L_gt {x : Lx} {pc : Nat} {lv : List (Nat × Value)} {st : List Value} {h : Hp} {a b : Int32} {off : Int} (K : LK x) (tgt : Nat) (hdg : decode code pc = .ok (.if_icmp .gt off, 3)) (ht : (pc : Int) + off = (tgt : Int)) (k : b < a → LW x tgt lv st h) (k2 : ¬ b < a → LW x (pc + 3) lv st h) : LW x pc lv (.int b :: .int a :: st) h := by
  obtain ⟨⟨p, l, e, s, m, below, meth, c⟩, ⟨b, L, xs⟩, G⟩ := x
  obtain ⟨hx, hb, hr, hlocks, hml, hown, hts, hK, hD, hE, hX, hbl⟩ := K
  intro H locs ls hP hS hl
  exact lv_icmp_gt hx hb hdg ht (fun c9 => k c9 H locs ls hP hS hl) (fun c9 => k2 c9 H locs ls hP hS hl)
theorem L_goto {x : Lx} {pc : Nat} {lv : List (Nat × Value)} {st : List Value} {h : Hp} {off : Int} (K : LK x) (tgt : Nat) (hdg : decode code pc = .ok (.goto off, 3)) (ht : (pc : Int) + off = (tgt : Int)) (k : LW x tgt lv st h) : LW x pc lv (st) h := by
  obtain ⟨⟨p, l, e, s, m, below, meth, c⟩, ⟨b, L, xs⟩, G⟩ := x
  obtain ⟨hx, hb, hr, hlocks, hml, hown, hts, hK, hD, hE, hX, hbl⟩ := K
  intro H locs ls hP hS hl
  exact lv_goto hx hb hdg ht (k H locs ls hP hS hl)
theorem L_tin {x : Lx} {pc : Nat} {lv : List (Nat × Value)} {st : List Value} {h : Hp} {dflt lo hi : Int} {offs : Array Int} {len : Nat} {a : Int32} {off : Int} (K : LK x) (tgt : Nat) (hdg : decode code pc = .ok (.tableswitch dflt lo hi offs, len)) (h1 : ¬ a.toInt < lo) (h2 : ¬ hi < a.toInt) (ho : offs[(a.toInt - lo).toNat]? = some off) (ht : (pc : Int) + off = (tgt : Int)) (k : LW x tgt lv st h) : LW x pc lv (.int a :: st) h := by
  obtain ⟨⟨p, l, e, s, m, below, meth, c⟩, ⟨b, L, xs⟩, G⟩ := x
  obtain ⟨hx, hb, hr, hlocks, hml, hown, hts, hK, hD, hE, hX, hbl⟩ := K
  intro H locs ls hP hS hl
  exact lv_tableIn hx hb hdg h1 h2 ho ht (k H locs ls hP hS hl)
theorem L_tout {x : Lx} {pc : Nat} {lv : List (Nat × Value)} {st : List Value} {h : Hp} {dflt lo hi : Int} {offs : Array Int} {len : Nat} {a : Int32} (K : LK x) (tgt : Nat) (hdg : decode code pc = .ok (.tableswitch dflt lo hi offs, len)) (h1 : a.toInt < lo ∨ hi < a.toInt) (ht : (pc : Int) + dflt = (tgt : Int)) (k : LW x tgt lv st h) : LW x pc lv (.int a :: st) h := by
  obtain ⟨⟨p, l, e, s, m, below, meth, c⟩, ⟨b, L, xs⟩, G⟩ := x
  obtain ⟨hx, hb, hr, hlocks, hml, hown, hts, hK, hD, hE, hX, hbl⟩ := K
  intro H locs ls hP hS hl
  exact lv_tableOut hx hb hdg h1 ht (k H locs ls hP hS hl)
theorem L_iinc {x : Lx} {pc : Nat} {lv : List (Nat × Value)} {st : List Value} {h : Hp} {q : Nat} {n : Int} {a v : Int32} {lv' : List (Nat × Value)} (K : LK x) (j : Nat) (hdg : decode code pc = .ok (.iinc q n, 3)) (hj : lv[j]? = some (q, .int a)) (hv : a + Int32.ofInt n = v) (hq : q < 4) (hl' : (q, Value.int v) :: lv.filter (fun z => !(z.1 == q) && !(z.1 + 1 == q && z.2.category == 2)) = lv') (k : LW x (pc + 3) lv' st h) : LW x pc lv st h := by
  obtain ⟨⟨p, l, e, s, m, below, meth, c⟩, ⟨b, L, xs⟩, G⟩ := x
  obtain ⟨hx, hb, hr, hlocks, hml, hown, hts, hK, hD, hE, hX, hbl⟩ := K
  intro H locs ls hP hS hl
  exact lv_iinc hx hb hdg hl hj hv hq hl' (fun ls' hl2 => k H locs ls' hP hS hl2)
theorem L_sub {x : Lx} {pc : Nat} {lv lv' : List (Nat × Value)} {st : List Value} {h : Hp} (ks : List Nat) (hl : lv_pick lv ks = lv') (k : LW x pc lv' st h) : LW x pc lv st h := by
  obtain ⟨⟨p, l, e, s, m, below, meth, c⟩, ⟨b, L, xs⟩, G⟩ := x
  intro H locs ls hP hS hl2
  exact k H locs ls hP hS (lv_sub hl2 ks hl)
theorem L_ret {x : Lx} {pc : Nat} {lv : List (Nat × Value)} {h : Hp} (K : LK x) (hdg : decode code pc = .ok (.ireturn, 1)) : LW x pc lv [.int 1] h := by
  obtain ⟨⟨p, l, e, s, m, below, meth, c⟩, ⟨b, L, xs⟩, G⟩ := x
  obtain ⟨hx, hb, hr, hlocks, hml, hown, hts, hK, hD, hE, hX, hbl⟩ := K
  intro H locs ls hP hS hl
  refine va_forget (fun q hq => hS.2.2 q hq) ?_
  exact lw_ret hx hb hr hlocks hdg
theorem L_call {x : Lx} {pc : Nat} {lv : List (Nat × Value)} {st : List Value} {h : Hp} {y : MethodName} {bytes : ByteArray} {maxL idx n : Nat} {rt : Option FieldType} {As : (Nat → Nat) → List Value} {rr : (Nat → Nat) → Option Value} {h2 : Hp} {o ci : Nat} {fs : List Value} {T : u_T} {N : Nat} (K : LK x) (Rn : Runs 40 y bytes maxL rt (fun f => .ref (f o) :: As f) h rr h2) (ho : o < 65) (hc : cl_ x.2.2 h o = .inr (ci, fs)) (hcl : vwCl[ci]? = some (y.cls, T, N)) (hm1 : Cond.methodLink RL idx y ∈ TB) (hm2 : Cond.instanceMethod y ∈ TB) (hm3 : Cond.selects y.cls y y ∈ TB) (hm4 : Cond.initialized y.cls ∈ TB) (hd : y.cls ≠ "java/lang/invoke/MethodHandle" ∧ y.cls ≠ "java/lang/invoke/VarHandle" ∧ (parseMethodDescriptor y.desc).map (fun d => d.parameters.length) = some n) (hm5 : Cond.code y bytes maxL rt ∈ TB) (hx5 : maxL ≤ 20) (hdg : decode code pc = .ok (.invokevirtual idx, 3)) (hn : (As (la x)).length = n) (hW : (st.map fun v => v.category).sum ≤ 8) (kk : LW x (pc + 3) lv ((rr (la x)).toList ++ st) h2) : LW x pc lv ((As (la x)).reverse ++ .ref (la x o) :: st) h := by
  obtain ⟨⟨p, l, e, s, m, below, meth, c⟩, ⟨b, L, xs⟩, G⟩ := x
  obtain ⟨hx, hb, hr, hlocks, hml, hown, hts, hK, hD, hE, hX, hbl⟩ := K
  intro H locs ls hP hS hl
  have hF : ∀ q, va_A (wd G h) H.size q → s.heap.size ≤ q := by
    intro q hq
    rcases hq with ⟨k, e, hk⟩ | hq
    · exact (hD h).2 k _ hk
    · exact Nat.le_trans hS.1 hq
  have hbl9 : FrameBlind (va_Pc (.ref (G.2.2.1 o) :: As G.2.2.1) (PP G H.size h)) := fun a U g mk q => by
    obtain ⟨q0, q1, qP, qK, qD, qE⟩ := q
    exact ⟨q0, q1, qP, va_K.moved (u := U) (U := U.calling g mk a) (Vm.Alike.refl U.vm) qK, qD, qE.moved (u := U.calling g mk a) (Vm.Alike.refl U.vm)⟩
  have hpre : ∀ U : State, U.heap = H → s.WarmedH U.vm → va_Pc (.ref (G.2.2.1 o) :: As G.2.2.1) (PP G H.size h) (.ref (G.2.2.1 o) :: As G.2.2.1).toArray U := fun U hU hW => ⟨rfl, by rw [hU], by rw [hU]; exact hP, va_K.moved hW.alike hK, (hD h).weaken (fun _ _ _ _ => trivial), by rw [hU]; exact ((hE.kept hS.2.1).narrow hF).moved hW.alike⟩
  have hGI : GoodIn TB (.code y bytes maxL rt :: TB) := fun w hw => by
    rcases List.mem_cons.mp hw with e | hw
    · rw [e]; exact TB_self _ hm5
    · exact TB_self _ hw
  have hroom : (rmD 40).frames + 1 ≤ room_1.frames ∧ 8 + (maxL + 11) + (rmD 40).locals ≤ room_1.locals := by
    show 40 + 1 ≤ 2048 ∧ 8 + (maxL + 11) + 40 * 40 ≤ 84000
    omega
  have hT9 : GoodIn TB (wsV RL idx y.cls y (.code y bytes maxL rt :: TB)) := fun w hw => by
    rcases List.mem_append.mp hw with h9 | h9
    · rcases List.mem_cons.mp h9 with e | h9
      · rw [e]; exact TB_self _ hm1
      · rcases List.mem_cons.mp h9 with e | h9
        · rw [e]; exact TB_self _ hm2
        · rcases List.mem_cons.mp h9 with e | h9
          · rw [e]; exact TB_self _ hm3
          · rcases List.mem_cons.mp h9 with e | h9
            · rw [e]; exact TB_self _ hm4
            · cases h9
    · exact hGI _ h9
  have RR := va_runV (R := room_1) (locs := locs) (cells := 600000) (slots := 7302250) (below := below) (e := e) (meth := meth) (H := H) (rest := st) (As := As G.2.2.1) (b := G.2.2.1 o) (g := F0 m pc ls ((As G.2.2.1).reverse ++ .ref (G.2.2.1 o) :: st)) ⟨hx, hb, hml, hown, hts⟩ (Rn l G H.size) (cwV n hts hT9 rfl rfl rfl ⟨rfl, hd⟩ hroom) ⟨hbl9, va_recv hK hP hcl ((wd_get ho).trans (by rw [hc])), hpre⟩ rfl hn hl.1 rfl (by show 2 * 0 + _ ≤ 8; omega) hdg ⟨Nat.le_refl _, Nat.le_refl _⟩
  intro T hT X
  obtain ⟨v, st₀, t, T', L, h0, X', hL, e1, e2, ⟨hv, hP1, hFr⟩, stp⟩ := RR T hT X
  cases hv
  have hz : H.size ≤ t.heap.size := by have := hFr.1; rw [h0] at this; exact this
  obtain ⟨t2, a1, b1⟩ := kk T'.heap (locs ++ L) ls (by rw [e1]; exact hP1) ⟨Nat.le_trans hS.1 (by rw [e1]; exact hz), fun q h1 h2 => by
      rw [e1, hFr.2 q (by rw [h0]; exact Nat.lt_of_lt_of_le h1 hS.1) (fun z => h2 (hF q z)), h0]; exact hS.2.1 q h1 h2, fun q hq => by
      rcases List.mem_append.mp hq with h | h
      · exact hS.2.2 q h
      · exact hF _ (hL q h)⟩ hl T' rfl X'
  exact ⟨t2, stp t2 a1, b1⟩
def St_row (Sim : Hp → Prop) : Prop := ∀ (a1 a2 : Int32) (h : Hp), Sim h → ∃ (r : Int32) (h1 h2 : Hp), Runs 40 yX9_row cX9_row 3 (some .int) (fun f => .ref (f 0) :: [.int a1, .int a2]) h (fun _ => some (.int r)) h1 ∧ Runs 40 yX10_row cX10_row 4 (some .int) (fun f => .ref (f 51) :: [.int a1, .int a2]) h1 (fun _ => some (.int r)) h2 ∧ Sim h2
def St_lay (Sim : Hp → Prop) : Prop := ∀ (a1 a2 a3 : Int32) (h : Hp), Sim h → ∃ (r : Int32) (h1 h2 : Hp), Runs 40 yX9_lay cX9_lay 5 (some .int) (fun f => .ref (f 0) :: [.int a1, .int a2, .int a3]) h (fun _ => some (.int r)) h1 ∧ Runs 40 yX10_lay cX10_lay 5 (some .int) (fun f => .ref (f 51) :: [.int a1, .int a2, .int a3]) h1 (fun _ => some (.int r)) h2 ∧ Sim h2
def St_at (Sim : Hp → Prop) : Prop := ∀ (a1 a2 : Int32) (h : Hp), Sim h → ∃ (r : Int32) (h1 h2 : Hp), Runs 40 yX9_at cX9_at 4 (some .int) (fun f => .ref (f 0) :: [.int a1, .int a2]) h (fun _ => some (.int r)) h1 ∧ Runs 40 yX10_at cX10_at 3 (some .int) (fun f => .ref (f 51) :: [.int a1, .int a2]) h1 (fun _ => some (.int r)) h2 ∧ Sim h2
def St_tear (Sim : Hp → Prop) : Prop := ∀ (a1 : Int32) (h : Hp), Sim h → ∃ (r : Int32) (h1 h2 : Hp), Runs 40 yX9_tear cX9_tear 3 (some .int) (fun f => .ref (f 0) :: [.int a1]) h (fun _ => some (.int r)) h1 ∧ Runs 40 yX10_tear cX10_tear 2 (some .int) (fun f => .ref (f 51) :: [.int a1]) h1 (fun _ => some (.int r)) h2 ∧ Sim h2
def St_copy (Sim : Hp → Prop) : Prop := ∀ (a1 a2 a3 a4 a5 : Int32) (h : Hp), Sim h → ∃ (r : Int32) (h1 h2 : Hp), Runs 40 yX9_copy cX9_copy 6 (some .int) (fun f => .ref (f 0) :: [.int a1, .int a2, .int a3, .int a4, .int a5]) h (fun _ => some (.int r)) h1 ∧ Runs 40 yX10_copy cX10_copy 9 (some .int) (fun f => .ref (f 51) :: [.int a1, .int a2, .int a3, .int a4, .int a5]) h1 (fun _ => some (.int r)) h2 ∧ Sim h2
def St_mean (Sim : Hp → Prop) : Prop := ∀ (a1 : Int32) (h : Hp), Sim h → ∃ (r : Int32) (h1 h2 : Hp), Runs 40 yX9_mean cX9_mean 7 (some .int) (fun f => .ref (f 0) :: [.int a1]) h (fun _ => some (.int r)) h1 ∧ Runs 40 yX10_mean cX10_mean 5 (some .int) (fun f => .ref (f 51) :: [.int a1]) h1 (fun _ => some (.int r)) h2 ∧ Sim h2
def St_text (Sim : Hp → Prop) : Prop := ∀ (a1 a2 : Int32) (h : Hp), Sim h → ∃ (r : Int32) (h1 h2 : Hp), Runs 40 yX9_text cX9_text 3 (some .int) (fun f => .ref (f 0) :: [.int a1, .int a2]) h (fun _ => some (.int r)) h1 ∧ Runs 40 yX10_text cX10_text 4 (some .int) (fun f => .ref (f 51) :: [.int a1, .int a2]) h1 (fun _ => some (.int r)) h2 ∧ Sim h2
def St_put (Sim : Hp → Prop) : Prop := ∀ (a1 a2 a3 : Int32) (h : Hp), Sim h → ∃ (r : Int32) (h1 h2 : Hp), Runs 40 yX9_put cX9_put 6 (some .int) (fun f => .ref (f 0) :: [.int a1, .int a2, .int a3]) h (fun _ => some (.int r)) h1 ∧ Runs 40 yX10_put cX10_put 5 (some .int) (fun f => .ref (f 51) :: [.int a1, .int a2, .int a3]) h1 (fun _ => some (.int r)) h2 ∧ Sim h2
def St_fault (Sim : Hp → Prop) : Prop := ∀ (a1 : Int32) (h : Hp), Sim h → ∃ (r : Int32) (h1 h2 : Hp), Runs 40 yX9_fault cX9_fault 3 (some .int) (fun f => .ref (f 0) :: [.int a1]) h (fun _ => some (.int r)) h1 ∧ Runs 40 yX10_fault cX10_fault 2 (some .int) (fun f => .ref (f 51) :: [.int a1]) h1 (fun _ => some (.int r)) h2 ∧ Sim h2
def St_front (Sim : Hp → Prop) : Prop := ∀ (a1 : Int32) (h : Hp), Sim h → ∃ (r : Int32) (h1 h2 : Hp), Runs 40 yX9_front cX9_front 4 (some .int) (fun f => .ref (f 0) :: [.int a1]) h (fun _ => some (.int r)) h1 ∧ Runs 40 yX10_front cX10_front 3 (some .int) (fun f => .ref (f 51) :: [.int a1]) h1 (fun _ => some (.int r)) h2 ∧ Sim h2
def St_one (Sim : Hp → Prop) : Prop := ∀ (a1 a2 : Int32) (h : Hp), Sim h → ∃ (r : Int32) (h1 h2 : Hp), Runs 40 yX9_one cX9_one 3 (some .int) (fun f => .ref (f 0) :: [.int a1, .int a2]) h (fun _ => some (.int r)) h1 ∧ Runs 40 yX10_one cX10_one 3 (some .int) (fun f => .ref (f 51) :: [.int a1, .int a2]) h1 (fun _ => some (.int r)) h2 ∧ Sim h2
def St_mark (Sim : Hp → Prop) : Prop := ∀ (a1 a2 : Int32) (h : Hp), Sim h → ∃ (r : Int32) (h1 h2 : Hp), Runs 40 yX9_mark cX9_mark 4 (some .int) (fun f => .ref (f 0) :: [.int a1, .int a2]) h (fun _ => some (.int r)) h1 ∧ Runs 40 yX10_mark cX10_mark 4 (some .int) (fun f => .ref (f 51) :: [.int a1, .int a2]) h1 (fun _ => some (.int r)) h2 ∧ Sim h2
def St_turn (Sim : Hp → Prop) : Prop := ∀ (h : Hp), Sim h → ∃ (r : Int32) (h1 h2 : Hp), Runs 40 yX9_turn cX9_turn 1 (some .int) (fun f => .ref (f 0) :: []) h (fun _ => some (.int r)) h1 ∧ Runs 40 yX10_turn cX10_turn 1 (some .int) (fun f => .ref (f 51) :: []) h1 (fun _ => some (.int r)) h2 ∧ Sim h2
def St_spoon (Sim : Hp → Prop) : Prop := ∀ (a1 : Int32) (h : Hp), Sim h → ∃ (r : Int32) (h1 h2 : Hp), Runs 40 yX9_spoon cX9_spoon 2 (some .int) (fun f => .ref (f 0) :: [.int a1]) h (fun _ => some (.int r)) h1 ∧ Runs 40 yX10_spoon cX10_spoon 2 (some .int) (fun f => .ref (f 51) :: [.int a1]) h1 (fun _ => some (.int r)) h2 ∧ Sim h2
def St_wind (Sim : Hp → Prop) : Prop := ∀ (a1 : Int32) (h : Hp), Sim h → ∃ (r : Int32) (h1 h2 : Hp), Runs 40 yX9_wind cX9_wind 3 (some .int) (fun f => .ref (f 0) :: [.int a1]) h (fun _ => some (.int r)) h1 ∧ Runs 40 yX10_wind cX10_wind 3 (some .int) (fun f => .ref (f 51) :: [.int a1]) h1 (fun _ => some (.int r)) h2 ∧ Sim h2
def St_rain (Sim : Hp → Prop) : Prop := ∀ (a1 : Int32) (h : Hp), Sim h → ∃ (r : Int32) (h1 h2 : Hp), Runs 40 yX9_rain cX9_rain 2 (some .int) (fun f => .ref (f 0) :: [.int a1]) h (fun _ => some (.int r)) h1 ∧ Runs 40 yX10_rain cX10_rain 2 (some .int) (fun f => .ref (f 51) :: [.int a1]) h1 (fun _ => some (.int r)) h2 ∧ Sim h2
def St_stand (Sim : Hp → Prop) : Prop := ∀ (a1 a2 : Int32) (h : Hp), Sim h → ∃ (r : Int32) (h1 h2 : Hp), Runs 40 yX9_stand cX9_stand 4 (some .int) (fun f => .ref (f 0) :: [.int a1, .int a2]) h (fun _ => some (.int r)) h1 ∧ Runs 40 yX10_stand cX10_stand 4 (some .int) (fun f => .ref (f 51) :: [.int a1, .int a2]) h1 (fun _ => some (.int r)) h2 ∧ Sim h2
def St_undo (Sim : Hp → Prop) : Prop := ∀ (a1 : Int32) (h : Hp), Sim h → ∃ (r : Int32) (h1 h2 : Hp), Runs 40 yX9_undo cX9_undo 3 (some .int) (fun f => .ref (f 0) :: [.int a1]) h (fun _ => some (.int r)) h1 ∧ Runs 40 yX10_undo cX10_undo 3 (some .int) (fun f => .ref (f 51) :: [.int a1]) h1 (fun _ => some (.int r)) h2 ∧ Sim h2
def St_keep (Sim : Hp → Prop) : Prop := ∀ (a1 : Int32) (h : Hp), Sim h → ∃ (r : Int32) (h1 h2 : Hp), Runs 40 yX9_keep cX9_keep 2 (some .int) (fun f => .ref (f 0) :: [.int a1]) h (fun _ => some (.int r)) h1 ∧ Runs 40 yX10_keep cX10_keep 3 (some .int) (fun f => .ref (f 51) :: [.int a1]) h1 (fun _ => some (.int r)) h2 ∧ Sim h2
def St_on (Sim : Hp → Prop) : Prop := ∀ (a1 : Int32) (h : Hp), Sim h → ∃ (r : Int32) (h1 h2 : Hp), Runs 40 yX9_on cX9_on 2 (some .int) (fun f => .ref (f 0) :: [.int a1]) h (fun _ => some (.int r)) h1 ∧ Runs 40 yX10_on cX10_on 3 (some .int) (fun f => .ref (f 51) :: [.int a1]) h1 (fun _ => some (.int r)) h2 ∧ Sim h2
def St_gathers (Sim : Hp → Prop) : Prop := ∀ (a1 a2 : Int32) (h : Hp), Sim h → ∃ (r : Int32) (h1 h2 : Hp), Runs 40 yX9_gathers cX9_gathers 3 (some .int) (fun f => .ref (f 0) :: [.int a1, .int a2]) h (fun _ => some (.int r)) h1 ∧ Runs 40 yX10_gathers cX10_gathers 3 (some .int) (fun f => .ref (f 51) :: [.int a1, .int a2]) h1 (fun _ => some (.int r)) h2 ∧ Sim h2
def St_cloud (Sim : Hp → Prop) : Prop := ∀ (a1 : Int32) (h : Hp), Sim h → ∃ (r : Int32) (h1 h2 : Hp), Runs 40 yX9_cloud cX9_cloud 2 (some .int) (fun f => .ref (f 0) :: [.int a1]) h (fun _ => some (.int r)) h1 ∧ Runs 40 yX10_cloud cX10_cloud 2 (some .int) (fun f => .ref (f 51) :: [.int a1]) h1 (fun _ => some (.int r)) h2 ∧ Sim h2
def St_share (Sim : Hp → Prop) : Prop := ∀ (a1 a2 : Int32) (h : Hp), Sim h → ∃ (r : Int32) (h1 h2 : Hp), Runs 40 yX9_share cX9_share 3 (some .int) (fun f => .ref (f 0) :: [.int a1, .int a2]) h (fun _ => some (.int r)) h1 ∧ Runs 40 yX10_share cX10_share 3 (some .int) (fun f => .ref (f 51) :: [.int a1, .int a2]) h1 (fun _ => some (.int r)) h2 ∧ Sim h2
def St_first (Sim : Hp → Prop) : Prop := ∀ (a1 : Int32) (h : Hp), Sim h → ∃ (r : Int32) (h1 h2 : Hp), Runs 40 yX9_first cX9_first 3 (some .int) (fun f => .ref (f 0) :: [.int a1]) h (fun _ => some (.int r)) h1 ∧ Runs 40 yX10_first cX10_first 3 (some .int) (fun f => .ref (f 51) :: [.int a1]) h1 (fun _ => some (.int r)) h2 ∧ Sim h2
def St_away (Sim : Hp → Prop) : Prop := ∀ (a1 a2 a3 : Int32) (h : Hp), Sim h → ∃ (r : Int32) (h1 h2 : Hp), Runs 40 yX9_away cX9_away 8 (some .int) (fun f => .ref (f 0) :: [.int a1, .int a2, .int a3]) h (fun _ => some (.int r)) h1 ∧ Runs 40 yX10_away cX10_away 6 (some .int) (fun f => .ref (f 51) :: [.int a1, .int a2, .int a3]) h1 (fun _ => some (.int r)) h2 ∧ Sim h2
def St_best (Sim : Hp → Prop) : Prop := ∀ (a1 a2 : Int32) (h : Hp), Sim h → ∃ (r : Int32) (h1 h2 : Hp), Runs 40 yX9_best cX9_best 6 (some .int) (fun f => .ref (f 0) :: [.int a1, .int a2]) h (fun _ => some (.int r)) h1 ∧ Runs 40 yX10_best cX10_best 8 (some .int) (fun f => .ref (f 51) :: [.int a1, .int a2]) h1 (fun _ => some (.int r)) h2 ∧ Sim h2
def St_least (Sim : Hp → Prop) : Prop := ∀ (a1 a2 : Int32) (h : Hp), Sim h → ∃ (r : Int32) (h1 h2 : Hp), Runs 40 yX9_least cX9_least 4 (some .int) (fun f => .ref (f 0) :: [.int a1, .int a2]) h (fun _ => some (.int r)) h1 ∧ Runs 40 yX10_least cX10_least 4 (some .int) (fun f => .ref (f 51) :: [.int a1, .int a2]) h1 (fun _ => some (.int r)) h2 ∧ Sim h2
def St_sizes (Sim : Hp → Prop) : Prop := ∀ (a1 a2 : Int32) (h : Hp), Sim h → ∃ (r : Int32) (h1 h2 : Hp), Runs 40 yX9_sizes cX9_sizes 4 (some .int) (fun f => .ref (f 0) :: [.int a1, .int a2]) h (fun _ => some (.int r)) h1 ∧ Runs 40 yX10_sizes cX10_sizes 3 (some .int) (fun f => .ref (f 51) :: [.int a1, .int a2]) h1 (fun _ => some (.int r)) h2 ∧ Sim h2
def St_winds (Sim : Hp → Prop) : Prop := ∀ (a1 a2 : Int32) (h : Hp), Sim h → ∃ (r : Int32) (h1 h2 : Hp), Runs 40 yX9_winds cX9_winds 6 (some .int) (fun f => .ref (f 0) :: [.int a1, .int a2]) h (fun _ => some (.int r)) h1 ∧ Runs 40 yX10_winds cX10_winds 5 (some .int) (fun f => .ref (f 51) :: [.int a1, .int a2]) h1 (fun _ => some (.int r)) h2 ∧ Sim h2
def St_kinds (Sim : Hp → Prop) : Prop := ∀ (a1 a2 : Int32) (h : Hp), Sim h → ∃ (r : Int32) (h1 h2 : Hp), Runs 40 yX9_kinds cX9_kinds 6 (some .int) (fun f => .ref (f 0) :: [.int a1, .int a2]) h (fun _ => some (.int r)) h1 ∧ Runs 40 yX10_kinds cX10_kinds 5 (some .int) (fun f => .ref (f 51) :: [.int a1, .int a2]) h1 (fun _ => some (.int r)) h2 ∧ Sim h2
def St_next (Sim : Hp → Prop) : Prop := ∀ (a1 a2 : Int32) (h : Hp), Sim h → ∃ (r : Int32) (h1 h2 : Hp), Runs 40 yX9_next cX9_next 9 (some .int) (fun f => .ref (f 0) :: [.int a1, .int a2]) h (fun _ => some (.int r)) h1 ∧ Runs 40 yX10_next cX10_next 8 (some .int) (fun f => .ref (f 51) :: [.int a1, .int a2]) h1 (fun _ => some (.int r)) h2 ∧ Sim h2
def St_sets (Sim : Hp → Prop) : Prop := ∀ (a1 : Int32) (h : Hp), Sim h → ∃ (r : Int32) (h1 h2 : Hp), Runs 40 yX9_sets cX9_sets 5 (some .int) (fun f => .ref (f 0) :: [.int a1]) h (fun _ => some (.int r)) h1 ∧ Runs 40 yX10_sets cX10_sets 5 (some .int) (fun f => .ref (f 51) :: [.int a1]) h1 (fun _ => some (.int r)) h2 ∧ Sim h2
def St_sure (Sim : Hp → Prop) : Prop := ∀ (a1 : Int32) (h : Hp), Sim h → ∃ (r : Int32) (h1 h2 : Hp), Runs 40 yX9_sure cX9_sure 7 (some .int) (fun f => .ref (f 0) :: [.int a1]) h (fun _ => some (.int r)) h1 ∧ Runs 40 yX10_sure cX10_sure 7 (some .int) (fun f => .ref (f 51) :: [.int a1]) h1 (fun _ => some (.int r)) h2 ∧ Sim h2
def St_duel (Sim : Hp → Prop) : Prop := ∀ (a1 a2 a3 : Int32) (h : Hp), Sim h → ∃ (r : Int32) (h1 h2 : Hp), Runs 40 yX9_duel cX9_duel 4 (some .int) (fun f => .ref (f 0) :: [.int a1, .int a2, .int a3]) h (fun _ => some (.int r)) h1 ∧ Runs 40 yX10_duel cX10_duel 11 (some .int) (fun f => .ref (f 51) :: [.int a1, .int a2, .int a3]) h1 (fun _ => some (.int r)) h2 ∧ Sim h2
def St_odds (Sim : Hp → Prop) : Prop := ∀ (a1 a2 : Int32) (h : Hp), Sim h → ∃ (r : Int32) (h1 h2 : Hp), Runs 40 yX9_odds cX9_odds 6 (some .int) (fun f => .ref (f 0) :: [.int a1, .int a2]) h (fun _ => some (.int r)) h1 ∧ Runs 40 yX10_odds cX10_odds 3 (some .int) (fun f => .ref (f 51) :: [.int a1, .int a2]) h1 (fun _ => some (.int r)) h2 ∧ Sim h2
def St_mid (Sim : Hp → Prop) : Prop := ∀ (a1 : Int32) (h : Hp), Sim h → ∃ (r : Int32) (h1 h2 : Hp), Runs 40 yX9_mid cX9_mid 5 (some .int) (fun f => .ref (f 0) :: [.int a1]) h (fun _ => some (.int r)) h1 ∧ Runs 40 yX10_mid cX10_mid 2 (some .int) (fun f => .ref (f 51) :: [.int a1]) h1 (fun _ => some (.int r)) h2 ∧ Sim h2
def St_lots (Sim : Hp → Prop) : Prop := ∀ (a1 a2 : Int32) (h : Hp), Sim h → ∃ (r : Int32) (h1 h2 : Hp), Runs 40 yX9_lots cX9_lots 6 (some .int) (fun f => .ref (f 0) :: [.int a1, .int a2]) h (fun _ => some (.int r)) h1 ∧ Runs 40 yX10_lots cX10_lots 6 (some .int) (fun f => .ref (f 51) :: [.int a1, .int a2]) h1 (fun _ => some (.int r)) h2 ∧ Sim h2
def St_asked (Sim : Hp → Prop) : Prop := ∀ (h : Hp), Sim h → ∃ (r : Int32) (h1 h2 : Hp), Runs 40 yX9_asked cX9_asked 1 (some .int) (fun f => .ref (f 0) :: []) h (fun _ => some (.int r)) h1 ∧ Runs 40 yX10_asked cX10_asked 1 (some .int) (fun f => .ref (f 51) :: []) h1 (fun _ => some (.int r)) h2 ∧ Sim h2
def St_upper (Sim : Hp → Prop) : Prop := ∀ (h : Hp), Sim h → ∃ (r : Int64) (h1 h2 : Hp), Runs 40 yX9_upper cX9_upper 1 (some .long) (fun f => .ref (f 0) :: []) h (fun _ => some (.long r)) h1 ∧ Runs 40 yX10_upper cX10_upper 1 (some .long) (fun f => .ref (f 51) :: []) h1 (fun _ => some (.long r)) h2 ∧ Sim h2
def St_lower (Sim : Hp → Prop) : Prop := ∀ (h : Hp), Sim h → ∃ (r : Int64) (h1 h2 : Hp), Runs 40 yX9_lower cX9_lower 1 (some .long) (fun f => .ref (f 0) :: []) h (fun _ => some (.long r)) h1 ∧ Runs 40 yX10_lower cX10_lower 1 (some .long) (fun f => .ref (f 51) :: []) h1 (fun _ => some (.long r)) h2 ∧ Sim h2
def St_count (Sim : Hp → Prop) : Prop := ∀ (a1 : Int32) (h : Hp), Sim h → ∃ (r : Int32) (h1 h2 : Hp), Runs 40 yX9_count cX9_count 2 (some .int) (fun f => .ref (f 0) :: [.int a1]) h (fun _ => some (.int r)) h1 ∧ Runs 40 yX10_count cX10_count 2 (some .int) (fun f => .ref (f 51) :: [.int a1]) h1 (fun _ => some (.int r)) h2 ∧ Sim h2
def St_finding (Sim : Hp → Prop) : Prop := ∀ (h : Hp), Sim h → ∃ (r : Int32) (h1 h2 : Hp), Runs 40 yX9_finding cX9_finding 1 (some .int) (fun f => .ref (f 0) :: []) h (fun _ => some (.int r)) h1 ∧ Runs 40 yX10_finding cX10_finding 1 (some .int) (fun f => .ref (f 51) :: []) h1 (fun _ => some (.int r)) h2 ∧ Sim h2
def St_findings (Sim : Hp → Prop) : Prop := ∀ (a1 : Int32) (h : Hp), Sim h → ∃ (r : Int32) (h1 h2 : Hp), Runs 40 yX9_findings cX9_findings 2 (some .int) (fun f => .ref (f 0) :: [.int a1]) h (fun _ => some (.int r)) h1 ∧ Runs 40 yX10_findings cX10_findings 2 (some .int) (fun f => .ref (f 51) :: [.int a1]) h1 (fun _ => some (.int r)) h2 ∧ Sim h2
def St_digest (Sim : Hp → Prop) : Prop := ∀ (h : Hp), Sim h → ∃ (r : Int64) (h1 h2 : Hp), Runs 40 yX9_digest cX9_digest 5 (some .long) (fun f => .ref (f 0) :: []) h (fun _ => some (.long r)) h1 ∧ Runs 40 yX10_digest cX10_digest 5 (some .long) (fun f => .ref (f 51) :: []) h1 (fun _ => some (.long r)) h2 ∧ Sim h2
theorem tl_0 : Cond.methodLink RL 13 yX9_row ∈ TB := TB_at 216 (by decide +kernel) (by decide +kernel)
theorem tl_1 : Cond.instanceMethod yX9_row ∈ TB := TB_at 217 (by decide +kernel) (by decide +kernel)
theorem tl_2 : Cond.selects RX9 yX9_row yX9_row ∈ TB := TB_at 218 (by decide +kernel) (by decide +kernel)
theorem tl_4 : Cond.code yX9_row cX9_row 3 (some .int) ∈ TB := TB_at 219 (by decide +kernel) (by decide +kernel)
theorem tl_5 : Cond.methodLink RL 17 yX10_row ∈ TB := TB_at 799 (by decide +kernel) (by decide +kernel)
theorem tl_6 : Cond.instanceMethod yX10_row ∈ TB := TB_at 800 (by decide +kernel) (by decide +kernel)
theorem tl_7 : Cond.selects RX10 yX10_row yX10_row ∈ TB := TB_at 801 (by decide +kernel) (by decide +kernel)
theorem tl_9 : Cond.code yX10_row cX10_row 4 (some .int) ∈ TB := TB_at 802 (by decide +kernel) (by decide +kernel)
theorem tl_10 : Cond.methodLink RL 18 yX9_lay ∈ TB := TB_at 227 (by decide +kernel) (by decide +kernel)
theorem tl_11 : Cond.instanceMethod yX9_lay ∈ TB := TB_at 228 (by decide +kernel) (by decide +kernel)
theorem tl_12 : Cond.selects RX9 yX9_lay yX9_lay ∈ TB := TB_at 229 (by decide +kernel) (by decide +kernel)
theorem tl_13 : Cond.code yX9_lay cX9_lay 5 (some .int) ∈ TB := TB_at 230 (by decide +kernel) (by decide +kernel)
theorem tl_14 : Cond.methodLink RL 22 yX10_lay ∈ TB := TB_at 813 (by decide +kernel) (by decide +kernel)
theorem tl_15 : Cond.instanceMethod yX10_lay ∈ TB := TB_at 814 (by decide +kernel) (by decide +kernel)
theorem tl_16 : Cond.selects RX10 yX10_lay yX10_lay ∈ TB := TB_at 815 (by decide +kernel) (by decide +kernel)
theorem tl_17 : Cond.code yX10_lay cX10_lay 5 (some .int) ∈ TB := TB_at 816 (by decide +kernel) (by decide +kernel)
theorem tl_18 : Cond.methodLink RL 23 yX9_at ∈ TB := TB_at 243 (by decide +kernel) (by decide +kernel)
theorem tl_19 : Cond.instanceMethod yX9_at ∈ TB := TB_at 244 (by decide +kernel) (by decide +kernel)
theorem tl_20 : Cond.selects RX9 yX9_at yX9_at ∈ TB := TB_at 245 (by decide +kernel) (by decide +kernel)
theorem tl_21 : Cond.code yX9_at cX9_at 4 (some .int) ∈ TB := TB_at 246 (by decide +kernel) (by decide +kernel)
theorem tl_22 : Cond.methodLink RL 26 yX10_at ∈ TB := TB_at 825 (by decide +kernel) (by decide +kernel)
theorem tl_23 : Cond.instanceMethod yX10_at ∈ TB := TB_at 826 (by decide +kernel) (by decide +kernel)
theorem tl_24 : Cond.selects RX10 yX10_at yX10_at ∈ TB := TB_at 827 (by decide +kernel) (by decide +kernel)
theorem tl_25 : Cond.code yX10_at cX10_at 3 (some .int) ∈ TB := TB_at 828 (by decide +kernel) (by decide +kernel)
theorem tl_26 : Cond.methodLink RL 27 yX9_tear ∈ TB := TB_at 247 (by decide +kernel) (by decide +kernel)
theorem tl_27 : Cond.instanceMethod yX9_tear ∈ TB := TB_at 248 (by decide +kernel) (by decide +kernel)
theorem tl_28 : Cond.selects RX9 yX9_tear yX9_tear ∈ TB := TB_at 249 (by decide +kernel) (by decide +kernel)
theorem tl_29 : Cond.code yX9_tear cX9_tear 3 (some .int) ∈ TB := TB_at 250 (by decide +kernel) (by decide +kernel)
theorem tl_30 : Cond.methodLink RL 31 yX10_tear ∈ TB := TB_at 829 (by decide +kernel) (by decide +kernel)
theorem tl_31 : Cond.instanceMethod yX10_tear ∈ TB := TB_at 830 (by decide +kernel) (by decide +kernel)
theorem tl_32 : Cond.selects RX10 yX10_tear yX10_tear ∈ TB := TB_at 831 (by decide +kernel) (by decide +kernel)
theorem tl_33 : Cond.code yX10_tear cX10_tear 2 (some .int) ∈ TB := TB_at 832 (by decide +kernel) (by decide +kernel)
theorem tl_34 : Cond.methodLink RL 32 yX9_copy ∈ TB := TB_at 251 (by decide +kernel) (by decide +kernel)
theorem tl_35 : Cond.instanceMethod yX9_copy ∈ TB := TB_at 252 (by decide +kernel) (by decide +kernel)
theorem tl_36 : Cond.selects RX9 yX9_copy yX9_copy ∈ TB := TB_at 253 (by decide +kernel) (by decide +kernel)
theorem tl_37 : Cond.code yX9_copy cX9_copy 6 (some .int) ∈ TB := TB_at 254 (by decide +kernel) (by decide +kernel)
theorem tl_38 : Cond.methodLink RL 36 yX10_copy ∈ TB := TB_at 833 (by decide +kernel) (by decide +kernel)
theorem tl_39 : Cond.instanceMethod yX10_copy ∈ TB := TB_at 834 (by decide +kernel) (by decide +kernel)
theorem tl_40 : Cond.selects RX10 yX10_copy yX10_copy ∈ TB := TB_at 835 (by decide +kernel) (by decide +kernel)
theorem tl_41 : Cond.code yX10_copy cX10_copy 9 (some .int) ∈ TB := TB_at 836 (by decide +kernel) (by decide +kernel)
theorem tl_42 : Cond.methodLink RL 37 yX9_mean ∈ TB := TB_at 258 (by decide +kernel) (by decide +kernel)
theorem tl_43 : Cond.instanceMethod yX9_mean ∈ TB := TB_at 259 (by decide +kernel) (by decide +kernel)
theorem tl_44 : Cond.selects RX9 yX9_mean yX9_mean ∈ TB := TB_at 260 (by decide +kernel) (by decide +kernel)
theorem tl_45 : Cond.code yX9_mean cX9_mean 7 (some .int) ∈ TB := TB_at 261 (by decide +kernel) (by decide +kernel)
theorem tl_46 : Cond.methodLink RL 40 yX10_mean ∈ TB := TB_at 837 (by decide +kernel) (by decide +kernel)
theorem tl_47 : Cond.instanceMethod yX10_mean ∈ TB := TB_at 838 (by decide +kernel) (by decide +kernel)
theorem tl_48 : Cond.selects RX10 yX10_mean yX10_mean ∈ TB := TB_at 839 (by decide +kernel) (by decide +kernel)
theorem tl_49 : Cond.code yX10_mean cX10_mean 5 (some .int) ∈ TB := TB_at 840 (by decide +kernel) (by decide +kernel)
theorem tl_50 : Cond.methodLink RL 41 yX9_text ∈ TB := TB_at 262 (by decide +kernel) (by decide +kernel)
theorem tl_51 : Cond.instanceMethod yX9_text ∈ TB := TB_at 263 (by decide +kernel) (by decide +kernel)
theorem tl_52 : Cond.selects RX9 yX9_text yX9_text ∈ TB := TB_at 264 (by decide +kernel) (by decide +kernel)
theorem tl_53 : Cond.code yX9_text cX9_text 3 (some .int) ∈ TB := TB_at 265 (by decide +kernel) (by decide +kernel)
theorem tl_54 : Cond.methodLink RL 44 yX10_text ∈ TB := TB_at 841 (by decide +kernel) (by decide +kernel)
theorem tl_55 : Cond.instanceMethod yX10_text ∈ TB := TB_at 842 (by decide +kernel) (by decide +kernel)
theorem tl_56 : Cond.selects RX10 yX10_text yX10_text ∈ TB := TB_at 843 (by decide +kernel) (by decide +kernel)
theorem tl_57 : Cond.code yX10_text cX10_text 4 (some .int) ∈ TB := TB_at 844 (by decide +kernel) (by decide +kernel)
theorem tl_58 : Cond.methodLink RL 45 yX9_put ∈ TB := TB_at 272 (by decide +kernel) (by decide +kernel)
theorem tl_59 : Cond.instanceMethod yX9_put ∈ TB := TB_at 273 (by decide +kernel) (by decide +kernel)
theorem tl_60 : Cond.selects RX9 yX9_put yX9_put ∈ TB := TB_at 274 (by decide +kernel) (by decide +kernel)
theorem tl_61 : Cond.code yX9_put cX9_put 6 (some .int) ∈ TB := TB_at 275 (by decide +kernel) (by decide +kernel)
theorem tl_62 : Cond.methodLink RL 48 yX10_put ∈ TB := TB_at 848 (by decide +kernel) (by decide +kernel)
theorem tl_63 : Cond.instanceMethod yX10_put ∈ TB := TB_at 849 (by decide +kernel) (by decide +kernel)
theorem tl_64 : Cond.selects RX10 yX10_put yX10_put ∈ TB := TB_at 850 (by decide +kernel) (by decide +kernel)
theorem tl_65 : Cond.code yX10_put cX10_put 5 (some .int) ∈ TB := TB_at 851 (by decide +kernel) (by decide +kernel)
theorem tl_66 : Cond.methodLink RL 49 yX9_fault ∈ TB := TB_at 280 (by decide +kernel) (by decide +kernel)
theorem tl_67 : Cond.instanceMethod yX9_fault ∈ TB := TB_at 281 (by decide +kernel) (by decide +kernel)
theorem tl_68 : Cond.selects RX9 yX9_fault yX9_fault ∈ TB := TB_at 282 (by decide +kernel) (by decide +kernel)
theorem tl_69 : Cond.code yX9_fault cX9_fault 3 (some .int) ∈ TB := TB_at 283 (by decide +kernel) (by decide +kernel)
theorem tl_70 : Cond.methodLink RL 52 yX10_fault ∈ TB := TB_at 852 (by decide +kernel) (by decide +kernel)
theorem tl_71 : Cond.instanceMethod yX10_fault ∈ TB := TB_at 853 (by decide +kernel) (by decide +kernel)
theorem tl_72 : Cond.selects RX10 yX10_fault yX10_fault ∈ TB := TB_at 854 (by decide +kernel) (by decide +kernel)
theorem tl_73 : Cond.code yX10_fault cX10_fault 2 (some .int) ∈ TB := TB_at 855 (by decide +kernel) (by decide +kernel)
theorem tl_74 : Cond.methodLink RL 53 yX9_front ∈ TB := TB_at 314 (by decide +kernel) (by decide +kernel)
theorem tl_75 : Cond.instanceMethod yX9_front ∈ TB := TB_at 315 (by decide +kernel) (by decide +kernel)
theorem tl_76 : Cond.selects RX9 yX9_front yX9_front ∈ TB := TB_at 316 (by decide +kernel) (by decide +kernel)
theorem tl_77 : Cond.code yX9_front cX9_front 4 (some .int) ∈ TB := TB_at 317 (by decide +kernel) (by decide +kernel)
theorem tl_78 : Cond.methodLink RL 56 yX10_front ∈ TB := TB_at 883 (by decide +kernel) (by decide +kernel)
theorem tl_79 : Cond.instanceMethod yX10_front ∈ TB := TB_at 884 (by decide +kernel) (by decide +kernel)
theorem tl_80 : Cond.selects RX10 yX10_front yX10_front ∈ TB := TB_at 885 (by decide +kernel) (by decide +kernel)
theorem tl_81 : Cond.code yX10_front cX10_front 3 (some .int) ∈ TB := TB_at 886 (by decide +kernel) (by decide +kernel)
theorem tl_82 : Cond.methodLink RL 57 yX9_one ∈ TB := TB_at 322 (by decide +kernel) (by decide +kernel)
theorem tl_83 : Cond.instanceMethod yX9_one ∈ TB := TB_at 323 (by decide +kernel) (by decide +kernel)
theorem tl_84 : Cond.selects RX9 yX9_one yX9_one ∈ TB := TB_at 324 (by decide +kernel) (by decide +kernel)
theorem tl_85 : Cond.code yX9_one cX9_one 3 (some .int) ∈ TB := TB_at 325 (by decide +kernel) (by decide +kernel)
theorem tl_86 : Cond.methodLink RL 60 yX10_one ∈ TB := TB_at 887 (by decide +kernel) (by decide +kernel)
theorem tl_87 : Cond.instanceMethod yX10_one ∈ TB := TB_at 888 (by decide +kernel) (by decide +kernel)
theorem tl_88 : Cond.selects RX10 yX10_one yX10_one ∈ TB := TB_at 889 (by decide +kernel) (by decide +kernel)
theorem tl_89 : Cond.code yX10_one cX10_one 3 (some .int) ∈ TB := TB_at 890 (by decide +kernel) (by decide +kernel)
theorem tl_90 : Cond.methodLink RL 61 yX9_mark ∈ TB := TB_at 375 (by decide +kernel) (by decide +kernel)
theorem tl_91 : Cond.instanceMethod yX9_mark ∈ TB := TB_at 376 (by decide +kernel) (by decide +kernel)
theorem tl_92 : Cond.selects RX9 yX9_mark yX9_mark ∈ TB := TB_at 377 (by decide +kernel) (by decide +kernel)
theorem tl_93 : Cond.code yX9_mark cX9_mark 4 (some .int) ∈ TB := TB_at 378 (by decide +kernel) (by decide +kernel)
theorem tl_94 : Cond.methodLink RL 64 yX10_mark ∈ TB := TB_at 913 (by decide +kernel) (by decide +kernel)
theorem tl_95 : Cond.instanceMethod yX10_mark ∈ TB := TB_at 914 (by decide +kernel) (by decide +kernel)
theorem tl_96 : Cond.selects RX10 yX10_mark yX10_mark ∈ TB := TB_at 915 (by decide +kernel) (by decide +kernel)
theorem tl_97 : Cond.code yX10_mark cX10_mark 4 (some .int) ∈ TB := TB_at 916 (by decide +kernel) (by decide +kernel)
theorem tl_98 : Cond.methodLink RL 65 yX9_turn ∈ TB := TB_at 397 (by decide +kernel) (by decide +kernel)
theorem tl_99 : Cond.instanceMethod yX9_turn ∈ TB := TB_at 398 (by decide +kernel) (by decide +kernel)
theorem tl_100 : Cond.selects RX9 yX9_turn yX9_turn ∈ TB := TB_at 399 (by decide +kernel) (by decide +kernel)
theorem tl_101 : Cond.code yX9_turn cX9_turn 1 (some .int) ∈ TB := TB_at 400 (by decide +kernel) (by decide +kernel)
theorem tl_102 : Cond.methodLink RL 69 yX10_turn ∈ TB := TB_at 928 (by decide +kernel) (by decide +kernel)
theorem tl_103 : Cond.instanceMethod yX10_turn ∈ TB := TB_at 929 (by decide +kernel) (by decide +kernel)
theorem tl_104 : Cond.selects RX10 yX10_turn yX10_turn ∈ TB := TB_at 930 (by decide +kernel) (by decide +kernel)
theorem tl_105 : Cond.code yX10_turn cX10_turn 1 (some .int) ∈ TB := TB_at 931 (by decide +kernel) (by decide +kernel)
theorem tl_106 : Cond.methodLink RL 70 yX9_spoon ∈ TB := TB_at 470 (by decide +kernel) (by decide +kernel)
theorem tl_107 : Cond.instanceMethod yX9_spoon ∈ TB := TB_at 471 (by decide +kernel) (by decide +kernel)
theorem tl_108 : Cond.selects RX9 yX9_spoon yX9_spoon ∈ TB := TB_at 472 (by decide +kernel) (by decide +kernel)
theorem tl_109 : Cond.code yX9_spoon cX9_spoon 2 (some .int) ∈ TB := TB_at 473 (by decide +kernel) (by decide +kernel)
theorem tl_110 : Cond.methodLink RL 73 yX10_spoon ∈ TB := TB_at 951 (by decide +kernel) (by decide +kernel)
theorem tl_111 : Cond.instanceMethod yX10_spoon ∈ TB := TB_at 952 (by decide +kernel) (by decide +kernel)
theorem tl_112 : Cond.selects RX10 yX10_spoon yX10_spoon ∈ TB := TB_at 953 (by decide +kernel) (by decide +kernel)
theorem tl_113 : Cond.code yX10_spoon cX10_spoon 2 (some .int) ∈ TB := TB_at 954 (by decide +kernel) (by decide +kernel)
theorem tl_114 : Cond.methodLink RL 74 yX9_wind ∈ TB := TB_at 474 (by decide +kernel) (by decide +kernel)
theorem tl_115 : Cond.instanceMethod yX9_wind ∈ TB := TB_at 475 (by decide +kernel) (by decide +kernel)
theorem tl_116 : Cond.selects RX9 yX9_wind yX9_wind ∈ TB := TB_at 476 (by decide +kernel) (by decide +kernel)
theorem tl_117 : Cond.code yX9_wind cX9_wind 3 (some .int) ∈ TB := TB_at 477 (by decide +kernel) (by decide +kernel)
theorem tl_118 : Cond.methodLink RL 77 yX10_wind ∈ TB := TB_at 959 (by decide +kernel) (by decide +kernel)
theorem tl_119 : Cond.instanceMethod yX10_wind ∈ TB := TB_at 960 (by decide +kernel) (by decide +kernel)
theorem tl_120 : Cond.selects RX10 yX10_wind yX10_wind ∈ TB := TB_at 961 (by decide +kernel) (by decide +kernel)
theorem tl_121 : Cond.code yX10_wind cX10_wind 3 (some .int) ∈ TB := TB_at 962 (by decide +kernel) (by decide +kernel)
theorem tl_122 : Cond.methodLink RL 78 yX9_rain ∈ TB := TB_at 478 (by decide +kernel) (by decide +kernel)
theorem tl_123 : Cond.instanceMethod yX9_rain ∈ TB := TB_at 479 (by decide +kernel) (by decide +kernel)
theorem tl_124 : Cond.selects RX9 yX9_rain yX9_rain ∈ TB := TB_at 480 (by decide +kernel) (by decide +kernel)
theorem tl_125 : Cond.code yX9_rain cX9_rain 2 (some .int) ∈ TB := TB_at 481 (by decide +kernel) (by decide +kernel)
theorem tl_126 : Cond.methodLink RL 81 yX10_rain ∈ TB := TB_at 963 (by decide +kernel) (by decide +kernel)
theorem tl_127 : Cond.instanceMethod yX10_rain ∈ TB := TB_at 964 (by decide +kernel) (by decide +kernel)
theorem tl_128 : Cond.selects RX10 yX10_rain yX10_rain ∈ TB := TB_at 965 (by decide +kernel) (by decide +kernel)
theorem tl_129 : Cond.code yX10_rain cX10_rain 2 (some .int) ∈ TB := TB_at 966 (by decide +kernel) (by decide +kernel)
theorem tl_130 : Cond.methodLink RL 82 yX9_stand ∈ TB := TB_at 482 (by decide +kernel) (by decide +kernel)
theorem tl_131 : Cond.instanceMethod yX9_stand ∈ TB := TB_at 483 (by decide +kernel) (by decide +kernel)
theorem tl_132 : Cond.selects RX9 yX9_stand yX9_stand ∈ TB := TB_at 484 (by decide +kernel) (by decide +kernel)
theorem tl_133 : Cond.code yX9_stand cX9_stand 4 (some .int) ∈ TB := TB_at 485 (by decide +kernel) (by decide +kernel)
theorem tl_134 : Cond.methodLink RL 85 yX10_stand ∈ TB := TB_at 967 (by decide +kernel) (by decide +kernel)
theorem tl_135 : Cond.instanceMethod yX10_stand ∈ TB := TB_at 968 (by decide +kernel) (by decide +kernel)
theorem tl_136 : Cond.selects RX10 yX10_stand yX10_stand ∈ TB := TB_at 969 (by decide +kernel) (by decide +kernel)
theorem tl_137 : Cond.code yX10_stand cX10_stand 4 (some .int) ∈ TB := TB_at 970 (by decide +kernel) (by decide +kernel)
theorem tl_138 : Cond.methodLink RL 86 yX9_undo ∈ TB := TB_at 486 (by decide +kernel) (by decide +kernel)
theorem tl_139 : Cond.instanceMethod yX9_undo ∈ TB := TB_at 487 (by decide +kernel) (by decide +kernel)
theorem tl_140 : Cond.selects RX9 yX9_undo yX9_undo ∈ TB := TB_at 488 (by decide +kernel) (by decide +kernel)
theorem tl_141 : Cond.code yX9_undo cX9_undo 3 (some .int) ∈ TB := TB_at 489 (by decide +kernel) (by decide +kernel)
theorem tl_142 : Cond.methodLink RL 89 yX10_undo ∈ TB := TB_at 971 (by decide +kernel) (by decide +kernel)
theorem tl_143 : Cond.instanceMethod yX10_undo ∈ TB := TB_at 972 (by decide +kernel) (by decide +kernel)
theorem tl_144 : Cond.selects RX10 yX10_undo yX10_undo ∈ TB := TB_at 973 (by decide +kernel) (by decide +kernel)
theorem tl_145 : Cond.code yX10_undo cX10_undo 3 (some .int) ∈ TB := TB_at 974 (by decide +kernel) (by decide +kernel)
theorem tl_146 : Cond.methodLink RL 90 yX9_keep ∈ TB := TB_at 494 (by decide +kernel) (by decide +kernel)
theorem tl_147 : Cond.instanceMethod yX9_keep ∈ TB := TB_at 495 (by decide +kernel) (by decide +kernel)
theorem tl_148 : Cond.selects RX9 yX9_keep yX9_keep ∈ TB := TB_at 496 (by decide +kernel) (by decide +kernel)
theorem tl_149 : Cond.code yX9_keep cX9_keep 2 (some .int) ∈ TB := TB_at 497 (by decide +kernel) (by decide +kernel)
theorem tl_150 : Cond.methodLink RL 93 yX10_keep ∈ TB := TB_at 975 (by decide +kernel) (by decide +kernel)
theorem tl_151 : Cond.instanceMethod yX10_keep ∈ TB := TB_at 976 (by decide +kernel) (by decide +kernel)
theorem tl_152 : Cond.selects RX10 yX10_keep yX10_keep ∈ TB := TB_at 977 (by decide +kernel) (by decide +kernel)
theorem tl_153 : Cond.code yX10_keep cX10_keep 3 (some .int) ∈ TB := TB_at 978 (by decide +kernel) (by decide +kernel)
theorem tl_154 : Cond.methodLink RL 94 yX9_on ∈ TB := TB_at 506 (by decide +kernel) (by decide +kernel)
theorem tl_155 : Cond.instanceMethod yX9_on ∈ TB := TB_at 507 (by decide +kernel) (by decide +kernel)
theorem tl_156 : Cond.selects RX9 yX9_on yX9_on ∈ TB := TB_at 508 (by decide +kernel) (by decide +kernel)
theorem tl_157 : Cond.code yX9_on cX9_on 2 (some .int) ∈ TB := TB_at 509 (by decide +kernel) (by decide +kernel)
theorem tl_158 : Cond.methodLink RL 97 yX10_on ∈ TB := TB_at 979 (by decide +kernel) (by decide +kernel)
theorem tl_159 : Cond.instanceMethod yX10_on ∈ TB := TB_at 980 (by decide +kernel) (by decide +kernel)
theorem tl_160 : Cond.selects RX10 yX10_on yX10_on ∈ TB := TB_at 981 (by decide +kernel) (by decide +kernel)
theorem tl_161 : Cond.code yX10_on cX10_on 3 (some .int) ∈ TB := TB_at 982 (by decide +kernel) (by decide +kernel)
theorem tl_162 : Cond.methodLink RL 98 yX9_gathers ∈ TB := TB_at 510 (by decide +kernel) (by decide +kernel)
theorem tl_163 : Cond.instanceMethod yX9_gathers ∈ TB := TB_at 511 (by decide +kernel) (by decide +kernel)
theorem tl_164 : Cond.selects RX9 yX9_gathers yX9_gathers ∈ TB := TB_at 512 (by decide +kernel) (by decide +kernel)
theorem tl_165 : Cond.code yX9_gathers cX9_gathers 3 (some .int) ∈ TB := TB_at 513 (by decide +kernel) (by decide +kernel)
theorem tl_166 : Cond.methodLink RL 101 yX10_gathers ∈ TB := TB_at 983 (by decide +kernel) (by decide +kernel)
theorem tl_167 : Cond.instanceMethod yX10_gathers ∈ TB := TB_at 984 (by decide +kernel) (by decide +kernel)
theorem tl_168 : Cond.selects RX10 yX10_gathers yX10_gathers ∈ TB := TB_at 985 (by decide +kernel) (by decide +kernel)
theorem tl_169 : Cond.code yX10_gathers cX10_gathers 3 (some .int) ∈ TB := TB_at 986 (by decide +kernel) (by decide +kernel)
theorem tl_170 : Cond.methodLink RL 102 yX9_cloud ∈ TB := TB_at 514 (by decide +kernel) (by decide +kernel)
theorem tl_171 : Cond.instanceMethod yX9_cloud ∈ TB := TB_at 515 (by decide +kernel) (by decide +kernel)
theorem tl_172 : Cond.selects RX9 yX9_cloud yX9_cloud ∈ TB := TB_at 516 (by decide +kernel) (by decide +kernel)
theorem tl_173 : Cond.code yX9_cloud cX9_cloud 2 (some .int) ∈ TB := TB_at 517 (by decide +kernel) (by decide +kernel)
theorem tl_174 : Cond.methodLink RL 105 yX10_cloud ∈ TB := TB_at 987 (by decide +kernel) (by decide +kernel)
theorem tl_175 : Cond.instanceMethod yX10_cloud ∈ TB := TB_at 988 (by decide +kernel) (by decide +kernel)
theorem tl_176 : Cond.selects RX10 yX10_cloud yX10_cloud ∈ TB := TB_at 989 (by decide +kernel) (by decide +kernel)
theorem tl_177 : Cond.code yX10_cloud cX10_cloud 2 (some .int) ∈ TB := TB_at 990 (by decide +kernel) (by decide +kernel)
theorem tl_178 : Cond.methodLink RL 106 yX9_share ∈ TB := TB_at 522 (by decide +kernel) (by decide +kernel)
theorem tl_179 : Cond.instanceMethod yX9_share ∈ TB := TB_at 523 (by decide +kernel) (by decide +kernel)
theorem tl_180 : Cond.selects RX9 yX9_share yX9_share ∈ TB := TB_at 524 (by decide +kernel) (by decide +kernel)
theorem tl_181 : Cond.code yX9_share cX9_share 3 (some .int) ∈ TB := TB_at 525 (by decide +kernel) (by decide +kernel)
theorem tl_182 : Cond.methodLink RL 109 yX10_share ∈ TB := TB_at 995 (by decide +kernel) (by decide +kernel)
theorem tl_183 : Cond.instanceMethod yX10_share ∈ TB := TB_at 996 (by decide +kernel) (by decide +kernel)
theorem tl_184 : Cond.selects RX10 yX10_share yX10_share ∈ TB := TB_at 997 (by decide +kernel) (by decide +kernel)
theorem tl_185 : Cond.code yX10_share cX10_share 3 (some .int) ∈ TB := TB_at 998 (by decide +kernel) (by decide +kernel)
theorem tl_186 : Cond.methodLink RL 110 yX9_first ∈ TB := TB_at 526 (by decide +kernel) (by decide +kernel)
theorem tl_187 : Cond.instanceMethod yX9_first ∈ TB := TB_at 527 (by decide +kernel) (by decide +kernel)
theorem tl_188 : Cond.selects RX9 yX9_first yX9_first ∈ TB := TB_at 528 (by decide +kernel) (by decide +kernel)
theorem tl_189 : Cond.code yX9_first cX9_first 3 (some .int) ∈ TB := TB_at 529 (by decide +kernel) (by decide +kernel)
theorem tl_190 : Cond.methodLink RL 113 yX10_first ∈ TB := TB_at 999 (by decide +kernel) (by decide +kernel)
theorem tl_191 : Cond.instanceMethod yX10_first ∈ TB := TB_at 1000 (by decide +kernel) (by decide +kernel)
theorem tl_192 : Cond.selects RX10 yX10_first yX10_first ∈ TB := TB_at 1001 (by decide +kernel) (by decide +kernel)
theorem tl_193 : Cond.code yX10_first cX10_first 3 (some .int) ∈ TB := TB_at 1002 (by decide +kernel) (by decide +kernel)
theorem tl_194 : Cond.methodLink RL 114 yX9_away ∈ TB := TB_at 531 (by decide +kernel) (by decide +kernel)
theorem tl_195 : Cond.instanceMethod yX9_away ∈ TB := TB_at 532 (by decide +kernel) (by decide +kernel)
theorem tl_196 : Cond.selects RX9 yX9_away yX9_away ∈ TB := TB_at 533 (by decide +kernel) (by decide +kernel)
theorem tl_197 : Cond.code yX9_away cX9_away 8 (some .int) ∈ TB := TB_at 534 (by decide +kernel) (by decide +kernel)
theorem tl_198 : Cond.methodLink RL 117 yX10_away ∈ TB := TB_at 1003 (by decide +kernel) (by decide +kernel)
theorem tl_199 : Cond.instanceMethod yX10_away ∈ TB := TB_at 1004 (by decide +kernel) (by decide +kernel)
theorem tl_200 : Cond.selects RX10 yX10_away yX10_away ∈ TB := TB_at 1005 (by decide +kernel) (by decide +kernel)
theorem tl_201 : Cond.code yX10_away cX10_away 6 (some .int) ∈ TB := TB_at 1006 (by decide +kernel) (by decide +kernel)
theorem tl_202 : Cond.methodLink RL 118 yX9_best ∈ TB := TB_at 548 (by decide +kernel) (by decide +kernel)
theorem tl_203 : Cond.instanceMethod yX9_best ∈ TB := TB_at 549 (by decide +kernel) (by decide +kernel)
theorem tl_204 : Cond.selects RX9 yX9_best yX9_best ∈ TB := TB_at 550 (by decide +kernel) (by decide +kernel)
theorem tl_205 : Cond.code yX9_best cX9_best 6 (some .int) ∈ TB := TB_at 551 (by decide +kernel) (by decide +kernel)
theorem tl_206 : Cond.methodLink RL 121 yX10_best ∈ TB := TB_at 1010 (by decide +kernel) (by decide +kernel)
theorem tl_207 : Cond.instanceMethod yX10_best ∈ TB := TB_at 1011 (by decide +kernel) (by decide +kernel)
theorem tl_208 : Cond.selects RX10 yX10_best yX10_best ∈ TB := TB_at 1012 (by decide +kernel) (by decide +kernel)
theorem tl_209 : Cond.code yX10_best cX10_best 8 (some .int) ∈ TB := TB_at 1013 (by decide +kernel) (by decide +kernel)
theorem tl_210 : Cond.methodLink RL 122 yX9_least ∈ TB := TB_at 552 (by decide +kernel) (by decide +kernel)
theorem tl_211 : Cond.instanceMethod yX9_least ∈ TB := TB_at 553 (by decide +kernel) (by decide +kernel)
theorem tl_212 : Cond.selects RX9 yX9_least yX9_least ∈ TB := TB_at 554 (by decide +kernel) (by decide +kernel)
theorem tl_213 : Cond.code yX9_least cX9_least 4 (some .int) ∈ TB := TB_at 555 (by decide +kernel) (by decide +kernel)
theorem tl_214 : Cond.methodLink RL 125 yX10_least ∈ TB := TB_at 1014 (by decide +kernel) (by decide +kernel)
theorem tl_215 : Cond.instanceMethod yX10_least ∈ TB := TB_at 1015 (by decide +kernel) (by decide +kernel)
theorem tl_216 : Cond.selects RX10 yX10_least yX10_least ∈ TB := TB_at 1016 (by decide +kernel) (by decide +kernel)
theorem tl_217 : Cond.code yX10_least cX10_least 4 (some .int) ∈ TB := TB_at 1017 (by decide +kernel) (by decide +kernel)
theorem tl_218 : Cond.methodLink RL 126 yX9_sizes ∈ TB := TB_at 561 (by decide +kernel) (by decide +kernel)
theorem tl_219 : Cond.instanceMethod yX9_sizes ∈ TB := TB_at 562 (by decide +kernel) (by decide +kernel)
theorem tl_220 : Cond.selects RX9 yX9_sizes yX9_sizes ∈ TB := TB_at 563 (by decide +kernel) (by decide +kernel)
theorem tl_221 : Cond.code yX9_sizes cX9_sizes 4 (some .int) ∈ TB := TB_at 564 (by decide +kernel) (by decide +kernel)
theorem tl_222 : Cond.methodLink RL 129 yX10_sizes ∈ TB := TB_at 1022 (by decide +kernel) (by decide +kernel)
theorem tl_223 : Cond.instanceMethod yX10_sizes ∈ TB := TB_at 1023 (by decide +kernel) (by decide +kernel)
theorem tl_224 : Cond.selects RX10 yX10_sizes yX10_sizes ∈ TB := TB_at 1024 (by decide +kernel) (by decide +kernel)
theorem tl_225 : Cond.code yX10_sizes cX10_sizes 3 (some .int) ∈ TB := TB_at 1025 (by decide +kernel) (by decide +kernel)
theorem tl_226 : Cond.methodLink RL 130 yX9_winds ∈ TB := TB_at 581 (by decide +kernel) (by decide +kernel)
theorem tl_227 : Cond.instanceMethod yX9_winds ∈ TB := TB_at 582 (by decide +kernel) (by decide +kernel)
theorem tl_228 : Cond.selects RX9 yX9_winds yX9_winds ∈ TB := TB_at 583 (by decide +kernel) (by decide +kernel)
theorem tl_229 : Cond.code yX9_winds cX9_winds 6 (some .int) ∈ TB := TB_at 584 (by decide +kernel) (by decide +kernel)
theorem tl_230 : Cond.methodLink RL 133 yX10_winds ∈ TB := TB_at 1042 (by decide +kernel) (by decide +kernel)
theorem tl_231 : Cond.instanceMethod yX10_winds ∈ TB := TB_at 1043 (by decide +kernel) (by decide +kernel)
theorem tl_232 : Cond.selects RX10 yX10_winds yX10_winds ∈ TB := TB_at 1044 (by decide +kernel) (by decide +kernel)
theorem tl_233 : Cond.code yX10_winds cX10_winds 5 (some .int) ∈ TB := TB_at 1045 (by decide +kernel) (by decide +kernel)
theorem tl_234 : Cond.methodLink RL 134 yX9_kinds ∈ TB := TB_at 585 (by decide +kernel) (by decide +kernel)
theorem tl_235 : Cond.instanceMethod yX9_kinds ∈ TB := TB_at 586 (by decide +kernel) (by decide +kernel)
theorem tl_236 : Cond.selects RX9 yX9_kinds yX9_kinds ∈ TB := TB_at 587 (by decide +kernel) (by decide +kernel)
theorem tl_237 : Cond.code yX9_kinds cX9_kinds 6 (some .int) ∈ TB := TB_at 588 (by decide +kernel) (by decide +kernel)
theorem tl_238 : Cond.methodLink RL 137 yX10_kinds ∈ TB := TB_at 1046 (by decide +kernel) (by decide +kernel)
theorem tl_239 : Cond.instanceMethod yX10_kinds ∈ TB := TB_at 1047 (by decide +kernel) (by decide +kernel)
theorem tl_240 : Cond.selects RX10 yX10_kinds yX10_kinds ∈ TB := TB_at 1048 (by decide +kernel) (by decide +kernel)
theorem tl_241 : Cond.code yX10_kinds cX10_kinds 5 (some .int) ∈ TB := TB_at 1049 (by decide +kernel) (by decide +kernel)
theorem tl_242 : Cond.methodLink RL 138 yX9_next ∈ TB := TB_at 589 (by decide +kernel) (by decide +kernel)
theorem tl_243 : Cond.instanceMethod yX9_next ∈ TB := TB_at 590 (by decide +kernel) (by decide +kernel)
theorem tl_244 : Cond.selects RX9 yX9_next yX9_next ∈ TB := TB_at 591 (by decide +kernel) (by decide +kernel)
theorem tl_245 : Cond.code yX9_next cX9_next 9 (some .int) ∈ TB := TB_at 592 (by decide +kernel) (by decide +kernel)
theorem tl_246 : Cond.methodLink RL 141 yX10_next ∈ TB := TB_at 1050 (by decide +kernel) (by decide +kernel)
theorem tl_247 : Cond.instanceMethod yX10_next ∈ TB := TB_at 1051 (by decide +kernel) (by decide +kernel)
theorem tl_248 : Cond.selects RX10 yX10_next yX10_next ∈ TB := TB_at 1052 (by decide +kernel) (by decide +kernel)
theorem tl_249 : Cond.code yX10_next cX10_next 8 (some .int) ∈ TB := TB_at 1053 (by decide +kernel) (by decide +kernel)
theorem tl_250 : Cond.methodLink RL 142 yX9_sets ∈ TB := TB_at 600 (by decide +kernel) (by decide +kernel)
theorem tl_251 : Cond.instanceMethod yX9_sets ∈ TB := TB_at 601 (by decide +kernel) (by decide +kernel)
theorem tl_252 : Cond.selects RX9 yX9_sets yX9_sets ∈ TB := TB_at 602 (by decide +kernel) (by decide +kernel)
theorem tl_253 : Cond.code yX9_sets cX9_sets 5 (some .int) ∈ TB := TB_at 603 (by decide +kernel) (by decide +kernel)
theorem tl_254 : Cond.methodLink RL 145 yX10_sets ∈ TB := TB_at 1058 (by decide +kernel) (by decide +kernel)
theorem tl_255 : Cond.instanceMethod yX10_sets ∈ TB := TB_at 1059 (by decide +kernel) (by decide +kernel)
theorem tl_256 : Cond.selects RX10 yX10_sets yX10_sets ∈ TB := TB_at 1060 (by decide +kernel) (by decide +kernel)
theorem tl_257 : Cond.code yX10_sets cX10_sets 5 (some .int) ∈ TB := TB_at 1061 (by decide +kernel) (by decide +kernel)
theorem tl_258 : Cond.methodLink RL 146 yX9_sure ∈ TB := TB_at 615 (by decide +kernel) (by decide +kernel)
theorem tl_259 : Cond.instanceMethod yX9_sure ∈ TB := TB_at 616 (by decide +kernel) (by decide +kernel)
theorem tl_260 : Cond.selects RX9 yX9_sure yX9_sure ∈ TB := TB_at 617 (by decide +kernel) (by decide +kernel)
theorem tl_261 : Cond.code yX9_sure cX9_sure 7 (some .int) ∈ TB := TB_at 618 (by decide +kernel) (by decide +kernel)
theorem tl_262 : Cond.methodLink RL 149 yX10_sure ∈ TB := TB_at 1066 (by decide +kernel) (by decide +kernel)
theorem tl_263 : Cond.instanceMethod yX10_sure ∈ TB := TB_at 1067 (by decide +kernel) (by decide +kernel)
theorem tl_264 : Cond.selects RX10 yX10_sure yX10_sure ∈ TB := TB_at 1068 (by decide +kernel) (by decide +kernel)
theorem tl_265 : Cond.code yX10_sure cX10_sure 7 (some .int) ∈ TB := TB_at 1069 (by decide +kernel) (by decide +kernel)
theorem tl_266 : Cond.methodLink RL 150 yX9_duel ∈ TB := TB_at 619 (by decide +kernel) (by decide +kernel)
theorem tl_267 : Cond.instanceMethod yX9_duel ∈ TB := TB_at 620 (by decide +kernel) (by decide +kernel)
theorem tl_268 : Cond.selects RX9 yX9_duel yX9_duel ∈ TB := TB_at 621 (by decide +kernel) (by decide +kernel)
theorem tl_269 : Cond.code yX9_duel cX9_duel 4 (some .int) ∈ TB := TB_at 622 (by decide +kernel) (by decide +kernel)
theorem tl_270 : Cond.methodLink RL 153 yX10_duel ∈ TB := TB_at 1070 (by decide +kernel) (by decide +kernel)
theorem tl_271 : Cond.instanceMethod yX10_duel ∈ TB := TB_at 1071 (by decide +kernel) (by decide +kernel)
theorem tl_272 : Cond.selects RX10 yX10_duel yX10_duel ∈ TB := TB_at 1072 (by decide +kernel) (by decide +kernel)
theorem tl_273 : Cond.code yX10_duel cX10_duel 11 (some .int) ∈ TB := TB_at 1073 (by decide +kernel) (by decide +kernel)
theorem tl_274 : Cond.methodLink RL 154 yX9_odds ∈ TB := TB_at 637 (by decide +kernel) (by decide +kernel)
theorem tl_275 : Cond.instanceMethod yX9_odds ∈ TB := TB_at 638 (by decide +kernel) (by decide +kernel)
theorem tl_276 : Cond.selects RX9 yX9_odds yX9_odds ∈ TB := TB_at 639 (by decide +kernel) (by decide +kernel)
theorem tl_277 : Cond.code yX9_odds cX9_odds 6 (some .int) ∈ TB := TB_at 640 (by decide +kernel) (by decide +kernel)
theorem tl_278 : Cond.methodLink RL 157 yX10_odds ∈ TB := TB_at 1078 (by decide +kernel) (by decide +kernel)
theorem tl_279 : Cond.instanceMethod yX10_odds ∈ TB := TB_at 1079 (by decide +kernel) (by decide +kernel)
theorem tl_280 : Cond.selects RX10 yX10_odds yX10_odds ∈ TB := TB_at 1080 (by decide +kernel) (by decide +kernel)
theorem tl_281 : Cond.code yX10_odds cX10_odds 3 (some .int) ∈ TB := TB_at 1081 (by decide +kernel) (by decide +kernel)
theorem tl_282 : Cond.methodLink RL 158 yX9_mid ∈ TB := TB_at 649 (by decide +kernel) (by decide +kernel)
theorem tl_283 : Cond.instanceMethod yX9_mid ∈ TB := TB_at 650 (by decide +kernel) (by decide +kernel)
theorem tl_284 : Cond.selects RX9 yX9_mid yX9_mid ∈ TB := TB_at 651 (by decide +kernel) (by decide +kernel)
theorem tl_285 : Cond.code yX9_mid cX9_mid 5 (some .int) ∈ TB := TB_at 652 (by decide +kernel) (by decide +kernel)
theorem tl_286 : Cond.methodLink RL 161 yX10_mid ∈ TB := TB_at 1095 (by decide +kernel) (by decide +kernel)
theorem tl_287 : Cond.instanceMethod yX10_mid ∈ TB := TB_at 1096 (by decide +kernel) (by decide +kernel)
theorem tl_288 : Cond.selects RX10 yX10_mid yX10_mid ∈ TB := TB_at 1097 (by decide +kernel) (by decide +kernel)
theorem tl_289 : Cond.code yX10_mid cX10_mid 2 (some .int) ∈ TB := TB_at 1098 (by decide +kernel) (by decide +kernel)
theorem tl_290 : Cond.methodLink RL 162 yX9_lots ∈ TB := TB_at 653 (by decide +kernel) (by decide +kernel)
theorem tl_291 : Cond.instanceMethod yX9_lots ∈ TB := TB_at 654 (by decide +kernel) (by decide +kernel)
theorem tl_292 : Cond.selects RX9 yX9_lots yX9_lots ∈ TB := TB_at 655 (by decide +kernel) (by decide +kernel)
theorem tl_293 : Cond.code yX9_lots cX9_lots 6 (some .int) ∈ TB := TB_at 656 (by decide +kernel) (by decide +kernel)
theorem tl_294 : Cond.methodLink RL 165 yX10_lots ∈ TB := TB_at 1099 (by decide +kernel) (by decide +kernel)
theorem tl_295 : Cond.instanceMethod yX10_lots ∈ TB := TB_at 1100 (by decide +kernel) (by decide +kernel)
theorem tl_296 : Cond.selects RX10 yX10_lots yX10_lots ∈ TB := TB_at 1101 (by decide +kernel) (by decide +kernel)
theorem tl_297 : Cond.code yX10_lots cX10_lots 6 (some .int) ∈ TB := TB_at 1102 (by decide +kernel) (by decide +kernel)
theorem tl_298 : Cond.methodLink RL 166 yX9_asked ∈ TB := TB_at 667 (by decide +kernel) (by decide +kernel)
theorem tl_299 : Cond.instanceMethod yX9_asked ∈ TB := TB_at 668 (by decide +kernel) (by decide +kernel)
theorem tl_300 : Cond.selects RX9 yX9_asked yX9_asked ∈ TB := TB_at 669 (by decide +kernel) (by decide +kernel)
theorem tl_301 : Cond.code yX9_asked cX9_asked 1 (some .int) ∈ TB := TB_at 670 (by decide +kernel) (by decide +kernel)
theorem tl_302 : Cond.methodLink RL 169 yX10_asked ∈ TB := TB_at 1110 (by decide +kernel) (by decide +kernel)
theorem tl_303 : Cond.instanceMethod yX10_asked ∈ TB := TB_at 1111 (by decide +kernel) (by decide +kernel)
theorem tl_304 : Cond.selects RX10 yX10_asked yX10_asked ∈ TB := TB_at 1112 (by decide +kernel) (by decide +kernel)
theorem tl_305 : Cond.code yX10_asked cX10_asked 1 (some .int) ∈ TB := TB_at 1113 (by decide +kernel) (by decide +kernel)
theorem tl_306 : Cond.methodLink RL 170 yX9_upper ∈ TB := TB_at 671 (by decide +kernel) (by decide +kernel)
theorem tl_307 : Cond.instanceMethod yX9_upper ∈ TB := TB_at 672 (by decide +kernel) (by decide +kernel)
theorem tl_308 : Cond.selects RX9 yX9_upper yX9_upper ∈ TB := TB_at 673 (by decide +kernel) (by decide +kernel)
theorem tl_309 : Cond.code yX9_upper cX9_upper 1 (some .long) ∈ TB := TB_at 674 (by decide +kernel) (by decide +kernel)
theorem tl_310 : Cond.methodLink RL 174 yX10_upper ∈ TB := TB_at 1114 (by decide +kernel) (by decide +kernel)
theorem tl_311 : Cond.instanceMethod yX10_upper ∈ TB := TB_at 1115 (by decide +kernel) (by decide +kernel)
theorem tl_312 : Cond.selects RX10 yX10_upper yX10_upper ∈ TB := TB_at 1116 (by decide +kernel) (by decide +kernel)
theorem tl_313 : Cond.code yX10_upper cX10_upper 1 (some .long) ∈ TB := TB_at 1117 (by decide +kernel) (by decide +kernel)
theorem tl_314 : Cond.methodLink RL 175 yX9_lower ∈ TB := TB_at 675 (by decide +kernel) (by decide +kernel)
theorem tl_315 : Cond.instanceMethod yX9_lower ∈ TB := TB_at 676 (by decide +kernel) (by decide +kernel)
theorem tl_316 : Cond.selects RX9 yX9_lower yX9_lower ∈ TB := TB_at 677 (by decide +kernel) (by decide +kernel)
theorem tl_317 : Cond.code yX9_lower cX9_lower 1 (some .long) ∈ TB := TB_at 678 (by decide +kernel) (by decide +kernel)
theorem tl_318 : Cond.methodLink RL 178 yX10_lower ∈ TB := TB_at 1118 (by decide +kernel) (by decide +kernel)
theorem tl_319 : Cond.instanceMethod yX10_lower ∈ TB := TB_at 1119 (by decide +kernel) (by decide +kernel)
theorem tl_320 : Cond.selects RX10 yX10_lower yX10_lower ∈ TB := TB_at 1120 (by decide +kernel) (by decide +kernel)
theorem tl_321 : Cond.code yX10_lower cX10_lower 1 (some .long) ∈ TB := TB_at 1121 (by decide +kernel) (by decide +kernel)
theorem tl_322 : Cond.methodLink RL 179 yX9_count ∈ TB := TB_at 679 (by decide +kernel) (by decide +kernel)
theorem tl_326 : Cond.methodLink RL 182 yX10_count ∈ TB := TB_at 1122 (by decide +kernel) (by decide +kernel)
theorem tl_330 : Cond.methodLink RL 183 yX9_finding ∈ TB := TB_at 698 (by decide +kernel) (by decide +kernel)
theorem tl_331 : Cond.instanceMethod yX9_finding ∈ TB := TB_at 699 (by decide +kernel) (by decide +kernel)
theorem tl_332 : Cond.selects RX9 yX9_finding yX9_finding ∈ TB := TB_at 700 (by decide +kernel) (by decide +kernel)
theorem tl_333 : Cond.code yX9_finding cX9_finding 1 (some .int) ∈ TB := TB_at 701 (by decide +kernel) (by decide +kernel)
theorem tl_334 : Cond.methodLink RL 186 yX10_finding ∈ TB := TB_at 1142 (by decide +kernel) (by decide +kernel)
theorem tl_335 : Cond.instanceMethod yX10_finding ∈ TB := TB_at 1143 (by decide +kernel) (by decide +kernel)
theorem tl_336 : Cond.selects RX10 yX10_finding yX10_finding ∈ TB := TB_at 1144 (by decide +kernel) (by decide +kernel)
theorem tl_337 : Cond.code yX10_finding cX10_finding 1 (some .int) ∈ TB := TB_at 1145 (by decide +kernel) (by decide +kernel)
theorem tl_338 : Cond.methodLink RL 187 yX9_findings ∈ TB := TB_at 702 (by decide +kernel) (by decide +kernel)
theorem tl_339 : Cond.instanceMethod yX9_findings ∈ TB := TB_at 703 (by decide +kernel) (by decide +kernel)
theorem tl_340 : Cond.selects RX9 yX9_findings yX9_findings ∈ TB := TB_at 704 (by decide +kernel) (by decide +kernel)
theorem tl_341 : Cond.code yX9_findings cX9_findings 2 (some .int) ∈ TB := TB_at 705 (by decide +kernel) (by decide +kernel)
theorem tl_342 : Cond.methodLink RL 190 yX10_findings ∈ TB := TB_at 1146 (by decide +kernel) (by decide +kernel)
theorem tl_343 : Cond.instanceMethod yX10_findings ∈ TB := TB_at 1147 (by decide +kernel) (by decide +kernel)
theorem tl_344 : Cond.selects RX10 yX10_findings yX10_findings ∈ TB := TB_at 1148 (by decide +kernel) (by decide +kernel)
theorem tl_345 : Cond.code yX10_findings cX10_findings 2 (some .int) ∈ TB := TB_at 1149 (by decide +kernel) (by decide +kernel)
theorem tl_346 : Cond.methodLink RL 191 yX9_digest ∈ TB := TB_at 706 (by decide +kernel) (by decide +kernel)
theorem tl_347 : Cond.instanceMethod yX9_digest ∈ TB := TB_at 707 (by decide +kernel) (by decide +kernel)
theorem tl_348 : Cond.selects RX9 yX9_digest yX9_digest ∈ TB := TB_at 708 (by decide +kernel) (by decide +kernel)
theorem tl_349 : Cond.code yX9_digest cX9_digest 5 (some .long) ∈ TB := TB_at 709 (by decide +kernel) (by decide +kernel)
theorem tl_350 : Cond.methodLink RL 194 yX10_digest ∈ TB := TB_at 1150 (by decide +kernel) (by decide +kernel)
theorem tl_351 : Cond.instanceMethod yX10_digest ∈ TB := TB_at 1151 (by decide +kernel) (by decide +kernel)
theorem tl_352 : Cond.selects RX10 yX10_digest yX10_digest ∈ TB := TB_at 1152 (by decide +kernel) (by decide +kernel)
theorem tl_353 : Cond.code yX10_digest cX10_digest 5 (some .long) ∈ TB := TB_at 1153 (by decide +kernel) (by decide +kernel)
theorem lc_row {Sim : Hp → Prop} {x : Lx} {h : Hp} {i : Int32} (K : LK x) (St : St_row Sim) (S : Sim h) (hi : ∀ j : Int32, 1 ≤ j → j ≤ 5 → vp_in (i + j) x.2.1.2.1) (ih : ∀ h2, Sim h2 → LW x 1459 [(0, .ref x.2.1.1), (1, .ref (la x 0)), (2, .ref (la x 51)), (3, .int i)] [] h2) : LW x 224 [(0, .ref x.2.1.1), (1, .ref (la x 0)), (2, .ref (la x 51)), (3, .int i)] [] h := by
  obtain ⟨r, h1, h2, R9, R10, S2⟩ := St (x.2.1.2.2 (i + 1).toNatClampNeg) (x.2.1.2.2 (i + 2).toNatClampNeg) h S
  refine L_aload K 1 dL_law_224 rfl ?_
  refine L_aload K 0 dL_law_225 rfl ?_
  refine L_iload K 3 dL_law_226 rfl ?_
  refine L_ic (v := 1) K dL_law_227 rfl ?_
  refine L_iadd K dL_law_228 ?_
  refine L_sld K (hi 1 (by decide) (by decide)) dL_law_229 ?_
  refine L_aload K 0 dL_law_230 rfl ?_
  refine L_iload K 3 dL_law_231 rfl ?_
  refine L_ic (v := 2) K dL_law_232 rfl ?_
  refine L_iadd K dL_law_233 ?_
  refine L_sld K (hi 2 (by decide) (by decide)) dL_law_234 ?_
  refine L_call (n := 2) (As := fun f => [.int (x.2.1.2.2 (i + 1).toNatClampNeg), .int (x.2.1.2.2 (i + 2).toNatClampNeg)]) (rr := fun _ => some (.int r)) (o := 0) (ci := 9) K R9 (by decide) (cl_9 k_0) rfl tl_0 tl_1 tl_2 tb_320 (by decide +kernel) tl_4 (by decide) dL_law_235 rfl (Nat.le_of_ble_eq_true rfl) ?_
  refine L_aload K 2 dL_law_238 rfl ?_
  refine L_aload K 0 dL_law_239 rfl ?_
  refine L_iload K 3 dL_law_240 rfl ?_
  refine L_ic (v := 1) K dL_law_241 rfl ?_
  refine L_iadd K dL_law_242 ?_
  refine L_sld K (hi 1 (by decide) (by decide)) dL_law_243 ?_
  refine L_aload K 0 dL_law_244 rfl ?_
  refine L_iload K 3 dL_law_245 rfl ?_
  refine L_ic (v := 2) K dL_law_246 rfl ?_
  refine L_iadd K dL_law_247 ?_
  refine L_sld K (hi 2 (by decide) (by decide)) dL_law_248 ?_
  refine L_call (n := 2) (As := fun f => [.int (x.2.1.2.2 (i + 1).toNatClampNeg), .int (x.2.1.2.2 (i + 2).toNatClampNeg)]) (rr := fun _ => some (.int r)) (o := 51) (ci := 10) K R10 (by decide) (cl_10 k_51) rfl tl_5 tl_6 tl_7 tb_13 (by decide +kernel) tl_9 (by decide) dL_law_249 rfl (Nat.le_of_ble_eq_true rfl) ?_
  refine L_eqt K 1459 dL_law_252 (by decide) ?_
  exact ih h2 S2
theorem lc_lay {Sim : Hp → Prop} {x : Lx} {h : Hp} {i : Int32} (K : LK x) (St : St_lay Sim) (S : Sim h) (hi : ∀ j : Int32, 1 ≤ j → j ≤ 5 → vp_in (i + j) x.2.1.2.1) (ih : ∀ h2, Sim h2 → LW x 1459 [(0, .ref x.2.1.1), (1, .ref (la x 0)), (2, .ref (la x 51)), (3, .int i)] [] h2) : LW x 257 [(0, .ref x.2.1.1), (1, .ref (la x 0)), (2, .ref (la x 51)), (3, .int i)] [] h := by
  obtain ⟨r, h1, h2, R9, R10, S2⟩ := St (x.2.1.2.2 (i + 1).toNatClampNeg) (x.2.1.2.2 (i + 2).toNatClampNeg) (x.2.1.2.2 (i + 3).toNatClampNeg) h S
  refine L_aload K 1 dL_law_257 rfl ?_
  refine L_aload K 0 dL_law_258 rfl ?_
  refine L_iload K 3 dL_law_259 rfl ?_
  refine L_ic (v := 1) K dL_law_260 rfl ?_
  refine L_iadd K dL_law_261 ?_
  refine L_sld K (hi 1 (by decide) (by decide)) dL_law_262 ?_
  refine L_aload K 0 dL_law_263 rfl ?_
  refine L_iload K 3 dL_law_264 rfl ?_
  refine L_ic (v := 2) K dL_law_265 rfl ?_
  refine L_iadd K dL_law_266 ?_
  refine L_sld K (hi 2 (by decide) (by decide)) dL_law_267 ?_
  refine L_aload K 0 dL_law_268 rfl ?_
  refine L_iload K 3 dL_law_269 rfl ?_
  refine L_ic (v := 3) K dL_law_270 rfl ?_
  refine L_iadd K dL_law_271 ?_
  refine L_sld K (hi 3 (by decide) (by decide)) dL_law_272 ?_
  refine L_call (n := 3) (As := fun f => [.int (x.2.1.2.2 (i + 1).toNatClampNeg), .int (x.2.1.2.2 (i + 2).toNatClampNeg), .int (x.2.1.2.2 (i + 3).toNatClampNeg)]) (rr := fun _ => some (.int r)) (o := 0) (ci := 9) K R9 (by decide) (cl_9 k_0) rfl tl_10 tl_11 tl_12 tb_320 (by decide +kernel) tl_13 (by decide) dL_law_273 rfl (Nat.le_of_ble_eq_true rfl) ?_
  refine L_aload K 2 dL_law_276 rfl ?_
  refine L_aload K 0 dL_law_277 rfl ?_
  refine L_iload K 3 dL_law_278 rfl ?_
  refine L_ic (v := 1) K dL_law_279 rfl ?_
  refine L_iadd K dL_law_280 ?_
  refine L_sld K (hi 1 (by decide) (by decide)) dL_law_281 ?_
  refine L_aload K 0 dL_law_282 rfl ?_
  refine L_iload K 3 dL_law_283 rfl ?_
  refine L_ic (v := 2) K dL_law_284 rfl ?_
  refine L_iadd K dL_law_285 ?_
  refine L_sld K (hi 2 (by decide) (by decide)) dL_law_286 ?_
  refine L_aload K 0 dL_law_287 rfl ?_
  refine L_iload K 3 dL_law_288 rfl ?_
  refine L_ic (v := 3) K dL_law_289 rfl ?_
  refine L_iadd K dL_law_290 ?_
  refine L_sld K (hi 3 (by decide) (by decide)) dL_law_291 ?_
  refine L_call (n := 3) (As := fun f => [.int (x.2.1.2.2 (i + 1).toNatClampNeg), .int (x.2.1.2.2 (i + 2).toNatClampNeg), .int (x.2.1.2.2 (i + 3).toNatClampNeg)]) (rr := fun _ => some (.int r)) (o := 51) (ci := 10) K R10 (by decide) (cl_10 k_51) rfl tl_14 tl_15 tl_16 tb_13 (by decide +kernel) tl_17 (by decide) dL_law_292 rfl (Nat.le_of_ble_eq_true rfl) ?_
  refine L_eqt K 1459 dL_law_295 (by decide) ?_
  exact ih h2 S2
theorem lc_at {Sim : Hp → Prop} {x : Lx} {h : Hp} {i : Int32} (K : LK x) (St : St_at Sim) (S : Sim h) (hi : ∀ j : Int32, 1 ≤ j → j ≤ 5 → vp_in (i + j) x.2.1.2.1) (ih : ∀ h2, Sim h2 → LW x 1459 [(0, .ref x.2.1.1), (1, .ref (la x 0)), (2, .ref (la x 51)), (3, .int i)] [] h2) : LW x 300 [(0, .ref x.2.1.1), (1, .ref (la x 0)), (2, .ref (la x 51)), (3, .int i)] [] h := by
  obtain ⟨r, h1, h2, R9, R10, S2⟩ := St (x.2.1.2.2 (i + 1).toNatClampNeg) (x.2.1.2.2 (i + 2).toNatClampNeg) h S
  refine L_aload K 1 dL_law_300 rfl ?_
  refine L_aload K 0 dL_law_301 rfl ?_
  refine L_iload K 3 dL_law_302 rfl ?_
  refine L_ic (v := 1) K dL_law_303 rfl ?_
  refine L_iadd K dL_law_304 ?_
  refine L_sld K (hi 1 (by decide) (by decide)) dL_law_305 ?_
  refine L_aload K 0 dL_law_306 rfl ?_
  refine L_iload K 3 dL_law_307 rfl ?_
  refine L_ic (v := 2) K dL_law_308 rfl ?_
  refine L_iadd K dL_law_309 ?_
  refine L_sld K (hi 2 (by decide) (by decide)) dL_law_310 ?_
  refine L_call (n := 2) (As := fun f => [.int (x.2.1.2.2 (i + 1).toNatClampNeg), .int (x.2.1.2.2 (i + 2).toNatClampNeg)]) (rr := fun _ => some (.int r)) (o := 0) (ci := 9) K R9 (by decide) (cl_9 k_0) rfl tl_18 tl_19 tl_20 tb_320 (by decide +kernel) tl_21 (by decide) dL_law_311 rfl (Nat.le_of_ble_eq_true rfl) ?_
  refine L_aload K 2 dL_law_314 rfl ?_
  refine L_aload K 0 dL_law_315 rfl ?_
  refine L_iload K 3 dL_law_316 rfl ?_
  refine L_ic (v := 1) K dL_law_317 rfl ?_
  refine L_iadd K dL_law_318 ?_
  refine L_sld K (hi 1 (by decide) (by decide)) dL_law_319 ?_
  refine L_aload K 0 dL_law_320 rfl ?_
  refine L_iload K 3 dL_law_321 rfl ?_
  refine L_ic (v := 2) K dL_law_322 rfl ?_
  refine L_iadd K dL_law_323 ?_
  refine L_sld K (hi 2 (by decide) (by decide)) dL_law_324 ?_
  refine L_call (n := 2) (As := fun f => [.int (x.2.1.2.2 (i + 1).toNatClampNeg), .int (x.2.1.2.2 (i + 2).toNatClampNeg)]) (rr := fun _ => some (.int r)) (o := 51) (ci := 10) K R10 (by decide) (cl_10 k_51) rfl tl_22 tl_23 tl_24 tb_13 (by decide +kernel) tl_25 (by decide) dL_law_325 rfl (Nat.le_of_ble_eq_true rfl) ?_
  refine L_eqt K 1459 dL_law_328 (by decide) ?_
  exact ih h2 S2
theorem lc_tear {Sim : Hp → Prop} {x : Lx} {h : Hp} {i : Int32} (K : LK x) (St : St_tear Sim) (S : Sim h) (hi : ∀ j : Int32, 1 ≤ j → j ≤ 5 → vp_in (i + j) x.2.1.2.1) (ih : ∀ h2, Sim h2 → LW x 1459 [(0, .ref x.2.1.1), (1, .ref (la x 0)), (2, .ref (la x 51)), (3, .int i)] [] h2) : LW x 333 [(0, .ref x.2.1.1), (1, .ref (la x 0)), (2, .ref (la x 51)), (3, .int i)] [] h := by
  obtain ⟨r, h1, h2, R9, R10, S2⟩ := St (x.2.1.2.2 (i + 1).toNatClampNeg) h S
  refine L_aload K 1 dL_law_333 rfl ?_
  refine L_aload K 0 dL_law_334 rfl ?_
  refine L_iload K 3 dL_law_335 rfl ?_
  refine L_ic (v := 1) K dL_law_336 rfl ?_
  refine L_iadd K dL_law_337 ?_
  refine L_sld K (hi 1 (by decide) (by decide)) dL_law_338 ?_
  refine L_call (n := 1) (As := fun f => [.int (x.2.1.2.2 (i + 1).toNatClampNeg)]) (rr := fun _ => some (.int r)) (o := 0) (ci := 9) K R9 (by decide) (cl_9 k_0) rfl tl_26 tl_27 tl_28 tb_320 (by decide +kernel) tl_29 (by decide) dL_law_339 rfl (Nat.le_of_ble_eq_true rfl) ?_
  refine L_aload K 2 dL_law_342 rfl ?_
  refine L_aload K 0 dL_law_343 rfl ?_
  refine L_iload K 3 dL_law_344 rfl ?_
  refine L_ic (v := 1) K dL_law_345 rfl ?_
  refine L_iadd K dL_law_346 ?_
  refine L_sld K (hi 1 (by decide) (by decide)) dL_law_347 ?_
  refine L_call (n := 1) (As := fun f => [.int (x.2.1.2.2 (i + 1).toNatClampNeg)]) (rr := fun _ => some (.int r)) (o := 51) (ci := 10) K R10 (by decide) (cl_10 k_51) rfl tl_30 tl_31 tl_32 tb_13 (by decide +kernel) tl_33 (by decide) dL_law_348 rfl (Nat.le_of_ble_eq_true rfl) ?_
  refine L_eqt K 1459 dL_law_351 (by decide) ?_
  exact ih h2 S2
theorem lc_copy {Sim : Hp → Prop} {x : Lx} {h : Hp} {i : Int32} (K : LK x) (St : St_copy Sim) (S : Sim h) (hi : ∀ j : Int32, 1 ≤ j → j ≤ 5 → vp_in (i + j) x.2.1.2.1) (ih : ∀ h2, Sim h2 → LW x 1459 [(0, .ref x.2.1.1), (1, .ref (la x 0)), (2, .ref (la x 51)), (3, .int i)] [] h2) : LW x 356 [(0, .ref x.2.1.1), (1, .ref (la x 0)), (2, .ref (la x 51)), (3, .int i)] [] h := by
  obtain ⟨r, h1, h2, R9, R10, S2⟩ := St (x.2.1.2.2 (i + 1).toNatClampNeg) (x.2.1.2.2 (i + 2).toNatClampNeg) (x.2.1.2.2 (i + 3).toNatClampNeg) (x.2.1.2.2 (i + 4).toNatClampNeg) (x.2.1.2.2 (i + 5).toNatClampNeg) h S
  refine L_aload K 1 dL_law_356 rfl ?_
  refine L_aload K 0 dL_law_357 rfl ?_
  refine L_iload K 3 dL_law_358 rfl ?_
  refine L_ic (v := 1) K dL_law_359 rfl ?_
  refine L_iadd K dL_law_360 ?_
  refine L_sld K (hi 1 (by decide) (by decide)) dL_law_361 ?_
  refine L_aload K 0 dL_law_362 rfl ?_
  refine L_iload K 3 dL_law_363 rfl ?_
  refine L_ic (v := 2) K dL_law_364 rfl ?_
  refine L_iadd K dL_law_365 ?_
  refine L_sld K (hi 2 (by decide) (by decide)) dL_law_366 ?_
  refine L_aload K 0 dL_law_367 rfl ?_
  refine L_iload K 3 dL_law_368 rfl ?_
  refine L_ic (v := 3) K dL_law_369 rfl ?_
  refine L_iadd K dL_law_370 ?_
  refine L_sld K (hi 3 (by decide) (by decide)) dL_law_371 ?_
  refine L_aload K 0 dL_law_372 rfl ?_
  refine L_iload K 3 dL_law_373 rfl ?_
  refine L_ic (v := 4) K dL_law_374 rfl ?_
  refine L_iadd K dL_law_375 ?_
  refine L_sld K (hi 4 (by decide) (by decide)) dL_law_376 ?_
  refine L_aload K 0 dL_law_377 rfl ?_
  refine L_iload K 3 dL_law_378 rfl ?_
  refine L_ic (v := 5) K dL_law_379 rfl ?_
  refine L_iadd K dL_law_380 ?_
  refine L_sld K (hi 5 (by decide) (by decide)) dL_law_381 ?_
  refine L_call (n := 5) (As := fun f => [.int (x.2.1.2.2 (i + 1).toNatClampNeg), .int (x.2.1.2.2 (i + 2).toNatClampNeg), .int (x.2.1.2.2 (i + 3).toNatClampNeg), .int (x.2.1.2.2 (i + 4).toNatClampNeg), .int (x.2.1.2.2 (i + 5).toNatClampNeg)]) (rr := fun _ => some (.int r)) (o := 0) (ci := 9) K R9 (by decide) (cl_9 k_0) rfl tl_34 tl_35 tl_36 tb_320 (by decide +kernel) tl_37 (by decide) dL_law_382 rfl (Nat.le_of_ble_eq_true rfl) ?_
  refine L_aload K 2 dL_law_385 rfl ?_
  refine L_aload K 0 dL_law_386 rfl ?_
  refine L_iload K 3 dL_law_387 rfl ?_
  refine L_ic (v := 1) K dL_law_388 rfl ?_
  refine L_iadd K dL_law_389 ?_
  refine L_sld K (hi 1 (by decide) (by decide)) dL_law_390 ?_
  refine L_aload K 0 dL_law_391 rfl ?_
  refine L_iload K 3 dL_law_392 rfl ?_
  refine L_ic (v := 2) K dL_law_393 rfl ?_
  refine L_iadd K dL_law_394 ?_
  refine L_sld K (hi 2 (by decide) (by decide)) dL_law_395 ?_
  refine L_aload K 0 dL_law_396 rfl ?_
  refine L_iload K 3 dL_law_397 rfl ?_
  refine L_ic (v := 3) K dL_law_398 rfl ?_
  refine L_iadd K dL_law_399 ?_
  refine L_sld K (hi 3 (by decide) (by decide)) dL_law_400 ?_
  refine L_aload K 0 dL_law_401 rfl ?_
  refine L_iload K 3 dL_law_402 rfl ?_
  refine L_ic (v := 4) K dL_law_403 rfl ?_
  refine L_iadd K dL_law_404 ?_
  refine L_sld K (hi 4 (by decide) (by decide)) dL_law_405 ?_
  refine L_aload K 0 dL_law_406 rfl ?_
  refine L_iload K 3 dL_law_407 rfl ?_
  refine L_ic (v := 5) K dL_law_408 rfl ?_
  refine L_iadd K dL_law_409 ?_
  refine L_sld K (hi 5 (by decide) (by decide)) dL_law_410 ?_
  refine L_call (n := 5) (As := fun f => [.int (x.2.1.2.2 (i + 1).toNatClampNeg), .int (x.2.1.2.2 (i + 2).toNatClampNeg), .int (x.2.1.2.2 (i + 3).toNatClampNeg), .int (x.2.1.2.2 (i + 4).toNatClampNeg), .int (x.2.1.2.2 (i + 5).toNatClampNeg)]) (rr := fun _ => some (.int r)) (o := 51) (ci := 10) K R10 (by decide) (cl_10 k_51) rfl tl_38 tl_39 tl_40 tb_13 (by decide +kernel) tl_41 (by decide) dL_law_411 rfl (Nat.le_of_ble_eq_true rfl) ?_
  refine L_eqt K 1459 dL_law_414 (by decide) ?_
  exact ih h2 S2
theorem lc_mean {Sim : Hp → Prop} {x : Lx} {h : Hp} {i : Int32} (K : LK x) (St : St_mean Sim) (S : Sim h) (hi : ∀ j : Int32, 1 ≤ j → j ≤ 5 → vp_in (i + j) x.2.1.2.1) (ih : ∀ h2, Sim h2 → LW x 1459 [(0, .ref x.2.1.1), (1, .ref (la x 0)), (2, .ref (la x 51)), (3, .int i)] [] h2) : LW x 419 [(0, .ref x.2.1.1), (1, .ref (la x 0)), (2, .ref (la x 51)), (3, .int i)] [] h := by
  obtain ⟨r, h1, h2, R9, R10, S2⟩ := St (x.2.1.2.2 (i + 1).toNatClampNeg) h S
  refine L_aload K 1 dL_law_419 rfl ?_
  refine L_aload K 0 dL_law_420 rfl ?_
  refine L_iload K 3 dL_law_421 rfl ?_
  refine L_ic (v := 1) K dL_law_422 rfl ?_
  refine L_iadd K dL_law_423 ?_
  refine L_sld K (hi 1 (by decide) (by decide)) dL_law_424 ?_
  refine L_call (n := 1) (As := fun f => [.int (x.2.1.2.2 (i + 1).toNatClampNeg)]) (rr := fun _ => some (.int r)) (o := 0) (ci := 9) K R9 (by decide) (cl_9 k_0) rfl tl_42 tl_43 tl_44 tb_320 (by decide +kernel) tl_45 (by decide) dL_law_425 rfl (Nat.le_of_ble_eq_true rfl) ?_
  refine L_aload K 2 dL_law_428 rfl ?_
  refine L_aload K 0 dL_law_429 rfl ?_
  refine L_iload K 3 dL_law_430 rfl ?_
  refine L_ic (v := 1) K dL_law_431 rfl ?_
  refine L_iadd K dL_law_432 ?_
  refine L_sld K (hi 1 (by decide) (by decide)) dL_law_433 ?_
  refine L_call (n := 1) (As := fun f => [.int (x.2.1.2.2 (i + 1).toNatClampNeg)]) (rr := fun _ => some (.int r)) (o := 51) (ci := 10) K R10 (by decide) (cl_10 k_51) rfl tl_46 tl_47 tl_48 tb_13 (by decide +kernel) tl_49 (by decide) dL_law_434 rfl (Nat.le_of_ble_eq_true rfl) ?_
  refine L_eqt K 1459 dL_law_437 (by decide) ?_
  exact ih h2 S2
theorem lc_text {Sim : Hp → Prop} {x : Lx} {h : Hp} {i : Int32} (K : LK x) (St : St_text Sim) (S : Sim h) (hi : ∀ j : Int32, 1 ≤ j → j ≤ 5 → vp_in (i + j) x.2.1.2.1) (ih : ∀ h2, Sim h2 → LW x 1459 [(0, .ref x.2.1.1), (1, .ref (la x 0)), (2, .ref (la x 51)), (3, .int i)] [] h2) : LW x 442 [(0, .ref x.2.1.1), (1, .ref (la x 0)), (2, .ref (la x 51)), (3, .int i)] [] h := by
  obtain ⟨r, h1, h2, R9, R10, S2⟩ := St (x.2.1.2.2 (i + 1).toNatClampNeg) (x.2.1.2.2 (i + 2).toNatClampNeg) h S
  refine L_aload K 1 dL_law_442 rfl ?_
  refine L_aload K 0 dL_law_443 rfl ?_
  refine L_iload K 3 dL_law_444 rfl ?_
  refine L_ic (v := 1) K dL_law_445 rfl ?_
  refine L_iadd K dL_law_446 ?_
  refine L_sld K (hi 1 (by decide) (by decide)) dL_law_447 ?_
  refine L_aload K 0 dL_law_448 rfl ?_
  refine L_iload K 3 dL_law_449 rfl ?_
  refine L_ic (v := 2) K dL_law_450 rfl ?_
  refine L_iadd K dL_law_451 ?_
  refine L_sld K (hi 2 (by decide) (by decide)) dL_law_452 ?_
  refine L_call (n := 2) (As := fun f => [.int (x.2.1.2.2 (i + 1).toNatClampNeg), .int (x.2.1.2.2 (i + 2).toNatClampNeg)]) (rr := fun _ => some (.int r)) (o := 0) (ci := 9) K R9 (by decide) (cl_9 k_0) rfl tl_50 tl_51 tl_52 tb_320 (by decide +kernel) tl_53 (by decide) dL_law_453 rfl (Nat.le_of_ble_eq_true rfl) ?_
  refine L_aload K 2 dL_law_456 rfl ?_
  refine L_aload K 0 dL_law_457 rfl ?_
  refine L_iload K 3 dL_law_458 rfl ?_
  refine L_ic (v := 1) K dL_law_459 rfl ?_
  refine L_iadd K dL_law_460 ?_
  refine L_sld K (hi 1 (by decide) (by decide)) dL_law_461 ?_
  refine L_aload K 0 dL_law_462 rfl ?_
  refine L_iload K 3 dL_law_463 rfl ?_
  refine L_ic (v := 2) K dL_law_464 rfl ?_
  refine L_iadd K dL_law_465 ?_
  refine L_sld K (hi 2 (by decide) (by decide)) dL_law_466 ?_
  refine L_call (n := 2) (As := fun f => [.int (x.2.1.2.2 (i + 1).toNatClampNeg), .int (x.2.1.2.2 (i + 2).toNatClampNeg)]) (rr := fun _ => some (.int r)) (o := 51) (ci := 10) K R10 (by decide) (cl_10 k_51) rfl tl_54 tl_55 tl_56 tb_13 (by decide +kernel) tl_57 (by decide) dL_law_467 rfl (Nat.le_of_ble_eq_true rfl) ?_
  refine L_eqt K 1459 dL_law_470 (by decide) ?_
  exact ih h2 S2
theorem lc_put {Sim : Hp → Prop} {x : Lx} {h : Hp} {i : Int32} (K : LK x) (St : St_put Sim) (S : Sim h) (hi : ∀ j : Int32, 1 ≤ j → j ≤ 5 → vp_in (i + j) x.2.1.2.1) (ih : ∀ h2, Sim h2 → LW x 1459 [(0, .ref x.2.1.1), (1, .ref (la x 0)), (2, .ref (la x 51)), (3, .int i)] [] h2) : LW x 475 [(0, .ref x.2.1.1), (1, .ref (la x 0)), (2, .ref (la x 51)), (3, .int i)] [] h := by
  obtain ⟨r, h1, h2, R9, R10, S2⟩ := St (x.2.1.2.2 (i + 1).toNatClampNeg) (x.2.1.2.2 (i + 2).toNatClampNeg) (x.2.1.2.2 (i + 3).toNatClampNeg) h S
  refine L_aload K 1 dL_law_475 rfl ?_
  refine L_aload K 0 dL_law_476 rfl ?_
  refine L_iload K 3 dL_law_477 rfl ?_
  refine L_ic (v := 1) K dL_law_478 rfl ?_
  refine L_iadd K dL_law_479 ?_
  refine L_sld K (hi 1 (by decide) (by decide)) dL_law_480 ?_
  refine L_aload K 0 dL_law_481 rfl ?_
  refine L_iload K 3 dL_law_482 rfl ?_
  refine L_ic (v := 2) K dL_law_483 rfl ?_
  refine L_iadd K dL_law_484 ?_
  refine L_sld K (hi 2 (by decide) (by decide)) dL_law_485 ?_
  refine L_aload K 0 dL_law_486 rfl ?_
  refine L_iload K 3 dL_law_487 rfl ?_
  refine L_ic (v := 3) K dL_law_488 rfl ?_
  refine L_iadd K dL_law_489 ?_
  refine L_sld K (hi 3 (by decide) (by decide)) dL_law_490 ?_
  refine L_call (n := 3) (As := fun f => [.int (x.2.1.2.2 (i + 1).toNatClampNeg), .int (x.2.1.2.2 (i + 2).toNatClampNeg), .int (x.2.1.2.2 (i + 3).toNatClampNeg)]) (rr := fun _ => some (.int r)) (o := 0) (ci := 9) K R9 (by decide) (cl_9 k_0) rfl tl_58 tl_59 tl_60 tb_320 (by decide +kernel) tl_61 (by decide) dL_law_491 rfl (Nat.le_of_ble_eq_true rfl) ?_
  refine L_aload K 2 dL_law_494 rfl ?_
  refine L_aload K 0 dL_law_495 rfl ?_
  refine L_iload K 3 dL_law_496 rfl ?_
  refine L_ic (v := 1) K dL_law_497 rfl ?_
  refine L_iadd K dL_law_498 ?_
  refine L_sld K (hi 1 (by decide) (by decide)) dL_law_499 ?_
  refine L_aload K 0 dL_law_500 rfl ?_
  refine L_iload K 3 dL_law_501 rfl ?_
  refine L_ic (v := 2) K dL_law_502 rfl ?_
  refine L_iadd K dL_law_503 ?_
  refine L_sld K (hi 2 (by decide) (by decide)) dL_law_504 ?_
  refine L_aload K 0 dL_law_505 rfl ?_
  refine L_iload K 3 dL_law_506 rfl ?_
  refine L_ic (v := 3) K dL_law_507 rfl ?_
  refine L_iadd K dL_law_508 ?_
  refine L_sld K (hi 3 (by decide) (by decide)) dL_law_509 ?_
  refine L_call (n := 3) (As := fun f => [.int (x.2.1.2.2 (i + 1).toNatClampNeg), .int (x.2.1.2.2 (i + 2).toNatClampNeg), .int (x.2.1.2.2 (i + 3).toNatClampNeg)]) (rr := fun _ => some (.int r)) (o := 51) (ci := 10) K R10 (by decide) (cl_10 k_51) rfl tl_62 tl_63 tl_64 tb_13 (by decide +kernel) tl_65 (by decide) dL_law_510 rfl (Nat.le_of_ble_eq_true rfl) ?_
  refine L_eqt K 1459 dL_law_513 (by decide) ?_
  exact ih h2 S2
theorem lc_fault {Sim : Hp → Prop} {x : Lx} {h : Hp} {i : Int32} (K : LK x) (St : St_fault Sim) (S : Sim h) (hi : ∀ j : Int32, 1 ≤ j → j ≤ 5 → vp_in (i + j) x.2.1.2.1) (ih : ∀ h2, Sim h2 → LW x 1459 [(0, .ref x.2.1.1), (1, .ref (la x 0)), (2, .ref (la x 51)), (3, .int i)] [] h2) : LW x 518 [(0, .ref x.2.1.1), (1, .ref (la x 0)), (2, .ref (la x 51)), (3, .int i)] [] h := by
  obtain ⟨r, h1, h2, R9, R10, S2⟩ := St (x.2.1.2.2 (i + 1).toNatClampNeg) h S
  refine L_aload K 1 dL_law_518 rfl ?_
  refine L_aload K 0 dL_law_519 rfl ?_
  refine L_iload K 3 dL_law_520 rfl ?_
  refine L_ic (v := 1) K dL_law_521 rfl ?_
  refine L_iadd K dL_law_522 ?_
  refine L_sld K (hi 1 (by decide) (by decide)) dL_law_523 ?_
  refine L_call (n := 1) (As := fun f => [.int (x.2.1.2.2 (i + 1).toNatClampNeg)]) (rr := fun _ => some (.int r)) (o := 0) (ci := 9) K R9 (by decide) (cl_9 k_0) rfl tl_66 tl_67 tl_68 tb_320 (by decide +kernel) tl_69 (by decide) dL_law_524 rfl (Nat.le_of_ble_eq_true rfl) ?_
  refine L_aload K 2 dL_law_527 rfl ?_
  refine L_aload K 0 dL_law_528 rfl ?_
  refine L_iload K 3 dL_law_529 rfl ?_
  refine L_ic (v := 1) K dL_law_530 rfl ?_
  refine L_iadd K dL_law_531 ?_
  refine L_sld K (hi 1 (by decide) (by decide)) dL_law_532 ?_
  refine L_call (n := 1) (As := fun f => [.int (x.2.1.2.2 (i + 1).toNatClampNeg)]) (rr := fun _ => some (.int r)) (o := 51) (ci := 10) K R10 (by decide) (cl_10 k_51) rfl tl_70 tl_71 tl_72 tb_13 (by decide +kernel) tl_73 (by decide) dL_law_533 rfl (Nat.le_of_ble_eq_true rfl) ?_
  refine L_eqt K 1459 dL_law_536 (by decide) ?_
  exact ih h2 S2
theorem lc_front {Sim : Hp → Prop} {x : Lx} {h : Hp} {i : Int32} (K : LK x) (St : St_front Sim) (S : Sim h) (hi : ∀ j : Int32, 1 ≤ j → j ≤ 5 → vp_in (i + j) x.2.1.2.1) (ih : ∀ h2, Sim h2 → LW x 1459 [(0, .ref x.2.1.1), (1, .ref (la x 0)), (2, .ref (la x 51)), (3, .int i)] [] h2) : LW x 541 [(0, .ref x.2.1.1), (1, .ref (la x 0)), (2, .ref (la x 51)), (3, .int i)] [] h := by
  obtain ⟨r, h1, h2, R9, R10, S2⟩ := St (x.2.1.2.2 (i + 1).toNatClampNeg) h S
  refine L_aload K 1 dL_law_541 rfl ?_
  refine L_aload K 0 dL_law_542 rfl ?_
  refine L_iload K 3 dL_law_543 rfl ?_
  refine L_ic (v := 1) K dL_law_544 rfl ?_
  refine L_iadd K dL_law_545 ?_
  refine L_sld K (hi 1 (by decide) (by decide)) dL_law_546 ?_
  refine L_call (n := 1) (As := fun f => [.int (x.2.1.2.2 (i + 1).toNatClampNeg)]) (rr := fun _ => some (.int r)) (o := 0) (ci := 9) K R9 (by decide) (cl_9 k_0) rfl tl_74 tl_75 tl_76 tb_320 (by decide +kernel) tl_77 (by decide) dL_law_547 rfl (Nat.le_of_ble_eq_true rfl) ?_
  refine L_aload K 2 dL_law_550 rfl ?_
  refine L_aload K 0 dL_law_551 rfl ?_
  refine L_iload K 3 dL_law_552 rfl ?_
  refine L_ic (v := 1) K dL_law_553 rfl ?_
  refine L_iadd K dL_law_554 ?_
  refine L_sld K (hi 1 (by decide) (by decide)) dL_law_555 ?_
  refine L_call (n := 1) (As := fun f => [.int (x.2.1.2.2 (i + 1).toNatClampNeg)]) (rr := fun _ => some (.int r)) (o := 51) (ci := 10) K R10 (by decide) (cl_10 k_51) rfl tl_78 tl_79 tl_80 tb_13 (by decide +kernel) tl_81 (by decide) dL_law_556 rfl (Nat.le_of_ble_eq_true rfl) ?_
  refine L_eqt K 1459 dL_law_559 (by decide) ?_
  exact ih h2 S2
theorem lc_one {Sim : Hp → Prop} {x : Lx} {h : Hp} {i : Int32} (K : LK x) (St : St_one Sim) (S : Sim h) (hi : ∀ j : Int32, 1 ≤ j → j ≤ 5 → vp_in (i + j) x.2.1.2.1) (ih : ∀ h2, Sim h2 → LW x 1459 [(0, .ref x.2.1.1), (1, .ref (la x 0)), (2, .ref (la x 51)), (3, .int i)] [] h2) : LW x 564 [(0, .ref x.2.1.1), (1, .ref (la x 0)), (2, .ref (la x 51)), (3, .int i)] [] h := by
  obtain ⟨r, h1, h2, R9, R10, S2⟩ := St (x.2.1.2.2 (i + 1).toNatClampNeg) (x.2.1.2.2 (i + 2).toNatClampNeg) h S
  refine L_aload K 1 dL_law_564 rfl ?_
  refine L_aload K 0 dL_law_565 rfl ?_
  refine L_iload K 3 dL_law_566 rfl ?_
  refine L_ic (v := 1) K dL_law_567 rfl ?_
  refine L_iadd K dL_law_568 ?_
  refine L_sld K (hi 1 (by decide) (by decide)) dL_law_569 ?_
  refine L_aload K 0 dL_law_570 rfl ?_
  refine L_iload K 3 dL_law_571 rfl ?_
  refine L_ic (v := 2) K dL_law_572 rfl ?_
  refine L_iadd K dL_law_573 ?_
  refine L_sld K (hi 2 (by decide) (by decide)) dL_law_574 ?_
  refine L_call (n := 2) (As := fun f => [.int (x.2.1.2.2 (i + 1).toNatClampNeg), .int (x.2.1.2.2 (i + 2).toNatClampNeg)]) (rr := fun _ => some (.int r)) (o := 0) (ci := 9) K R9 (by decide) (cl_9 k_0) rfl tl_82 tl_83 tl_84 tb_320 (by decide +kernel) tl_85 (by decide) dL_law_575 rfl (Nat.le_of_ble_eq_true rfl) ?_
  refine L_aload K 2 dL_law_578 rfl ?_
  refine L_aload K 0 dL_law_579 rfl ?_
  refine L_iload K 3 dL_law_580 rfl ?_
  refine L_ic (v := 1) K dL_law_581 rfl ?_
  refine L_iadd K dL_law_582 ?_
  refine L_sld K (hi 1 (by decide) (by decide)) dL_law_583 ?_
  refine L_aload K 0 dL_law_584 rfl ?_
  refine L_iload K 3 dL_law_585 rfl ?_
  refine L_ic (v := 2) K dL_law_586 rfl ?_
  refine L_iadd K dL_law_587 ?_
  refine L_sld K (hi 2 (by decide) (by decide)) dL_law_588 ?_
  refine L_call (n := 2) (As := fun f => [.int (x.2.1.2.2 (i + 1).toNatClampNeg), .int (x.2.1.2.2 (i + 2).toNatClampNeg)]) (rr := fun _ => some (.int r)) (o := 51) (ci := 10) K R10 (by decide) (cl_10 k_51) rfl tl_86 tl_87 tl_88 tb_13 (by decide +kernel) tl_89 (by decide) dL_law_589 rfl (Nat.le_of_ble_eq_true rfl) ?_
  refine L_eqt K 1459 dL_law_592 (by decide) ?_
  exact ih h2 S2
theorem lc_mark {Sim : Hp → Prop} {x : Lx} {h : Hp} {i : Int32} (K : LK x) (St : St_mark Sim) (S : Sim h) (hi : ∀ j : Int32, 1 ≤ j → j ≤ 5 → vp_in (i + j) x.2.1.2.1) (ih : ∀ h2, Sim h2 → LW x 1459 [(0, .ref x.2.1.1), (1, .ref (la x 0)), (2, .ref (la x 51)), (3, .int i)] [] h2) : LW x 597 [(0, .ref x.2.1.1), (1, .ref (la x 0)), (2, .ref (la x 51)), (3, .int i)] [] h := by
  obtain ⟨r, h1, h2, R9, R10, S2⟩ := St (x.2.1.2.2 (i + 1).toNatClampNeg) (x.2.1.2.2 (i + 2).toNatClampNeg) h S
  refine L_aload K 1 dL_law_597 rfl ?_
  refine L_aload K 0 dL_law_598 rfl ?_
  refine L_iload K 3 dL_law_599 rfl ?_
  refine L_ic (v := 1) K dL_law_600 rfl ?_
  refine L_iadd K dL_law_601 ?_
  refine L_sld K (hi 1 (by decide) (by decide)) dL_law_602 ?_
  refine L_aload K 0 dL_law_603 rfl ?_
  refine L_iload K 3 dL_law_604 rfl ?_
  refine L_ic (v := 2) K dL_law_605 rfl ?_
  refine L_iadd K dL_law_606 ?_
  refine L_sld K (hi 2 (by decide) (by decide)) dL_law_607 ?_
  refine L_call (n := 2) (As := fun f => [.int (x.2.1.2.2 (i + 1).toNatClampNeg), .int (x.2.1.2.2 (i + 2).toNatClampNeg)]) (rr := fun _ => some (.int r)) (o := 0) (ci := 9) K R9 (by decide) (cl_9 k_0) rfl tl_90 tl_91 tl_92 tb_320 (by decide +kernel) tl_93 (by decide) dL_law_608 rfl (Nat.le_of_ble_eq_true rfl) ?_
  refine L_aload K 2 dL_law_611 rfl ?_
  refine L_aload K 0 dL_law_612 rfl ?_
  refine L_iload K 3 dL_law_613 rfl ?_
  refine L_ic (v := 1) K dL_law_614 rfl ?_
  refine L_iadd K dL_law_615 ?_
  refine L_sld K (hi 1 (by decide) (by decide)) dL_law_616 ?_
  refine L_aload K 0 dL_law_617 rfl ?_
  refine L_iload K 3 dL_law_618 rfl ?_
  refine L_ic (v := 2) K dL_law_619 rfl ?_
  refine L_iadd K dL_law_620 ?_
  refine L_sld K (hi 2 (by decide) (by decide)) dL_law_621 ?_
  refine L_call (n := 2) (As := fun f => [.int (x.2.1.2.2 (i + 1).toNatClampNeg), .int (x.2.1.2.2 (i + 2).toNatClampNeg)]) (rr := fun _ => some (.int r)) (o := 51) (ci := 10) K R10 (by decide) (cl_10 k_51) rfl tl_94 tl_95 tl_96 tb_13 (by decide +kernel) tl_97 (by decide) dL_law_622 rfl (Nat.le_of_ble_eq_true rfl) ?_
  refine L_eqt K 1459 dL_law_625 (by decide) ?_
  exact ih h2 S2
theorem lc_turn {Sim : Hp → Prop} {x : Lx} {h : Hp} {i : Int32} (K : LK x) (St : St_turn Sim) (S : Sim h) (hi : ∀ j : Int32, 1 ≤ j → j ≤ 5 → vp_in (i + j) x.2.1.2.1) (ih : ∀ h2, Sim h2 → LW x 1459 [(0, .ref x.2.1.1), (1, .ref (la x 0)), (2, .ref (la x 51)), (3, .int i)] [] h2) : LW x 630 [(0, .ref x.2.1.1), (1, .ref (la x 0)), (2, .ref (la x 51)), (3, .int i)] [] h := by
  obtain ⟨r, h1, h2, R9, R10, S2⟩ := St  h S
  refine L_aload K 1 dL_law_630 rfl ?_
  refine L_call (n := 0) (As := fun f => []) (rr := fun _ => some (.int r)) (o := 0) (ci := 9) K R9 (by decide) (cl_9 k_0) rfl tl_98 tl_99 tl_100 tb_320 (by decide +kernel) tl_101 (by decide) dL_law_631 rfl (Nat.le_of_ble_eq_true rfl) ?_
  refine L_aload K 2 dL_law_634 rfl ?_
  refine L_call (n := 0) (As := fun f => []) (rr := fun _ => some (.int r)) (o := 51) (ci := 10) K R10 (by decide) (cl_10 k_51) rfl tl_102 tl_103 tl_104 tb_13 (by decide +kernel) tl_105 (by decide) dL_law_635 rfl (Nat.le_of_ble_eq_true rfl) ?_
  refine L_eqt K 1459 dL_law_638 (by decide) ?_
  exact ih h2 S2
theorem lc_spoon {Sim : Hp → Prop} {x : Lx} {h : Hp} {i : Int32} (K : LK x) (St : St_spoon Sim) (S : Sim h) (hi : ∀ j : Int32, 1 ≤ j → j ≤ 5 → vp_in (i + j) x.2.1.2.1) (ih : ∀ h2, Sim h2 → LW x 1459 [(0, .ref x.2.1.1), (1, .ref (la x 0)), (2, .ref (la x 51)), (3, .int i)] [] h2) : LW x 643 [(0, .ref x.2.1.1), (1, .ref (la x 0)), (2, .ref (la x 51)), (3, .int i)] [] h := by
  obtain ⟨r, h1, h2, R9, R10, S2⟩ := St (x.2.1.2.2 (i + 1).toNatClampNeg) h S
  refine L_aload K 1 dL_law_643 rfl ?_
  refine L_aload K 0 dL_law_644 rfl ?_
  refine L_iload K 3 dL_law_645 rfl ?_
  refine L_ic (v := 1) K dL_law_646 rfl ?_
  refine L_iadd K dL_law_647 ?_
  refine L_sld K (hi 1 (by decide) (by decide)) dL_law_648 ?_
  refine L_call (n := 1) (As := fun f => [.int (x.2.1.2.2 (i + 1).toNatClampNeg)]) (rr := fun _ => some (.int r)) (o := 0) (ci := 9) K R9 (by decide) (cl_9 k_0) rfl tl_106 tl_107 tl_108 tb_320 (by decide +kernel) tl_109 (by decide) dL_law_649 rfl (Nat.le_of_ble_eq_true rfl) ?_
  refine L_aload K 2 dL_law_652 rfl ?_
  refine L_aload K 0 dL_law_653 rfl ?_
  refine L_iload K 3 dL_law_654 rfl ?_
  refine L_ic (v := 1) K dL_law_655 rfl ?_
  refine L_iadd K dL_law_656 ?_
  refine L_sld K (hi 1 (by decide) (by decide)) dL_law_657 ?_
  refine L_call (n := 1) (As := fun f => [.int (x.2.1.2.2 (i + 1).toNatClampNeg)]) (rr := fun _ => some (.int r)) (o := 51) (ci := 10) K R10 (by decide) (cl_10 k_51) rfl tl_110 tl_111 tl_112 tb_13 (by decide +kernel) tl_113 (by decide) dL_law_658 rfl (Nat.le_of_ble_eq_true rfl) ?_
  refine L_eqt K 1459 dL_law_661 (by decide) ?_
  exact ih h2 S2
theorem lc_wind {Sim : Hp → Prop} {x : Lx} {h : Hp} {i : Int32} (K : LK x) (St : St_wind Sim) (S : Sim h) (hi : ∀ j : Int32, 1 ≤ j → j ≤ 5 → vp_in (i + j) x.2.1.2.1) (ih : ∀ h2, Sim h2 → LW x 1459 [(0, .ref x.2.1.1), (1, .ref (la x 0)), (2, .ref (la x 51)), (3, .int i)] [] h2) : LW x 666 [(0, .ref x.2.1.1), (1, .ref (la x 0)), (2, .ref (la x 51)), (3, .int i)] [] h := by
  obtain ⟨r, h1, h2, R9, R10, S2⟩ := St (x.2.1.2.2 (i + 1).toNatClampNeg) h S
  refine L_aload K 1 dL_law_666 rfl ?_
  refine L_aload K 0 dL_law_667 rfl ?_
  refine L_iload K 3 dL_law_668 rfl ?_
  refine L_ic (v := 1) K dL_law_669 rfl ?_
  refine L_iadd K dL_law_670 ?_
  refine L_sld K (hi 1 (by decide) (by decide)) dL_law_671 ?_
  refine L_call (n := 1) (As := fun f => [.int (x.2.1.2.2 (i + 1).toNatClampNeg)]) (rr := fun _ => some (.int r)) (o := 0) (ci := 9) K R9 (by decide) (cl_9 k_0) rfl tl_114 tl_115 tl_116 tb_320 (by decide +kernel) tl_117 (by decide) dL_law_672 rfl (Nat.le_of_ble_eq_true rfl) ?_
  refine L_aload K 2 dL_law_675 rfl ?_
  refine L_aload K 0 dL_law_676 rfl ?_
  refine L_iload K 3 dL_law_677 rfl ?_
  refine L_ic (v := 1) K dL_law_678 rfl ?_
  refine L_iadd K dL_law_679 ?_
  refine L_sld K (hi 1 (by decide) (by decide)) dL_law_680 ?_
  refine L_call (n := 1) (As := fun f => [.int (x.2.1.2.2 (i + 1).toNatClampNeg)]) (rr := fun _ => some (.int r)) (o := 51) (ci := 10) K R10 (by decide) (cl_10 k_51) rfl tl_118 tl_119 tl_120 tb_13 (by decide +kernel) tl_121 (by decide) dL_law_681 rfl (Nat.le_of_ble_eq_true rfl) ?_
  refine L_eqt K 1459 dL_law_684 (by decide) ?_
  exact ih h2 S2
theorem lc_rain {Sim : Hp → Prop} {x : Lx} {h : Hp} {i : Int32} (K : LK x) (St : St_rain Sim) (S : Sim h) (hi : ∀ j : Int32, 1 ≤ j → j ≤ 5 → vp_in (i + j) x.2.1.2.1) (ih : ∀ h2, Sim h2 → LW x 1459 [(0, .ref x.2.1.1), (1, .ref (la x 0)), (2, .ref (la x 51)), (3, .int i)] [] h2) : LW x 689 [(0, .ref x.2.1.1), (1, .ref (la x 0)), (2, .ref (la x 51)), (3, .int i)] [] h := by
  obtain ⟨r, h1, h2, R9, R10, S2⟩ := St (x.2.1.2.2 (i + 1).toNatClampNeg) h S
  refine L_aload K 1 dL_law_689 rfl ?_
  refine L_aload K 0 dL_law_690 rfl ?_
  refine L_iload K 3 dL_law_691 rfl ?_
  refine L_ic (v := 1) K dL_law_692 rfl ?_
  refine L_iadd K dL_law_693 ?_
  refine L_sld K (hi 1 (by decide) (by decide)) dL_law_694 ?_
  refine L_call (n := 1) (As := fun f => [.int (x.2.1.2.2 (i + 1).toNatClampNeg)]) (rr := fun _ => some (.int r)) (o := 0) (ci := 9) K R9 (by decide) (cl_9 k_0) rfl tl_122 tl_123 tl_124 tb_320 (by decide +kernel) tl_125 (by decide) dL_law_695 rfl (Nat.le_of_ble_eq_true rfl) ?_
  refine L_aload K 2 dL_law_698 rfl ?_
  refine L_aload K 0 dL_law_699 rfl ?_
  refine L_iload K 3 dL_law_700 rfl ?_
  refine L_ic (v := 1) K dL_law_701 rfl ?_
  refine L_iadd K dL_law_702 ?_
  refine L_sld K (hi 1 (by decide) (by decide)) dL_law_703 ?_
  refine L_call (n := 1) (As := fun f => [.int (x.2.1.2.2 (i + 1).toNatClampNeg)]) (rr := fun _ => some (.int r)) (o := 51) (ci := 10) K R10 (by decide) (cl_10 k_51) rfl tl_126 tl_127 tl_128 tb_13 (by decide +kernel) tl_129 (by decide) dL_law_704 rfl (Nat.le_of_ble_eq_true rfl) ?_
  refine L_eqt K 1459 dL_law_707 (by decide) ?_
  exact ih h2 S2
theorem lc_stand {Sim : Hp → Prop} {x : Lx} {h : Hp} {i : Int32} (K : LK x) (St : St_stand Sim) (S : Sim h) (hi : ∀ j : Int32, 1 ≤ j → j ≤ 5 → vp_in (i + j) x.2.1.2.1) (ih : ∀ h2, Sim h2 → LW x 1459 [(0, .ref x.2.1.1), (1, .ref (la x 0)), (2, .ref (la x 51)), (3, .int i)] [] h2) : LW x 712 [(0, .ref x.2.1.1), (1, .ref (la x 0)), (2, .ref (la x 51)), (3, .int i)] [] h := by
  obtain ⟨r, h1, h2, R9, R10, S2⟩ := St (x.2.1.2.2 (i + 1).toNatClampNeg) (x.2.1.2.2 (i + 2).toNatClampNeg) h S
  refine L_aload K 1 dL_law_712 rfl ?_
  refine L_aload K 0 dL_law_713 rfl ?_
  refine L_iload K 3 dL_law_714 rfl ?_
  refine L_ic (v := 1) K dL_law_715 rfl ?_
  refine L_iadd K dL_law_716 ?_
  refine L_sld K (hi 1 (by decide) (by decide)) dL_law_717 ?_
  refine L_aload K 0 dL_law_718 rfl ?_
  refine L_iload K 3 dL_law_719 rfl ?_
  refine L_ic (v := 2) K dL_law_720 rfl ?_
  refine L_iadd K dL_law_721 ?_
  refine L_sld K (hi 2 (by decide) (by decide)) dL_law_722 ?_
  refine L_call (n := 2) (As := fun f => [.int (x.2.1.2.2 (i + 1).toNatClampNeg), .int (x.2.1.2.2 (i + 2).toNatClampNeg)]) (rr := fun _ => some (.int r)) (o := 0) (ci := 9) K R9 (by decide) (cl_9 k_0) rfl tl_130 tl_131 tl_132 tb_320 (by decide +kernel) tl_133 (by decide) dL_law_723 rfl (Nat.le_of_ble_eq_true rfl) ?_
  refine L_aload K 2 dL_law_726 rfl ?_
  refine L_aload K 0 dL_law_727 rfl ?_
  refine L_iload K 3 dL_law_728 rfl ?_
  refine L_ic (v := 1) K dL_law_729 rfl ?_
  refine L_iadd K dL_law_730 ?_
  refine L_sld K (hi 1 (by decide) (by decide)) dL_law_731 ?_
  refine L_aload K 0 dL_law_732 rfl ?_
  refine L_iload K 3 dL_law_733 rfl ?_
  refine L_ic (v := 2) K dL_law_734 rfl ?_
  refine L_iadd K dL_law_735 ?_
  refine L_sld K (hi 2 (by decide) (by decide)) dL_law_736 ?_
  refine L_call (n := 2) (As := fun f => [.int (x.2.1.2.2 (i + 1).toNatClampNeg), .int (x.2.1.2.2 (i + 2).toNatClampNeg)]) (rr := fun _ => some (.int r)) (o := 51) (ci := 10) K R10 (by decide) (cl_10 k_51) rfl tl_134 tl_135 tl_136 tb_13 (by decide +kernel) tl_137 (by decide) dL_law_737 rfl (Nat.le_of_ble_eq_true rfl) ?_
  refine L_eqt K 1459 dL_law_740 (by decide) ?_
  exact ih h2 S2
theorem lc_undo {Sim : Hp → Prop} {x : Lx} {h : Hp} {i : Int32} (K : LK x) (St : St_undo Sim) (S : Sim h) (hi : ∀ j : Int32, 1 ≤ j → j ≤ 5 → vp_in (i + j) x.2.1.2.1) (ih : ∀ h2, Sim h2 → LW x 1459 [(0, .ref x.2.1.1), (1, .ref (la x 0)), (2, .ref (la x 51)), (3, .int i)] [] h2) : LW x 745 [(0, .ref x.2.1.1), (1, .ref (la x 0)), (2, .ref (la x 51)), (3, .int i)] [] h := by
  obtain ⟨r, h1, h2, R9, R10, S2⟩ := St (x.2.1.2.2 (i + 1).toNatClampNeg) h S
  refine L_aload K 1 dL_law_745 rfl ?_
  refine L_aload K 0 dL_law_746 rfl ?_
  refine L_iload K 3 dL_law_747 rfl ?_
  refine L_ic (v := 1) K dL_law_748 rfl ?_
  refine L_iadd K dL_law_749 ?_
  refine L_sld K (hi 1 (by decide) (by decide)) dL_law_750 ?_
  refine L_call (n := 1) (As := fun f => [.int (x.2.1.2.2 (i + 1).toNatClampNeg)]) (rr := fun _ => some (.int r)) (o := 0) (ci := 9) K R9 (by decide) (cl_9 k_0) rfl tl_138 tl_139 tl_140 tb_320 (by decide +kernel) tl_141 (by decide) dL_law_751 rfl (Nat.le_of_ble_eq_true rfl) ?_
  refine L_aload K 2 dL_law_754 rfl ?_
  refine L_aload K 0 dL_law_755 rfl ?_
  refine L_iload K 3 dL_law_756 rfl ?_
  refine L_ic (v := 1) K dL_law_757 rfl ?_
  refine L_iadd K dL_law_758 ?_
  refine L_sld K (hi 1 (by decide) (by decide)) dL_law_759 ?_
  refine L_call (n := 1) (As := fun f => [.int (x.2.1.2.2 (i + 1).toNatClampNeg)]) (rr := fun _ => some (.int r)) (o := 51) (ci := 10) K R10 (by decide) (cl_10 k_51) rfl tl_142 tl_143 tl_144 tb_13 (by decide +kernel) tl_145 (by decide) dL_law_760 rfl (Nat.le_of_ble_eq_true rfl) ?_
  refine L_eqt K 1459 dL_law_763 (by decide) ?_
  exact ih h2 S2
theorem lc_keep {Sim : Hp → Prop} {x : Lx} {h : Hp} {i : Int32} (K : LK x) (St : St_keep Sim) (S : Sim h) (hi : ∀ j : Int32, 1 ≤ j → j ≤ 5 → vp_in (i + j) x.2.1.2.1) (ih : ∀ h2, Sim h2 → LW x 1459 [(0, .ref x.2.1.1), (1, .ref (la x 0)), (2, .ref (la x 51)), (3, .int i)] [] h2) : LW x 768 [(0, .ref x.2.1.1), (1, .ref (la x 0)), (2, .ref (la x 51)), (3, .int i)] [] h := by
  obtain ⟨r, h1, h2, R9, R10, S2⟩ := St (x.2.1.2.2 (i + 1).toNatClampNeg) h S
  refine L_aload K 1 dL_law_768 rfl ?_
  refine L_aload K 0 dL_law_769 rfl ?_
  refine L_iload K 3 dL_law_770 rfl ?_
  refine L_ic (v := 1) K dL_law_771 rfl ?_
  refine L_iadd K dL_law_772 ?_
  refine L_sld K (hi 1 (by decide) (by decide)) dL_law_773 ?_
  refine L_call (n := 1) (As := fun f => [.int (x.2.1.2.2 (i + 1).toNatClampNeg)]) (rr := fun _ => some (.int r)) (o := 0) (ci := 9) K R9 (by decide) (cl_9 k_0) rfl tl_146 tl_147 tl_148 tb_320 (by decide +kernel) tl_149 (by decide) dL_law_774 rfl (Nat.le_of_ble_eq_true rfl) ?_
  refine L_aload K 2 dL_law_777 rfl ?_
  refine L_aload K 0 dL_law_778 rfl ?_
  refine L_iload K 3 dL_law_779 rfl ?_
  refine L_ic (v := 1) K dL_law_780 rfl ?_
  refine L_iadd K dL_law_781 ?_
  refine L_sld K (hi 1 (by decide) (by decide)) dL_law_782 ?_
  refine L_call (n := 1) (As := fun f => [.int (x.2.1.2.2 (i + 1).toNatClampNeg)]) (rr := fun _ => some (.int r)) (o := 51) (ci := 10) K R10 (by decide) (cl_10 k_51) rfl tl_150 tl_151 tl_152 tb_13 (by decide +kernel) tl_153 (by decide) dL_law_783 rfl (Nat.le_of_ble_eq_true rfl) ?_
  refine L_eqt K 1459 dL_law_786 (by decide) ?_
  exact ih h2 S2
theorem lc_on {Sim : Hp → Prop} {x : Lx} {h : Hp} {i : Int32} (K : LK x) (St : St_on Sim) (S : Sim h) (hi : ∀ j : Int32, 1 ≤ j → j ≤ 5 → vp_in (i + j) x.2.1.2.1) (ih : ∀ h2, Sim h2 → LW x 1459 [(0, .ref x.2.1.1), (1, .ref (la x 0)), (2, .ref (la x 51)), (3, .int i)] [] h2) : LW x 791 [(0, .ref x.2.1.1), (1, .ref (la x 0)), (2, .ref (la x 51)), (3, .int i)] [] h := by
  obtain ⟨r, h1, h2, R9, R10, S2⟩ := St (x.2.1.2.2 (i + 1).toNatClampNeg) h S
  refine L_aload K 1 dL_law_791 rfl ?_
  refine L_aload K 0 dL_law_792 rfl ?_
  refine L_iload K 3 dL_law_793 rfl ?_
  refine L_ic (v := 1) K dL_law_794 rfl ?_
  refine L_iadd K dL_law_795 ?_
  refine L_sld K (hi 1 (by decide) (by decide)) dL_law_796 ?_
  refine L_call (n := 1) (As := fun f => [.int (x.2.1.2.2 (i + 1).toNatClampNeg)]) (rr := fun _ => some (.int r)) (o := 0) (ci := 9) K R9 (by decide) (cl_9 k_0) rfl tl_154 tl_155 tl_156 tb_320 (by decide +kernel) tl_157 (by decide) dL_law_797 rfl (Nat.le_of_ble_eq_true rfl) ?_
  refine L_aload K 2 dL_law_800 rfl ?_
  refine L_aload K 0 dL_law_801 rfl ?_
  refine L_iload K 3 dL_law_802 rfl ?_
  refine L_ic (v := 1) K dL_law_803 rfl ?_
  refine L_iadd K dL_law_804 ?_
  refine L_sld K (hi 1 (by decide) (by decide)) dL_law_805 ?_
  refine L_call (n := 1) (As := fun f => [.int (x.2.1.2.2 (i + 1).toNatClampNeg)]) (rr := fun _ => some (.int r)) (o := 51) (ci := 10) K R10 (by decide) (cl_10 k_51) rfl tl_158 tl_159 tl_160 tb_13 (by decide +kernel) tl_161 (by decide) dL_law_806 rfl (Nat.le_of_ble_eq_true rfl) ?_
  refine L_eqt K 1459 dL_law_809 (by decide) ?_
  exact ih h2 S2
theorem lc_gathers {Sim : Hp → Prop} {x : Lx} {h : Hp} {i : Int32} (K : LK x) (St : St_gathers Sim) (S : Sim h) (hi : ∀ j : Int32, 1 ≤ j → j ≤ 5 → vp_in (i + j) x.2.1.2.1) (ih : ∀ h2, Sim h2 → LW x 1459 [(0, .ref x.2.1.1), (1, .ref (la x 0)), (2, .ref (la x 51)), (3, .int i)] [] h2) : LW x 814 [(0, .ref x.2.1.1), (1, .ref (la x 0)), (2, .ref (la x 51)), (3, .int i)] [] h := by
  obtain ⟨r, h1, h2, R9, R10, S2⟩ := St (x.2.1.2.2 (i + 1).toNatClampNeg) (x.2.1.2.2 (i + 2).toNatClampNeg) h S
  refine L_aload K 1 dL_law_814 rfl ?_
  refine L_aload K 0 dL_law_815 rfl ?_
  refine L_iload K 3 dL_law_816 rfl ?_
  refine L_ic (v := 1) K dL_law_817 rfl ?_
  refine L_iadd K dL_law_818 ?_
  refine L_sld K (hi 1 (by decide) (by decide)) dL_law_819 ?_
  refine L_aload K 0 dL_law_820 rfl ?_
  refine L_iload K 3 dL_law_821 rfl ?_
  refine L_ic (v := 2) K dL_law_822 rfl ?_
  refine L_iadd K dL_law_823 ?_
  refine L_sld K (hi 2 (by decide) (by decide)) dL_law_824 ?_
  refine L_call (n := 2) (As := fun f => [.int (x.2.1.2.2 (i + 1).toNatClampNeg), .int (x.2.1.2.2 (i + 2).toNatClampNeg)]) (rr := fun _ => some (.int r)) (o := 0) (ci := 9) K R9 (by decide) (cl_9 k_0) rfl tl_162 tl_163 tl_164 tb_320 (by decide +kernel) tl_165 (by decide) dL_law_825 rfl (Nat.le_of_ble_eq_true rfl) ?_
  refine L_aload K 2 dL_law_828 rfl ?_
  refine L_aload K 0 dL_law_829 rfl ?_
  refine L_iload K 3 dL_law_830 rfl ?_
  refine L_ic (v := 1) K dL_law_831 rfl ?_
  refine L_iadd K dL_law_832 ?_
  refine L_sld K (hi 1 (by decide) (by decide)) dL_law_833 ?_
  refine L_aload K 0 dL_law_834 rfl ?_
  refine L_iload K 3 dL_law_835 rfl ?_
  refine L_ic (v := 2) K dL_law_836 rfl ?_
  refine L_iadd K dL_law_837 ?_
  refine L_sld K (hi 2 (by decide) (by decide)) dL_law_838 ?_
  refine L_call (n := 2) (As := fun f => [.int (x.2.1.2.2 (i + 1).toNatClampNeg), .int (x.2.1.2.2 (i + 2).toNatClampNeg)]) (rr := fun _ => some (.int r)) (o := 51) (ci := 10) K R10 (by decide) (cl_10 k_51) rfl tl_166 tl_167 tl_168 tb_13 (by decide +kernel) tl_169 (by decide) dL_law_839 rfl (Nat.le_of_ble_eq_true rfl) ?_
  refine L_eqt K 1459 dL_law_842 (by decide) ?_
  exact ih h2 S2
theorem lc_cloud {Sim : Hp → Prop} {x : Lx} {h : Hp} {i : Int32} (K : LK x) (St : St_cloud Sim) (S : Sim h) (hi : ∀ j : Int32, 1 ≤ j → j ≤ 5 → vp_in (i + j) x.2.1.2.1) (ih : ∀ h2, Sim h2 → LW x 1459 [(0, .ref x.2.1.1), (1, .ref (la x 0)), (2, .ref (la x 51)), (3, .int i)] [] h2) : LW x 847 [(0, .ref x.2.1.1), (1, .ref (la x 0)), (2, .ref (la x 51)), (3, .int i)] [] h := by
  obtain ⟨r, h1, h2, R9, R10, S2⟩ := St (x.2.1.2.2 (i + 1).toNatClampNeg) h S
  refine L_aload K 1 dL_law_847 rfl ?_
  refine L_aload K 0 dL_law_848 rfl ?_
  refine L_iload K 3 dL_law_849 rfl ?_
  refine L_ic (v := 1) K dL_law_850 rfl ?_
  refine L_iadd K dL_law_851 ?_
  refine L_sld K (hi 1 (by decide) (by decide)) dL_law_852 ?_
  refine L_call (n := 1) (As := fun f => [.int (x.2.1.2.2 (i + 1).toNatClampNeg)]) (rr := fun _ => some (.int r)) (o := 0) (ci := 9) K R9 (by decide) (cl_9 k_0) rfl tl_170 tl_171 tl_172 tb_320 (by decide +kernel) tl_173 (by decide) dL_law_853 rfl (Nat.le_of_ble_eq_true rfl) ?_
  refine L_aload K 2 dL_law_856 rfl ?_
  refine L_aload K 0 dL_law_857 rfl ?_
  refine L_iload K 3 dL_law_858 rfl ?_
  refine L_ic (v := 1) K dL_law_859 rfl ?_
  refine L_iadd K dL_law_860 ?_
  refine L_sld K (hi 1 (by decide) (by decide)) dL_law_861 ?_
  refine L_call (n := 1) (As := fun f => [.int (x.2.1.2.2 (i + 1).toNatClampNeg)]) (rr := fun _ => some (.int r)) (o := 51) (ci := 10) K R10 (by decide) (cl_10 k_51) rfl tl_174 tl_175 tl_176 tb_13 (by decide +kernel) tl_177 (by decide) dL_law_862 rfl (Nat.le_of_ble_eq_true rfl) ?_
  refine L_eqt K 1459 dL_law_865 (by decide) ?_
  exact ih h2 S2
theorem lc_share {Sim : Hp → Prop} {x : Lx} {h : Hp} {i : Int32} (K : LK x) (St : St_share Sim) (S : Sim h) (hi : ∀ j : Int32, 1 ≤ j → j ≤ 5 → vp_in (i + j) x.2.1.2.1) (ih : ∀ h2, Sim h2 → LW x 1459 [(0, .ref x.2.1.1), (1, .ref (la x 0)), (2, .ref (la x 51)), (3, .int i)] [] h2) : LW x 870 [(0, .ref x.2.1.1), (1, .ref (la x 0)), (2, .ref (la x 51)), (3, .int i)] [] h := by
  obtain ⟨r, h1, h2, R9, R10, S2⟩ := St (x.2.1.2.2 (i + 1).toNatClampNeg) (x.2.1.2.2 (i + 2).toNatClampNeg) h S
  refine L_aload K 1 dL_law_870 rfl ?_
  refine L_aload K 0 dL_law_871 rfl ?_
  refine L_iload K 3 dL_law_872 rfl ?_
  refine L_ic (v := 1) K dL_law_873 rfl ?_
  refine L_iadd K dL_law_874 ?_
  refine L_sld K (hi 1 (by decide) (by decide)) dL_law_875 ?_
  refine L_aload K 0 dL_law_876 rfl ?_
  refine L_iload K 3 dL_law_877 rfl ?_
  refine L_ic (v := 2) K dL_law_878 rfl ?_
  refine L_iadd K dL_law_879 ?_
  refine L_sld K (hi 2 (by decide) (by decide)) dL_law_880 ?_
  refine L_call (n := 2) (As := fun f => [.int (x.2.1.2.2 (i + 1).toNatClampNeg), .int (x.2.1.2.2 (i + 2).toNatClampNeg)]) (rr := fun _ => some (.int r)) (o := 0) (ci := 9) K R9 (by decide) (cl_9 k_0) rfl tl_178 tl_179 tl_180 tb_320 (by decide +kernel) tl_181 (by decide) dL_law_881 rfl (Nat.le_of_ble_eq_true rfl) ?_
  refine L_aload K 2 dL_law_884 rfl ?_
  refine L_aload K 0 dL_law_885 rfl ?_
  refine L_iload K 3 dL_law_886 rfl ?_
  refine L_ic (v := 1) K dL_law_887 rfl ?_
  refine L_iadd K dL_law_888 ?_
  refine L_sld K (hi 1 (by decide) (by decide)) dL_law_889 ?_
  refine L_aload K 0 dL_law_890 rfl ?_
  refine L_iload K 3 dL_law_891 rfl ?_
  refine L_ic (v := 2) K dL_law_892 rfl ?_
  refine L_iadd K dL_law_893 ?_
  refine L_sld K (hi 2 (by decide) (by decide)) dL_law_894 ?_
  refine L_call (n := 2) (As := fun f => [.int (x.2.1.2.2 (i + 1).toNatClampNeg), .int (x.2.1.2.2 (i + 2).toNatClampNeg)]) (rr := fun _ => some (.int r)) (o := 51) (ci := 10) K R10 (by decide) (cl_10 k_51) rfl tl_182 tl_183 tl_184 tb_13 (by decide +kernel) tl_185 (by decide) dL_law_895 rfl (Nat.le_of_ble_eq_true rfl) ?_
  refine L_eqt K 1459 dL_law_898 (by decide) ?_
  exact ih h2 S2
theorem lc_first {Sim : Hp → Prop} {x : Lx} {h : Hp} {i : Int32} (K : LK x) (St : St_first Sim) (S : Sim h) (hi : ∀ j : Int32, 1 ≤ j → j ≤ 5 → vp_in (i + j) x.2.1.2.1) (ih : ∀ h2, Sim h2 → LW x 1459 [(0, .ref x.2.1.1), (1, .ref (la x 0)), (2, .ref (la x 51)), (3, .int i)] [] h2) : LW x 903 [(0, .ref x.2.1.1), (1, .ref (la x 0)), (2, .ref (la x 51)), (3, .int i)] [] h := by
  obtain ⟨r, h1, h2, R9, R10, S2⟩ := St (x.2.1.2.2 (i + 1).toNatClampNeg) h S
  refine L_aload K 1 dL_law_903 rfl ?_
  refine L_aload K 0 dL_law_904 rfl ?_
  refine L_iload K 3 dL_law_905 rfl ?_
  refine L_ic (v := 1) K dL_law_906 rfl ?_
  refine L_iadd K dL_law_907 ?_
  refine L_sld K (hi 1 (by decide) (by decide)) dL_law_908 ?_
  refine L_call (n := 1) (As := fun f => [.int (x.2.1.2.2 (i + 1).toNatClampNeg)]) (rr := fun _ => some (.int r)) (o := 0) (ci := 9) K R9 (by decide) (cl_9 k_0) rfl tl_186 tl_187 tl_188 tb_320 (by decide +kernel) tl_189 (by decide) dL_law_909 rfl (Nat.le_of_ble_eq_true rfl) ?_
  refine L_aload K 2 dL_law_912 rfl ?_
  refine L_aload K 0 dL_law_913 rfl ?_
  refine L_iload K 3 dL_law_914 rfl ?_
  refine L_ic (v := 1) K dL_law_915 rfl ?_
  refine L_iadd K dL_law_916 ?_
  refine L_sld K (hi 1 (by decide) (by decide)) dL_law_917 ?_
  refine L_call (n := 1) (As := fun f => [.int (x.2.1.2.2 (i + 1).toNatClampNeg)]) (rr := fun _ => some (.int r)) (o := 51) (ci := 10) K R10 (by decide) (cl_10 k_51) rfl tl_190 tl_191 tl_192 tb_13 (by decide +kernel) tl_193 (by decide) dL_law_918 rfl (Nat.le_of_ble_eq_true rfl) ?_
  refine L_eqt K 1459 dL_law_921 (by decide) ?_
  exact ih h2 S2
theorem lc_away {Sim : Hp → Prop} {x : Lx} {h : Hp} {i : Int32} (K : LK x) (St : St_away Sim) (S : Sim h) (hi : ∀ j : Int32, 1 ≤ j → j ≤ 5 → vp_in (i + j) x.2.1.2.1) (ih : ∀ h2, Sim h2 → LW x 1459 [(0, .ref x.2.1.1), (1, .ref (la x 0)), (2, .ref (la x 51)), (3, .int i)] [] h2) : LW x 926 [(0, .ref x.2.1.1), (1, .ref (la x 0)), (2, .ref (la x 51)), (3, .int i)] [] h := by
  obtain ⟨r, h1, h2, R9, R10, S2⟩ := St (x.2.1.2.2 (i + 1).toNatClampNeg) (x.2.1.2.2 (i + 2).toNatClampNeg) (x.2.1.2.2 (i + 3).toNatClampNeg) h S
  refine L_aload K 1 dL_law_926 rfl ?_
  refine L_aload K 0 dL_law_927 rfl ?_
  refine L_iload K 3 dL_law_928 rfl ?_
  refine L_ic (v := 1) K dL_law_929 rfl ?_
  refine L_iadd K dL_law_930 ?_
  refine L_sld K (hi 1 (by decide) (by decide)) dL_law_931 ?_
  refine L_aload K 0 dL_law_932 rfl ?_
  refine L_iload K 3 dL_law_933 rfl ?_
  refine L_ic (v := 2) K dL_law_934 rfl ?_
  refine L_iadd K dL_law_935 ?_
  refine L_sld K (hi 2 (by decide) (by decide)) dL_law_936 ?_
  refine L_aload K 0 dL_law_937 rfl ?_
  refine L_iload K 3 dL_law_938 rfl ?_
  refine L_ic (v := 3) K dL_law_939 rfl ?_
  refine L_iadd K dL_law_940 ?_
  refine L_sld K (hi 3 (by decide) (by decide)) dL_law_941 ?_
  refine L_call (n := 3) (As := fun f => [.int (x.2.1.2.2 (i + 1).toNatClampNeg), .int (x.2.1.2.2 (i + 2).toNatClampNeg), .int (x.2.1.2.2 (i + 3).toNatClampNeg)]) (rr := fun _ => some (.int r)) (o := 0) (ci := 9) K R9 (by decide) (cl_9 k_0) rfl tl_194 tl_195 tl_196 tb_320 (by decide +kernel) tl_197 (by decide) dL_law_942 rfl (Nat.le_of_ble_eq_true rfl) ?_
  refine L_aload K 2 dL_law_945 rfl ?_
  refine L_aload K 0 dL_law_946 rfl ?_
  refine L_iload K 3 dL_law_947 rfl ?_
  refine L_ic (v := 1) K dL_law_948 rfl ?_
  refine L_iadd K dL_law_949 ?_
  refine L_sld K (hi 1 (by decide) (by decide)) dL_law_950 ?_
  refine L_aload K 0 dL_law_951 rfl ?_
  refine L_iload K 3 dL_law_952 rfl ?_
  refine L_ic (v := 2) K dL_law_953 rfl ?_
  refine L_iadd K dL_law_954 ?_
  refine L_sld K (hi 2 (by decide) (by decide)) dL_law_955 ?_
  refine L_aload K 0 dL_law_956 rfl ?_
  refine L_iload K 3 dL_law_957 rfl ?_
  refine L_ic (v := 3) K dL_law_958 rfl ?_
  refine L_iadd K dL_law_959 ?_
  refine L_sld K (hi 3 (by decide) (by decide)) dL_law_960 ?_
  refine L_call (n := 3) (As := fun f => [.int (x.2.1.2.2 (i + 1).toNatClampNeg), .int (x.2.1.2.2 (i + 2).toNatClampNeg), .int (x.2.1.2.2 (i + 3).toNatClampNeg)]) (rr := fun _ => some (.int r)) (o := 51) (ci := 10) K R10 (by decide) (cl_10 k_51) rfl tl_198 tl_199 tl_200 tb_13 (by decide +kernel) tl_201 (by decide) dL_law_961 rfl (Nat.le_of_ble_eq_true rfl) ?_
  refine L_eqt K 1459 dL_law_964 (by decide) ?_
  exact ih h2 S2
theorem lc_best {Sim : Hp → Prop} {x : Lx} {h : Hp} {i : Int32} (K : LK x) (St : St_best Sim) (S : Sim h) (hi : ∀ j : Int32, 1 ≤ j → j ≤ 5 → vp_in (i + j) x.2.1.2.1) (ih : ∀ h2, Sim h2 → LW x 1459 [(0, .ref x.2.1.1), (1, .ref (la x 0)), (2, .ref (la x 51)), (3, .int i)] [] h2) : LW x 969 [(0, .ref x.2.1.1), (1, .ref (la x 0)), (2, .ref (la x 51)), (3, .int i)] [] h := by
  obtain ⟨r, h1, h2, R9, R10, S2⟩ := St (x.2.1.2.2 (i + 1).toNatClampNeg) (x.2.1.2.2 (i + 2).toNatClampNeg) h S
  refine L_aload K 1 dL_law_969 rfl ?_
  refine L_aload K 0 dL_law_970 rfl ?_
  refine L_iload K 3 dL_law_971 rfl ?_
  refine L_ic (v := 1) K dL_law_972 rfl ?_
  refine L_iadd K dL_law_973 ?_
  refine L_sld K (hi 1 (by decide) (by decide)) dL_law_974 ?_
  refine L_aload K 0 dL_law_975 rfl ?_
  refine L_iload K 3 dL_law_976 rfl ?_
  refine L_ic (v := 2) K dL_law_977 rfl ?_
  refine L_iadd K dL_law_978 ?_
  refine L_sld K (hi 2 (by decide) (by decide)) dL_law_979 ?_
  refine L_call (n := 2) (As := fun f => [.int (x.2.1.2.2 (i + 1).toNatClampNeg), .int (x.2.1.2.2 (i + 2).toNatClampNeg)]) (rr := fun _ => some (.int r)) (o := 0) (ci := 9) K R9 (by decide) (cl_9 k_0) rfl tl_202 tl_203 tl_204 tb_320 (by decide +kernel) tl_205 (by decide) dL_law_980 rfl (Nat.le_of_ble_eq_true rfl) ?_
  refine L_aload K 2 dL_law_983 rfl ?_
  refine L_aload K 0 dL_law_984 rfl ?_
  refine L_iload K 3 dL_law_985 rfl ?_
  refine L_ic (v := 1) K dL_law_986 rfl ?_
  refine L_iadd K dL_law_987 ?_
  refine L_sld K (hi 1 (by decide) (by decide)) dL_law_988 ?_
  refine L_aload K 0 dL_law_989 rfl ?_
  refine L_iload K 3 dL_law_990 rfl ?_
  refine L_ic (v := 2) K dL_law_991 rfl ?_
  refine L_iadd K dL_law_992 ?_
  refine L_sld K (hi 2 (by decide) (by decide)) dL_law_993 ?_
  refine L_call (n := 2) (As := fun f => [.int (x.2.1.2.2 (i + 1).toNatClampNeg), .int (x.2.1.2.2 (i + 2).toNatClampNeg)]) (rr := fun _ => some (.int r)) (o := 51) (ci := 10) K R10 (by decide) (cl_10 k_51) rfl tl_206 tl_207 tl_208 tb_13 (by decide +kernel) tl_209 (by decide) dL_law_994 rfl (Nat.le_of_ble_eq_true rfl) ?_
  refine L_eqt K 1459 dL_law_997 (by decide) ?_
  exact ih h2 S2
theorem lc_least {Sim : Hp → Prop} {x : Lx} {h : Hp} {i : Int32} (K : LK x) (St : St_least Sim) (S : Sim h) (hi : ∀ j : Int32, 1 ≤ j → j ≤ 5 → vp_in (i + j) x.2.1.2.1) (ih : ∀ h2, Sim h2 → LW x 1459 [(0, .ref x.2.1.1), (1, .ref (la x 0)), (2, .ref (la x 51)), (3, .int i)] [] h2) : LW x 1002 [(0, .ref x.2.1.1), (1, .ref (la x 0)), (2, .ref (la x 51)), (3, .int i)] [] h := by
  obtain ⟨r, h1, h2, R9, R10, S2⟩ := St (x.2.1.2.2 (i + 1).toNatClampNeg) (x.2.1.2.2 (i + 2).toNatClampNeg) h S
  refine L_aload K 1 dL_law_1002 rfl ?_
  refine L_aload K 0 dL_law_1003 rfl ?_
  refine L_iload K 3 dL_law_1004 rfl ?_
  refine L_ic (v := 1) K dL_law_1005 rfl ?_
  refine L_iadd K dL_law_1006 ?_
  refine L_sld K (hi 1 (by decide) (by decide)) dL_law_1007 ?_
  refine L_aload K 0 dL_law_1008 rfl ?_
  refine L_iload K 3 dL_law_1009 rfl ?_
  refine L_ic (v := 2) K dL_law_1010 rfl ?_
  refine L_iadd K dL_law_1011 ?_
  refine L_sld K (hi 2 (by decide) (by decide)) dL_law_1012 ?_
  refine L_call (n := 2) (As := fun f => [.int (x.2.1.2.2 (i + 1).toNatClampNeg), .int (x.2.1.2.2 (i + 2).toNatClampNeg)]) (rr := fun _ => some (.int r)) (o := 0) (ci := 9) K R9 (by decide) (cl_9 k_0) rfl tl_210 tl_211 tl_212 tb_320 (by decide +kernel) tl_213 (by decide) dL_law_1013 rfl (Nat.le_of_ble_eq_true rfl) ?_
  refine L_aload K 2 dL_law_1016 rfl ?_
  refine L_aload K 0 dL_law_1017 rfl ?_
  refine L_iload K 3 dL_law_1018 rfl ?_
  refine L_ic (v := 1) K dL_law_1019 rfl ?_
  refine L_iadd K dL_law_1020 ?_
  refine L_sld K (hi 1 (by decide) (by decide)) dL_law_1021 ?_
  refine L_aload K 0 dL_law_1022 rfl ?_
  refine L_iload K 3 dL_law_1023 rfl ?_
  refine L_ic (v := 2) K dL_law_1024 rfl ?_
  refine L_iadd K dL_law_1025 ?_
  refine L_sld K (hi 2 (by decide) (by decide)) dL_law_1026 ?_
  refine L_call (n := 2) (As := fun f => [.int (x.2.1.2.2 (i + 1).toNatClampNeg), .int (x.2.1.2.2 (i + 2).toNatClampNeg)]) (rr := fun _ => some (.int r)) (o := 51) (ci := 10) K R10 (by decide) (cl_10 k_51) rfl tl_214 tl_215 tl_216 tb_13 (by decide +kernel) tl_217 (by decide) dL_law_1027 rfl (Nat.le_of_ble_eq_true rfl) ?_
  refine L_eqt K 1459 dL_law_1030 (by decide) ?_
  exact ih h2 S2
theorem lc_sizes {Sim : Hp → Prop} {x : Lx} {h : Hp} {i : Int32} (K : LK x) (St : St_sizes Sim) (S : Sim h) (hi : ∀ j : Int32, 1 ≤ j → j ≤ 5 → vp_in (i + j) x.2.1.2.1) (ih : ∀ h2, Sim h2 → LW x 1459 [(0, .ref x.2.1.1), (1, .ref (la x 0)), (2, .ref (la x 51)), (3, .int i)] [] h2) : LW x 1035 [(0, .ref x.2.1.1), (1, .ref (la x 0)), (2, .ref (la x 51)), (3, .int i)] [] h := by
  obtain ⟨r, h1, h2, R9, R10, S2⟩ := St (x.2.1.2.2 (i + 1).toNatClampNeg) (x.2.1.2.2 (i + 2).toNatClampNeg) h S
  refine L_aload K 1 dL_law_1035 rfl ?_
  refine L_aload K 0 dL_law_1036 rfl ?_
  refine L_iload K 3 dL_law_1037 rfl ?_
  refine L_ic (v := 1) K dL_law_1038 rfl ?_
  refine L_iadd K dL_law_1039 ?_
  refine L_sld K (hi 1 (by decide) (by decide)) dL_law_1040 ?_
  refine L_aload K 0 dL_law_1041 rfl ?_
  refine L_iload K 3 dL_law_1042 rfl ?_
  refine L_ic (v := 2) K dL_law_1043 rfl ?_
  refine L_iadd K dL_law_1044 ?_
  refine L_sld K (hi 2 (by decide) (by decide)) dL_law_1045 ?_
  refine L_call (n := 2) (As := fun f => [.int (x.2.1.2.2 (i + 1).toNatClampNeg), .int (x.2.1.2.2 (i + 2).toNatClampNeg)]) (rr := fun _ => some (.int r)) (o := 0) (ci := 9) K R9 (by decide) (cl_9 k_0) rfl tl_218 tl_219 tl_220 tb_320 (by decide +kernel) tl_221 (by decide) dL_law_1046 rfl (Nat.le_of_ble_eq_true rfl) ?_
  refine L_aload K 2 dL_law_1049 rfl ?_
  refine L_aload K 0 dL_law_1050 rfl ?_
  refine L_iload K 3 dL_law_1051 rfl ?_
  refine L_ic (v := 1) K dL_law_1052 rfl ?_
  refine L_iadd K dL_law_1053 ?_
  refine L_sld K (hi 1 (by decide) (by decide)) dL_law_1054 ?_
  refine L_aload K 0 dL_law_1055 rfl ?_
  refine L_iload K 3 dL_law_1056 rfl ?_
  refine L_ic (v := 2) K dL_law_1057 rfl ?_
  refine L_iadd K dL_law_1058 ?_
  refine L_sld K (hi 2 (by decide) (by decide)) dL_law_1059 ?_
  refine L_call (n := 2) (As := fun f => [.int (x.2.1.2.2 (i + 1).toNatClampNeg), .int (x.2.1.2.2 (i + 2).toNatClampNeg)]) (rr := fun _ => some (.int r)) (o := 51) (ci := 10) K R10 (by decide) (cl_10 k_51) rfl tl_222 tl_223 tl_224 tb_13 (by decide +kernel) tl_225 (by decide) dL_law_1060 rfl (Nat.le_of_ble_eq_true rfl) ?_
  refine L_eqt K 1459 dL_law_1063 (by decide) ?_
  exact ih h2 S2
theorem lc_winds {Sim : Hp → Prop} {x : Lx} {h : Hp} {i : Int32} (K : LK x) (St : St_winds Sim) (S : Sim h) (hi : ∀ j : Int32, 1 ≤ j → j ≤ 5 → vp_in (i + j) x.2.1.2.1) (ih : ∀ h2, Sim h2 → LW x 1459 [(0, .ref x.2.1.1), (1, .ref (la x 0)), (2, .ref (la x 51)), (3, .int i)] [] h2) : LW x 1068 [(0, .ref x.2.1.1), (1, .ref (la x 0)), (2, .ref (la x 51)), (3, .int i)] [] h := by
  obtain ⟨r, h1, h2, R9, R10, S2⟩ := St (x.2.1.2.2 (i + 1).toNatClampNeg) (x.2.1.2.2 (i + 2).toNatClampNeg) h S
  refine L_aload K 1 dL_law_1068 rfl ?_
  refine L_aload K 0 dL_law_1069 rfl ?_
  refine L_iload K 3 dL_law_1070 rfl ?_
  refine L_ic (v := 1) K dL_law_1071 rfl ?_
  refine L_iadd K dL_law_1072 ?_
  refine L_sld K (hi 1 (by decide) (by decide)) dL_law_1073 ?_
  refine L_aload K 0 dL_law_1074 rfl ?_
  refine L_iload K 3 dL_law_1075 rfl ?_
  refine L_ic (v := 2) K dL_law_1076 rfl ?_
  refine L_iadd K dL_law_1077 ?_
  refine L_sld K (hi 2 (by decide) (by decide)) dL_law_1078 ?_
  refine L_call (n := 2) (As := fun f => [.int (x.2.1.2.2 (i + 1).toNatClampNeg), .int (x.2.1.2.2 (i + 2).toNatClampNeg)]) (rr := fun _ => some (.int r)) (o := 0) (ci := 9) K R9 (by decide) (cl_9 k_0) rfl tl_226 tl_227 tl_228 tb_320 (by decide +kernel) tl_229 (by decide) dL_law_1079 rfl (Nat.le_of_ble_eq_true rfl) ?_
  refine L_aload K 2 dL_law_1082 rfl ?_
  refine L_aload K 0 dL_law_1083 rfl ?_
  refine L_iload K 3 dL_law_1084 rfl ?_
  refine L_ic (v := 1) K dL_law_1085 rfl ?_
  refine L_iadd K dL_law_1086 ?_
  refine L_sld K (hi 1 (by decide) (by decide)) dL_law_1087 ?_
  refine L_aload K 0 dL_law_1088 rfl ?_
  refine L_iload K 3 dL_law_1089 rfl ?_
  refine L_ic (v := 2) K dL_law_1090 rfl ?_
  refine L_iadd K dL_law_1091 ?_
  refine L_sld K (hi 2 (by decide) (by decide)) dL_law_1092 ?_
  refine L_call (n := 2) (As := fun f => [.int (x.2.1.2.2 (i + 1).toNatClampNeg), .int (x.2.1.2.2 (i + 2).toNatClampNeg)]) (rr := fun _ => some (.int r)) (o := 51) (ci := 10) K R10 (by decide) (cl_10 k_51) rfl tl_230 tl_231 tl_232 tb_13 (by decide +kernel) tl_233 (by decide) dL_law_1093 rfl (Nat.le_of_ble_eq_true rfl) ?_
  refine L_eqt K 1459 dL_law_1096 (by decide) ?_
  exact ih h2 S2
theorem lc_kinds {Sim : Hp → Prop} {x : Lx} {h : Hp} {i : Int32} (K : LK x) (St : St_kinds Sim) (S : Sim h) (hi : ∀ j : Int32, 1 ≤ j → j ≤ 5 → vp_in (i + j) x.2.1.2.1) (ih : ∀ h2, Sim h2 → LW x 1459 [(0, .ref x.2.1.1), (1, .ref (la x 0)), (2, .ref (la x 51)), (3, .int i)] [] h2) : LW x 1101 [(0, .ref x.2.1.1), (1, .ref (la x 0)), (2, .ref (la x 51)), (3, .int i)] [] h := by
  obtain ⟨r, h1, h2, R9, R10, S2⟩ := St (x.2.1.2.2 (i + 1).toNatClampNeg) (x.2.1.2.2 (i + 2).toNatClampNeg) h S
  refine L_aload K 1 dL_law_1101 rfl ?_
  refine L_aload K 0 dL_law_1102 rfl ?_
  refine L_iload K 3 dL_law_1103 rfl ?_
  refine L_ic (v := 1) K dL_law_1104 rfl ?_
  refine L_iadd K dL_law_1105 ?_
  refine L_sld K (hi 1 (by decide) (by decide)) dL_law_1106 ?_
  refine L_aload K 0 dL_law_1107 rfl ?_
  refine L_iload K 3 dL_law_1108 rfl ?_
  refine L_ic (v := 2) K dL_law_1109 rfl ?_
  refine L_iadd K dL_law_1110 ?_
  refine L_sld K (hi 2 (by decide) (by decide)) dL_law_1111 ?_
  refine L_call (n := 2) (As := fun f => [.int (x.2.1.2.2 (i + 1).toNatClampNeg), .int (x.2.1.2.2 (i + 2).toNatClampNeg)]) (rr := fun _ => some (.int r)) (o := 0) (ci := 9) K R9 (by decide) (cl_9 k_0) rfl tl_234 tl_235 tl_236 tb_320 (by decide +kernel) tl_237 (by decide) dL_law_1112 rfl (Nat.le_of_ble_eq_true rfl) ?_
  refine L_aload K 2 dL_law_1115 rfl ?_
  refine L_aload K 0 dL_law_1116 rfl ?_
  refine L_iload K 3 dL_law_1117 rfl ?_
  refine L_ic (v := 1) K dL_law_1118 rfl ?_
  refine L_iadd K dL_law_1119 ?_
  refine L_sld K (hi 1 (by decide) (by decide)) dL_law_1120 ?_
  refine L_aload K 0 dL_law_1121 rfl ?_
  refine L_iload K 3 dL_law_1122 rfl ?_
  refine L_ic (v := 2) K dL_law_1123 rfl ?_
  refine L_iadd K dL_law_1124 ?_
  refine L_sld K (hi 2 (by decide) (by decide)) dL_law_1125 ?_
  refine L_call (n := 2) (As := fun f => [.int (x.2.1.2.2 (i + 1).toNatClampNeg), .int (x.2.1.2.2 (i + 2).toNatClampNeg)]) (rr := fun _ => some (.int r)) (o := 51) (ci := 10) K R10 (by decide) (cl_10 k_51) rfl tl_238 tl_239 tl_240 tb_13 (by decide +kernel) tl_241 (by decide) dL_law_1126 rfl (Nat.le_of_ble_eq_true rfl) ?_
  refine L_eqt K 1459 dL_law_1129 (by decide) ?_
  exact ih h2 S2
theorem lc_next {Sim : Hp → Prop} {x : Lx} {h : Hp} {i : Int32} (K : LK x) (St : St_next Sim) (S : Sim h) (hi : ∀ j : Int32, 1 ≤ j → j ≤ 5 → vp_in (i + j) x.2.1.2.1) (ih : ∀ h2, Sim h2 → LW x 1459 [(0, .ref x.2.1.1), (1, .ref (la x 0)), (2, .ref (la x 51)), (3, .int i)] [] h2) : LW x 1134 [(0, .ref x.2.1.1), (1, .ref (la x 0)), (2, .ref (la x 51)), (3, .int i)] [] h := by
  obtain ⟨r, h1, h2, R9, R10, S2⟩ := St (x.2.1.2.2 (i + 1).toNatClampNeg) (x.2.1.2.2 (i + 2).toNatClampNeg) h S
  refine L_aload K 1 dL_law_1134 rfl ?_
  refine L_aload K 0 dL_law_1135 rfl ?_
  refine L_iload K 3 dL_law_1136 rfl ?_
  refine L_ic (v := 1) K dL_law_1137 rfl ?_
  refine L_iadd K dL_law_1138 ?_
  refine L_sld K (hi 1 (by decide) (by decide)) dL_law_1139 ?_
  refine L_aload K 0 dL_law_1140 rfl ?_
  refine L_iload K 3 dL_law_1141 rfl ?_
  refine L_ic (v := 2) K dL_law_1142 rfl ?_
  refine L_iadd K dL_law_1143 ?_
  refine L_sld K (hi 2 (by decide) (by decide)) dL_law_1144 ?_
  refine L_call (n := 2) (As := fun f => [.int (x.2.1.2.2 (i + 1).toNatClampNeg), .int (x.2.1.2.2 (i + 2).toNatClampNeg)]) (rr := fun _ => some (.int r)) (o := 0) (ci := 9) K R9 (by decide) (cl_9 k_0) rfl tl_242 tl_243 tl_244 tb_320 (by decide +kernel) tl_245 (by decide) dL_law_1145 rfl (Nat.le_of_ble_eq_true rfl) ?_
  refine L_aload K 2 dL_law_1148 rfl ?_
  refine L_aload K 0 dL_law_1149 rfl ?_
  refine L_iload K 3 dL_law_1150 rfl ?_
  refine L_ic (v := 1) K dL_law_1151 rfl ?_
  refine L_iadd K dL_law_1152 ?_
  refine L_sld K (hi 1 (by decide) (by decide)) dL_law_1153 ?_
  refine L_aload K 0 dL_law_1154 rfl ?_
  refine L_iload K 3 dL_law_1155 rfl ?_
  refine L_ic (v := 2) K dL_law_1156 rfl ?_
  refine L_iadd K dL_law_1157 ?_
  refine L_sld K (hi 2 (by decide) (by decide)) dL_law_1158 ?_
  refine L_call (n := 2) (As := fun f => [.int (x.2.1.2.2 (i + 1).toNatClampNeg), .int (x.2.1.2.2 (i + 2).toNatClampNeg)]) (rr := fun _ => some (.int r)) (o := 51) (ci := 10) K R10 (by decide) (cl_10 k_51) rfl tl_246 tl_247 tl_248 tb_13 (by decide +kernel) tl_249 (by decide) dL_law_1159 rfl (Nat.le_of_ble_eq_true rfl) ?_
  refine L_eqt K 1459 dL_law_1162 (by decide) ?_
  exact ih h2 S2
theorem lc_sets {Sim : Hp → Prop} {x : Lx} {h : Hp} {i : Int32} (K : LK x) (St : St_sets Sim) (S : Sim h) (hi : ∀ j : Int32, 1 ≤ j → j ≤ 5 → vp_in (i + j) x.2.1.2.1) (ih : ∀ h2, Sim h2 → LW x 1459 [(0, .ref x.2.1.1), (1, .ref (la x 0)), (2, .ref (la x 51)), (3, .int i)] [] h2) : LW x 1167 [(0, .ref x.2.1.1), (1, .ref (la x 0)), (2, .ref (la x 51)), (3, .int i)] [] h := by
  obtain ⟨r, h1, h2, R9, R10, S2⟩ := St (x.2.1.2.2 (i + 1).toNatClampNeg) h S
  refine L_aload K 1 dL_law_1167 rfl ?_
  refine L_aload K 0 dL_law_1168 rfl ?_
  refine L_iload K 3 dL_law_1169 rfl ?_
  refine L_ic (v := 1) K dL_law_1170 rfl ?_
  refine L_iadd K dL_law_1171 ?_
  refine L_sld K (hi 1 (by decide) (by decide)) dL_law_1172 ?_
  refine L_call (n := 1) (As := fun f => [.int (x.2.1.2.2 (i + 1).toNatClampNeg)]) (rr := fun _ => some (.int r)) (o := 0) (ci := 9) K R9 (by decide) (cl_9 k_0) rfl tl_250 tl_251 tl_252 tb_320 (by decide +kernel) tl_253 (by decide) dL_law_1173 rfl (Nat.le_of_ble_eq_true rfl) ?_
  refine L_aload K 2 dL_law_1176 rfl ?_
  refine L_aload K 0 dL_law_1177 rfl ?_
  refine L_iload K 3 dL_law_1178 rfl ?_
  refine L_ic (v := 1) K dL_law_1179 rfl ?_
  refine L_iadd K dL_law_1180 ?_
  refine L_sld K (hi 1 (by decide) (by decide)) dL_law_1181 ?_
  refine L_call (n := 1) (As := fun f => [.int (x.2.1.2.2 (i + 1).toNatClampNeg)]) (rr := fun _ => some (.int r)) (o := 51) (ci := 10) K R10 (by decide) (cl_10 k_51) rfl tl_254 tl_255 tl_256 tb_13 (by decide +kernel) tl_257 (by decide) dL_law_1182 rfl (Nat.le_of_ble_eq_true rfl) ?_
  refine L_eqt K 1459 dL_law_1185 (by decide) ?_
  exact ih h2 S2
theorem lc_sure {Sim : Hp → Prop} {x : Lx} {h : Hp} {i : Int32} (K : LK x) (St : St_sure Sim) (S : Sim h) (hi : ∀ j : Int32, 1 ≤ j → j ≤ 5 → vp_in (i + j) x.2.1.2.1) (ih : ∀ h2, Sim h2 → LW x 1459 [(0, .ref x.2.1.1), (1, .ref (la x 0)), (2, .ref (la x 51)), (3, .int i)] [] h2) : LW x 1190 [(0, .ref x.2.1.1), (1, .ref (la x 0)), (2, .ref (la x 51)), (3, .int i)] [] h := by
  obtain ⟨r, h1, h2, R9, R10, S2⟩ := St (x.2.1.2.2 (i + 1).toNatClampNeg) h S
  refine L_aload K 1 dL_law_1190 rfl ?_
  refine L_aload K 0 dL_law_1191 rfl ?_
  refine L_iload K 3 dL_law_1192 rfl ?_
  refine L_ic (v := 1) K dL_law_1193 rfl ?_
  refine L_iadd K dL_law_1194 ?_
  refine L_sld K (hi 1 (by decide) (by decide)) dL_law_1195 ?_
  refine L_call (n := 1) (As := fun f => [.int (x.2.1.2.2 (i + 1).toNatClampNeg)]) (rr := fun _ => some (.int r)) (o := 0) (ci := 9) K R9 (by decide) (cl_9 k_0) rfl tl_258 tl_259 tl_260 tb_320 (by decide +kernel) tl_261 (by decide) dL_law_1196 rfl (Nat.le_of_ble_eq_true rfl) ?_
  refine L_aload K 2 dL_law_1199 rfl ?_
  refine L_aload K 0 dL_law_1200 rfl ?_
  refine L_iload K 3 dL_law_1201 rfl ?_
  refine L_ic (v := 1) K dL_law_1202 rfl ?_
  refine L_iadd K dL_law_1203 ?_
  refine L_sld K (hi 1 (by decide) (by decide)) dL_law_1204 ?_
  refine L_call (n := 1) (As := fun f => [.int (x.2.1.2.2 (i + 1).toNatClampNeg)]) (rr := fun _ => some (.int r)) (o := 51) (ci := 10) K R10 (by decide) (cl_10 k_51) rfl tl_262 tl_263 tl_264 tb_13 (by decide +kernel) tl_265 (by decide) dL_law_1205 rfl (Nat.le_of_ble_eq_true rfl) ?_
  refine L_eqt K 1459 dL_law_1208 (by decide) ?_
  exact ih h2 S2
theorem lc_duel {Sim : Hp → Prop} {x : Lx} {h : Hp} {i : Int32} (K : LK x) (St : St_duel Sim) (S : Sim h) (hi : ∀ j : Int32, 1 ≤ j → j ≤ 5 → vp_in (i + j) x.2.1.2.1) (ih : ∀ h2, Sim h2 → LW x 1459 [(0, .ref x.2.1.1), (1, .ref (la x 0)), (2, .ref (la x 51)), (3, .int i)] [] h2) : LW x 1213 [(0, .ref x.2.1.1), (1, .ref (la x 0)), (2, .ref (la x 51)), (3, .int i)] [] h := by
  obtain ⟨r, h1, h2, R9, R10, S2⟩ := St (x.2.1.2.2 (i + 1).toNatClampNeg) (x.2.1.2.2 (i + 2).toNatClampNeg) (x.2.1.2.2 (i + 3).toNatClampNeg) h S
  refine L_aload K 1 dL_law_1213 rfl ?_
  refine L_aload K 0 dL_law_1214 rfl ?_
  refine L_iload K 3 dL_law_1215 rfl ?_
  refine L_ic (v := 1) K dL_law_1216 rfl ?_
  refine L_iadd K dL_law_1217 ?_
  refine L_sld K (hi 1 (by decide) (by decide)) dL_law_1218 ?_
  refine L_aload K 0 dL_law_1219 rfl ?_
  refine L_iload K 3 dL_law_1220 rfl ?_
  refine L_ic (v := 2) K dL_law_1221 rfl ?_
  refine L_iadd K dL_law_1222 ?_
  refine L_sld K (hi 2 (by decide) (by decide)) dL_law_1223 ?_
  refine L_aload K 0 dL_law_1224 rfl ?_
  refine L_iload K 3 dL_law_1225 rfl ?_
  refine L_ic (v := 3) K dL_law_1226 rfl ?_
  refine L_iadd K dL_law_1227 ?_
  refine L_sld K (hi 3 (by decide) (by decide)) dL_law_1228 ?_
  refine L_call (n := 3) (As := fun f => [.int (x.2.1.2.2 (i + 1).toNatClampNeg), .int (x.2.1.2.2 (i + 2).toNatClampNeg), .int (x.2.1.2.2 (i + 3).toNatClampNeg)]) (rr := fun _ => some (.int r)) (o := 0) (ci := 9) K R9 (by decide) (cl_9 k_0) rfl tl_266 tl_267 tl_268 tb_320 (by decide +kernel) tl_269 (by decide) dL_law_1229 rfl (Nat.le_of_ble_eq_true rfl) ?_
  refine L_aload K 2 dL_law_1232 rfl ?_
  refine L_aload K 0 dL_law_1233 rfl ?_
  refine L_iload K 3 dL_law_1234 rfl ?_
  refine L_ic (v := 1) K dL_law_1235 rfl ?_
  refine L_iadd K dL_law_1236 ?_
  refine L_sld K (hi 1 (by decide) (by decide)) dL_law_1237 ?_
  refine L_aload K 0 dL_law_1238 rfl ?_
  refine L_iload K 3 dL_law_1239 rfl ?_
  refine L_ic (v := 2) K dL_law_1240 rfl ?_
  refine L_iadd K dL_law_1241 ?_
  refine L_sld K (hi 2 (by decide) (by decide)) dL_law_1242 ?_
  refine L_aload K 0 dL_law_1243 rfl ?_
  refine L_iload K 3 dL_law_1244 rfl ?_
  refine L_ic (v := 3) K dL_law_1245 rfl ?_
  refine L_iadd K dL_law_1246 ?_
  refine L_sld K (hi 3 (by decide) (by decide)) dL_law_1247 ?_
  refine L_call (n := 3) (As := fun f => [.int (x.2.1.2.2 (i + 1).toNatClampNeg), .int (x.2.1.2.2 (i + 2).toNatClampNeg), .int (x.2.1.2.2 (i + 3).toNatClampNeg)]) (rr := fun _ => some (.int r)) (o := 51) (ci := 10) K R10 (by decide) (cl_10 k_51) rfl tl_270 tl_271 tl_272 tb_13 (by decide +kernel) tl_273 (by decide) dL_law_1248 rfl (Nat.le_of_ble_eq_true rfl) ?_
  refine L_eqt K 1459 dL_law_1251 (by decide) ?_
  exact ih h2 S2
theorem lc_odds {Sim : Hp → Prop} {x : Lx} {h : Hp} {i : Int32} (K : LK x) (St : St_odds Sim) (S : Sim h) (hi : ∀ j : Int32, 1 ≤ j → j ≤ 5 → vp_in (i + j) x.2.1.2.1) (ih : ∀ h2, Sim h2 → LW x 1459 [(0, .ref x.2.1.1), (1, .ref (la x 0)), (2, .ref (la x 51)), (3, .int i)] [] h2) : LW x 1256 [(0, .ref x.2.1.1), (1, .ref (la x 0)), (2, .ref (la x 51)), (3, .int i)] [] h := by
  obtain ⟨r, h1, h2, R9, R10, S2⟩ := St (x.2.1.2.2 (i + 1).toNatClampNeg) (x.2.1.2.2 (i + 2).toNatClampNeg) h S
  refine L_aload K 1 dL_law_1256 rfl ?_
  refine L_aload K 0 dL_law_1257 rfl ?_
  refine L_iload K 3 dL_law_1258 rfl ?_
  refine L_ic (v := 1) K dL_law_1259 rfl ?_
  refine L_iadd K dL_law_1260 ?_
  refine L_sld K (hi 1 (by decide) (by decide)) dL_law_1261 ?_
  refine L_aload K 0 dL_law_1262 rfl ?_
  refine L_iload K 3 dL_law_1263 rfl ?_
  refine L_ic (v := 2) K dL_law_1264 rfl ?_
  refine L_iadd K dL_law_1265 ?_
  refine L_sld K (hi 2 (by decide) (by decide)) dL_law_1266 ?_
  refine L_call (n := 2) (As := fun f => [.int (x.2.1.2.2 (i + 1).toNatClampNeg), .int (x.2.1.2.2 (i + 2).toNatClampNeg)]) (rr := fun _ => some (.int r)) (o := 0) (ci := 9) K R9 (by decide) (cl_9 k_0) rfl tl_274 tl_275 tl_276 tb_320 (by decide +kernel) tl_277 (by decide) dL_law_1267 rfl (Nat.le_of_ble_eq_true rfl) ?_
  refine L_aload K 2 dL_law_1270 rfl ?_
  refine L_aload K 0 dL_law_1271 rfl ?_
  refine L_iload K 3 dL_law_1272 rfl ?_
  refine L_ic (v := 1) K dL_law_1273 rfl ?_
  refine L_iadd K dL_law_1274 ?_
  refine L_sld K (hi 1 (by decide) (by decide)) dL_law_1275 ?_
  refine L_aload K 0 dL_law_1276 rfl ?_
  refine L_iload K 3 dL_law_1277 rfl ?_
  refine L_ic (v := 2) K dL_law_1278 rfl ?_
  refine L_iadd K dL_law_1279 ?_
  refine L_sld K (hi 2 (by decide) (by decide)) dL_law_1280 ?_
  refine L_call (n := 2) (As := fun f => [.int (x.2.1.2.2 (i + 1).toNatClampNeg), .int (x.2.1.2.2 (i + 2).toNatClampNeg)]) (rr := fun _ => some (.int r)) (o := 51) (ci := 10) K R10 (by decide) (cl_10 k_51) rfl tl_278 tl_279 tl_280 tb_13 (by decide +kernel) tl_281 (by decide) dL_law_1281 rfl (Nat.le_of_ble_eq_true rfl) ?_
  refine L_eqt K 1459 dL_law_1284 (by decide) ?_
  exact ih h2 S2
theorem lc_mid {Sim : Hp → Prop} {x : Lx} {h : Hp} {i : Int32} (K : LK x) (St : St_mid Sim) (S : Sim h) (hi : ∀ j : Int32, 1 ≤ j → j ≤ 5 → vp_in (i + j) x.2.1.2.1) (ih : ∀ h2, Sim h2 → LW x 1459 [(0, .ref x.2.1.1), (1, .ref (la x 0)), (2, .ref (la x 51)), (3, .int i)] [] h2) : LW x 1289 [(0, .ref x.2.1.1), (1, .ref (la x 0)), (2, .ref (la x 51)), (3, .int i)] [] h := by
  obtain ⟨r, h1, h2, R9, R10, S2⟩ := St (x.2.1.2.2 (i + 1).toNatClampNeg) h S
  refine L_aload K 1 dL_law_1289 rfl ?_
  refine L_aload K 0 dL_law_1290 rfl ?_
  refine L_iload K 3 dL_law_1291 rfl ?_
  refine L_ic (v := 1) K dL_law_1292 rfl ?_
  refine L_iadd K dL_law_1293 ?_
  refine L_sld K (hi 1 (by decide) (by decide)) dL_law_1294 ?_
  refine L_call (n := 1) (As := fun f => [.int (x.2.1.2.2 (i + 1).toNatClampNeg)]) (rr := fun _ => some (.int r)) (o := 0) (ci := 9) K R9 (by decide) (cl_9 k_0) rfl tl_282 tl_283 tl_284 tb_320 (by decide +kernel) tl_285 (by decide) dL_law_1295 rfl (Nat.le_of_ble_eq_true rfl) ?_
  refine L_aload K 2 dL_law_1298 rfl ?_
  refine L_aload K 0 dL_law_1299 rfl ?_
  refine L_iload K 3 dL_law_1300 rfl ?_
  refine L_ic (v := 1) K dL_law_1301 rfl ?_
  refine L_iadd K dL_law_1302 ?_
  refine L_sld K (hi 1 (by decide) (by decide)) dL_law_1303 ?_
  refine L_call (n := 1) (As := fun f => [.int (x.2.1.2.2 (i + 1).toNatClampNeg)]) (rr := fun _ => some (.int r)) (o := 51) (ci := 10) K R10 (by decide) (cl_10 k_51) rfl tl_286 tl_287 tl_288 tb_13 (by decide +kernel) tl_289 (by decide) dL_law_1304 rfl (Nat.le_of_ble_eq_true rfl) ?_
  refine L_eqt K 1459 dL_law_1307 (by decide) ?_
  exact ih h2 S2
theorem lc_lots {Sim : Hp → Prop} {x : Lx} {h : Hp} {i : Int32} (K : LK x) (St : St_lots Sim) (S : Sim h) (hi : ∀ j : Int32, 1 ≤ j → j ≤ 5 → vp_in (i + j) x.2.1.2.1) (ih : ∀ h2, Sim h2 → LW x 1459 [(0, .ref x.2.1.1), (1, .ref (la x 0)), (2, .ref (la x 51)), (3, .int i)] [] h2) : LW x 1312 [(0, .ref x.2.1.1), (1, .ref (la x 0)), (2, .ref (la x 51)), (3, .int i)] [] h := by
  obtain ⟨r, h1, h2, R9, R10, S2⟩ := St (x.2.1.2.2 (i + 1).toNatClampNeg) (x.2.1.2.2 (i + 2).toNatClampNeg) h S
  refine L_aload K 1 dL_law_1312 rfl ?_
  refine L_aload K 0 dL_law_1313 rfl ?_
  refine L_iload K 3 dL_law_1314 rfl ?_
  refine L_ic (v := 1) K dL_law_1315 rfl ?_
  refine L_iadd K dL_law_1316 ?_
  refine L_sld K (hi 1 (by decide) (by decide)) dL_law_1317 ?_
  refine L_aload K 0 dL_law_1318 rfl ?_
  refine L_iload K 3 dL_law_1319 rfl ?_
  refine L_ic (v := 2) K dL_law_1320 rfl ?_
  refine L_iadd K dL_law_1321 ?_
  refine L_sld K (hi 2 (by decide) (by decide)) dL_law_1322 ?_
  refine L_call (n := 2) (As := fun f => [.int (x.2.1.2.2 (i + 1).toNatClampNeg), .int (x.2.1.2.2 (i + 2).toNatClampNeg)]) (rr := fun _ => some (.int r)) (o := 0) (ci := 9) K R9 (by decide) (cl_9 k_0) rfl tl_290 tl_291 tl_292 tb_320 (by decide +kernel) tl_293 (by decide) dL_law_1323 rfl (Nat.le_of_ble_eq_true rfl) ?_
  refine L_aload K 2 dL_law_1326 rfl ?_
  refine L_aload K 0 dL_law_1327 rfl ?_
  refine L_iload K 3 dL_law_1328 rfl ?_
  refine L_ic (v := 1) K dL_law_1329 rfl ?_
  refine L_iadd K dL_law_1330 ?_
  refine L_sld K (hi 1 (by decide) (by decide)) dL_law_1331 ?_
  refine L_aload K 0 dL_law_1332 rfl ?_
  refine L_iload K 3 dL_law_1333 rfl ?_
  refine L_ic (v := 2) K dL_law_1334 rfl ?_
  refine L_iadd K dL_law_1335 ?_
  refine L_sld K (hi 2 (by decide) (by decide)) dL_law_1336 ?_
  refine L_call (n := 2) (As := fun f => [.int (x.2.1.2.2 (i + 1).toNatClampNeg), .int (x.2.1.2.2 (i + 2).toNatClampNeg)]) (rr := fun _ => some (.int r)) (o := 51) (ci := 10) K R10 (by decide) (cl_10 k_51) rfl tl_294 tl_295 tl_296 tb_13 (by decide +kernel) tl_297 (by decide) dL_law_1337 rfl (Nat.le_of_ble_eq_true rfl) ?_
  refine L_eqt K 1459 dL_law_1340 (by decide) ?_
  exact ih h2 S2
theorem lc_asked {Sim : Hp → Prop} {x : Lx} {h : Hp} {i : Int32} (K : LK x) (St : St_asked Sim) (S : Sim h) (hi : ∀ j : Int32, 1 ≤ j → j ≤ 5 → vp_in (i + j) x.2.1.2.1) (ih : ∀ h2, Sim h2 → LW x 1459 [(0, .ref x.2.1.1), (1, .ref (la x 0)), (2, .ref (la x 51)), (3, .int i)] [] h2) : LW x 1345 [(0, .ref x.2.1.1), (1, .ref (la x 0)), (2, .ref (la x 51)), (3, .int i)] [] h := by
  obtain ⟨r, h1, h2, R9, R10, S2⟩ := St  h S
  refine L_aload K 1 dL_law_1345 rfl ?_
  refine L_call (n := 0) (As := fun f => []) (rr := fun _ => some (.int r)) (o := 0) (ci := 9) K R9 (by decide) (cl_9 k_0) rfl tl_298 tl_299 tl_300 tb_320 (by decide +kernel) tl_301 (by decide) dL_law_1346 rfl (Nat.le_of_ble_eq_true rfl) ?_
  refine L_aload K 2 dL_law_1349 rfl ?_
  refine L_call (n := 0) (As := fun f => []) (rr := fun _ => some (.int r)) (o := 51) (ci := 10) K R10 (by decide) (cl_10 k_51) rfl tl_302 tl_303 tl_304 tb_13 (by decide +kernel) tl_305 (by decide) dL_law_1350 rfl (Nat.le_of_ble_eq_true rfl) ?_
  refine L_eqt K 1459 dL_law_1353 (by decide) ?_
  exact ih h2 S2
theorem lc_upper {Sim : Hp → Prop} {x : Lx} {h : Hp} {i : Int32} (K : LK x) (St : St_upper Sim) (S : Sim h) (hi : ∀ j : Int32, 1 ≤ j → j ≤ 5 → vp_in (i + j) x.2.1.2.1) (ih : ∀ h2, Sim h2 → LW x 1459 [(0, .ref x.2.1.1), (1, .ref (la x 0)), (2, .ref (la x 51)), (3, .int i)] [] h2) : LW x 1358 [(0, .ref x.2.1.1), (1, .ref (la x 0)), (2, .ref (la x 51)), (3, .int i)] [] h := by
  obtain ⟨r, h1, h2, R9, R10, S2⟩ := St  h S
  refine L_aload K 1 dL_law_1358 rfl ?_
  refine L_call (n := 0) (As := fun f => []) (rr := fun _ => some (.long r)) (o := 0) (ci := 9) K R9 (by decide) (cl_9 k_0) rfl tl_306 tl_307 tl_308 tb_320 (by decide +kernel) tl_309 (by decide) dL_law_1359 rfl (Nat.le_of_ble_eq_true rfl) ?_
  refine L_aload K 2 dL_law_1362 rfl ?_
  refine L_call (n := 0) (As := fun f => []) (rr := fun _ => some (.long r)) (o := 51) (ci := 10) K R10 (by decide) (cl_10 k_51) rfl tl_310 tl_311 tl_312 tb_13 (by decide +kernel) tl_313 (by decide) dL_law_1363 rfl (Nat.le_of_ble_eq_true rfl) ?_
  refine L_lcmp K dL_law_1366 ?_
  refine L_zt K 1459 (by simp [lg_cmp]) dL_law_1367 (by decide) ?_
  exact ih h2 S2
theorem lc_lower {Sim : Hp → Prop} {x : Lx} {h : Hp} {i : Int32} (K : LK x) (St : St_lower Sim) (S : Sim h) (hi : ∀ j : Int32, 1 ≤ j → j ≤ 5 → vp_in (i + j) x.2.1.2.1) (ih : ∀ h2, Sim h2 → LW x 1459 [(0, .ref x.2.1.1), (1, .ref (la x 0)), (2, .ref (la x 51)), (3, .int i)] [] h2) : LW x 1372 [(0, .ref x.2.1.1), (1, .ref (la x 0)), (2, .ref (la x 51)), (3, .int i)] [] h := by
  obtain ⟨r, h1, h2, R9, R10, S2⟩ := St  h S
  refine L_aload K 1 dL_law_1372 rfl ?_
  refine L_call (n := 0) (As := fun f => []) (rr := fun _ => some (.long r)) (o := 0) (ci := 9) K R9 (by decide) (cl_9 k_0) rfl tl_314 tl_315 tl_316 tb_320 (by decide +kernel) tl_317 (by decide) dL_law_1373 rfl (Nat.le_of_ble_eq_true rfl) ?_
  refine L_aload K 2 dL_law_1376 rfl ?_
  refine L_call (n := 0) (As := fun f => []) (rr := fun _ => some (.long r)) (o := 51) (ci := 10) K R10 (by decide) (cl_10 k_51) rfl tl_318 tl_319 tl_320 tb_13 (by decide +kernel) tl_321 (by decide) dL_law_1377 rfl (Nat.le_of_ble_eq_true rfl) ?_
  refine L_lcmp K dL_law_1380 ?_
  refine L_zt K 1459 (by simp [lg_cmp]) dL_law_1381 (by decide) ?_
  exact ih h2 S2
theorem lc_count {Sim : Hp → Prop} {x : Lx} {h : Hp} {i : Int32} (K : LK x) (St : St_count Sim) (S : Sim h) (hi : ∀ j : Int32, 1 ≤ j → j ≤ 5 → vp_in (i + j) x.2.1.2.1) (ih : ∀ h2, Sim h2 → LW x 1459 [(0, .ref x.2.1.1), (1, .ref (la x 0)), (2, .ref (la x 51)), (3, .int i)] [] h2) : LW x 1386 [(0, .ref x.2.1.1), (1, .ref (la x 0)), (2, .ref (la x 51)), (3, .int i)] [] h := by
  obtain ⟨r, h1, h2, R9, R10, S2⟩ := St (x.2.1.2.2 (i + 1).toNatClampNeg) h S
  refine L_aload K 1 dL_law_1386 rfl ?_
  refine L_aload K 0 dL_law_1387 rfl ?_
  refine L_iload K 3 dL_law_1388 rfl ?_
  refine L_ic (v := 1) K dL_law_1389 rfl ?_
  refine L_iadd K dL_law_1390 ?_
  refine L_sld K (hi 1 (by decide) (by decide)) dL_law_1391 ?_
  refine L_call (n := 1) (As := fun f => [.int (x.2.1.2.2 (i + 1).toNatClampNeg)]) (rr := fun _ => some (.int r)) (o := 0) (ci := 9) K R9 (by decide) (cl_9 k_0) rfl tl_322 tb_407 tb_408 tb_320 (by decide +kernel) tb_405 (by decide) dL_law_1392 rfl (Nat.le_of_ble_eq_true rfl) ?_
  refine L_aload K 2 dL_law_1395 rfl ?_
  refine L_aload K 0 dL_law_1396 rfl ?_
  refine L_iload K 3 dL_law_1397 rfl ?_
  refine L_ic (v := 1) K dL_law_1398 rfl ?_
  refine L_iadd K dL_law_1399 ?_
  refine L_sld K (hi 1 (by decide) (by decide)) dL_law_1400 ?_
  refine L_call (n := 1) (As := fun f => [.int (x.2.1.2.2 (i + 1).toNatClampNeg)]) (rr := fun _ => some (.int r)) (o := 51) (ci := 10) K R10 (by decide) (cl_10 k_51) rfl tl_326 tb_110 tb_111 tb_13 (by decide +kernel) tb_108 (by decide) dL_law_1401 rfl (Nat.le_of_ble_eq_true rfl) ?_
  refine L_eqt K 1459 dL_law_1404 (by decide) ?_
  exact ih h2 S2
theorem lc_finding {Sim : Hp → Prop} {x : Lx} {h : Hp} {i : Int32} (K : LK x) (St : St_finding Sim) (S : Sim h) (hi : ∀ j : Int32, 1 ≤ j → j ≤ 5 → vp_in (i + j) x.2.1.2.1) (ih : ∀ h2, Sim h2 → LW x 1459 [(0, .ref x.2.1.1), (1, .ref (la x 0)), (2, .ref (la x 51)), (3, .int i)] [] h2) : LW x 1409 [(0, .ref x.2.1.1), (1, .ref (la x 0)), (2, .ref (la x 51)), (3, .int i)] [] h := by
  obtain ⟨r, h1, h2, R9, R10, S2⟩ := St  h S
  refine L_aload K 1 dL_law_1409 rfl ?_
  refine L_call (n := 0) (As := fun f => []) (rr := fun _ => some (.int r)) (o := 0) (ci := 9) K R9 (by decide) (cl_9 k_0) rfl tl_330 tl_331 tl_332 tb_320 (by decide +kernel) tl_333 (by decide) dL_law_1410 rfl (Nat.le_of_ble_eq_true rfl) ?_
  refine L_aload K 2 dL_law_1413 rfl ?_
  refine L_call (n := 0) (As := fun f => []) (rr := fun _ => some (.int r)) (o := 51) (ci := 10) K R10 (by decide) (cl_10 k_51) rfl tl_334 tl_335 tl_336 tb_13 (by decide +kernel) tl_337 (by decide) dL_law_1414 rfl (Nat.le_of_ble_eq_true rfl) ?_
  refine L_eqt K 1459 dL_law_1417 (by decide) ?_
  exact ih h2 S2
theorem lc_findings {Sim : Hp → Prop} {x : Lx} {h : Hp} {i : Int32} (K : LK x) (St : St_findings Sim) (S : Sim h) (hi : ∀ j : Int32, 1 ≤ j → j ≤ 5 → vp_in (i + j) x.2.1.2.1) (ih : ∀ h2, Sim h2 → LW x 1459 [(0, .ref x.2.1.1), (1, .ref (la x 0)), (2, .ref (la x 51)), (3, .int i)] [] h2) : LW x 1422 [(0, .ref x.2.1.1), (1, .ref (la x 0)), (2, .ref (la x 51)), (3, .int i)] [] h := by
  obtain ⟨r, h1, h2, R9, R10, S2⟩ := St (x.2.1.2.2 (i + 1).toNatClampNeg) h S
  refine L_aload K 1 dL_law_1422 rfl ?_
  refine L_aload K 0 dL_law_1423 rfl ?_
  refine L_iload K 3 dL_law_1424 rfl ?_
  refine L_ic (v := 1) K dL_law_1425 rfl ?_
  refine L_iadd K dL_law_1426 ?_
  refine L_sld K (hi 1 (by decide) (by decide)) dL_law_1427 ?_
  refine L_call (n := 1) (As := fun f => [.int (x.2.1.2.2 (i + 1).toNatClampNeg)]) (rr := fun _ => some (.int r)) (o := 0) (ci := 9) K R9 (by decide) (cl_9 k_0) rfl tl_338 tl_339 tl_340 tb_320 (by decide +kernel) tl_341 (by decide) dL_law_1428 rfl (Nat.le_of_ble_eq_true rfl) ?_
  refine L_aload K 2 dL_law_1431 rfl ?_
  refine L_aload K 0 dL_law_1432 rfl ?_
  refine L_iload K 3 dL_law_1433 rfl ?_
  refine L_ic (v := 1) K dL_law_1434 rfl ?_
  refine L_iadd K dL_law_1435 ?_
  refine L_sld K (hi 1 (by decide) (by decide)) dL_law_1436 ?_
  refine L_call (n := 1) (As := fun f => [.int (x.2.1.2.2 (i + 1).toNatClampNeg)]) (rr := fun _ => some (.int r)) (o := 51) (ci := 10) K R10 (by decide) (cl_10 k_51) rfl tl_342 tl_343 tl_344 tb_13 (by decide +kernel) tl_345 (by decide) dL_law_1437 rfl (Nat.le_of_ble_eq_true rfl) ?_
  refine L_eqt K 1459 dL_law_1440 (by decide) ?_
  exact ih h2 S2
theorem lc_digest {Sim : Hp → Prop} {x : Lx} {h : Hp} {i : Int32} (K : LK x) (St : St_digest Sim) (S : Sim h) (hi : ∀ j : Int32, 1 ≤ j → j ≤ 5 → vp_in (i + j) x.2.1.2.1) (ih : ∀ h2, Sim h2 → LW x 1459 [(0, .ref x.2.1.1), (1, .ref (la x 0)), (2, .ref (la x 51)), (3, .int i)] [] h2) : LW x 1445 [(0, .ref x.2.1.1), (1, .ref (la x 0)), (2, .ref (la x 51)), (3, .int i)] [] h := by
  obtain ⟨r, h1, h2, R9, R10, S2⟩ := St  h S
  refine L_aload K 1 dL_law_1445 rfl ?_
  refine L_call (n := 0) (As := fun f => []) (rr := fun _ => some (.long r)) (o := 0) (ci := 9) K R9 (by decide) (cl_9 k_0) rfl tl_346 tl_347 tl_348 tb_320 (by decide +kernel) tl_349 (by decide) dL_law_1446 rfl (Nat.le_of_ble_eq_true rfl) ?_
  refine L_aload K 2 dL_law_1449 rfl ?_
  refine L_call (n := 0) (As := fun f => []) (rr := fun _ => some (.long r)) (o := 51) (ci := 10) K R10 (by decide) (cl_10 k_51) rfl tl_350 tl_351 tl_352 tb_13 (by decide +kernel) tl_353 (by decide) dL_law_1450 rfl (Nat.le_of_ble_eq_true rfl) ?_
  refine L_lcmp K dL_law_1453 ?_
  refine L_zt K 1459 (by simp [lg_cmp]) dL_law_1454 (by decide) ?_
  exact ih h2 S2
def LawSteps (Sim : Hp → Prop) : Prop := St_row Sim ∧ St_lay Sim ∧ St_at Sim ∧ St_tear Sim ∧ St_copy Sim ∧ St_mean Sim ∧ St_text Sim ∧ St_put Sim ∧ St_fault Sim ∧ St_front Sim ∧ St_one Sim ∧ St_mark Sim ∧ St_turn Sim ∧ St_spoon Sim ∧ St_wind Sim ∧ St_rain Sim ∧ St_stand Sim ∧ St_undo Sim ∧ St_keep Sim ∧ St_on Sim ∧ St_gathers Sim ∧ St_cloud Sim ∧ St_share Sim ∧ St_first Sim ∧ St_away Sim ∧ St_best Sim ∧ St_least Sim ∧ St_sizes Sim ∧ St_winds Sim ∧ St_kinds Sim ∧ St_next Sim ∧ St_sets Sim ∧ St_sure Sim ∧ St_duel Sim ∧ St_odds Sim ∧ St_mid Sim ∧ St_lots Sim ∧ St_asked Sim ∧ St_upper Sim ∧ St_lower Sim ∧ St_count Sim ∧ St_finding Sim ∧ St_findings Sim ∧ St_digest Sim
set_option maxHeartbeats 4000000 in
set_option maxRecDepth 100000 in
theorem law_idx {i L : Nat} (hL : L ≤ 384) (h : i + 6 ≤ L) (j : Int32) (h1 : 0 ≤ j) (h2 : j ≤ 5) : vp_in (nI i + j) L := by
  obtain ⟨q, hq, rfl⟩ : ∃ q : Nat, q ≤ 5 ∧ j = nI q := nI_of2 (M := 5) (n := 5) (by decide) (by rw [Int32.not_lt]; exact h1) h2
  rw [nI_add]
  exact vp_in_nI (by omega) (by omega)
theorem law_sw {Sim : Hp → Prop} {x : Lx} {h : Hp} {i v : Int32} (K : LK x) (SS : LawSteps Sim) (S : Sim h) (hi : ∀ j : Int32, 1 ≤ j → j ≤ 5 → vp_in (i + j) x.2.1.2.1) (ih : ∀ h2, Sim h2 → LW x 1459 [(0, .ref x.2.1.1), (1, .ref (la x 0)), (2, .ref (la x 51)), (3, .int i)] [] h2) : LW x 33 [(0, .ref x.2.1.1), (1, .ref (la x 0)), (2, .ref (la x 51)), (3, .int i)] [.int v] h := by
  obtain ⟨S_row, S_lay, S_at, S_tear, S_copy, S_mean, S_text, S_put, S_fault, S_front, S_one, S_mark, S_turn, S_spoon, S_wind, S_rain, S_stand, S_undo, S_keep, S_on, S_gathers, S_cloud, S_share, S_first, S_away, S_best, S_least, S_sizes, S_winds, S_kinds, S_next, S_sets, S_sure, S_duel, S_odds, S_mid, S_lots, S_asked, S_upper, S_lower, S_count, S_finding, S_findings, S_digest⟩ := SS
  by_cases c0 : v = 0
  · exact L_tin (off := 191) K 224 dL_law_33 (by rw [c0]; decide) (by rw [c0]; decide) (by rw [c0]; rfl) (by decide) (lc_row K S_row S hi ih)
  by_cases c1 : v = 1
  · exact L_tin (off := 224) K 257 dL_law_33 (by rw [c1]; decide) (by rw [c1]; decide) (by rw [c1]; rfl) (by decide) (lc_lay K S_lay S hi ih)
  by_cases c2 : v = 2
  · exact L_tin (off := 267) K 300 dL_law_33 (by rw [c2]; decide) (by rw [c2]; decide) (by rw [c2]; rfl) (by decide) (lc_at K S_at S hi ih)
  by_cases c3 : v = 3
  · exact L_tin (off := 300) K 333 dL_law_33 (by rw [c3]; decide) (by rw [c3]; decide) (by rw [c3]; rfl) (by decide) (lc_tear K S_tear S hi ih)
  by_cases c4 : v = 4
  · exact L_tin (off := 323) K 356 dL_law_33 (by rw [c4]; decide) (by rw [c4]; decide) (by rw [c4]; rfl) (by decide) (lc_copy K S_copy S hi ih)
  by_cases c5 : v = 5
  · exact L_tin (off := 386) K 419 dL_law_33 (by rw [c5]; decide) (by rw [c5]; decide) (by rw [c5]; rfl) (by decide) (lc_mean K S_mean S hi ih)
  by_cases c6 : v = 6
  · exact L_tin (off := 409) K 442 dL_law_33 (by rw [c6]; decide) (by rw [c6]; decide) (by rw [c6]; rfl) (by decide) (lc_text K S_text S hi ih)
  by_cases c7 : v = 7
  · exact L_tin (off := 442) K 475 dL_law_33 (by rw [c7]; decide) (by rw [c7]; decide) (by rw [c7]; rfl) (by decide) (lc_put K S_put S hi ih)
  by_cases c8 : v = 8
  · exact L_tin (off := 485) K 518 dL_law_33 (by rw [c8]; decide) (by rw [c8]; decide) (by rw [c8]; rfl) (by decide) (lc_fault K S_fault S hi ih)
  by_cases c9 : v = 9
  · exact L_tin (off := 508) K 541 dL_law_33 (by rw [c9]; decide) (by rw [c9]; decide) (by rw [c9]; rfl) (by decide) (lc_front K S_front S hi ih)
  by_cases c10 : v = 10
  · exact L_tin (off := 531) K 564 dL_law_33 (by rw [c10]; decide) (by rw [c10]; decide) (by rw [c10]; rfl) (by decide) (lc_one K S_one S hi ih)
  by_cases c11 : v = 11
  · exact L_tin (off := 564) K 597 dL_law_33 (by rw [c11]; decide) (by rw [c11]; decide) (by rw [c11]; rfl) (by decide) (lc_mark K S_mark S hi ih)
  by_cases c12 : v = 12
  · exact L_tin (off := 597) K 630 dL_law_33 (by rw [c12]; decide) (by rw [c12]; decide) (by rw [c12]; rfl) (by decide) (lc_turn K S_turn S hi ih)
  by_cases c13 : v = 13
  · exact L_tin (off := 610) K 643 dL_law_33 (by rw [c13]; decide) (by rw [c13]; decide) (by rw [c13]; rfl) (by decide) (lc_spoon K S_spoon S hi ih)
  by_cases c14 : v = 14
  · exact L_tin (off := 633) K 666 dL_law_33 (by rw [c14]; decide) (by rw [c14]; decide) (by rw [c14]; rfl) (by decide) (lc_wind K S_wind S hi ih)
  by_cases c15 : v = 15
  · exact L_tin (off := 656) K 689 dL_law_33 (by rw [c15]; decide) (by rw [c15]; decide) (by rw [c15]; rfl) (by decide) (lc_rain K S_rain S hi ih)
  by_cases c16 : v = 16
  · exact L_tin (off := 679) K 712 dL_law_33 (by rw [c16]; decide) (by rw [c16]; decide) (by rw [c16]; rfl) (by decide) (lc_stand K S_stand S hi ih)
  by_cases c17 : v = 17
  · exact L_tin (off := 712) K 745 dL_law_33 (by rw [c17]; decide) (by rw [c17]; decide) (by rw [c17]; rfl) (by decide) (lc_undo K S_undo S hi ih)
  by_cases c18 : v = 18
  · exact L_tin (off := 735) K 768 dL_law_33 (by rw [c18]; decide) (by rw [c18]; decide) (by rw [c18]; rfl) (by decide) (lc_keep K S_keep S hi ih)
  by_cases c19 : v = 19
  · exact L_tin (off := 758) K 791 dL_law_33 (by rw [c19]; decide) (by rw [c19]; decide) (by rw [c19]; rfl) (by decide) (lc_on K S_on S hi ih)
  by_cases c20 : v = 20
  · exact L_tin (off := 781) K 814 dL_law_33 (by rw [c20]; decide) (by rw [c20]; decide) (by rw [c20]; rfl) (by decide) (lc_gathers K S_gathers S hi ih)
  by_cases c21 : v = 21
  · exact L_tin (off := 814) K 847 dL_law_33 (by rw [c21]; decide) (by rw [c21]; decide) (by rw [c21]; rfl) (by decide) (lc_cloud K S_cloud S hi ih)
  by_cases c22 : v = 22
  · exact L_tin (off := 837) K 870 dL_law_33 (by rw [c22]; decide) (by rw [c22]; decide) (by rw [c22]; rfl) (by decide) (lc_share K S_share S hi ih)
  by_cases c23 : v = 23
  · exact L_tin (off := 870) K 903 dL_law_33 (by rw [c23]; decide) (by rw [c23]; decide) (by rw [c23]; rfl) (by decide) (lc_first K S_first S hi ih)
  by_cases c24 : v = 24
  · exact L_tin (off := 893) K 926 dL_law_33 (by rw [c24]; decide) (by rw [c24]; decide) (by rw [c24]; rfl) (by decide) (lc_away K S_away S hi ih)
  by_cases c25 : v = 25
  · exact L_tin (off := 936) K 969 dL_law_33 (by rw [c25]; decide) (by rw [c25]; decide) (by rw [c25]; rfl) (by decide) (lc_best K S_best S hi ih)
  by_cases c26 : v = 26
  · exact L_tin (off := 969) K 1002 dL_law_33 (by rw [c26]; decide) (by rw [c26]; decide) (by rw [c26]; rfl) (by decide) (lc_least K S_least S hi ih)
  by_cases c27 : v = 27
  · exact L_tin (off := 1002) K 1035 dL_law_33 (by rw [c27]; decide) (by rw [c27]; decide) (by rw [c27]; rfl) (by decide) (lc_sizes K S_sizes S hi ih)
  by_cases c28 : v = 28
  · exact L_tin (off := 1035) K 1068 dL_law_33 (by rw [c28]; decide) (by rw [c28]; decide) (by rw [c28]; rfl) (by decide) (lc_winds K S_winds S hi ih)
  by_cases c29 : v = 29
  · exact L_tin (off := 1068) K 1101 dL_law_33 (by rw [c29]; decide) (by rw [c29]; decide) (by rw [c29]; rfl) (by decide) (lc_kinds K S_kinds S hi ih)
  by_cases c30 : v = 30
  · exact L_tin (off := 1101) K 1134 dL_law_33 (by rw [c30]; decide) (by rw [c30]; decide) (by rw [c30]; rfl) (by decide) (lc_next K S_next S hi ih)
  by_cases c31 : v = 31
  · exact L_tin (off := 1134) K 1167 dL_law_33 (by rw [c31]; decide) (by rw [c31]; decide) (by rw [c31]; rfl) (by decide) (lc_sets K S_sets S hi ih)
  by_cases c32 : v = 32
  · exact L_tin (off := 1157) K 1190 dL_law_33 (by rw [c32]; decide) (by rw [c32]; decide) (by rw [c32]; rfl) (by decide) (lc_sure K S_sure S hi ih)
  by_cases c33 : v = 33
  · exact L_tin (off := 1180) K 1213 dL_law_33 (by rw [c33]; decide) (by rw [c33]; decide) (by rw [c33]; rfl) (by decide) (lc_duel K S_duel S hi ih)
  by_cases c34 : v = 34
  · exact L_tin (off := 1223) K 1256 dL_law_33 (by rw [c34]; decide) (by rw [c34]; decide) (by rw [c34]; rfl) (by decide) (lc_odds K S_odds S hi ih)
  by_cases c35 : v = 35
  · exact L_tin (off := 1256) K 1289 dL_law_33 (by rw [c35]; decide) (by rw [c35]; decide) (by rw [c35]; rfl) (by decide) (lc_mid K S_mid S hi ih)
  by_cases c36 : v = 36
  · exact L_tin (off := 1279) K 1312 dL_law_33 (by rw [c36]; decide) (by rw [c36]; decide) (by rw [c36]; rfl) (by decide) (lc_lots K S_lots S hi ih)
  by_cases c37 : v = 37
  · exact L_tin (off := 1312) K 1345 dL_law_33 (by rw [c37]; decide) (by rw [c37]; decide) (by rw [c37]; rfl) (by decide) (lc_asked K S_asked S hi ih)
  by_cases c38 : v = 38
  · exact L_tin (off := 1325) K 1358 dL_law_33 (by rw [c38]; decide) (by rw [c38]; decide) (by rw [c38]; rfl) (by decide) (lc_upper K S_upper S hi ih)
  by_cases c39 : v = 39
  · exact L_tin (off := 1339) K 1372 dL_law_33 (by rw [c39]; decide) (by rw [c39]; decide) (by rw [c39]; rfl) (by decide) (lc_lower K S_lower S hi ih)
  by_cases c40 : v = 40
  · exact L_tin (off := 1353) K 1386 dL_law_33 (by rw [c40]; decide) (by rw [c40]; decide) (by rw [c40]; rfl) (by decide) (lc_count K S_count S hi ih)
  by_cases c41 : v = 41
  · exact L_tin (off := 1376) K 1409 dL_law_33 (by rw [c41]; decide) (by rw [c41]; decide) (by rw [c41]; rfl) (by decide) (lc_finding K S_finding S hi ih)
  by_cases c42 : v = 42
  · exact L_tin (off := 1389) K 1422 dL_law_33 (by rw [c42]; decide) (by rw [c42]; decide) (by rw [c42]; rfl) (by decide) (lc_findings K S_findings S hi ih)
  by_cases c43 : v = 43
  · exact L_tin (off := 1412) K 1445 dL_law_33 (by rw [c43]; decide) (by rw [c43]; decide) (by rw [c43]; rfl) (by decide) (lc_digest K S_digest S hi ih)
  refine L_tout K 1459 dL_law_33 (by have n0 := lv_neT c0 (a := 0) (by decide); have n1 := lv_neT c1 (a := 1) (by decide); have n2 := lv_neT c2 (a := 2) (by decide); have n3 := lv_neT c3 (a := 3) (by decide); have n4 := lv_neT c4 (a := 4) (by decide); have n5 := lv_neT c5 (a := 5) (by decide); have n6 := lv_neT c6 (a := 6) (by decide); have n7 := lv_neT c7 (a := 7) (by decide); have n8 := lv_neT c8 (a := 8) (by decide); have n9 := lv_neT c9 (a := 9) (by decide); have n10 := lv_neT c10 (a := 10) (by decide); have n11 := lv_neT c11 (a := 11) (by decide); have n12 := lv_neT c12 (a := 12) (by decide); have n13 := lv_neT c13 (a := 13) (by decide); have n14 := lv_neT c14 (a := 14) (by decide); have n15 := lv_neT c15 (a := 15) (by decide); have n16 := lv_neT c16 (a := 16) (by decide); have n17 := lv_neT c17 (a := 17) (by decide); have n18 := lv_neT c18 (a := 18) (by decide); have n19 := lv_neT c19 (a := 19) (by decide); have n20 := lv_neT c20 (a := 20) (by decide); have n21 := lv_neT c21 (a := 21) (by decide); have n22 := lv_neT c22 (a := 22) (by decide); have n23 := lv_neT c23 (a := 23) (by decide); have n24 := lv_neT c24 (a := 24) (by decide); have n25 := lv_neT c25 (a := 25) (by decide); have n26 := lv_neT c26 (a := 26) (by decide); have n27 := lv_neT c27 (a := 27) (by decide); have n28 := lv_neT c28 (a := 28) (by decide); have n29 := lv_neT c29 (a := 29) (by decide); have n30 := lv_neT c30 (a := 30) (by decide); have n31 := lv_neT c31 (a := 31) (by decide); have n32 := lv_neT c32 (a := 32) (by decide); have n33 := lv_neT c33 (a := 33) (by decide); have n34 := lv_neT c34 (a := 34) (by decide); have n35 := lv_neT c35 (a := 35) (by decide); have n36 := lv_neT c36 (a := 36) (by decide); have n37 := lv_neT c37 (a := 37) (by decide); have n38 := lv_neT c38 (a := 38) (by decide); have n39 := lv_neT c39 (a := 39) (by decide); have n40 := lv_neT c40 (a := 40) (by decide); have n41 := lv_neT c41 (a := 41) (by decide); have n42 := lv_neT c42 (a := 42) (by decide); have n43 := lv_neT c43 (a := 43) (by decide); omega) (by decide) ?_
  exact ih h S

theorem law_loop {Sim : Hp → Prop} {x : Lx} (K : LK x) (SS : LawSteps Sim) (hL : x.2.1.2.1 ≤ 384) : ∀ (n i : Nat) (h : Hp), x.2.1.2.1 + 6 - i < n → i ≤ x.2.1.2.1 → Sim h → LW x 18 [(0, .ref x.2.1.1), (1, .ref (la x 0)), (2, .ref (la x 51)), (3, .int (nI i))] [] h := by
  intro n
  induction n with
  | zero => intro i h hn; omega
  | succ n ihn =>
    intro i h hn hi S
    refine L_iload K 3 dL_law_18 rfl ?_
    refine L_aload K 0 dL_law_19 rfl ?_
    refine L_slen K dL_law_20 ?_
    refine L_bp (v := 6) K dL_law_21 rfl ?_
    refine L_isub K dL_law_23 ?_
    refine L_gt K 1465 dL_law_24 (by decide) (fun c => ?_) (fun c => ?_)
    · refine L_ic (v := 1) K dL_law_1465 rfl ?_
      exact L_ret K dL_law_1466
    · have h6 : i + 6 ≤ x.2.1.2.1 := by
        have e1 : (Int32.ofNat x.2.1.2.1 - 6).toInt = (x.2.1.2.1 : Int) - 6 := pk_sub_toInt (a := x.2.1.2.1) (b := 6) (by omega) (by omega)
        have e2 : (nI i).toInt = (i : Int) := nI_toInt (by omega)
        have c2 : ¬ (Int32.ofNat x.2.1.2.1 - 6).toInt < (nI i).toInt := fun q => c (Int32.lt_iff_toInt_lt.mpr q)
        omega
      refine L_aload K 0 dL_law_27 rfl ?_
      refine L_iload K 3 dL_law_28 rfl ?_
      refine L_sld K (vp_in_nI (by omega) (by omega)) dL_law_29 ?_
      refine L_bp (v := 63) K dL_law_30 rfl ?_
      refine L_iand K dL_law_32 ?_
      refine law_sw K SS S (fun j h1 h2 => law_idx hL h6 j (Int32.le_trans (by decide) h1) h2) (fun h2 S2 => ?_)
      refine L_iinc (v := nI (i + 6)) (lv' := [(3, .int (nI (i + 6))), (0, .ref x.2.1.1), (1, .ref (la x 0)), (2, .ref (la x 51))]) K 3 dL_law_1459 rfl (nI_add i 6) (by decide) rfl ?_
      refine L_goto K 18 dL_law_1462 (by decide) ?_
      exact L_sub [1, 2, 3, 0] rfl (ihn (i + 6) h2 (by omega) h6 S2)
