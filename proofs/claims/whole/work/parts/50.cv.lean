def va_AOA (ty : FieldType) (U : State) : Prop := (Cond.arrayOver (.array ty)).before #[] U = true
theorem va_AOA.use {ty : FieldType} {A : Array Value} {U : State} (h : va_AOA ty U) : (Cond.arrayOver (.array ty)).before A U = true := h
theorem va_AOA.moved {ty : FieldType} {u U : State} (hvm : u.vm.Alike U.vm) (h : va_AOA ty u) : va_AOA ty U := by
  unfold va_AOA Cond.before Cond.holds at h ⊢
  simp only [Cond.value, beq_iff_eq] at h ⊢
  cases hc : u.vm.findClass (FieldType.array ty).toString with
  | none => simp [hc] at h
  | some comp =>
    simp only [hc, Option.bind_some, Option.bind_eq_some_iff, Option.map_eq_some_iff] at h
    obtain ⟨c, hi, k, hk, hb⟩ := h
    obtain ⟨k', hk', he⟩ := hvm.2.2 _ _ hk
    have hi' : (U.vm.classes.findIdx? fun (x : Class) => match x.kind with | .array component _ => component == comp | _ => false) = some c := by
      have e1 := va_idx_bare U.vm comp
      have e2 := va_idx_bare u.vm comp
      first | rw [hvm.bare_eq] at e1 | rw [← hvm.bare_eq] at e1
      exact (e1.symm.trans e2).trans hi
    have hkind : k'.kind = k.kind := by rw [he]
    have f1 : U.vm.findClass (FieldType.array ty).toString = some comp := by rw [hvm.findClass]; exact hc
    rw [f1, Option.bind_some]
    refine Option.bind_eq_some_iff.mpr ⟨c, hi', ?_⟩
    rw [hk']
    show some _ = some true
    refine congrArg some ?_
    dsimp only
    rw [hkind, hvm.findClass]
    exact hb
/-- f, but v at every address of l -/
def vr_up {α : Type} (f : Nat → α) (l : List Nat) (v : α) : Nat → α := fun a => if a ∈ l then v else f a
theorem vr_up_in {α : Type} {f : Nat → α} {l : List Nat} {v : α} {a : Nat} (h : a ∈ l) : vr_up f l v a = v := if_pos h
theorem vr_up_ne {α : Type} {f : Nat → α} {l : List Nat} {v : α} {a : Nat} (h : a ∉ l) : vr_up f l v a = f a := if_neg h
theorem vr_rows {L l : List Nat} {f : Nat → va_E} {e : va_E} (h : ∀ a, a ∈ l → a ∉ L) : va_pl L f ++ l.map (fun a => (a, e)) = va_pl (L ++ l) (vr_up f l e) := by
  unfold va_pl
  rw [List.map_append]
  congr 1
  · apply List.map_congr_left
    intro a ha
    rw [vr_up_ne (fun q => h a q ha)]
  · apply List.map_congr_left
    intro a ha
    rw [vr_up_in ha]
theorem vr_lay {X rows : va_W} {x : Nat × va_E} {pl : va_W} {D : va_G} {cl : List vw_C} {H : Heap} (hP : va_P D cl (((X ++ pl) ++ [x]) ++ rows) H) : va_P D cl ((X ++ [x]) ++ (pl ++ rows)) H := by
  rw [List.append_assoc (X ++ pl)] at hP
  have h := va_P.swap hP
  rw [← List.append_assoc X] at h
  have h2 := va_P.swap h
  rw [List.append_assoc (X ++ [x])] at h2
  exact h2
theorem vr_layD {X rows : va_W} {x : Nat × va_E} {pl : va_W} {A : Nat → Prop} (hD : va_D A (((X ++ pl) ++ [x]) ++ rows)) : va_D A ((X ++ [x]) ++ (pl ++ rows)) := by
  rw [List.append_assoc (X ++ pl)] at hD
  have h := va_D.swap hD
  rw [← List.append_assoc X] at h
  have h2 := va_D.swap h
  rw [List.append_assoc (X ++ [x])] at h2
  exact h2
theorem vr_outer (c : ClassId) (N h0 : Nat) : ∀ i : Nat, Jvm.Free.Multi.outerC c N h0 i = arrV c N (fun j => va_rf (if j < i then some (h0 + 1 + j) else none))
  | 0 => by
    show ({ cls := c, slots := Array.replicate N .null, vm := .none } : Cell) = _
    rw [arrV_new]
    refine congrArg (arrV c N) (funext fun j => ?_)
    simp [va_rf]
  | i + 1 => by
    show (Jvm.Free.Multi.outerC c N h0 i).setSlot i (.ref (h0 + 1 + i)) = _
    rw [vr_outer c N h0 i, arrV_store]
    refine congrArg (arrV c N) (funext fun j => ?_)
    by_cases e : j = i
    · subst e
      simp [updV, va_rf]
    · by_cases h : j < i
      · simp [updV, e, h, Nat.lt_succ_of_lt h]
      · simp [updV, e, h, show ¬ j < i + 1 by omega]
section VGM
variable {p : Program} {l : Launch} {e : Env} {R : Room} {s : State} {m : MethodId} {args : Array Value} {below : List Frame} {meth : Method} {c : Code} {H : Heap} {locs : List Loc} {cells slots : Nat} {Q : State → Prop}
variable {cc : ByteArray} {pc : Nat} {ls : Array Slot} {rest : List Value} {D : va_G} {cl : List vw_C} {A : Nat → Prop} {a : Nat} {tys : List (ClassId × FieldType)} {ws : va_W} {H0 : Heap}
theorem va_mna {X : va_W} {L : List Nat} {f : Nat → va_E} {cc : ByteArray} (hexec : p.tables.exec = Jvm.exec) (hb : c.code = cc) {own : String} {index : Nat} {ty : FieldType} {cy : ClassId} (hown : s.vm.findClass own = some m.cls) (hclink : (Cond.classLink own index ("[" ++ (FieldType.array ty).toString)).before args s = true) (hover : va_AOA ty s) (harr : (Cond.arrayClass ty).before args s = true) (hcy : s.vm.findClass (FieldType.array ty).toString = some cy)
    (hK : va_K D cl tys s) (hP : va_P D cl (X ++ va_pl L f) H) (hD : va_D A (X ++ va_pl L f)) (hS : va_S A H0 H locs) (hA : ∀ q, H0.size ≤ q → A q) {n k : Int32} {N' K' : Nat} {z : vp_A} (hn : ¬ n < 0) (hk : ¬ k < 0) (hN : n.toNatClampNeg = N') (hM : k.toNatClampNeg = K')
    (hb1 : N' * 4 ≤ 536870912) (hb2 : K' * componentBytes ty ≤ 536870912) (hb3 : K' ≤ 536870912) (hdf : fits ty (defaultValue ty) = true) (hdd : (defaultValue ty).isDefault = true) (hcells : cells + (1 + N') ≤ R.cells) (hslots : slots + (N' + N' * K') ≤ R.slots) (hz : ∀ c : ClassId, Jvm.Free.Multi.innerC c K' (defaultValue ty) = vp_cell c z) (hdg : decode cc pc = .ok (.multianewarray index 2, 4))
    (kk : ∀ (q : Nat) (r : Nat → Nat) (cA : ClassId) (H1 : Heap), (∀ i j : Nat, i < N' → j < N' → r i = r j → i = j) → (∀ i : Nat, i < N' → r i ∉ L) → va_K D cl (tys ++ [(cA, .array ty)]) s →
      va_P D cl ((X ++ [(q, .inl (cA, N', .inr (.inr (.inr (.inr (fun i => if i < N' then some (r i) else none))))))]) ++ va_pl (L ++ (List.range N').map r) (vr_up f ((List.range N').map r) (.inl (cy, z)))) H1 → va_D A ((X ++ [(q, .inl (cA, N', .inr (.inr (.inr (.inr (fun i => if i < N' then some (r i) else none))))))]) ++ va_pl (L ++ (List.range N').map r) (vr_up f ((List.range N').map r) (.inl (cy, z)))) → va_S A H0 H1 locs →
      W p l e R s m args below meth c H1 locs (cells + 1 + N') (slots + N' + N' * K') Q (F0 m (pc + 4) ls (.ref q :: rest))) : W p l e R s m args below meth c H locs cells slots Q (F0 m pc ls (.int k :: .int n :: rest)) := by
  subst hN
  subst hM
  intro T hT Xs
  obtain ⟨vm₁, cA, comp, -, fA, fC, hO, -, X', step⟩ := Xs.multianewarray2F hexec hown hclink (va_AOA.use hover) harr (g := F0 m pc ls (.int k :: .int n :: rest)) rfl (by rw [hb]; exact hdg) rfl hn hk hb1 hb2 hb3 hdf hdd hcells hslots
  have ec : some cy = some comp := hcy.symm.trans fC
  cases ec
  generalize hF : Jvm.Free.Multi.fill (T.setVm vm₁) cA cy n.toNatClampNeg k.toNatClampNeg (defaultValue ty) n.toNatClampNeg = F at X' step
  have hTh : (T.setVm vm₁).heap = H := hT
  obtain ⟨f1, f2, -, -⟩ := Jvm.Free.Multi.fill_facts (T.setVm vm₁) cA cy n.toNatClampNeg k.toNatClampNeg (defaultValue ty) n.toNatClampNeg
  rw [hF, hTh] at f1 f2
  have hold : ∀ x : Nat, x < H.size → F.heap[x]? = H[x]? := fun x hx => by
    have := Jvm.Free.Multi.fill_old (T.setVm vm₁) cA cy n.toNatClampNeg k.toNatClampNeg (defaultValue ty) (a := x) (by rw [hTh]; exact hx) n.toNatClampNeg
    rw [hF, hTh] at this
    exact this
  have hrow : ∀ j : Nat, j < n.toNatClampNeg → F.heap[H.size + 1 + j]? = some (vp_cell cy z) := fun j hj => by
    have := Jvm.Free.Multi.fill_inner (T.setVm vm₁) cA cy n.toNatClampNeg k.toNatClampNeg (defaultValue ty) n.toNatClampNeg j hj
    rw [hF, hTh, hz] at this
    exact this
  have hout : Jvm.Free.Multi.outerC cA n.toNatClampNeg H.size n.toNatClampNeg = vp_cell cA (n.toNatClampNeg, .inr (.inr (.inr (.inr (fun i => if i < n.toNatClampNeg then some (H.size + 1 + i) else none))))) := by
    rw [vp_cell_q]
    exact vr_outer cA n.toNatClampNeg H.size n.toNatClampNeg
  rw [hout] at f2
  have hlt : ∀ a, a ∈ L → a < H.size := fun a ha => by
    obtain ⟨k9, hk9⟩ := va_pl_get (X := X) (f := f) ha
    exact (hP k9 _ hk9).lt
  have hnl : ∀ i : Nat, i < n.toNatClampNeg → H.size + 1 + i ∉ L := fun i _ h => by
    have := hlt _ h
    omega
  have hnm : ∀ a, a ∈ (List.range n.toNatClampNeg).map (fun i => H.size + 1 + i) → a ∉ L := fun a ha h => by
    obtain ⟨i, -, rfl⟩ := List.mem_map.mp ha
    have := hlt _ h
    omega
  have hP0 : va_P D cl (X ++ va_pl L f) F.heap := hP.kept (fun k9 x hx => hold x.1 ((hP k9 x hx).lt))
  have hP1 : va_P D cl ((X ++ va_pl L f) ++ [(H.size, .inl (cA, n.toNatClampNeg, .inr (.inr (.inr (.inr (fun i => if i < n.toNatClampNeg then some (H.size + 1 + i) else none))))))]) F.heap := hP0.app (fun k9 x hx => by
    have h0 : k9 < 1 := (List.getElem?_eq_some_iff.mp hx).1
    rw [show k9 = 0 by omega] at hx
    cases hx
    exact f2)
  have hP2 : va_P D cl (((X ++ va_pl L f) ++ [(H.size, .inl (cA, n.toNatClampNeg, .inr (.inr (.inr (.inr (fun i => if i < n.toNatClampNeg then some (H.size + 1 + i) else none))))))]) ++ ((List.range n.toNatClampNeg).map (fun i => H.size + 1 + i)).map (fun a => (a, .inl (cy, z)))) F.heap := hP1.app (fun k9 x hx => by
    obtain ⟨a, ha, rfl⟩ := List.mem_map.mp (List.mem_of_getElem? hx)
    obtain ⟨i, hi, rfl⟩ := List.mem_map.mp ha
    exact hrow i (List.mem_range.mp hi))
  have hD2 : va_D A (((X ++ va_pl L f) ++ [(H.size, .inl (cA, n.toNatClampNeg, .inr (.inr (.inr (.inr (fun i => if i < n.toNatClampNeg then some (H.size + 1 + i) else none))))))]) ++ ((List.range n.toNatClampNeg).map (fun i => H.size + 1 + i)).map (fun a => (a, .inl (cy, z)))) := by
    have hD1 := hD.push (e := .inl (cA, n.toNatClampNeg, .inr (.inr (.inr (.inr (fun i => if i < n.toNatClampNeg then some (H.size + 1 + i) else none)))))) hP rfl (hA _ hS.1)
    generalize hW1 : (X ++ va_pl L f) ++ [(H.size, .inl (cA, n.toNatClampNeg, .inr (.inr (.inr (.inr (fun i => if i < n.toNatClampNeg then some (H.size + 1 + i) else none))))))] = W1 at hD1 hP1 ⊢
    have hle : ∀ (k9 : Nat) (x : Nat × va_E), W1[k9]? = some x → x.1 ≤ H.size := fun k9 x hx => by
      rw [← hW1] at hx
      by_cases hl : k9 < (X ++ va_pl L f).length
      · rw [List.getElem?_append_left hl] at hx
        exact Nat.le_of_lt ((hP k9 x hx).lt)
      · rw [List.getElem?_append_right (by omega)] at hx
        have h0 : k9 - (X ++ va_pl L f).length < 1 := (List.getElem?_eq_some_iff.mp hx).1
        rw [show k9 - (X ++ va_pl L f).length = 0 by omega] at hx
        cases hx
        exact Nat.le_refl _
    have hr : ∀ (k9 : Nat) (x : Nat × va_E), (((List.range n.toNatClampNeg).map (fun i => H.size + 1 + i)).map (fun a => ((a, .inl (cy, z)) : Nat × va_E)))[k9]? = some x → x.1 = H.size + 1 + k9 := fun k9 x hx => by
      rw [List.getElem?_map, List.getElem?_map] at hx
      by_cases h9 : k9 < n.toNatClampNeg
      · rw [List.getElem?_range h9] at hx
        cases hx
        rfl
      · have hn0 : (List.range n.toNatClampNeg)[k9]? = none := List.getElem?_eq_none (by rw [List.length_range]; omega)
        rw [hn0] at hx
        cases hx
    refine ⟨fun i j x y hi hj hxy => ?_, fun k9 x hx => ?_⟩
    · by_cases h1 : i < W1.length <;> by_cases h2 : j < W1.length
      · rw [List.getElem?_append_left h1] at hi
        rw [List.getElem?_append_left h2] at hj
        exact hD1.1 i j x y hi hj hxy
      · rw [List.getElem?_append_left h1] at hi
        rw [List.getElem?_append_right (by omega)] at hj
        have := hle _ _ hi
        have := hr _ _ hj
        omega
      · rw [List.getElem?_append_right (by omega)] at hi
        rw [List.getElem?_append_left h2] at hj
        have := hle _ _ hj
        have := hr _ _ hi
        omega
      · rw [List.getElem?_append_right (by omega)] at hi hj
        have := hr _ _ hi
        have := hr _ _ hj
        omega
    · by_cases h1 : k9 < W1.length
      · rw [List.getElem?_append_left h1] at hx
        exact hD1.2 k9 x hx
      · rw [List.getElem?_append_right (by omega)] at hx
        have := hr _ _ hx
        exact hA _ (by have := hS.1; omega)
  have hAr : ArrOfT s cA (.array ty) := fun N9 z9 => by
    obtain ⟨-, k9, hk9, cm9, hkk9⟩ := (hO 0 0 0).1
    exact ⟨(fun q hq => by cases hq), k9, hk9, cm9, hkk9⟩
  have hK2 : va_K D cl (tys ++ [(cA, .array ty)]) s := ⟨hK.1, fun k9 x hx => by
    by_cases hl : k9 < tys.length
    · rw [List.getElem?_append_left hl] at hx
      exact hK.2 k9 x hx
    · rw [List.getElem?_append_right (by omega)] at hx
      have h0 : k9 - tys.length < 1 := (List.getElem?_eq_some_iff.mp hx).1
      rw [show k9 - tys.length = 0 by omega] at hx
      cases hx
      exact ⟨hAr, fA⟩⟩
  obtain ⟨t, a1, b1⟩ := kk H.size (fun i => H.size + 1 + i) cA F.heap (fun i j _ _ h => by have h9 : H.size + 1 + i = H.size + 1 + j := h; omega) hnl hK2 (by rw [← vr_rows hnm]; exact vr_lay hP2) (by rw [← vr_rows hnm]; exact vr_layD hD2) ⟨by rw [f1]; have := hS.1; omega, fun x h1 h2 => (hold x (Nat.lt_of_lt_of_le h1 hS.1)).trans (hS.2.1 x h1 h2), hS.2.2⟩ F rfl X'
  refine ⟨t, step t ?_, b1⟩
  have e : T.heap.size = H.size := by rw [hT]
  rw [e]
  exact a1
end VGM
def nestL : List (String × Nat × MethodName) := [(RX9, 61, yX6_init), (RX6, 9, yX7_init), (RX6, 18, yX1_init), (RX1, 1, yX7_init), (RX6, 25, yX0_init), (RX0, 1, yX7_init), (RX6, 32, yX8_init), (RX8, 1, yX7_init), (RX6, 39, yX2_init), (RX2, 1, yX1_init), (RX6, 46, yX5_init), (RX5, 3, yX8_init)]
def NW (U : State) : Prop := (∀ q ∈ nestL, va_Nw (.methodLinkNest q.1 q.2.1 q.2.2 "FlossRumours") U) ∧ va_AO "FlossRumours$Deeds" U ∧ va_AOA .int U ∧ va_AOA .byte U
theorem NW.warm {s U : State} (hW : s.WarmedH U.vm) (h : NW s) : NW U := ⟨fun q hq => (h.1 q hq).warmM hW, h.2.1.moved hW.alike, h.2.2.1.moved hW.alike, h.2.2.2.moved hW.alike⟩
theorem NW.same {u U : State} (hv : u.vm = U.vm) (h : NW u) : NW U := ⟨fun q hq => (h.1 q hq).same rfl hv, h.2.1.moved (by rw [hv]; exact Vm.Alike.refl _), h.2.2.1.moved (by rw [hv]; exact Vm.Alike.refl _), h.2.2.2.moved (by rw [hv]; exact Vm.Alike.refl _)⟩
abbrev Bx : Type := (Program × Launch × Env × Room × State × MethodId × Array Value × List Frame × Method × Code) × (Nat → Prop) × va_G × (ClassId × ClassId) × Nat × (State → Prop)
abbrev tyB (q : ClassId × ClassId) : List (ClassId × FieldType) := [(q.1, .byte), (q.2, .int)]
def CV (x : Bx) (pc : Nat) (lv : List (Nat × Value)) (st : List Value) (ws : va_W) (cn sn : Nat) : Prop := match x with
  | ((p, l, e, R, s, m, args, below, meth, c), A, D, cy, nL, Q) => ∀ (H : Heap) (locs : List Loc) (ls : Array Slot), va_P D vwCl ws H → va_D A ws → va_S A s.heap H locs → lv_has ls nL lv → W p l e R s m args below meth c H locs cn sn Q (F0 m pc ls st)
def CK (x : Bx) (cc : ByteArray) (own : String) (nL' : Nat) (d cN sN : Nat) (ini : Bool) : Prop := match x with
  | ((p, l, e, R, s, m, args, below, meth, c), A, D, cy, nL, Q) => p.tables.exec = Jvm.exec ∧ c.code = cc ∧ True ∧ meth.locks = false ∧ (ini = true → meth.name = "<init>") ∧ c.maxLocals = nL ∧ nL = nL' ∧ s.vm.findClass own = some m.cls ∧ (∀ w ∈ TB, w.before args s = true) ∧ va_K D vwCl (tyB cy) s ∧ (∀ q, s.heap.size ≤ q → A q) ∧ NW s ∧ (d ≤ R.frames ∧ 40 * d ≤ R.locals) ∧ (cN ≤ R.cells ∧ sN ≤ R.slots)
theorem C_iload {x : Bx} {cc : ByteArray} {own : String} {nL d cN sN pc : Nat} {lv : List (Nat × Value)} {st : List Value} {ws : va_W} {cn sn : Nat} {ini : Bool} {q : Fin 4} {a : Int32} (K : CK x cc own nL d cN sN ini) (j : Nat) (hdg : decode cc pc = .ok (.iload_n q, 1)) (hj : lv[j]? = some ((q : Nat), .int a)) (k : CV x (pc + 1) lv (.int a :: st) ws cn sn) : CV x pc lv (st) ws cn sn := by
  obtain ⟨⟨p, l, e, R, s, m, args, below, meth, c⟩, A, D, cy, nL0, Q⟩ := x
  obtain ⟨hx, hb, hr, hlocks, hin, hml, hnl, hown, hts, hK, hA, hNW, hR, hcs⟩ := K
  subst hnl
  intro H locs ls hP hD hS hl
  exact lv_iload_n hx hb hdg rfl (lv_at hl j hj) (k H locs ls hP hD hS hl)
theorem C_istore {x : Bx} {cc : ByteArray} {own : String} {nL d cN sN pc : Nat} {lv : List (Nat × Value)} {st : List Value} {ws : va_W} {cn sn : Nat} {ini : Bool} {q : Fin 4} {a : Int32} {lv' : List (Nat × Value)} (K : CK x cc own nL d cN sN ini) (hdg : decode cc pc = .ok (.istore_n q, 1)) (hq : (q : Nat) < nL) (hv : ((q : Nat), Value.int a) :: lv.filter (fun z => !(z.1 == (q : Nat)) && !(z.1 + 1 == (q : Nat) && z.2.category == 2)) = lv') (k : CV x (pc + 1) lv' st ws cn sn) : CV x pc lv (.int a :: st) ws cn sn := by
  obtain ⟨⟨p, l, e, R, s, m, args, below, meth, c⟩, A, D, cy, nL0, Q⟩ := x
  obtain ⟨hx, hb, hr, hlocks, hin, hml, hnl, hown, hts, hK, hA, hNW, hR, hcs⟩ := K
  subst hnl
  intro H locs ls hP hD hS hl
  exact lv_istore_n hx hb hdg rfl hl hq hv (fun ls' hl' => k H locs ls' hP hD hS hl')
theorem C_aload {x : Bx} {cc : ByteArray} {own : String} {nL d cN sN pc : Nat} {lv : List (Nat × Value)} {st : List Value} {ws : va_W} {cn sn : Nat} {ini : Bool} {q : Fin 4} {a : Nat} (K : CK x cc own nL d cN sN ini) (j : Nat) (hdg : decode cc pc = .ok (.aload_n q, 1)) (hj : lv[j]? = some ((q : Nat), .ref a)) (k : CV x (pc + 1) lv (.ref a :: st) ws cn sn) : CV x pc lv (st) ws cn sn := by
  obtain ⟨⟨p, l, e, R, s, m, args, below, meth, c⟩, A, D, cy, nL0, Q⟩ := x
  obtain ⟨hx, hb, hr, hlocks, hin, hml, hnl, hown, hts, hK, hA, hNW, hR, hcs⟩ := K
  subst hnl
  intro H locs ls hP hD hS hl
  exact lv_aload_n hx hb hdg rfl (lv_at hl j hj) (k H locs ls hP hD hS hl)
theorem C_astore {x : Bx} {cc : ByteArray} {own : String} {nL d cN sN pc : Nat} {lv : List (Nat × Value)} {st : List Value} {ws : va_W} {cn sn : Nat} {ini : Bool} {q : Fin 4} {a : Nat} {lv' : List (Nat × Value)} (K : CK x cc own nL d cN sN ini) (hdg : decode cc pc = .ok (.astore_n q, 1)) (hq : (q : Nat) < nL) (hv : ((q : Nat), Value.ref a) :: lv.filter (fun z => !(z.1 == (q : Nat)) && !(z.1 + 1 == (q : Nat) && z.2.category == 2)) = lv') (k : CV x (pc + 1) lv' st ws cn sn) : CV x pc lv (.ref a :: st) ws cn sn := by
  obtain ⟨⟨p, l, e, R, s, m, args, below, meth, c⟩, A, D, cy, nL0, Q⟩ := x
  obtain ⟨hx, hb, hr, hlocks, hin, hml, hnl, hown, hts, hK, hA, hNW, hR, hcs⟩ := K
  subst hnl
  intro H locs ls hP hD hS hl
  exact lv_astore_n hx hb hdg rfl hl hq hv (fun ls' hl' => k H locs ls' hP hD hS hl')
theorem C_ic {x : Bx} {cc : ByteArray} {own : String} {nL d cN sN pc : Nat} {lv : List (Nat × Value)} {st : List Value} {ws : va_W} {cn sn : Nat} {ini : Bool} {n : Int} {v : Int32} (K : CK x cc own nL d cN sN ini) (hdg : decode cc pc = .ok (.iconst n, 1)) (hv : Int32.ofInt n = v) (k : CV x (pc + 1) lv (.int v :: st) ws cn sn) : CV x pc lv (st) ws cn sn := by
  obtain ⟨⟨p, l, e, R, s, m, args, below, meth, c⟩, A, D, cy, nL0, Q⟩ := x
  obtain ⟨hx, hb, hr, hlocks, hin, hml, hnl, hown, hts, hK, hA, hNW, hR, hcs⟩ := K
  subst hnl
  intro H locs ls hP hD hS hl
  exact lv_iconst hx hb hdg hv (k H locs ls hP hD hS hl)
theorem C_bp {x : Bx} {cc : ByteArray} {own : String} {nL d cN sN pc : Nat} {lv : List (Nat × Value)} {st : List Value} {ws : va_W} {cn sn : Nat} {ini : Bool} {n : Int} {v : Int32} (K : CK x cc own nL d cN sN ini) (hdg : decode cc pc = .ok (.bipush n, 2)) (hv : (Int8.ofInt n).toInt32 = v) (k : CV x (pc + 2) lv (.int v :: st) ws cn sn) : CV x pc lv (st) ws cn sn := by
  obtain ⟨⟨p, l, e, R, s, m, args, below, meth, c⟩, A, D, cy, nL0, Q⟩ := x
  obtain ⟨hx, hb, hr, hlocks, hin, hml, hnl, hown, hts, hK, hA, hNW, hR, hcs⟩ := K
  subst hnl
  intro H locs ls hP hD hS hl
  exact lv_bipush hx hb hdg hv (k H locs ls hP hD hS hl)
theorem C_sp {x : Bx} {cc : ByteArray} {own : String} {nL d cN sN pc : Nat} {lv : List (Nat × Value)} {st : List Value} {ws : va_W} {cn sn : Nat} {ini : Bool} {n : Int} {v : Int32} (K : CK x cc own nL d cN sN ini) (hdg : decode cc pc = .ok (.sipush n, 3)) (hv : (Int16.ofInt n).toInt32 = v) (k : CV x (pc + 3) lv (.int v :: st) ws cn sn) : CV x pc lv (st) ws cn sn := by
  obtain ⟨⟨p, l, e, R, s, m, args, below, meth, c⟩, A, D, cy, nL0, Q⟩ := x
  obtain ⟨hx, hb, hr, hlocks, hin, hml, hnl, hown, hts, hK, hA, hNW, hR, hcs⟩ := K
  subst hnl
  intro H locs ls hP hD hS hl
  exact lv_sipush hx hb hdg hv (k H locs ls hP hD hS hl)
theorem C_lc {x : Bx} {cc : ByteArray} {own : String} {nL d cN sN pc : Nat} {lv : List (Nat × Value)} {st : List Value} {ws : va_W} {cn sn : Nat} {ini : Bool} {n : Fin 2} {v : Int64} (K : CK x cc own nL d cN sN ini) (hdg : decode cc pc = .ok (.lconst n, 1)) (hv : Int64.ofNat (n : Nat) = v) (k : CV x (pc + 1) lv (.long v :: st) ws cn sn) : CV x pc lv (st) ws cn sn := by
  obtain ⟨⟨p, l, e, R, s, m, args, below, meth, c⟩, A, D, cy, nL0, Q⟩ := x
  obtain ⟨hx, hb, hr, hlocks, hin, hml, hnl, hown, hts, hK, hA, hNW, hR, hcs⟩ := K
  subst hnl
  intro H locs ls hP hD hS hl
  exact lv_lconst hx hb hdg hv (k H locs ls hP hD hS hl)
theorem C_dup {x : Bx} {cc : ByteArray} {own : String} {nL d cN sN pc : Nat} {lv : List (Nat × Value)} {st : List Value} {ws : va_W} {cn sn : Nat} {ini : Bool} {a : Value} (K : CK x cc own nL d cN sN ini) (hdg : decode cc pc = .ok (.dup, 1)) (hc : a.category = 1) (k : CV x (pc + 1) lv (a :: a :: st) ws cn sn) : CV x pc lv (a :: st) ws cn sn := by
  obtain ⟨⟨p, l, e, R, s, m, args, below, meth, c⟩, A, D, cy, nL0, Q⟩ := x
  obtain ⟨hx, hb, hr, hlocks, hin, hml, hnl, hown, hts, hK, hA, hNW, hR, hcs⟩ := K
  subst hnl
  intro H locs ls hP hD hS hl
  exact lv_dup hx hb hdg hc (k H locs ls hP hD hS hl)
theorem C_goto {x : Bx} {cc : ByteArray} {own : String} {nL d cN sN pc : Nat} {lv : List (Nat × Value)} {st : List Value} {ws : va_W} {cn sn : Nat} {ini : Bool} {off : Int} (K : CK x cc own nL d cN sN ini) (tgt : Nat) (hdg : decode cc pc = .ok (.goto off, 3)) (ht : (pc : Int) + off = (tgt : Int)) (k : CV x tgt lv st ws cn sn) : CV x pc lv (st) ws cn sn := by
  obtain ⟨⟨p, l, e, R, s, m, args, below, meth, c⟩, A, D, cy, nL0, Q⟩ := x
  obtain ⟨hx, hb, hr, hlocks, hin, hml, hnl, hown, hts, hK, hA, hNW, hR, hcs⟩ := K
  subst hnl
  intro H locs ls hP hD hS hl
  exact lv_goto hx hb hdg ht (k H locs ls hP hD hS hl)
theorem C_get_t {x : Bx} {cc : ByteArray} {own : String} {nL d cN sN pc : Nat} {lv : List (Nat × Value)} {st : List Value} {ws : va_W} {cn sn : Nat} {ini : Bool} {a b : Int32} {off : Int} (K : CK x cc own nL d cN sN ini) (tgt : Nat) (hdg : decode cc pc = .ok (.if_icmp .ge off, 3)) (ht : (pc : Int) + off = (tgt : Int)) (hc : b ≤ a) (k : CV x tgt lv st ws cn sn) : CV x pc lv (.int b :: .int a :: st) ws cn sn := by
  obtain ⟨⟨p, l, e, R, s, m, args, below, meth, c⟩, A, D, cy, nL0, Q⟩ := x
  obtain ⟨hx, hb, hr, hlocks, hin, hml, hnl, hown, hts, hK, hA, hNW, hR, hcs⟩ := K
  subst hnl
  intro H locs ls hP hD hS hl
  exact lv_icmp_ge hx hb hdg ht (fun _ => k H locs ls hP hD hS hl) (fun c9 => absurd hc c9)
theorem C_get_f {x : Bx} {cc : ByteArray} {own : String} {nL d cN sN pc : Nat} {lv : List (Nat × Value)} {st : List Value} {ws : va_W} {cn sn : Nat} {ini : Bool} {a b : Int32} {off : Int} (K : CK x cc own nL d cN sN ini) (tgt : Nat) (hdg : decode cc pc = .ok (.if_icmp .ge off, 3)) (ht : (pc : Int) + off = (tgt : Int)) (hc : ¬ b ≤ a) (k : CV x (pc + 3) lv st ws cn sn) : CV x pc lv (.int b :: .int a :: st) ws cn sn := by
  obtain ⟨⟨p, l, e, R, s, m, args, below, meth, c⟩, A, D, cy, nL0, Q⟩ := x
  obtain ⟨hx, hb, hr, hlocks, hin, hml, hnl, hown, hts, hK, hA, hNW, hR, hcs⟩ := K
  subst hnl
  intro H locs ls hP hD hS hl
  exact lv_icmp_ge hx hb hdg ht (fun c9 => absurd c9 hc) (fun _ => k H locs ls hP hD hS hl)
theorem C_iinc {x : Bx} {cc : ByteArray} {own : String} {nL d cN sN pc : Nat} {lv : List (Nat × Value)} {st : List Value} {ws : va_W} {cn sn : Nat} {ini : Bool} {q : Nat} {n : Int} {a v : Int32} {lv' : List (Nat × Value)} (K : CK x cc own nL d cN sN ini) (j : Nat) (hdg : decode cc pc = .ok (.iinc q n, 3)) (hj : lv[j]? = some (q, .int a)) (hv : a + Int32.ofInt n = v) (hq : q < nL) (hl' : (q, Value.int v) :: lv.filter (fun z => !(z.1 == q) && !(z.1 + 1 == q && z.2.category == 2)) = lv') (k : CV x (pc + 3) lv' st ws cn sn) : CV x pc lv st ws cn sn := by
  obtain ⟨⟨p, l, e, R, s, m, args, below, meth, c⟩, A, D, cy, nL0, Q⟩ := x
  obtain ⟨hx, hb, hr, hlocks, hin, hml, hnl, hown, hts, hK, hA, hNW, hR, hcs⟩ := K
  subst hnl
  intro H locs ls hP hD hS hl
  exact lv_iinc hx hb hdg hl hj hv hq hl' (fun ls' hl2 => k H locs ls' hP hD hS hl2)
theorem C_obj {x : Bx} {cc : ByteArray} {own : String} {nL d cN sN pc : Nat} {lv : List (Nat × Value)} {st : List Value} {ws : va_W} {cn sn : Nat} {ini : Bool} {idx a : Nat} (K : CK x cc own nL (d + 1) cN sN ini) (hm1 : Cond.methodLink own idx objectInit ∈ TB) (hm2 : Cond.instanceMethod objectInit ∈ TB) (hm3 : Cond.code objectInit ⟨#[0xb1]⟩ 1 none ∈ TB) (hW : (st.map fun v => v.category).sum ≤ 8) (hdg : decode cc pc = .ok (.invokespecial idx, 3)) (k : CV x (pc + 3) lv st ws cn sn) : CV x pc lv (.ref a :: st) ws cn sn := by
  obtain ⟨⟨p, l, e, R, s, m, args, below, meth, c⟩, A, D, cy, nL0, Q⟩ := x
  obtain ⟨hx, hb, hr, hlocks, hin, hml, hnl, hown, hts, hK, hA, hNW, hR, hcs⟩ := K
  subst hnl
  intro H locs ls hP hD hS hl
  refine W.objInit hx hb hown (hts _ hm1) (hts _ hm2) (hts _ hm3) rfl (by rw [hml]; exact hl.1) rfl hdg (by omega) (by show 2 * 0 + _ + 12 ≤ _; omega) ?_
  exact k H locs ls hP hD hS hl
theorem C_newi {x : Bx} {cc : ByteArray} {own : String} {nL d cN sN pc : Nat} {lv : List (Nat × Value)} {st : List Value} {ws : va_W} {cn sn : Nat} {ini : Bool} {n : Int32} {N : Nat} (K : CK x cc own nL d cN sN ini) (hm : Cond.arrayClass .int ∈ TB) (hn : ¬ n < 0) (hN : n.toNatClampNeg = N) (hb4 : N ≤ 5000) (h1 : cn + 1 ≤ cN) (h2 : sn + N ≤ sN) (hdg : decode cc pc = .ok (.newarray .int, 2)) (k : ∀ q : Nat, CV x (pc + 2) lv (.ref q :: st) (ws ++ [(q, .inl (x.2.2.2.1.2, N, .inl (fun _ => 0)))]) (cn + 1) (sn + N)) : CV x pc lv (.int n :: st) ws cn sn := by
  obtain ⟨⟨p, l, e, R, s, m, args, below, meth, c⟩, A, D, cy, nL0, Q⟩ := x
  obtain ⟨hx, hb, hr, hlocks, hin, hml, hnl, hown, hts, hK, hA, hNW, hR, hcs⟩ := K
  subst hnl
  intro H locs ls hP hD hS hl
  refine va_newa (atype := .int) (ty := .int) (a0 := (N, .inl (fun _ => 0))) hx hb (hts _ hm) rfl hK hP hD hS hA (fun cA => rfl) hn hN (by show N * 4 ≤ 536870912; omega) (by omega) (by omega) hdg (fun q cA H1 hK1 hP1 hD1 hS1 => ?_)
  have e1 : s.vm.findClass ("[" ++ FieldType.int.toString) = some cA := (hK1.2 2 _ rfl).2
  have e2 : s.vm.findClass ("[" ++ FieldType.int.toString) = some cy.2 := (hK.2 1 _ rfl).2
  have e3 : cA = cy.2 := Option.some.inj (e1.symm.trans e2)
  subst e3
  exact k q H1 locs ls hP1 hD1 hS1 hl
theorem C_new {x : Bx} {cc : ByteArray} {own : String} {nL d cN sN pc : Nat} {lv : List (Nat × Value)} {st : List Value} {ws : va_W} {cn sn : Nat} {ini : Bool} {ci idx N : Nat} {C : String} {T : u_T} {fs : List Value} (K : CK x cc own nL d cN sN ini) (hin2 : ∀ w ∈ u_ws C T N, w ∈ TB) (ty : Nat → FieldType) (hty : ∀ k, k < N → parseFieldDescriptor (T k).2.2.1 = some (ty k)) (hcl : Cond.classLink own idx C ∈ TB) (hinst : Cond.instantiable C N ∈ TB) (hini : Cond.initialized C ∈ TB) (hc : vwCl[ci]? = some (C, T, N)) (hfs : ∀ j, j < N → defaultValue (ty j) = vp_V fs j) (h1 : cn + 1 ≤ cN) (h2 : sn + N ≤ sN) (hdg : decode cc pc = .ok (.new idx, 3)) (k : ∀ q : Nat, CV x (pc + 3) lv (.ref q :: st) (ws ++ [(q, .inr (ci, fs))]) (cn + 1) (sn + N)) : CV x pc lv (st) ws cn sn := by
  obtain ⟨⟨p, l, e, R, s, m, args, below, meth, c⟩, A, D, cy, nL0, Q⟩ := x
  obtain ⟨hx, hb, hr, hlocks, hin, hml, hnl, hown, hts, hK, hA, hNW, hR, hcs⟩ := K
  subst hnl
  intro H locs ls hP hD hS hl
  exact va_new hx hb hts hin2 ty hty hown (hts _ hcl) (hts _ hinst) (hts _ hini) hK hP hD hS hA hc hfs (by omega) (by omega) hdg (fun q H1 hP1 hD1 hS1 => k q H1 locs ls hP1 hD1 hS1 hl)
theorem C_putF {x : Bx} {cc : ByteArray} {own : String} {nL d cN sN pc : Nat} {lv : List (Nat × Value)} {st : List Value} {ws : va_W} {cn sn : Nat} {ini : Bool} (hini9 : ini = true) {a ci idx N : Nat} {C : String} {T : u_T} {fs : List Value} {v : Value} {ty : FieldType} (K : CK x cc own nL d cN sN ini) (hin2 : ∀ w ∈ u_ws C T N, w ∈ TB) (ty0 : Nat → FieldType) (hty : ∀ k, k < N → parseFieldDescriptor (T k).2.2.1 = some (ty0 k)) (hnm : ∀ a, a < N → ∀ b, b < N → a ≠ b → (T a).2.1 ≠ (T b).2.1) (q0 : Nat) (he : ws[q0]? = some (a, .inr (ci, fs))) (hc : vwCl[ci]? = some (C, T, N)) (k : Nat) (hk : k < N) (hm : Cond.fieldLink own idx (T k).1 (T k).2.1 (T k).2.2.1 ∈ TB) (hfin : (T k).2.2.2 = true) (hdecl : (T k).1 = own) (hd : parseFieldDescriptor (T k).2.2.1 = some ty) (hn : narrow ty v = v) (hfit : fits ty v = true) (hlen : k < fs.length) (hdg : decode cc pc = .ok (.putfield idx, 3)) (kk : CV x (pc + 3) lv st (ws.set q0 (a, .inr (ci, fs.set k v))) cn sn) : CV x pc lv (v :: .ref a :: st) ws cn sn := by
  obtain ⟨⟨p, l, e, R, s, m, args, below, meth, c⟩, A, D, cy, nL0, Q⟩ := x
  obtain ⟨hx, hb, hr, hlocks, hin, hml, hnl, hown, hts, hK, hA, hNW, hR, hcs⟩ := K
  subst hnl
  intro H locs ls hP hD hS hl
  exact va_putF hx hb hts hin2 ty0 hty hnm hown hK hP hD hS q0 he hc k hk (hts _ hm) (fun _ h9 => h9) hfin (hin hini9) hdecl hd hn hfit hlen hdg (fun H1 locs1 hP1 hD1 hS1 => kk H1 locs1 ls hP1 hD1 hS1 hl)
theorem C_put {x : Bx} {cc : ByteArray} {own : String} {nL d cN sN pc : Nat} {lv : List (Nat × Value)} {st : List Value} {ws : va_W} {cn sn : Nat} {ini : Bool} {a ci idx N : Nat} {C : String} {T : u_T} {fs : List Value} {v : Value} {ty : FieldType} (K : CK x cc own nL d cN sN ini) (hin2 : ∀ w ∈ u_ws C T N, w ∈ TB) (ty0 : Nat → FieldType) (hty : ∀ k, k < N → parseFieldDescriptor (T k).2.2.1 = some (ty0 k)) (hnm : ∀ a, a < N → ∀ b, b < N → a ≠ b → (T a).2.1 ≠ (T b).2.1) (q0 : Nat) (he : ws[q0]? = some (a, .inr (ci, fs))) (hc : vwCl[ci]? = some (C, T, N)) (k : Nat) (hk : k < N) (hm : Cond.fieldLink own idx (T k).1 (T k).2.1 (T k).2.2.1 ∈ TB) (hfin : (T k).2.2.2 = false) (hd : parseFieldDescriptor (T k).2.2.1 = some ty) (hn : narrow ty v = v) (hfit : fits ty v = true) (hlen : k < fs.length) (hdg : decode cc pc = .ok (.putfield idx, 3)) (kk : CV x (pc + 3) lv st (ws.set q0 (a, .inr (ci, fs.set k v))) cn sn) : CV x pc lv (v :: .ref a :: st) ws cn sn := by
  obtain ⟨⟨p, l, e, R, s, m, args, below, meth, c⟩, A, D, cy, nL0, Q⟩ := x
  obtain ⟨hx, hb, hr, hlocks, hin, hml, hnl, hown, hts, hK, hA, hNW, hR, hcs⟩ := K
  subst hnl
  intro H locs ls hP hD hS hl
  exact va_put hx hb hts hin2 ty0 hty hnm hown hK hP hD hS q0 he hc k hk (hts _ hm) (fun _ h9 => h9) hfin hd hn hfit hlen hdg (fun H1 locs1 hP1 hD1 hS1 => kk H1 locs1 ls hP1 hD1 hS1 hl)
theorem C_getf {x : Bx} {cc : ByteArray} {own : String} {nL d cN sN pc : Nat} {lv : List (Nat × Value)} {st : List Value} {ws : va_W} {cn sn : Nat} {ini : Bool} {a ci idx N : Nat} {C : String} {T : u_T} {fs : List Value} {v : Value} (K : CK x cc own nL d cN sN ini) (hin2 : ∀ w ∈ u_ws C T N, w ∈ TB) (q0 : Nat) (he : ws[q0]? = some (a, .inr (ci, fs))) (hc : vwCl[ci]? = some (C, T, N)) (k : Nat) (hk : k < N) (hm : Cond.fieldLink own idx (T k).1 (T k).2.1 (T k).2.2.1 ∈ TB) (hv : fs[k]? = some v) (hdg : decode cc pc = .ok (.getfield idx, 3)) (kk : CV x (pc + 3) lv (v :: st) ws cn sn) : CV x pc lv (.ref a :: st) ws cn sn := by
  obtain ⟨⟨p, l, e, R, s, m, args, below, meth, c⟩, A, D, cy, nL0, Q⟩ := x
  obtain ⟨hx, hb, hr, hlocks, hin, hml, hnl, hown, hts, hK, hA, hNW, hR, hcs⟩ := K
  subst hnl
  intro H locs ls hP hD hS hl
  exact va_get hx hb hts hin2 hown hK hP q0 he hc k hk (hts _ hm) (fun _ h9 => h9) hv hdg (kk H locs ls hP hD hS hl)
theorem C_sub {x : Bx} {pc : Nat} {lv : List (Nat × Value)} {st : List Value} {ws ws' : va_W} {cn sn : Nat} (is : List Nat) (hn : va_nd is = true) (hs : is.map (fun i => ws[i]?) = ws'.map some) (k : CV x pc lv st ws' cn sn) : CV x pc lv st ws cn sn := by
  obtain ⟨⟨p, l, e, R, s, m, args, below, meth, c⟩, A, D, cy, nL0, Q⟩ := x
  intro H locs ls hP hD hS hl
  refine k H locs ls (fun j q hq => ?_) (hD.sub is hn hs) hS hl
  have h1 : (is.map (fun i => ws[i]?))[j]? = some (some q) := by rw [hs, List.getElem?_map, hq]; rfl
  rw [List.getElem?_map] at h1
  cases hi : is[j]? with
  | none => rw [hi] at h1; cases h1
  | some i => rw [hi] at h1; exact hP i q (Option.some.inj h1)
/-- a constructor's contract: the world w0 becomes one that post tells -/
def BR (fr cN sN : Nat) (y : MethodName) (cc : ByteArray) (nL : Nat) (As : List Value) (D : va_G) (cy : ClassId × ClassId) (w0 : va_W) (post : va_W → State → Prop) : Prop := ∀ (l : Launch) (sz : Nat), Met l y (.code y cc nL none :: TB) { frames := fr, cells := cN, slots := sN, locals := 40 * fr } (va_Pc As (fun U => U.heap.size = sz ∧ va_P D vwCl w0 U.heap ∧ va_K D vwCl (tyB cy) U ∧ va_D (fun _ => True) w0 ∧ NW U))
  (fun _ st oc t => oc = .returned none ∧ (∃ w1, post w1 t ∧ va_P D vwCl w1 t.heap ∧ va_D (va_A w0 sz) w1) ∧ va_F (va_A w0 sz) st t) cN sN (va_A w0 sz)
theorem BR.of {fr cN sN : Nat} {y : MethodName} {cc : ByteArray} {nL : Nat} {As : List Value} {D : va_G} {cy : ClassId × ClassId} {w0 : va_W} {post : va_W → State → Prop} (hy : plainFor y = true) (ini : Bool) (hname : ini = true → y.name = "<init>") (hlen : (lg_sl As).length ≤ nL)
    (body : ∀ x : Bx, CK x cc y.cls nL fr cN sN ini → x.2.2.1 = D → x.2.2.2.1 = cy →
      (∀ (pc : Nat) (lv : List (Nat × Value)) (w1 : va_W), decode cc pc = .ok (.return_, 1) → (∀ t : State, x.1.2.2.2.2.1.WarmedH t.vm → post w1 t) → CV x pc lv [] w1 cN sN) → CV x 0 (lv_args 0 As) [] w0 0 0) : BR fr cN sN y cc nL As D cy w0 post := by
  intro l sz
  refine Met_of (cc := cc) (maxL := nL) (ret := none) hy rfl ?_
  intro p e s m args below meth c s₁ B hml hv
  obtain ⟨rfl, hsz, hP, hK, hD0, hN⟩ := hv
  subst hsz
  have hts := atoms_spec (ws := .code y cc nL none :: TB) B.pre
  have hown : s.vm.findClass y.cls = some m.cls := findClass_of_methodNamed B.named
  have hin : ini = true → meth.name = "<init>" := fun q => (name_of_methodNamed B.named B.method).1.trans (hname q)
  have hk := body ((p, l, e, { frames := fr, cells := cN, slots := sN, locals := 40 * fr }, s, m, As.toArray, below, meth, c), va_A w0 s.heap.size, D, cy, nL, MQ below (fun _ st oc t => oc = .returned none ∧ (∃ w1, post w1 t ∧ va_P D vwCl w1 t.heap ∧ va_D (va_A w0 s.heap.size) w1) ∧ va_F (va_A w0 s.heap.size) st t) As.toArray s cN sN (va_A w0 s.heap.size))
    ⟨B.exec, B.bytes, trivial, B.notSynchronized, hin, hml, rfl, hown, fun w hw => hts w (List.mem_cons_of_mem _ hw), hK, fun q hq => Or.inr hq, hN, ⟨Nat.le_refl _, Nat.le_refl _⟩, Nat.le_refl _, Nat.le_refl _⟩ rfl rfl
    (fun pc lv w1 hdg hpost H locs ls hP1 hD1 hS1 hl1 => W.vret B.exec B.bytes B.returns (fun t ht hW => ⟨rfl, ⟨w1, hpost t hW, by rw [ht]; exact hP1, hD1⟩, hS1.F ht⟩) hS1.2.2 hdg B.notSynchronized)
  have hl := lv_entry As (n := nL) hlen
  rw [lg_entry_eq]
  exact hk s.heap [] _ hP (hD0.self (sz := s.heap.size)) va_S.rf hl
theorem C_call {x : Bx} {cc : ByteArray} {own : String} {nL d cN sN pc : Nat} {lv : List (Nat × Value)} {st : List Value} {ws : va_W} {cn sn : Nat} {ini : Bool} {y : MethodName} {bytes : ByteArray} {maxL idx n fr cN2 sN2 b : Nat} {As : List Value} {w0 wr : va_W} {post : va_W → State → Prop} (K : CK x cc own nL (d + 1) cN sN ini) (Rn : BR fr cN2 sN2 y bytes maxL (.ref b :: As) x.2.2.1 x.2.2.2.1 w0 post) (isC isR : List Nat) (hC : isC.map (fun i => ws[i]?) = w0.map some) (hRr : isR.map (fun i => ws[i]?) = wr.map some) (hndC : va_nd isC = true) (hnd : va_nd isR = true) (hdis : ∀ i ∈ isR, i ∉ isC) (hm1 : Cond.methodLink own idx y ∈ TB) (hm2 : Cond.instanceMethod y ∈ TB) (hm4 : Cond.initialized y.cls ∈ TB) (hname : y.name = "<init>") (hd : y.cls ≠ "java/lang/invoke/MethodHandle" ∧ y.cls ≠ "java/lang/invoke/VarHandle" ∧ (parseMethodDescriptor y.desc).map (fun d => d.parameters.length) = some n) (hm5 : Cond.code y bytes maxL none ∈ TB) (hx5 : maxL ≤ 20) (hfr : fr ≤ d) (h1 : cn + cN2 ≤ cN) (h2 : sn + sN2 ≤ sN) (hdg : decode cc pc = .ok (.invokespecial idx, 3)) (hn : As.length = n) (hW : (st.map fun v => v.category).sum ≤ 8) (kk : ∀ w1 t, x.1.2.2.2.2.1.vm.Alike t.vm → post w1 t → CV x (pc + 3) lv st (wr ++ w1) (cn + cN2) (sn + sN2)) : CV x pc lv (As.reverse ++ .ref b :: st) ws cn sn := by
  obtain ⟨⟨p, l, e, R, s, m, args, below, meth, c⟩, A, D, cy, nL0, Q⟩ := x
  obtain ⟨hx, hb, hr, hlocks, hin, hml, hnl, hown, hts, hK, hA, hNW, hR, hcs⟩ := K
  subst hnl
  intro H locs ls hP hD hS hl
  have hF := va_free (wc := w0) hD hS hA isC hC
  have hP0 : va_P D vwCl w0 H := fun j q hq => by
    have h1 : (isC.map (fun i => ws[i]?))[j]? = some (some q) := by rw [hC, List.getElem?_map, hq]; rfl
    rw [List.getElem?_map] at h1
    cases hi : isC[j]? with
    | none => rw [hi] at h1; cases h1
    | some i => rw [hi] at h1; exact hP i q (Option.some.inj h1)
  have hD0 : va_D (fun _ => True) w0 := (hD.sub isC hndC hC).weaken (fun _ _ _ _ => trivial)
  have hbl9 : FrameBlind (va_Pc (.ref b :: As) (fun U => U.heap.size = H.size ∧ va_P D vwCl w0 U.heap ∧ va_K D vwCl (tyB cy) U ∧ va_D (fun _ => True) w0 ∧ NW U)) := fun a U g mk q => by
    obtain ⟨q0, q1, qP, qK, qD, qE⟩ := q
    exact ⟨q0, q1, qP, va_K.moved (u := U) (U := U.calling g mk a) (Vm.Alike.refl U.vm) qK, qD, qE.same rfl⟩
  have hpre : ∀ U : State, U.heap = H → s.WarmedH U.vm → va_Pc (.ref b :: As) (fun U => U.heap.size = H.size ∧ va_P D vwCl w0 U.heap ∧ va_K D vwCl (tyB cy) U ∧ va_D (fun _ => True) w0 ∧ NW U) (.ref b :: As).toArray U := fun U hU hW => ⟨rfl, by rw [hU], by rw [hU]; exact hP0, va_K.moved hW.alike hK, hD0, hNW.warm hW⟩
  have hGI : GoodIn TB (.code y bytes maxL none :: TB) := fun w hw => by
    rcases List.mem_cons.mp hw with e | hw
    · rw [e]; exact TB_self _ hm5
    · exact TB_self _ hw
  have hroom : fr + 1 ≤ R.frames ∧ 8 + (maxL + 11) + 40 * fr ≤ R.locals := by omega
  have RR := va_runI (locs := locs) (cells := cn) (slots := sn) (below := below) (e := e) (meth := meth) (H := H) (rest := st) (As := As) (b := b) (g := F0 m pc ls (As.reverse ++ .ref b :: st)) ⟨hx, hb, hml, hown, hts⟩ (Rn l H.size) (cwI n hts hGI rfl rfl rfl (hts _ hm4) (hts _ hm1) (hts _ hm2) hname hd hroom) ⟨hbl9, hpre⟩ rfl hn hl.1 rfl (by show 2 * 0 + _ ≤ 8; omega) hdg ⟨by omega, by omega⟩
  intro T hT X
  obtain ⟨v, st₀, t, T', L, h0, X', hL, e1, e2, ⟨hv, ⟨w1, hpo, hP1, hD1⟩, hFr⟩, stp⟩ := RR T hT X
  cases hv
  have hz : H.size ≤ t.heap.size := by have := hFr.1; rw [h0] at this; exact this
  have hkk : ∀ q : Nat, q < H.size → ¬ va_A w0 H.size q → t.heap[q]? = H[q]? := fun q h1 h2 => by have := hFr.2 q (by rw [h0]; exact h1) h2; rw [h0] at this; exact this
  obtain ⟨hP2, hD2⟩ := va_join (wr := wr) hP hD isC isR hC hRr hnd hdis hkk hF hP1 hD1
  obtain ⟨t2, a1, b1⟩ := kk w1 t (by rw [← e2]; exact X'.warmed.alike) hpo T'.heap (locs ++ L) ls (by rw [e1]; exact hP2) hD2 ⟨Nat.le_trans hS.1 (by rw [e1]; exact hz), fun q h1 h2 => by
      rw [e1, hkk q (Nat.lt_of_lt_of_le h1 hS.1) (fun z => h2 (hF q z))]; exact hS.2.1 q h1 h2, fun q hq => by
      rcases List.mem_append.mp hq with h | h
      · exact hS.2.2 q h
      · exact hF _ (hL q h)⟩ hl T' rfl X'
  exact ⟨t2, stp t2 a1, b1⟩
theorem C_callN {x : Bx} {cc : ByteArray} {own : String} {nL d cN sN pc : Nat} {lv : List (Nat × Value)} {st : List Value} {ws : va_W} {cn sn : Nat} {ini : Bool} {y : MethodName} {bytes : ByteArray} {maxL idx n fr cN2 sN2 b : Nat} {As : List Value} {w0 wr : va_W} {post : va_W → State → Prop} (K : CK x cc own nL (d + 1) cN sN ini) (Rn : BR fr cN2 sN2 y bytes maxL (.ref b :: As) x.2.2.1 x.2.2.2.1 w0 post) (isC isR : List Nat) (hC : isC.map (fun i => ws[i]?) = w0.map some) (hRr : isR.map (fun i => ws[i]?) = wr.map some) (hndC : va_nd isC = true) (hnd : va_nd isR = true) (hdis : ∀ i ∈ isR, i ∉ isC) (hm1 : (own, idx, y) ∈ nestL) (hm2 : Cond.instanceMethod y ∈ TB) (hm4 : Cond.initialized y.cls ∈ TB) (hname : y.name = "<init>") (hd : y.cls ≠ "java/lang/invoke/MethodHandle" ∧ y.cls ≠ "java/lang/invoke/VarHandle" ∧ (parseMethodDescriptor y.desc).map (fun d => d.parameters.length) = some n) (hm5 : Cond.code y bytes maxL none ∈ TB) (hx5 : maxL ≤ 20) (hfr : fr ≤ d) (h1 : cn + cN2 ≤ cN) (h2 : sn + sN2 ≤ sN) (hdg : decode cc pc = .ok (.invokespecial idx, 3)) (hn : As.length = n) (hW : (st.map fun v => v.category).sum ≤ 8) (kk : ∀ w1 t, x.1.2.2.2.2.1.vm.Alike t.vm → post w1 t → CV x (pc + 3) lv st (wr ++ w1) (cn + cN2) (sn + sN2)) : CV x pc lv (As.reverse ++ .ref b :: st) ws cn sn := by
  obtain ⟨⟨p, l, e, R, s, m, args, below, meth, c⟩, A, D, cy, nL0, Q⟩ := x
  obtain ⟨hx, hb, hr, hlocks, hin, hml, hnl, hown, hts, hK, hA, hNW, hR, hcs⟩ := K
  subst hnl
  intro H locs ls hP hD hS hl
  have hF := va_free (wc := w0) hD hS hA isC hC
  have hP0 : va_P D vwCl w0 H := fun j q hq => by
    have h1 : (isC.map (fun i => ws[i]?))[j]? = some (some q) := by rw [hC, List.getElem?_map, hq]; rfl
    rw [List.getElem?_map] at h1
    cases hi : isC[j]? with
    | none => rw [hi] at h1; cases h1
    | some i => rw [hi] at h1; exact hP i q (Option.some.inj h1)
  have hD0 : va_D (fun _ => True) w0 := (hD.sub isC hndC hC).weaken (fun _ _ _ _ => trivial)
  have hbl9 : FrameBlind (va_Pc (.ref b :: As) (fun U => U.heap.size = H.size ∧ va_P D vwCl w0 U.heap ∧ va_K D vwCl (tyB cy) U ∧ va_D (fun _ => True) w0 ∧ NW U)) := fun a U g mk q => by
    obtain ⟨q0, q1, qP, qK, qD, qE⟩ := q
    exact ⟨q0, q1, qP, va_K.moved (u := U) (U := U.calling g mk a) (Vm.Alike.refl U.vm) qK, qD, qE.same rfl⟩
  have hpre : ∀ U : State, U.heap = H → s.WarmedH U.vm → va_Pc (.ref b :: As) (fun U => U.heap.size = H.size ∧ va_P D vwCl w0 U.heap ∧ va_K D vwCl (tyB cy) U ∧ va_D (fun _ => True) w0 ∧ NW U) (.ref b :: As).toArray U := fun U hU hW => ⟨rfl, by rw [hU], by rw [hU]; exact hP0, va_K.moved hW.alike hK, hD0, hNW.warm hW⟩
  have hGI : GoodIn TB (.code y bytes maxL none :: TB) := fun w hw => by
    rcases List.mem_cons.mp hw with e | hw
    · rw [e]; exact TB_self _ hm5
    · exact TB_self _ hw
  have hroom : fr + 1 ≤ R.frames ∧ 8 + (maxL + 11) + 40 * fr ≤ R.locals := by omega
  have RR := va_runIN (locs := locs) (cells := cn) (slots := sn) (below := below) (e := e) (meth := meth) (H := H) (rest := st) (As := As) (b := b) (g := F0 m pc ls (As.reverse ++ .ref b :: st)) ⟨hx, hb, hml, hown, hts⟩ (Rn l H.size) ⟨va_cnB n hts hGI rfl rfl rfl (hNW.1 _ hm1) (hts _ hm4) hd hroom, hname, hts _ hm2⟩ ⟨hbl9, hpre⟩ rfl hn hl.1 rfl (by show 2 * 0 + _ ≤ 8; omega) hdg ⟨by omega, by omega⟩
  intro T hT X
  obtain ⟨v, st₀, t, T', L, h0, X', hL, e1, e2, ⟨hv, ⟨w1, hpo, hP1, hD1⟩, hFr⟩, stp⟩ := RR T hT X
  cases hv
  have hz : H.size ≤ t.heap.size := by have := hFr.1; rw [h0] at this; exact this
  have hkk : ∀ q : Nat, q < H.size → ¬ va_A w0 H.size q → t.heap[q]? = H[q]? := fun q h1 h2 => by have := hFr.2 q (by rw [h0]; exact h1) h2; rw [h0] at this; exact this
  obtain ⟨hP2, hD2⟩ := va_join (wr := wr) hP hD isC isR hC hRr hnd hdis hkk hF hP1 hD1
  obtain ⟨t2, a1, b1⟩ := kk w1 t (by rw [← e2]; exact X'.warmed.alike) hpo T'.heap (locs ++ L) ls (by rw [e1]; exact hP2) hD2 ⟨Nat.le_trans hS.1 (by rw [e1]; exact hz), fun q h1 h2 => by
      rw [e1, hkk q (Nat.lt_of_lt_of_le h1 hS.1) (fun z => h2 (hF q z))]; exact hS.2.1 q h1 h2, fun q hq => by
      rcases List.mem_append.mp hq with h | h
      · exact hS.2.2 q h
      · exact hF _ (hL q h)⟩ hl T' rfl X'
  exact ⟨t2, stp t2 a1, b1⟩
theorem va_pl_const {l : List Nat} {f : Nat → va_E} {e : va_E} : va_pl l (vr_up f l e) = l.map (fun a => (a, e)) := by
  unfold va_pl
  apply List.map_congr_left
  intro a ha
  rw [vr_up_in ha]
theorem C_mnaI {x : Bx} {cc : ByteArray} {own : String} {nL d cN sN pc : Nat} {lv : List (Nat × Value)} {st : List Value} {ws : va_W} {cn sn : Nat} {ini : Bool} {n kk2 : Int32} {N K2 idx : Nat} (K : CK x cc own nL d cN sN ini) (hcl : Cond.classLink own idx ("[" ++ (FieldType.array .int).toString) ∈ TB) (hm : Cond.arrayClass .int ∈ TB) (hn : ¬ n < 0) (hk : ¬ kk2 < 0) (hN : n.toNatClampNeg = N) (hM : kk2.toNatClampNeg = K2) (hb1 : N ≤ 100) (hb2 : K2 ≤ 100) (h1 : cn + (1 + N) ≤ cN) (h2 : sn + (N + N * K2) ≤ sN) (hdg : decode cc pc = .ok (.multianewarray idx 2, 4)) (k : ∀ (q : Nat) (r : Nat → Nat) (cA : ClassId), va_K x.2.2.1 vwCl (tyB x.2.2.2.1 ++ [(cA, .array .int)]) x.1.2.2.2.2.1 → CV x (pc + 4) lv (.ref q :: st) ((ws ++ [(q, .inl (cA, N, .inr (.inr (.inr (.inr (fun i => if i < N then some (r i) else none))))))]) ++ ((List.range N).map r).map (fun a => (a, .inl (x.2.2.2.1.2, K2, .inl (fun _ => 0))))) (cn + 1 + N) (sn + N + N * K2)) : CV x pc lv (.int kk2 :: .int n :: st) ws cn sn := by
  obtain ⟨⟨p, l, e, R, s, m, args, below, meth, c⟩, A, D, cy, nL0, Q⟩ := x
  obtain ⟨hx, hb, hr, hlocks, hin, hml, hnl, hown, hts, hK, hA, hNW, hR, hcs⟩ := K
  subst hnl
  intro H locs ls hP hD hS hl
  have hP' : va_P D vwCl (ws ++ va_pl [] (fun _ => .inr (0, []))) H := by rw [show va_pl [] (fun _ => .inr (0, [])) = ([] : va_W) from rfl, List.append_nil]; exact hP
  have hD' : va_D A (ws ++ va_pl [] (fun _ => .inr (0, []))) := by rw [show va_pl [] (fun _ => .inr (0, [])) = ([] : va_W) from rfl, List.append_nil]; exact hD
  refine va_mna (ty := .int) (cy := cy.2) (z := (K2, .inl (fun _ => 0))) hx hb hown (hts _ hcl) (hNW.2.2.1) (hts _ hm) (hK.2 1 _ rfl).2 hK hP' hD' hS hA hn hk hN hM (by omega) (by show K2 * 4 ≤ 536870912; omega) (by omega) rfl rfl (by omega) (by omega) (fun c => ?_) hdg (fun q r cA H1 _ _ hK1 hP1 hD1 hS1 => ?_)
  · show ({ cls := c, slots := Array.replicate K2 (defaultValue .int), vm := .none } : Cell) = _
    rw [arrV_new]; rfl
  · rw [List.nil_append, va_pl_const] at hP1 hD1
    exact k q r cA hK1 H1 locs ls hP1 hD1 hS1 hl
theorem C_mnaB {x : Bx} {cc : ByteArray} {own : String} {nL d cN sN pc : Nat} {lv : List (Nat × Value)} {st : List Value} {ws : va_W} {cn sn : Nat} {ini : Bool} {n kk2 : Int32} {N K2 idx : Nat} (K : CK x cc own nL d cN sN ini) (hcl : Cond.classLink own idx ("[" ++ (FieldType.array .byte).toString) ∈ TB) (hm : Cond.arrayClass .byte ∈ TB) (hn : ¬ n < 0) (hk : ¬ kk2 < 0) (hN : n.toNatClampNeg = N) (hM : kk2.toNatClampNeg = K2) (hb1 : N ≤ 100) (hb2 : K2 ≤ 100) (h1 : cn + (1 + N) ≤ cN) (h2 : sn + (N + N * K2) ≤ sN) (hdg : decode cc pc = .ok (.multianewarray idx 2, 4)) (k : ∀ (q : Nat) (r : Nat → Nat) (cA : ClassId), va_K x.2.2.1 vwCl (tyB x.2.2.2.1 ++ [(cA, .array .byte)]) x.1.2.2.2.2.1 → CV x (pc + 4) lv (.ref q :: st) ((ws ++ [(q, .inl (cA, N, .inr (.inr (.inr (.inr (fun i => if i < N then some (r i) else none))))))]) ++ ((List.range N).map r).map (fun a => (a, .inl (x.2.2.2.1.1, K2, .inl (fun _ => 0))))) (cn + 1 + N) (sn + N + N * K2)) : CV x pc lv (.int kk2 :: .int n :: st) ws cn sn := by
  obtain ⟨⟨p, l, e, R, s, m, args, below, meth, c⟩, A, D, cy, nL0, Q⟩ := x
  obtain ⟨hx, hb, hr, hlocks, hin, hml, hnl, hown, hts, hK, hA, hNW, hR, hcs⟩ := K
  subst hnl
  intro H locs ls hP hD hS hl
  have hP' : va_P D vwCl (ws ++ va_pl [] (fun _ => .inr (0, []))) H := by rw [show va_pl [] (fun _ => .inr (0, [])) = ([] : va_W) from rfl, List.append_nil]; exact hP
  have hD' : va_D A (ws ++ va_pl [] (fun _ => .inr (0, []))) := by rw [show va_pl [] (fun _ => .inr (0, [])) = ([] : va_W) from rfl, List.append_nil]; exact hD
  refine va_mna (ty := .byte) (cy := cy.1) (z := (K2, .inl (fun _ => 0))) hx hb hown (hts _ hcl) (hNW.2.2.2) (hts _ hm) (hK.2 0 _ rfl).2 hK hP' hD' hS hA hn hk hN hM (by omega) (by show K2 * 1 ≤ 536870912; omega) (by omega) rfl rfl (by omega) (by omega) (fun c => ?_) hdg (fun q r cA H1 _ _ hK1 hP1 hD1 hS1 => ?_)
  · show ({ cls := c, slots := Array.replicate K2 (defaultValue .byte), vm := .none } : Cell) = _
    rw [arrV_new]; rfl
  · rw [List.nil_append, va_pl_const] at hP1 hD1
    exact k q r cA hK1 H1 locs ls hP1 hD1 hS1 hl
theorem C_newq {x : Bx} {cc : ByteArray} {own : String} {nL d cN sN pc : Nat} {lv : List (Nat × Value)} {st : List Value} {ws : va_W} {cn sn : Nat} {ini : Bool} {n : Int32} {N idx : Nat} (K : CK x cc own nL d cN sN ini) (hcl : Cond.classLink own idx "FlossRumours$Deeds" ∈ TB) (hn : ¬ n < 0) (hN : n.toNatClampNeg = N) (hb1 : N ≤ 100) (h1 : cn + 1 ≤ cN) (h2 : sn + N ≤ sN) (hdg : decode cc pc = .ok (.anewarray idx, 3)) (k : ∀ (q : Nat) (cA : ClassId), va_K x.2.2.1 vwCl (tyB x.2.2.2.1 ++ [(cA, .object "FlossRumours$Deeds")]) x.1.2.2.2.2.1 → CV x (pc + 3) lv (.ref q :: st) (ws ++ [(q, .inl (cA, N, .inr (.inr (.inr (.inr (fun _ => none))))))]) (cn + 1) (sn + N)) : CV x pc lv (.int n :: st) ws cn sn := by
  obtain ⟨⟨p, l, e, R, s, m, args, below, meth, c⟩, A, D, cy, nL0, Q⟩ := x
  obtain ⟨hx, hb, hr, hlocks, hin, hml, hnl, hown, hts, hK, hA, hNW, hR, hcs⟩ := K
  subst hnl
  intro H locs ls hP hD hS hl
  exact va_newq hx hb hown (hts _ hcl) hNW.2.1 hK hP hD hS hA hn hN (by omega) (by omega) (by omega) hdg (fun q cA H1 hK1 hP1 hD1 hS1 => k q cA hK1 H1 locs ls hP1 hD1 hS1 hl)
theorem C_aast {x : Bx} {cc : ByteArray} {own : String} {nL d cN sN pc : Nat} {lv : List (Nat × Value)} {st : List Value} {ws : va_W} {cn sn : Nat} {ini : Bool} {a v n : Nat} {cA : ClassId} {vs : List Value} {f : Nat → Option Nat} {i : Int32} (K : CK x cc own nL d cN sN ini) (hK9 : va_K x.2.2.1 vwCl (tyB x.2.2.2.1 ++ [(cA, .object "FlossRumours$Deeds")]) x.1.2.2.2.2.1) (q0 qk : Nat) (ha : ws[q0]? = some (a, .inl (cA, n, .inr (.inr (.inr (.inr f)))))) (hv : ws[qk]? = some (v, .inr (3, vs))) (hi : vp_in i n) (hdg : decode cc pc = .ok (.aastore, 1)) (kk : CV x (pc + 1) lv st (ws.set q0 (a, .inl (cA, n, .inr (.inr (.inr (.inr (va_up f i.toNatClampNeg (some v)))))))) cn sn) : CV x pc lv (.ref v :: .int i :: .ref a :: st) ws cn sn := by
  obtain ⟨⟨p, l, e, R, s, m, args, below, meth, c⟩, A, D, cy, nL0, Q⟩ := x
  obtain ⟨hx, hb, hr, hlocks, hin, hml, hnl, hown, hts, hK, hA, hNW, hR, hcs⟩ := K
  subst hnl
  intro H locs ls hP hD hS hl
  exact va_astq (r := (RX3, TX3, 2)) hx hb hK9 hP hD hS q0 2 qk 3 ha rfl hv rfl hi hdg (fun H1 locs1 hP1 hD1 hS1 => kk H1 locs1 ls hP1 hD1 hS1 hl)
theorem C_alen {x : Bx} {cc : ByteArray} {own : String} {nL d cN sN pc : Nat} {lv : List (Nat × Value)} {st : List Value} {ws : va_W} {cn sn : Nat} {ini : Bool} {a n : Nat} {f : Nat → Int32} (K : CK x cc own nL d cN sN ini) (q0 : Nat) (ha : ws[q0]? = some (a, .inl (x.2.2.2.1.2, n, .inl f))) (hdg : decode cc pc = .ok (.arraylength, 1)) (kk : CV x (pc + 1) lv (.int (Int32.ofNat n) :: st) ws cn sn) : CV x pc lv (.ref a :: st) ws cn sn := by
  obtain ⟨⟨p, l, e, R, s, m, args, below, meth, c⟩, A, D, cy, nL0, Q⟩ := x
  obtain ⟨hx, hb, hr, hlocks, hin, hml, hnl, hown, hts, hK, hA, hNW, hR, hcs⟩ := K
  subst hnl
  intro H locs ls hP hD hS hl
  exact va_alen hx hb hK hP q0 1 ha rfl rfl hdg (kk H locs ls hP hD hS hl)
theorem C_iast {x : Bx} {cc : ByteArray} {own : String} {nL d cN sN pc : Nat} {lv : List (Nat × Value)} {st : List Value} {ws : va_W} {cn sn : Nat} {ini : Bool} {a n : Nat} {f : Nat → Int32} {i v : Int32} (K : CK x cc own nL d cN sN ini) (q0 : Nat) (ha : ws[q0]? = some (a, .inl (x.2.2.2.1.2, n, .inl f))) (hi : vp_in i n) (hdg : decode cc pc = .ok (.iastore, 1)) (kk : CV x (pc + 1) lv st (ws.set q0 (a, .inl (x.2.2.2.1.2, n, .inl (upd f i.toNatClampNeg v)))) cn sn) : CV x pc lv (.int v :: .int i :: .ref a :: st) ws cn sn := by
  obtain ⟨⟨p, l, e, R, s, m, args, below, meth, c⟩, A, D, cy, nL0, Q⟩ := x
  obtain ⟨hx, hb, hr, hlocks, hin, hml, hnl, hown, hts, hK, hA, hNW, hR, hcs⟩ := K
  subst hnl
  intro H locs ls hP hD hS hl
  exact va_iast hx hb hK hP hD hS q0 1 ha rfl hi hdg (fun H1 locs1 hP1 hD1 hS1 => kk H1 locs1 ls hP1 hD1 hS1 hl)
theorem C_callS {x : Bx} {cc : ByteArray} {own : String} {nL d cN sN pc : Nat} {lv : List (Nat × Value)} {st : List Value} {ws : va_W} {cn sn : Nat} {ini : Bool} {y : MethodName} {bytes : ByteArray} {maxL idx n fr cN2 sN2 : Nat} {As : List Value} {w0 wr : va_W} {post : va_W → State → Prop} (K : CK x cc own nL (d + 1) cN sN ini) (Rn : BR fr cN2 sN2 y bytes maxL As x.2.2.1 x.2.2.2.1 w0 post) (isC isR : List Nat) (hC : isC.map (fun i => ws[i]?) = w0.map some) (hRr : isR.map (fun i => ws[i]?) = wr.map some) (hndC : va_nd isC = true) (hnd : va_nd isR = true) (hdis : ∀ i ∈ isR, i ∉ isC) (hm1 : Cond.methodLink own idx y ∈ TB) (hm2 : Cond.static y ∈ TB) (hm4 : Cond.initialized y.cls ∈ TB) (hd : y.cls ≠ "java/lang/invoke/MethodHandle" ∧ y.cls ≠ "java/lang/invoke/VarHandle" ∧ (parseMethodDescriptor y.desc).map (fun d => d.parameters.length) = some n) (hm5 : Cond.code y bytes maxL none ∈ TB) (hx5 : maxL ≤ 20) (hfr : fr ≤ d) (h1 : cn + cN2 ≤ cN) (h2 : sn + sN2 ≤ sN) (hdg : decode cc pc = .ok (.invokestatic idx, 3)) (hn : As.length = n) (hW : (st.map fun v => v.category).sum ≤ 8) (kk : ∀ w1 t, x.1.2.2.2.2.1.vm.Alike t.vm → post w1 t → CV x (pc + 3) lv st (wr ++ w1) (cn + cN2) (sn + sN2)) : CV x pc lv (As.reverse ++ st) ws cn sn := by
  obtain ⟨⟨p, l, e, R, s, m, args, below, meth, c⟩, A, D, cy, nL0, Q⟩ := x
  obtain ⟨hx, hb, hr, hlocks, hin, hml, hnl, hown, hts, hK, hA, hNW, hR, hcs⟩ := K
  subst hnl
  intro H locs ls hP hD hS hl
  have hF := va_free (wc := w0) hD hS hA isC hC
  have hP0 : va_P D vwCl w0 H := fun j q hq => by
    have h1 : (isC.map (fun i => ws[i]?))[j]? = some (some q) := by rw [hC, List.getElem?_map, hq]; rfl
    rw [List.getElem?_map] at h1
    cases hi : isC[j]? with
    | none => rw [hi] at h1; cases h1
    | some i => rw [hi] at h1; exact hP i q (Option.some.inj h1)
  have hD0 : va_D (fun _ => True) w0 := (hD.sub isC hndC hC).weaken (fun _ _ _ _ => trivial)
  have hbl9 : FrameBlind (va_Pc As (fun U => U.heap.size = H.size ∧ va_P D vwCl w0 U.heap ∧ va_K D vwCl (tyB cy) U ∧ va_D (fun _ => True) w0 ∧ NW U)) := fun a U g mk q => by
    obtain ⟨q0, q1, qP, qK, qD, qE⟩ := q
    exact ⟨q0, q1, qP, va_K.moved (u := U) (U := U.calling g mk a) (Vm.Alike.refl U.vm) qK, qD, qE.same rfl⟩
  have hpre : ∀ U : State, U.heap = H → s.WarmedH U.vm → va_Pc As (fun U => U.heap.size = H.size ∧ va_P D vwCl w0 U.heap ∧ va_K D vwCl (tyB cy) U ∧ va_D (fun _ => True) w0 ∧ NW U) As.toArray U := fun U hU hW => ⟨rfl, by rw [hU], by rw [hU]; exact hP0, va_K.moved hW.alike hK, hD0, hNW.warm hW⟩
  have hGI : GoodIn TB (.code y bytes maxL none :: TB) := fun w hw => by
    rcases List.mem_cons.mp hw with e | hw
    · rw [e]; exact TB_self _ hm5
    · exact TB_self _ hw
  have hroom : fr + 1 ≤ R.frames ∧ 8 + (maxL + 11) + 40 * fr ≤ R.locals := by omega
  have hT9 : GoodIn TB (va_wsS own idx y (.code y bytes maxL none :: TB)) := fun w hw => by
    rcases List.mem_append.mp hw with h9 | h9
    · rcases List.mem_cons.mp h9 with e | h9
      · rw [e]; exact TB_self _ hm1
      · rcases List.mem_cons.mp h9 with e | h9
        · rw [e]; exact TB_self _ hm2
        · rcases List.mem_cons.mp h9 with e | h9
          · rw [e]; exact TB_self _ hm4
          · cases h9
    · exact hGI _ h9
  have RR := va_runS (locs := locs) (cells := cn) (slots := sn) (below := below) (e := e) (meth := meth) (H := H) (rest := st) (As := As) (g := F0 m pc ls (As.reverse ++ st)) ⟨hx, hb, hml, hown, hts⟩ (Rn l H.size) (va_cwS n hts hT9 rfl rfl rfl hd hroom) ⟨hbl9, hpre⟩ rfl hn hl.1 rfl (by show 2 * 0 + _ ≤ 8; omega) hdg ⟨by omega, by omega⟩
  intro T hT X
  obtain ⟨v, st₀, t, T', L, h0, X', hL, e1, e2, ⟨hv, ⟨w1, hpo, hP1, hD1⟩, hFr⟩, stp⟩ := RR T hT X
  cases hv
  have hz : H.size ≤ t.heap.size := by have := hFr.1; rw [h0] at this; exact this
  have hkk : ∀ q : Nat, q < H.size → ¬ va_A w0 H.size q → t.heap[q]? = H[q]? := fun q h1 h2 => by have := hFr.2 q (by rw [h0]; exact h1) h2; rw [h0] at this; exact this
  obtain ⟨hP2, hD2⟩ := va_join (wr := wr) hP hD isC isR hC hRr hnd hdis hkk hF hP1 hD1
  obtain ⟨t2, a1, b1⟩ := kk w1 t (by rw [← e2]; exact X'.warmed.alike) hpo T'.heap (locs ++ L) ls (by rw [e1]; exact hP2) hD2 ⟨Nat.le_trans hS.1 (by rw [e1]; exact hz), fun q h1 h2 => by
      rw [e1, hkk q (Nat.lt_of_lt_of_le h1 hS.1) (fun z => h2 (hF q z))]; exact hS.2.1 q h1 h2, fun q hq => by
      rcases List.mem_append.mp hq with h | h
      · exact hS.2.2 q h
      · exact hF _ (hL q h)⟩ hl T' rfl X'
  exact ⟨t2, stp t2 a1, b1⟩
theorem C_callV {x : Bx} {cc : ByteArray} {own : String} {nL d cN sN pc : Nat} {lv : List (Nat × Value)} {st : List Value} {ws : va_W} {cn sn : Nat} {ini : Bool} {y : MethodName} {bytes : ByteArray} {maxL idx n fr cN2 sN2 b : Nat} {As : List Value} {w0 wr : va_W} {post : va_W → State → Prop} {ci : Nat} {fs : List Value} {T9 : u_T} {N9 : Nat} (K : CK x cc own nL (d + 1) cN sN ini) (Rn : BR fr cN2 sN2 y bytes maxL (.ref b :: As) x.2.2.1 x.2.2.2.1 w0 post) (isC isR : List Nat) (hC : isC.map (fun i => ws[i]?) = w0.map some) (hRr : isR.map (fun i => ws[i]?) = wr.map some) (hndC : va_nd isC = true) (hnd : va_nd isR = true) (hdis : ∀ i ∈ isR, i ∉ isC) (hcl : vwCl[ci]? = some (y.cls, T9, N9)) (h0e : w0[0]? = some (b, .inr (ci, fs))) (hm3 : Cond.selects y.cls y y ∈ TB) (hm1 : Cond.methodLink own idx y ∈ TB) (hm2 : Cond.instanceMethod y ∈ TB) (hm4 : Cond.initialized y.cls ∈ TB) (hd : y.cls ≠ "java/lang/invoke/MethodHandle" ∧ y.cls ≠ "java/lang/invoke/VarHandle" ∧ (parseMethodDescriptor y.desc).map (fun d => d.parameters.length) = some n) (hm5 : Cond.code y bytes maxL none ∈ TB) (hx5 : maxL ≤ 20) (hfr : fr ≤ d) (h1 : cn + cN2 ≤ cN) (h2 : sn + sN2 ≤ sN) (hdg : decode cc pc = .ok (.invokevirtual idx, 3)) (hn : As.length = n) (hW : (st.map fun v => v.category).sum ≤ 8) (kk : ∀ w1 t, x.1.2.2.2.2.1.vm.Alike t.vm → post w1 t → CV x (pc + 3) lv st (wr ++ w1) (cn + cN2) (sn + sN2)) : CV x pc lv (As.reverse ++ .ref b :: st) ws cn sn := by
  obtain ⟨⟨p, l, e, R, s, m, args, below, meth, c⟩, A, D, cy, nL0, Q⟩ := x
  obtain ⟨hx, hb, hr, hlocks, hin, hml, hnl, hown, hts, hK, hA, hNW, hR, hcs⟩ := K
  subst hnl
  intro H locs ls hP hD hS hl
  have hF := va_free (wc := w0) hD hS hA isC hC
  have hP0 : va_P D vwCl w0 H := fun j q hq => by
    have h1 : (isC.map (fun i => ws[i]?))[j]? = some (some q) := by rw [hC, List.getElem?_map, hq]; rfl
    rw [List.getElem?_map] at h1
    cases hi : isC[j]? with
    | none => rw [hi] at h1; cases h1
    | some i => rw [hi] at h1; exact hP i q (Option.some.inj h1)
  have hD0 : va_D (fun _ => True) w0 := (hD.sub isC hndC hC).weaken (fun _ _ _ _ => trivial)
  have hbl9 : FrameBlind (va_Pc (.ref b :: As) (fun U => U.heap.size = H.size ∧ va_P D vwCl w0 U.heap ∧ va_K D vwCl (tyB cy) U ∧ va_D (fun _ => True) w0 ∧ NW U)) := fun a U g mk q => by
    obtain ⟨q0, q1, qP, qK, qD, qE⟩ := q
    exact ⟨q0, q1, qP, va_K.moved (u := U) (U := U.calling g mk a) (Vm.Alike.refl U.vm) qK, qD, qE.same rfl⟩
  have hpre : ∀ U : State, U.heap = H → s.WarmedH U.vm → va_Pc (.ref b :: As) (fun U => U.heap.size = H.size ∧ va_P D vwCl w0 U.heap ∧ va_K D vwCl (tyB cy) U ∧ va_D (fun _ => True) w0 ∧ NW U) (.ref b :: As).toArray U := fun U hU hW => ⟨rfl, by rw [hU], by rw [hU]; exact hP0, va_K.moved hW.alike hK, hD0, hNW.warm hW⟩
  have hGI : GoodIn TB (.code y bytes maxL none :: TB) := fun w hw => by
    rcases List.mem_cons.mp hw with e | hw
    · rw [e]; exact TB_self _ hm5
    · exact TB_self _ hw
  have hroom : fr + 1 ≤ R.frames ∧ 8 + (maxL + 11) + 40 * fr ≤ R.locals := by omega
  have hT9 : GoodIn TB (wsV own idx y.cls y (.code y bytes maxL none :: TB)) := fun w hw => by
    rcases List.mem_append.mp hw with h9 | h9
    · rcases List.mem_cons.mp h9 with e | h9
      · rw [e]; exact TB_self _ hm1
      · rcases List.mem_cons.mp h9 with e | h9
        · rw [e]; exact TB_self _ hm2
        · rcases List.mem_cons.mp h9 with e | h9
          · rw [e]; exact TB_self _ hm3
          · rcases List.mem_cons.mp h9 with e | h9
            · rw [e]; exact TB_self _ hm4
            · cases h9
    · exact hGI _ h9
  have RR := va_runV (locs := locs) (cells := cn) (slots := sn) (below := below) (e := e) (meth := meth) (H := H) (rest := st) (As := As) (b := b) (g := F0 m pc ls (As.reverse ++ .ref b :: st)) ⟨hx, hb, hml, hown, hts⟩ (Rn l H.size) (cwV n hts hT9 rfl rfl rfl ⟨rfl, hd⟩ hroom) ⟨hbl9, va_recv hK hP0 hcl h0e, hpre⟩ rfl hn hl.1 rfl (by show 2 * 0 + _ ≤ 8; omega) hdg ⟨by omega, by omega⟩
  intro T hT X
  obtain ⟨v, st₀, t, T', L, h0, X', hL, e1, e2, ⟨hv, ⟨w1, hpo, hP1, hD1⟩, hFr⟩, stp⟩ := RR T hT X
  cases hv
  have hz : H.size ≤ t.heap.size := by have := hFr.1; rw [h0] at this; exact this
  have hkk : ∀ q : Nat, q < H.size → ¬ va_A w0 H.size q → t.heap[q]? = H[q]? := fun q h1 h2 => by have := hFr.2 q (by rw [h0]; exact h1) h2; rw [h0] at this; exact this
  obtain ⟨hP2, hD2⟩ := va_join (wr := wr) hP hD isC isR hC hRr hnd hdis hkk hF hP1 hD1
  obtain ⟨t2, a1, b1⟩ := kk w1 t (by rw [← e2]; exact X'.warmed.alike) hpo T'.heap (locs ++ L) ls (by rw [e1]; exact hP2) hD2 ⟨Nat.le_trans hS.1 (by rw [e1]; exact hz), fun q h1 h2 => by
      rw [e1, hkk q (Nat.lt_of_lt_of_le h1 hS.1) (fun z => h2 (hF q z))]; exact hS.2.1 q h1 h2, fun q hq => by
      rcases List.mem_append.mp hq with h | h
      · exact hS.2.2 q h
      · exact hF _ (hL q h)⟩ hl T' rfl X'
  exact ⟨t2, stp t2 a1, b1⟩
