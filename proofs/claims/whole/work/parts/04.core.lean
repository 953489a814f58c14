def TB : List Cond := lw_tbl.filter goodWord
theorem TB_in {w : Cond} (h : w ∈ lw_tbl) (hg : goodWord w = true) : w ∈ TB := List.mem_filter.mpr ⟨h, hg⟩
theorem TB_at (i : Nat) {w : Cond} (h : tables_1[i]? = some w) (hg : goodWord w = true) : w ∈ TB := TB_in (List.mem_append_right _ (List.mem_of_getElem? h)) hg
theorem TB_sel (i : Nat) {w : Cond} (h : (k2_sels lw_privs)[i]? = some w) (hg : goodWord w = true) : w ∈ TB := TB_in (List.mem_append_left _ (List.mem_of_getElem? h)) hg
theorem TB_self : GoodIn TB TB := fun w h => ⟨h, good_of_word (List.mem_filter.mp h).2⟩
abbrev Hp : Type := (Nat → Nat → Int32) × (Nat → Nat → Int64)
abbrev Gx : Type := va_G × (Nat → ClassId) × (Nat → Nat) × Nat

def shL : List (Nat × Nat) := [(9, 0), (15, 6), (12, 40), (12, 40), (12, 40), (12, 40), (12, 40), (12, 40), (12, 6), (14, 4), (11, 60), (11, 60), (11, 60), (11, 60), (12, 4), (4, 0), (12, 6), (12, 6), (12, 6), (4, 0), (12, 6), (12, 6), (12, 6), (4, 0), (12, 6), (12, 6), (12, 6), (3, 0), (12, 40), (13, 3), (3, 0), (12, 40), (3, 0), (12, 40), (3, 0), (12, 40), (15, 6), (12, 31), (12, 31), (12, 31), (12, 31), (12, 31), (12, 31), (12, 6), (6, 0), (7, 0), (1, 0), (0, 0), (8, 0), (2, 0), (5, 0), (10, 0), (12, 2805), (12, 6), (12, 3), (12, 240), (12, 6), (12, 240), (12, 4), (12, 6), (12, 6), (12, 6), (12, 6), (12, 31), (12, 81)]
def shK (i : Nat) : Nat := (shL.getD i (99, 0)).1
def shN (i : Nat) : Nat := (shL.getD i (99, 0)).2
def rfL : List (List (Option Nat)) := [[some 1, some 8, some 9, some 14, some 15, some 19, some 23, some 27, some 29, some 36, some 43], [some 2, some 3, some 4, some 5, some 6, some 7], [], [], [], [], [], [], [], [some 10, some 11, some 12, some 13], [], [], [], [], [], [some 44, some 16, some 17, some 18], [], [], [], [some 44, some 20, some 21, some 22], [], [], [], [some 44, some 24, some 25, some 26], [], [], [], [some 28], [], [some 30, some 32, some 34], [some 31], [], [some 33], [], [some 35], [], [some 37, some 38, some 39, some 40, some 41, some 42], [], [], [], [], [], [], [], [some 45, some 46, some 47, some 48, some 49, some 50], [], [], [], [], [], [], [some 52, some 53, none, none, none, none, some 54, some 55, some 56, some 57, some 58, some 59, none, none, none, none, none, none, none, none, some 60, some 61, some 62, some 63, some 64], [], [], [], [], [], [], [], [], [], [], [], [], []]
def rf (i j : Nat) : Option Nat := (rfL.getD i []).getD j none
abbrev rv (G : Gx) (i j : Nat) : Value := va_rf ((rf i j).map G.2.2.1)
def cl_ (G : Gx) (h : Hp) (i : Nat) : va_E := match shK i with
  | 0 => .inr (0, [])
  | 1 => .inr (1, [])
  | 2 => .inr (2, [])
  | 3 => .inr (3, [rv G i 0, .int (h.1 i 1)])
  | 4 => .inr (4, [rv G i 0, rv G i 1, rv G i 2, rv G i 3, .int (h.1 i 4), .int (h.1 i 5), .int (h.1 i 6), .int (h.1 i 7), .int (h.1 i 8), .int (h.1 i 9), .int (h.1 i 10), .int (h.1 i 11)])
  | 5 => .inr (5, [])
  | 6 => .inr (6, [rv G i 0, rv G i 1, rv G i 2, rv G i 3, rv G i 4, rv G i 5])
  | 7 => .inr (7, [])
  | 8 => .inr (8, [])
  | 9 => .inr (9, [rv G i 0, rv G i 1, rv G i 2, rv G i 3, rv G i 4, rv G i 5, rv G i 6, rv G i 7, rv G i 8, rv G i 9, rv G i 10, .int (h.1 i 11), .int (h.1 i 12), .long (h.2 i 13), .long (h.2 i 14)])
  | 10 => .inr (10, [rv G i 0, rv G i 1, .int (h.1 i 2), .int (h.1 i 3), .int (h.1 i 4), .int (h.1 i 5), rv G i 6, rv G i 7, rv G i 8, rv G i 9, rv G i 10, rv G i 11, .int (h.1 i 12), .int (h.1 i 13), .long (h.2 i 14), .long (h.2 i 15), .int (h.1 i 16), .int (h.1 i 17), .int (h.1 i 18), .int (h.1 i 19), rv G i 20, rv G i 21, rv G i 22, rv G i 23, rv G i 24])
  | 11 => .inl (G.2.1 0, shN i, .inl (h.1 i))
  | 12 => .inl (G.2.1 1, shN i, .inl (h.1 i))
  | 13 => .inl (G.2.1 2, shN i, .inr (.inr (.inr (.inr (fun j => (rf i j).map G.2.2.1)))))
  | 14 => .inl (G.2.1 3, shN i, .inr (.inr (.inr (.inr (fun j => (rf i j).map G.2.2.1)))))
  | _ => .inl (G.2.1 4, shN i, .inr (.inr (.inr (.inr (fun j => (rf i j).map G.2.2.1)))))
theorem cl_0 {G : Gx} {h : Hp} {i : Nat} (hk : shK i = 0) : cl_ G h i = .inr (0, []) := by unfold cl_; rw [hk]; rfl
theorem cl_1 {G : Gx} {h : Hp} {i : Nat} (hk : shK i = 1) : cl_ G h i = .inr (1, []) := by unfold cl_; rw [hk]; rfl
theorem cl_2 {G : Gx} {h : Hp} {i : Nat} (hk : shK i = 2) : cl_ G h i = .inr (2, []) := by unfold cl_; rw [hk]; rfl
theorem cl_3 {G : Gx} {h : Hp} {i : Nat} (hk : shK i = 3) : cl_ G h i = .inr (3, [rv G i 0, .int (h.1 i 1)]) := by unfold cl_; rw [hk]; rfl
theorem cl_4 {G : Gx} {h : Hp} {i : Nat} (hk : shK i = 4) : cl_ G h i = .inr (4, [rv G i 0, rv G i 1, rv G i 2, rv G i 3, .int (h.1 i 4), .int (h.1 i 5), .int (h.1 i 6), .int (h.1 i 7), .int (h.1 i 8), .int (h.1 i 9), .int (h.1 i 10), .int (h.1 i 11)]) := by unfold cl_; rw [hk]; rfl
theorem cl_5 {G : Gx} {h : Hp} {i : Nat} (hk : shK i = 5) : cl_ G h i = .inr (5, []) := by unfold cl_; rw [hk]; rfl
theorem cl_6 {G : Gx} {h : Hp} {i : Nat} (hk : shK i = 6) : cl_ G h i = .inr (6, [rv G i 0, rv G i 1, rv G i 2, rv G i 3, rv G i 4, rv G i 5]) := by unfold cl_; rw [hk]; rfl
theorem cl_7 {G : Gx} {h : Hp} {i : Nat} (hk : shK i = 7) : cl_ G h i = .inr (7, []) := by unfold cl_; rw [hk]; rfl
theorem cl_8 {G : Gx} {h : Hp} {i : Nat} (hk : shK i = 8) : cl_ G h i = .inr (8, []) := by unfold cl_; rw [hk]; rfl
theorem cl_9 {G : Gx} {h : Hp} {i : Nat} (hk : shK i = 9) : cl_ G h i = .inr (9, [rv G i 0, rv G i 1, rv G i 2, rv G i 3, rv G i 4, rv G i 5, rv G i 6, rv G i 7, rv G i 8, rv G i 9, rv G i 10, .int (h.1 i 11), .int (h.1 i 12), .long (h.2 i 13), .long (h.2 i 14)]) := by unfold cl_; rw [hk]; rfl
theorem cl_10 {G : Gx} {h : Hp} {i : Nat} (hk : shK i = 10) : cl_ G h i = .inr (10, [rv G i 0, rv G i 1, .int (h.1 i 2), .int (h.1 i 3), .int (h.1 i 4), .int (h.1 i 5), rv G i 6, rv G i 7, rv G i 8, rv G i 9, rv G i 10, rv G i 11, .int (h.1 i 12), .int (h.1 i 13), .long (h.2 i 14), .long (h.2 i 15), .int (h.1 i 16), .int (h.1 i 17), .int (h.1 i 18), .int (h.1 i 19), rv G i 20, rv G i 21, rv G i 22, rv G i 23, rv G i 24]) := by unfold cl_; rw [hk]; rfl
theorem cl_11 {G : Gx} {h : Hp} {i : Nat} (hk : shK i = 11) : cl_ G h i = .inl (G.2.1 0, shN i, .inl (h.1 i)) := by unfold cl_; rw [hk]; rfl
theorem cl_12 {G : Gx} {h : Hp} {i : Nat} (hk : shK i = 12) : cl_ G h i = .inl (G.2.1 1, shN i, .inl (h.1 i)) := by unfold cl_; rw [hk]; rfl
theorem cl_13 {G : Gx} {h : Hp} {i : Nat} (hk : shK i = 13) : cl_ G h i = .inl (G.2.1 2, shN i, .inr (.inr (.inr (.inr (fun j => (rf i j).map G.2.2.1))))) := by unfold cl_; rw [hk]; rfl
theorem cl_14 {G : Gx} {h : Hp} {i : Nat} (hk : shK i = 14) : cl_ G h i = .inl (G.2.1 3, shN i, .inr (.inr (.inr (.inr (fun j => (rf i j).map G.2.2.1))))) := by unfold cl_; rw [hk]; rfl
theorem cl_15 {G : Gx} {h : Hp} {i : Nat} (hk : shK i = 15) : cl_ G h i = .inl (G.2.1 4, shN i, .inr (.inr (.inr (.inr (fun j => (rf i j).map G.2.2.1))))) := by unfold cl_; rw [hk]; rfl
theorem sh_lt {i k : Nat} (hk : shK i = k) (h9 : k < 99) : i < 65 := by
  rcases Nat.lt_or_ge i 65 with q | q
  · exact q
  · have : shK i = 99 := by unfold shK; rw [List.getD_eq_getElem?_getD, List.getElem?_eq_none (by exact q)]; rfl
    omega
def wd (G : Gx) (h : Hp) : va_W := (List.range 65).map (fun i => (G.2.2.1 i, cl_ G h i))
theorem wd_get {G : Gx} {h : Hp} {i : Nat} (hi : i < 65) : (wd G h)[i]? = some (G.2.2.1 i, cl_ G h i) := by
  unfold wd; rw [List.getElem?_map, List.getElem?_range hi]; rfl
theorem wd_none {G : Gx} {h : Hp} {i : Nat} (hi : ¬ i < 65) : (wd G h)[i]? = none := by
  unfold wd; rw [List.getElem?_map, List.getElem?_eq_none (by rw [List.length_range]; omega)]; rfl
theorem wd_set {G : Gx} {h h' : Hp} {i : Nat} (hi : i < 65) (ho : ∀ j, j ≠ i → cl_ G h' j = cl_ G h j) : (wd G h).set i (G.2.2.1 i, cl_ G h' i) = wd G h' := by
  apply List.ext_getElem?
  intro j
  have hlen : (wd G h).length = 65 := by unfold wd; rw [List.length_map, List.length_range]
  by_cases hj : j = i
  · subst hj
    rw [List.getElem?_set_self (by rw [hlen]; exact hi), wd_get hi]
  · rw [List.getElem?_set_ne (fun q => hj q.symm)]
    rcases Nat.lt_or_ge j 65 with q | q
    · rw [wd_get q, wd_get q, ho j hj]
    · rw [wd_none (by omega), wd_none (by omega)]
theorem wd_D {A : Nat → Prop} {G : Gx} {h h' : Hp} (hD : va_D A (wd G h)) : va_D A (wd G h') := by
  refine ⟨fun i j p q hi hj e => ?_, fun k q hk => ?_⟩
  · rcases Nat.lt_or_ge i 65 with a | a
    · rcases Nat.lt_or_ge j 65 with b | b
      · rw [wd_get a] at hi; rw [wd_get b] at hj
        cases hi; cases hj
        exact hD.1 i j _ _ (wd_get a) (wd_get b) e
      · rw [wd_none (by omega)] at hj; cases hj
    · rw [wd_none (by omega)] at hi; cases hi
  · rcases Nat.lt_or_ge k 65 with a | a
    · rw [wd_get a] at hk; cases hk
      exact hD.2 k (G.2.2.1 k, cl_ G h k) (wd_get a)
    · rw [wd_none (by omega)] at hk; cases hk
theorem wd_A {G : Gx} {h h' : Hp} {sz q : Nat} (hq : va_A (wd G h) sz q) : va_A (wd G h') sz q := by
  rcases hq with ⟨k, e, hk⟩ | hq
  · rcases Nat.lt_or_ge k 65 with a | a
    · rw [wd_get a] at hk; cases hk
      exact Or.inl ⟨k, _, wd_get a⟩
    · rw [wd_none (by omega)] at hk; cases hk
  · exact Or.inr hq
abbrev tyL (G : Gx) : List (ClassId × FieldType) := [(G.2.1 0, .byte), (G.2.1 1, .int), (G.2.1 2, .object "FlossRumours$Deeds"), (G.2.1 3, .array .byte), (G.2.1 4, .array .int)]
/-- writing one int of a cell, one long -/
def up (h : Hp) (i k : Nat) (v : Int32) : Hp := (fun i' k' => if i' = i ∧ k' = k then v else h.1 i' k', h.2)
def upL (h : Hp) (i k : Nat) (v : Int64) : Hp := (h.1, fun i' k' => if i' = i ∧ k' = k then v else h.2 i' k')
/-- a whole array anew -/
def upA (h : Hp) (i : Nat) (f : Nat → Int32) : Hp := (fun i' => if i' = i then f else h.1 i', h.2)
theorem up_ne {h : Hp} {i k : Nat} {v : Int32} {j : Nat} (hj : j ≠ i) : (up h i k v).1 j = h.1 j := by funext k'; simp [up, hj]
theorem upL_ne {h : Hp} {i k : Nat} {v : Int64} {j : Nat} (hj : j ≠ i) : (upL h i k v).2 j = h.2 j := by funext k'; simp [upL, hj]
theorem upA_ne {h : Hp} {i : Nat} {f : Nat → Int32} {j : Nat} (hj : j ≠ i) : (upA h i f).1 j = h.1 j := by simp [upA, hj]
theorem cl_ext {G : Gx} {h h' : Hp} {j : Nat} (e1 : h'.1 j = h.1 j) (e2 : h'.2 j = h.2 j) : cl_ G h' j = cl_ G h j := by unfold cl_; rw [e1, e2]
theorem up_cl {G : Gx} {h : Hp} {i k : Nat} {v : Int32} : ∀ j, j ≠ i → cl_ G (up h i k v) j = cl_ G h j := fun j hj => cl_ext (up_ne hj) rfl
theorem upL_cl {G : Gx} {h : Hp} {i k : Nat} {v : Int64} : ∀ j, j ≠ i → cl_ G (upL h i k v) j = cl_ G h j := fun j hj => cl_ext rfl (upL_ne hj)
theorem upA_cl {G : Gx} {h : Hp} {i : Nat} {f : Nat → Int32} : ∀ j, j ≠ i → cl_ G (upA h i f) j = cl_ G h j := fun j hj => cl_ext (upA_ne hj) rfl
theorem up_at {h : Hp} {i k : Nat} {v : Int32} : (up h i k v).1 i k = v := by simp [up]
theorem up_off {h : Hp} {i k : Nat} {v : Int32} {k' : Nat} (hk : k' ≠ k) : (up h i k v).1 i k' = h.1 i k' := by simp [up, hk]
theorem up_row {h : Hp} {i k : Nat} {v : Int32} : (up h i k v).1 i = upd (h.1 i) k v := by funext k'; by_cases e : k' = k <;> simp [up, upd, e]
theorem upL_at {h : Hp} {i k : Nat} {v : Int64} : (upL h i k v).2 i k = v := by simp [upL]
theorem upL_off {h : Hp} {i k : Nat} {v : Int64} {k' : Nat} (hk : k' ≠ k) : (upL h i k v).2 i k' = h.2 i k' := by simp [upL, hk]
def lettersF : Nat → Value := fun j => .int (([112, 98, 103, 119, 105, 108] : List Int32).getD j 0)

def ncL : List (String × String) := [("FlossRumours$Person", "FlossRumours$Beard"), ("FlossRumours$Bag", "FlossRumours$Beard"), ("FlossRumours$Wasp", "FlossRumours$Beard"), ("FlossRumours$Girl", "FlossRumours$Beard"), ("FlossRumours$Person", "FlossRumours$Bag"), ("FlossRumours$Beard", "FlossRumours$Bag"), ("FlossRumours$Wasp", "FlossRumours$Bag"), ("FlossRumours$Bishop", "FlossRumours$Bag"), ("FlossRumours$Girl", "FlossRumours$Bag"), ("FlossRumours$Person", "FlossRumours$Wasp"), ("FlossRumours$Beard", "FlossRumours$Wasp"), ("FlossRumours$Bag", "FlossRumours$Wasp"), ("FlossRumours$Bishop", "FlossRumours$Wasp"), ("FlossRumours$Person", "FlossRumours$Bishop"), ("FlossRumours$Beard", "FlossRumours$Bishop"), ("FlossRumours$Bag", "FlossRumours$Bishop"), ("FlossRumours$Wasp", "FlossRumours$Bishop"), ("FlossRumours$Girl", "FlossRumours$Bishop"), ("FlossRumours$Person", "FlossRumours$Girl"), ("FlossRumours$Beard", "FlossRumours$Girl"), ("FlossRumours$Bag", "FlossRumours$Girl"), ("FlossRumours$Wasp", "FlossRumours$Girl"), ("FlossRumours$Bishop", "FlossRumours$Girl")]
def ycL : List (String × String) := [("FlossRumours$Bishop", "FlossRumours$Beard"), ("FlossRumours$Girl", "FlossRumours$Wasp")]
def EX (G : Gx) (A : Nat → Prop) (s : State) (H : Heap) : Prop := (∀ q ∈ ncL, va_Nc q.1 q.2 s) ∧ va_Z "FlossRumours" "LETTERS" "[I" (.ref G.2.2.2) A s H ∧ va_T .int G.2.2.2 6 lettersF A s H ∧ ∀ q ∈ ycL, va_Nw (.castable q.1 q.2) s
theorem Yc_moved {C T : String} {s U : State} (hvm : s.vm.Alike U.vm) (hZ : va_Nw (.castable C T) s) : va_Nw (.castable C T) U := va_tabs rfl (rfl : (s.setVm U.vm).vm = U.vm) (by rw [Cond.castable_setVm hvm]; exact hZ)
theorem EX.moved {G : Gx} {A : Nat → Prop} {s u : State} {H : Heap} (hvm : s.vm.Alike u.vm) (h : EX G A s H) : EX G A u H := ⟨fun q hq => (h.1 q hq).moved hvm, h.2.1.moved hvm, h.2.2.1.moved hvm, fun q hq => Yc_moved hvm (h.2.2.2 q hq)⟩
theorem EX.kept {G : Gx} {A : Nat → Prop} {s : State} {H H1 : Heap} (h : EX G A s H) (hq : ∀ a : Nat, a < H.size → ¬ A a → H1[a]? = H[a]?) : EX G A s H1 := ⟨h.1, h.2.1.kept hq, h.2.2.1.kept hq, h.2.2.2⟩
theorem EX.narrow {G : Gx} {A B : Nat → Prop} {s : State} {H : Heap} (h : EX G A s H) (hAB : ∀ q, B q → A q) : EX G B s H := ⟨h.1, h.2.1.narrow hAB, h.2.2.1.narrow hAB, h.2.2.2⟩
abbrev Cx : Type := (Program × Launch × Env × Room × State × MethodId × Array Value × List Frame × Method × Code × Nat × Nat) × (Nat → Prop) × Gx × Nat × Option Value × Hp
abbrev ad (x : Cx) : Nat → Nat := x.2.2.1.2.2.1
def QQ (G : Gx) (A : Nat → Prop) (r : Option Value) (h' : Hp) : Array Value → State → Outcome → State → Prop := fun _ st oc t => oc = .returned r ∧ va_P G.1 vwCl (wd G h') t.heap ∧ va_F A st t
def VV (x : Cx) (pc : Nat) (lv : List (Nat × Value)) (st : List Value) (h : Hp) : Prop := match x with
  | ((p, l, e, R, s, m, args, below, meth, c, cn, sn), A, G, nL, r, h') => ∀ (H : Heap) (locs : List Loc) (ls : Array Slot), va_P G.1 vwCl (wd G h) H → va_S A s.heap H locs → lv_has ls nL lv → W p l e R s m args below meth c H locs cn sn (MQ below (QQ G A r h') args s cn sn A) (F0 m pc ls st)
def Ok (x : Cx) (cc : ByteArray) (own : String) (nL' : Nat) (ret : Option FieldType) (d : Nat) : Prop := match x with
  | ((p, l, e, R, s, m, args, below, meth, c, cn, sn), A, G, nL, r, h') => p.tables.exec = Jvm.exec ∧ c.code = cc ∧ meth.sig.returnType = ret ∧ meth.locks = false ∧ c.maxLocals = nL ∧ nL = nL' ∧ s.vm.findClass own = some m.cls ∧ (∀ w ∈ TB, w.before args s = true) ∧ va_K G.1 vwCl (tyL G) s ∧ (∀ h, va_D A (wd G h)) ∧ (∀ q, s.heap.size ≤ q → A q) ∧ EX G A s s.heap ∧ (d ≤ R.frames ∧ 40 * d ≤ R.locals) ∧ (cn ≤ R.cells ∧ sn ≤ R.slots)

theorem V_iconst {x : Cx} {cc : ByteArray} {own : String} {nL : Nat} {ret : Option FieldType} {d pc : Nat} {lv : List (Nat × Value)} {st : List Value} {h : Hp} {n : Int} (K : Ok x cc own nL ret d) (hdg : decode cc pc = .ok (.iconst n, 1)) (k : VV x (pc + 1) lv (.int (Int32.ofInt n) :: st) h) : VV x pc lv (st) h := by
  obtain ⟨⟨p, l, e, R, s, m, args, below, meth, c, cn, sn⟩, A, G, nL0, r, h'⟩ := x
  obtain ⟨hx, hb, hr, hlocks, hml, hnl, hown, hts, hK, hD, hA, hE, hR, hcs⟩ := K
  subst hnl
  intro H locs ls hP hS hl
  exact lv_iconst hx hb hdg rfl (k H locs ls hP hS hl)
theorem V_bipush {x : Cx} {cc : ByteArray} {own : String} {nL : Nat} {ret : Option FieldType} {d pc : Nat} {lv : List (Nat × Value)} {st : List Value} {h : Hp} {n : Int} (K : Ok x cc own nL ret d) (hdg : decode cc pc = .ok (.bipush n, 2)) (k : VV x (pc + 2) lv (.int (Int8.ofInt n).toInt32 :: st) h) : VV x pc lv (st) h := by
  obtain ⟨⟨p, l, e, R, s, m, args, below, meth, c, cn, sn⟩, A, G, nL0, r, h'⟩ := x
  obtain ⟨hx, hb, hr, hlocks, hml, hnl, hown, hts, hK, hD, hA, hE, hR, hcs⟩ := K
  subst hnl
  intro H locs ls hP hS hl
  exact lv_bipush hx hb hdg rfl (k H locs ls hP hS hl)
theorem V_sipush {x : Cx} {cc : ByteArray} {own : String} {nL : Nat} {ret : Option FieldType} {d pc : Nat} {lv : List (Nat × Value)} {st : List Value} {h : Hp} {n : Int} (K : Ok x cc own nL ret d) (hdg : decode cc pc = .ok (.sipush n, 3)) (k : VV x (pc + 3) lv (.int (Int16.ofInt n).toInt32 :: st) h) : VV x pc lv (st) h := by
  obtain ⟨⟨p, l, e, R, s, m, args, below, meth, c, cn, sn⟩, A, G, nL0, r, h'⟩ := x
  obtain ⟨hx, hb, hr, hlocks, hml, hnl, hown, hts, hK, hD, hA, hE, hR, hcs⟩ := K
  subst hnl
  intro H locs ls hP hS hl
  exact lv_sipush hx hb hdg rfl (k H locs ls hP hS hl)
theorem V_ic {x : Cx} {cc : ByteArray} {own : String} {nL : Nat} {ret : Option FieldType} {d pc : Nat} {lv : List (Nat × Value)} {st : List Value} {h : Hp} {n : Int} {v : Int32} (K : Ok x cc own nL ret d) (hdg : decode cc pc = .ok (.iconst n, 1)) (hv : Int32.ofInt n = v) (k : VV x (pc + 1) lv (.int v :: st) h) : VV x pc lv (st) h := by
  obtain ⟨⟨p, l, e, R, s, m, args, below, meth, c, cn, sn⟩, A, G, nL0, r, h'⟩ := x
  obtain ⟨hx, hb, hr, hlocks, hml, hnl, hown, hts, hK, hD, hA, hE, hR, hcs⟩ := K
  subst hnl
  intro H locs ls hP hS hl
  exact lv_iconst hx hb hdg hv (k H locs ls hP hS hl)
theorem V_bp {x : Cx} {cc : ByteArray} {own : String} {nL : Nat} {ret : Option FieldType} {d pc : Nat} {lv : List (Nat × Value)} {st : List Value} {h : Hp} {n : Int} {v : Int32} (K : Ok x cc own nL ret d) (hdg : decode cc pc = .ok (.bipush n, 2)) (hv : (Int8.ofInt n).toInt32 = v) (k : VV x (pc + 2) lv (.int v :: st) h) : VV x pc lv (st) h := by
  obtain ⟨⟨p, l, e, R, s, m, args, below, meth, c, cn, sn⟩, A, G, nL0, r, h'⟩ := x
  obtain ⟨hx, hb, hr, hlocks, hml, hnl, hown, hts, hK, hD, hA, hE, hR, hcs⟩ := K
  subst hnl
  intro H locs ls hP hS hl
  exact lv_bipush hx hb hdg hv (k H locs ls hP hS hl)
theorem V_sp {x : Cx} {cc : ByteArray} {own : String} {nL : Nat} {ret : Option FieldType} {d pc : Nat} {lv : List (Nat × Value)} {st : List Value} {h : Hp} {n : Int} {v : Int32} (K : Ok x cc own nL ret d) (hdg : decode cc pc = .ok (.sipush n, 3)) (hv : (Int16.ofInt n).toInt32 = v) (k : VV x (pc + 3) lv (.int v :: st) h) : VV x pc lv (st) h := by
  obtain ⟨⟨p, l, e, R, s, m, args, below, meth, c, cn, sn⟩, A, G, nL0, r, h'⟩ := x
  obtain ⟨hx, hb, hr, hlocks, hml, hnl, hown, hts, hK, hD, hA, hE, hR, hcs⟩ := K
  subst hnl
  intro H locs ls hP hS hl
  exact lv_sipush hx hb hdg hv (k H locs ls hP hS hl)
theorem V_lc {x : Cx} {cc : ByteArray} {own : String} {nL : Nat} {ret : Option FieldType} {d pc : Nat} {lv : List (Nat × Value)} {st : List Value} {h : Hp} {n : Fin 2} {v : Int64} (K : Ok x cc own nL ret d) (hdg : decode cc pc = .ok (.lconst n, 1)) (hv : Int64.ofNat (n : Nat) = v) (k : VV x (pc + 1) lv (.long v :: st) h) : VV x pc lv (st) h := by
  obtain ⟨⟨p, l, e, R, s, m, args, below, meth, c, cn, sn⟩, A, G, nL0, r, h'⟩ := x
  obtain ⟨hx, hb, hr, hlocks, hml, hnl, hown, hts, hK, hD, hA, hE, hR, hcs⟩ := K
  subst hnl
  intro H locs ls hP hS hl
  exact lv_lconst hx hb hdg hv (k H locs ls hP hS hl)
theorem V_ldc {x : Cx} {cc : ByteArray} {own : String} {nL : Nat} {ret : Option FieldType} {d pc : Nat} {lv : List (Nat × Value)} {st : List Value} {h : Hp} {idx : Nat} {v : Int32} (K : Ok x cc own nL ret d) (hm : Cond.constant own idx v ∈ TB) (hdg : decode cc pc = .ok (.ldc idx, 2)) (k : VV x (pc + 2) lv (.int v :: st) h) : VV x pc lv (st) h := by
  obtain ⟨⟨p, l, e, R, s, m, args, below, meth, c, cn, sn⟩, A, G, nL0, r, h'⟩ := x
  obtain ⟨hx, hb, hr, hlocks, hml, hnl, hown, hts, hK, hD, hA, hE, hR, hcs⟩ := K
  subst hnl
  intro H locs ls hP hS hl
  exact lv_ldc hx hb hown (hts _ hm) hdg (k H locs ls hP hS hl)
theorem V_ldcw {x : Cx} {cc : ByteArray} {own : String} {nL : Nat} {ret : Option FieldType} {d pc : Nat} {lv : List (Nat × Value)} {st : List Value} {h : Hp} {idx : Nat} {v : Int32} (K : Ok x cc own nL ret d) (hm : Cond.constant own idx v ∈ TB) (hdg : decode cc pc = .ok (.ldc_w idx, 3)) (k : VV x (pc + 3) lv (.int v :: st) h) : VV x pc lv (st) h := by
  obtain ⟨⟨p, l, e, R, s, m, args, below, meth, c, cn, sn⟩, A, G, nL0, r, h'⟩ := x
  obtain ⟨hx, hb, hr, hlocks, hml, hnl, hown, hts, hK, hD, hA, hE, hR, hcs⟩ := K
  subst hnl
  intro H locs ls hP hS hl
  exact lv_ldcw hx hb hown (hts _ hm) hdg (k H locs ls hP hS hl)
theorem V_ldc2 {x : Cx} {cc : ByteArray} {own : String} {nL : Nat} {ret : Option FieldType} {d pc : Nat} {lv : List (Nat × Value)} {st : List Value} {h : Hp} {idx : Nat} {v : Int64} (K : Ok x cc own nL ret d) (hm : Cond.constantLong own idx v ∈ TB) (hdg : decode cc pc = .ok (.ldc2_w idx, 3)) (k : VV x (pc + 3) lv (.long v :: st) h) : VV x pc lv (st) h := by
  obtain ⟨⟨p, l, e, R, s, m, args, below, meth, c, cn, sn⟩, A, G, nL0, r, h'⟩ := x
  obtain ⟨hx, hb, hr, hlocks, hml, hnl, hown, hts, hK, hD, hA, hE, hR, hcs⟩ := K
  subst hnl
  intro H locs ls hP hS hl
  exact lv_ldc2 hx hb hown (hts _ hm) hdg (k H locs ls hP hS hl)
theorem V_iload_n {x : Cx} {cc : ByteArray} {own : String} {nL : Nat} {ret : Option FieldType} {d pc : Nat} {lv : List (Nat × Value)} {st : List Value} {h : Hp} {q : Fin 4} {a : Int32} (K : Ok x cc own nL ret d) (j : Nat) (hdg : decode cc pc = .ok (.iload_n q, 1)) (hj : lv[j]? = some ((q : Nat), .int a)) (k : VV x (pc + 1) lv (.int a :: st) h) : VV x pc lv (st) h := by
  obtain ⟨⟨p, l, e, R, s, m, args, below, meth, c, cn, sn⟩, A, G, nL0, r, h'⟩ := x
  obtain ⟨hx, hb, hr, hlocks, hml, hnl, hown, hts, hK, hD, hA, hE, hR, hcs⟩ := K
  subst hnl
  intro H locs ls hP hS hl
  exact lv_iload_n hx hb hdg rfl (lv_at hl j hj) (k H locs ls hP hS hl)
theorem V_iload {x : Cx} {cc : ByteArray} {own : String} {nL : Nat} {ret : Option FieldType} {d pc : Nat} {lv : List (Nat × Value)} {st : List Value} {h : Hp} {q : Nat} {a : Int32} (K : Ok x cc own nL ret d) (j : Nat) (hdg : decode cc pc = .ok (.iload q, 2)) (hj : lv[j]? = some (q, .int a)) (k : VV x (pc + 2) lv (.int a :: st) h) : VV x pc lv (st) h := by
  obtain ⟨⟨p, l, e, R, s, m, args, below, meth, c, cn, sn⟩, A, G, nL0, r, h'⟩ := x
  obtain ⟨hx, hb, hr, hlocks, hml, hnl, hown, hts, hK, hD, hA, hE, hR, hcs⟩ := K
  subst hnl
  intro H locs ls hP hS hl
  exact lv_iload hx hb hdg (lv_at hl j hj) (k H locs ls hP hS hl)
theorem V_lload_n {x : Cx} {cc : ByteArray} {own : String} {nL : Nat} {ret : Option FieldType} {d pc : Nat} {lv : List (Nat × Value)} {st : List Value} {h : Hp} {q : Fin 4} {a : Int64} (K : Ok x cc own nL ret d) (j : Nat) (hdg : decode cc pc = .ok (.lload_n q, 1)) (hj : lv[j]? = some ((q : Nat), .long a)) (k : VV x (pc + 1) lv (.long a :: st) h) : VV x pc lv (st) h := by
  obtain ⟨⟨p, l, e, R, s, m, args, below, meth, c, cn, sn⟩, A, G, nL0, r, h'⟩ := x
  obtain ⟨hx, hb, hr, hlocks, hml, hnl, hown, hts, hK, hD, hA, hE, hR, hcs⟩ := K
  subst hnl
  intro H locs ls hP hS hl
  exact lv_lload_n hx hb hdg rfl (lv_at hl j hj) (k H locs ls hP hS hl)
theorem V_lload {x : Cx} {cc : ByteArray} {own : String} {nL : Nat} {ret : Option FieldType} {d pc : Nat} {lv : List (Nat × Value)} {st : List Value} {h : Hp} {q : Nat} {a : Int64} (K : Ok x cc own nL ret d) (j : Nat) (hdg : decode cc pc = .ok (.lload q, 2)) (hj : lv[j]? = some (q, .long a)) (k : VV x (pc + 2) lv (.long a :: st) h) : VV x pc lv (st) h := by
  obtain ⟨⟨p, l, e, R, s, m, args, below, meth, c, cn, sn⟩, A, G, nL0, r, h'⟩ := x
  obtain ⟨hx, hb, hr, hlocks, hml, hnl, hown, hts, hK, hD, hA, hE, hR, hcs⟩ := K
  subst hnl
  intro H locs ls hP hS hl
  exact lv_lload hx hb hdg (lv_at hl j hj) (k H locs ls hP hS hl)
theorem V_aload_n {x : Cx} {cc : ByteArray} {own : String} {nL : Nat} {ret : Option FieldType} {d pc : Nat} {lv : List (Nat × Value)} {st : List Value} {h : Hp} {q : Fin 4} {a : Nat} (K : Ok x cc own nL ret d) (j : Nat) (hdg : decode cc pc = .ok (.aload_n q, 1)) (hj : lv[j]? = some ((q : Nat), .ref a)) (k : VV x (pc + 1) lv (.ref a :: st) h) : VV x pc lv (st) h := by
  obtain ⟨⟨p, l, e, R, s, m, args, below, meth, c, cn, sn⟩, A, G, nL0, r, h'⟩ := x
  obtain ⟨hx, hb, hr, hlocks, hml, hnl, hown, hts, hK, hD, hA, hE, hR, hcs⟩ := K
  subst hnl
  intro H locs ls hP hS hl
  exact lv_aload_n hx hb hdg rfl (lv_at hl j hj) (k H locs ls hP hS hl)
theorem V_aload {x : Cx} {cc : ByteArray} {own : String} {nL : Nat} {ret : Option FieldType} {d pc : Nat} {lv : List (Nat × Value)} {st : List Value} {h : Hp} {q : Nat} {a : Nat} (K : Ok x cc own nL ret d) (j : Nat) (hdg : decode cc pc = .ok (.aload q, 2)) (hj : lv[j]? = some (q, .ref a)) (k : VV x (pc + 2) lv (.ref a :: st) h) : VV x pc lv (st) h := by
  obtain ⟨⟨p, l, e, R, s, m, args, below, meth, c, cn, sn⟩, A, G, nL0, r, h'⟩ := x
  obtain ⟨hx, hb, hr, hlocks, hml, hnl, hown, hts, hK, hD, hA, hE, hR, hcs⟩ := K
  subst hnl
  intro H locs ls hP hS hl
  exact lv_aload hx hb hdg (lv_at hl j hj) (k H locs ls hP hS hl)
theorem V_istore_n {x : Cx} {cc : ByteArray} {own : String} {nL : Nat} {ret : Option FieldType} {d pc : Nat} {lv : List (Nat × Value)} {st : List Value} {h : Hp} {q : Fin 4} {a : Int32} {lv' : List (Nat × Value)} (K : Ok x cc own nL ret d) (hdg : decode cc pc = .ok (.istore_n q, 1)) (hq : (q : Nat) < nL) (hv : ((q : Nat), Value.int a) :: lv.filter (fun z => !(z.1 == (q : Nat)) && !(z.1 + 1 == (q : Nat) && z.2.category == 2)) = lv') (k : VV x (pc + 1) lv' st h) : VV x pc lv (.int a :: st) h := by
  obtain ⟨⟨p, l, e, R, s, m, args, below, meth, c, cn, sn⟩, A, G, nL0, r, h'⟩ := x
  obtain ⟨hx, hb, hr, hlocks, hml, hnl, hown, hts, hK, hD, hA, hE, hR, hcs⟩ := K
  subst hnl
  intro H locs ls hP hS hl
  exact lv_istore_n hx hb hdg rfl hl hq hv (fun ls' hl' => k H locs ls' hP hS hl')
theorem V_istore {x : Cx} {cc : ByteArray} {own : String} {nL : Nat} {ret : Option FieldType} {d pc : Nat} {lv : List (Nat × Value)} {st : List Value} {h : Hp} {q : Nat} {a : Int32} {lv' : List (Nat × Value)} (K : Ok x cc own nL ret d) (hdg : decode cc pc = .ok (.istore q, 2)) (hq : q < nL) (hv : (q, Value.int a) :: lv.filter (fun z => !(z.1 == q) && !(z.1 + 1 == q && z.2.category == 2)) = lv') (k : VV x (pc + 2) lv' st h) : VV x pc lv (.int a :: st) h := by
  obtain ⟨⟨p, l, e, R, s, m, args, below, meth, c, cn, sn⟩, A, G, nL0, r, h'⟩ := x
  obtain ⟨hx, hb, hr, hlocks, hml, hnl, hown, hts, hK, hD, hA, hE, hR, hcs⟩ := K
  subst hnl
  intro H locs ls hP hS hl
  exact lv_istore hx hb hdg hl hq hv (fun ls' hl' => k H locs ls' hP hS hl')
theorem V_astore_n {x : Cx} {cc : ByteArray} {own : String} {nL : Nat} {ret : Option FieldType} {d pc : Nat} {lv : List (Nat × Value)} {st : List Value} {h : Hp} {q : Fin 4} {a : Nat} {lv' : List (Nat × Value)} (K : Ok x cc own nL ret d) (hdg : decode cc pc = .ok (.astore_n q, 1)) (hq : (q : Nat) < nL) (hv : ((q : Nat), Value.ref a) :: lv.filter (fun z => !(z.1 == (q : Nat)) && !(z.1 + 1 == (q : Nat) && z.2.category == 2)) = lv') (k : VV x (pc + 1) lv' st h) : VV x pc lv (.ref a :: st) h := by
  obtain ⟨⟨p, l, e, R, s, m, args, below, meth, c, cn, sn⟩, A, G, nL0, r, h'⟩ := x
  obtain ⟨hx, hb, hr, hlocks, hml, hnl, hown, hts, hK, hD, hA, hE, hR, hcs⟩ := K
  subst hnl
  intro H locs ls hP hS hl
  exact lv_astore_n hx hb hdg rfl hl hq hv (fun ls' hl' => k H locs ls' hP hS hl')
theorem V_astore {x : Cx} {cc : ByteArray} {own : String} {nL : Nat} {ret : Option FieldType} {d pc : Nat} {lv : List (Nat × Value)} {st : List Value} {h : Hp} {q : Nat} {a : Nat} {lv' : List (Nat × Value)} (K : Ok x cc own nL ret d) (hdg : decode cc pc = .ok (.astore q, 2)) (hq : q < nL) (hv : (q, Value.ref a) :: lv.filter (fun z => !(z.1 == q) && !(z.1 + 1 == q && z.2.category == 2)) = lv') (k : VV x (pc + 2) lv' st h) : VV x pc lv (.ref a :: st) h := by
  obtain ⟨⟨p, l, e, R, s, m, args, below, meth, c, cn, sn⟩, A, G, nL0, r, h'⟩ := x
  obtain ⟨hx, hb, hr, hlocks, hml, hnl, hown, hts, hK, hD, hA, hE, hR, hcs⟩ := K
  subst hnl
  intro H locs ls hP hS hl
  exact lv_astore hx hb hdg hl hq hv (fun ls' hl' => k H locs ls' hP hS hl')
theorem V_lstore_n {x : Cx} {cc : ByteArray} {own : String} {nL : Nat} {ret : Option FieldType} {d pc : Nat} {lv : List (Nat × Value)} {st : List Value} {h : Hp} {q : Fin 4} {a : Int64} {lv' : List (Nat × Value)} (K : Ok x cc own nL ret d) (hdg : decode cc pc = .ok (.lstore_n q, 1)) (hq : (q : Nat) + 1 < nL) (hv : ((q : Nat), Value.long a) :: lv.filter (fun z => !(z.1 == (q : Nat)) && (!(z.1 == (q : Nat) + 1) && !(z.1 + 1 == (q : Nat) && z.2.category == 2))) = lv') (k : VV x (pc + 1) lv' st h) : VV x pc lv (.long a :: st) h := by
  obtain ⟨⟨p, l, e, R, s, m, args, below, meth, c, cn, sn⟩, A, G, nL0, r, h'⟩ := x
  obtain ⟨hx, hb, hr, hlocks, hml, hnl, hown, hts, hK, hD, hA, hE, hR, hcs⟩ := K
  subst hnl
  intro H locs ls hP hS hl
  exact lv_lstore_n hx hb hdg rfl hl hq hv (fun ls' hl' => k H locs ls' hP hS hl')
theorem V_lstore {x : Cx} {cc : ByteArray} {own : String} {nL : Nat} {ret : Option FieldType} {d pc : Nat} {lv : List (Nat × Value)} {st : List Value} {h : Hp} {q : Nat} {a : Int64} {lv' : List (Nat × Value)} (K : Ok x cc own nL ret d) (hdg : decode cc pc = .ok (.lstore q, 2)) (hq : q + 1 < nL) (hv : (q, Value.long a) :: lv.filter (fun z => !(z.1 == q) && (!(z.1 == q + 1) && !(z.1 + 1 == q && z.2.category == 2))) = lv') (k : VV x (pc + 2) lv' st h) : VV x pc lv (.long a :: st) h := by
  obtain ⟨⟨p, l, e, R, s, m, args, below, meth, c, cn, sn⟩, A, G, nL0, r, h'⟩ := x
  obtain ⟨hx, hb, hr, hlocks, hml, hnl, hown, hts, hK, hD, hA, hE, hR, hcs⟩ := K
  subst hnl
  intro H locs ls hP hS hl
  exact lv_lstore hx hb hdg hl hq hv (fun ls' hl' => k H locs ls' hP hS hl')
theorem V_iinc {x : Cx} {cc : ByteArray} {own : String} {nL : Nat} {ret : Option FieldType} {d pc : Nat} {lv : List (Nat × Value)} {st : List Value} {h : Hp} {q : Nat} {n : Int} {a v : Int32} {lv' : List (Nat × Value)} (K : Ok x cc own nL ret d) (j : Nat) (hdg : decode cc pc = .ok (.iinc q n, 3)) (hj : lv[j]? = some (q, .int a)) (hv : a + Int32.ofInt n = v) (hq : q < nL) (hl' : (q, Value.int v) :: lv.filter (fun z => !(z.1 == q) && !(z.1 + 1 == q && z.2.category == 2)) = lv') (k : VV x (pc + 3) lv' st h) : VV x pc lv st h := by
  obtain ⟨⟨p, l, e, R, s, m, args, below, meth, c, cn, sn⟩, A, G, nL0, r, h'⟩ := x
  obtain ⟨hx, hb, hr, hlocks, hml, hnl, hown, hts, hK, hD, hA, hE, hR, hcs⟩ := K
  subst hnl
  intro H locs ls hP hS hl
  exact lv_iinc hx hb hdg hl hj hv hq hl' (fun ls' hl2 => k H locs ls' hP hS hl2)
theorem V_sub {x : Cx} {pc : Nat} {lv lv' : List (Nat × Value)} {st : List Value} {h : Hp} (ks : List Nat) (hl : lv_pick lv ks = lv') (k : VV x pc lv' st h) : VV x pc lv st h := by
  obtain ⟨⟨p, l, e, R, s, m, args, below, meth, c, cn, sn⟩, A, G, nL0, r, h'⟩ := x
  intro H locs ls hP hS hl2
  exact k H locs ls hP hS (lv_sub hl2 ks hl)
theorem V_top {x : Cx} {pc : Nat} {lv : List (Nat × Value)} {st : List Value} {h : Hp} {a b : Int32} (e : b = a) (k : VV x pc lv (.int b :: st) h) : VV x pc lv (.int a :: st) h := e ▸ k
theorem V_topl {x : Cx} {pc : Nat} {lv : List (Nat × Value)} {st : List Value} {h : Hp} {a b : Int64} (e : b = a) (k : VV x pc lv (.long b :: st) h) : VV x pc lv (.long a :: st) h := e ▸ k
theorem V_topa {x : Cx} {pc : Nat} {lv : List (Nat × Value)} {st : List Value} {h : Hp} {a b : Nat} (e : b = a) (k : VV x pc lv (.ref (ad x b) :: st) h) : VV x pc lv (.ref (ad x a) :: st) h := e ▸ k
theorem V_hp {x : Cx} {pc : Nat} {lv : List (Nat × Value)} {st : List Value} {h h2 : Hp} (e : h2 = h) (k : VV x pc lv st h2) : VV x pc lv st h := e ▸ k

theorem V_iadd {x : Cx} {cc : ByteArray} {own : String} {nL : Nat} {ret : Option FieldType} {d pc : Nat} {lv : List (Nat × Value)} {st : List Value} {h : Hp} {a b : Int32} (K : Ok x cc own nL ret d) (hdg : decode cc pc = .ok (.iadd, 1)) (k : VV x (pc + 1) lv (.int (a + b) :: st) h) : VV x pc lv (.int b :: .int a :: st) h := by
  obtain ⟨⟨p, l, e, R, s, m, args, below, meth, c, cn, sn⟩, A, G, nL0, r, h'⟩ := x
  obtain ⟨hx, hb, hr, hlocks, hml, hnl, hown, hts, hK, hD, hA, hE, hR, hcs⟩ := K
  subst hnl
  intro H locs ls hP hS hl
  exact lv_iadd hx hb hdg (k H locs ls hP hS hl)
theorem V_isub {x : Cx} {cc : ByteArray} {own : String} {nL : Nat} {ret : Option FieldType} {d pc : Nat} {lv : List (Nat × Value)} {st : List Value} {h : Hp} {a b : Int32} (K : Ok x cc own nL ret d) (hdg : decode cc pc = .ok (.isub, 1)) (k : VV x (pc + 1) lv (.int (a - b) :: st) h) : VV x pc lv (.int b :: .int a :: st) h := by
  obtain ⟨⟨p, l, e, R, s, m, args, below, meth, c, cn, sn⟩, A, G, nL0, r, h'⟩ := x
  obtain ⟨hx, hb, hr, hlocks, hml, hnl, hown, hts, hK, hD, hA, hE, hR, hcs⟩ := K
  subst hnl
  intro H locs ls hP hS hl
  exact lv_isub hx hb hdg (k H locs ls hP hS hl)
theorem V_imul {x : Cx} {cc : ByteArray} {own : String} {nL : Nat} {ret : Option FieldType} {d pc : Nat} {lv : List (Nat × Value)} {st : List Value} {h : Hp} {a b : Int32} (K : Ok x cc own nL ret d) (hdg : decode cc pc = .ok (.imul, 1)) (k : VV x (pc + 1) lv (.int (a * b) :: st) h) : VV x pc lv (.int b :: .int a :: st) h := by
  obtain ⟨⟨p, l, e, R, s, m, args, below, meth, c, cn, sn⟩, A, G, nL0, r, h'⟩ := x
  obtain ⟨hx, hb, hr, hlocks, hml, hnl, hown, hts, hK, hD, hA, hE, hR, hcs⟩ := K
  subst hnl
  intro H locs ls hP hS hl
  exact lv_imul hx hb hdg (k H locs ls hP hS hl)
theorem V_iand {x : Cx} {cc : ByteArray} {own : String} {nL : Nat} {ret : Option FieldType} {d pc : Nat} {lv : List (Nat × Value)} {st : List Value} {h : Hp} {a b : Int32} (K : Ok x cc own nL ret d) (hdg : decode cc pc = .ok (.iand, 1)) (k : VV x (pc + 1) lv (.int (a &&& b) :: st) h) : VV x pc lv (.int b :: .int a :: st) h := by
  obtain ⟨⟨p, l, e, R, s, m, args, below, meth, c, cn, sn⟩, A, G, nL0, r, h'⟩ := x
  obtain ⟨hx, hb, hr, hlocks, hml, hnl, hown, hts, hK, hD, hA, hE, hR, hcs⟩ := K
  subst hnl
  intro H locs ls hP hS hl
  exact lv_iand hx hb hdg (k H locs ls hP hS hl)
theorem V_ior {x : Cx} {cc : ByteArray} {own : String} {nL : Nat} {ret : Option FieldType} {d pc : Nat} {lv : List (Nat × Value)} {st : List Value} {h : Hp} {a b : Int32} (K : Ok x cc own nL ret d) (hdg : decode cc pc = .ok (.ior, 1)) (k : VV x (pc + 1) lv (.int (a ||| b) :: st) h) : VV x pc lv (.int b :: .int a :: st) h := by
  obtain ⟨⟨p, l, e, R, s, m, args, below, meth, c, cn, sn⟩, A, G, nL0, r, h'⟩ := x
  obtain ⟨hx, hb, hr, hlocks, hml, hnl, hown, hts, hK, hD, hA, hE, hR, hcs⟩ := K
  subst hnl
  intro H locs ls hP hS hl
  exact lv_ior hx hb hdg (k H locs ls hP hS hl)
theorem V_ixor {x : Cx} {cc : ByteArray} {own : String} {nL : Nat} {ret : Option FieldType} {d pc : Nat} {lv : List (Nat × Value)} {st : List Value} {h : Hp} {a b : Int32} (K : Ok x cc own nL ret d) (hdg : decode cc pc = .ok (.ixor, 1)) (k : VV x (pc + 1) lv (.int (a ^^^ b) :: st) h) : VV x pc lv (.int b :: .int a :: st) h := by
  obtain ⟨⟨p, l, e, R, s, m, args, below, meth, c, cn, sn⟩, A, G, nL0, r, h'⟩ := x
  obtain ⟨hx, hb, hr, hlocks, hml, hnl, hown, hts, hK, hD, hA, hE, hR, hcs⟩ := K
  subst hnl
  intro H locs ls hP hS hl
  exact lv_ixor hx hb hdg (k H locs ls hP hS hl)
theorem V_ishl {x : Cx} {cc : ByteArray} {own : String} {nL : Nat} {ret : Option FieldType} {d pc : Nat} {lv : List (Nat × Value)} {st : List Value} {h : Hp} {a b : Int32} (K : Ok x cc own nL ret d) (hdg : decode cc pc = .ok (.ishl, 1)) (k : VV x (pc + 1) lv (.int (a <<< (b &&& 31)) :: st) h) : VV x pc lv (.int b :: .int a :: st) h := by
  obtain ⟨⟨p, l, e, R, s, m, args, below, meth, c, cn, sn⟩, A, G, nL0, r, h'⟩ := x
  obtain ⟨hx, hb, hr, hlocks, hml, hnl, hown, hts, hK, hD, hA, hE, hR, hcs⟩ := K
  subst hnl
  intro H locs ls hP hS hl
  exact lv_ishl hx hb hdg (k H locs ls hP hS hl)
theorem V_ishr {x : Cx} {cc : ByteArray} {own : String} {nL : Nat} {ret : Option FieldType} {d pc : Nat} {lv : List (Nat × Value)} {st : List Value} {h : Hp} {a b : Int32} (K : Ok x cc own nL ret d) (hdg : decode cc pc = .ok (.ishr, 1)) (k : VV x (pc + 1) lv (.int (a >>> (b &&& 31)) :: st) h) : VV x pc lv (.int b :: .int a :: st) h := by
  obtain ⟨⟨p, l, e, R, s, m, args, below, meth, c, cn, sn⟩, A, G, nL0, r, h'⟩ := x
  obtain ⟨hx, hb, hr, hlocks, hml, hnl, hown, hts, hK, hD, hA, hE, hR, hcs⟩ := K
  subst hnl
  intro H locs ls hP hS hl
  exact lv_ishr hx hb hdg (k H locs ls hP hS hl)
theorem V_idiv {x : Cx} {cc : ByteArray} {own : String} {nL : Nat} {ret : Option FieldType} {d pc : Nat} {lv : List (Nat × Value)} {st : List Value} {h : Hp} {a b : Int32} (K : Ok x cc own nL ret d) (hdg : decode cc pc = .ok (.idiv, 1)) (hz : ¬ b = 0) (k : VV x (pc + 1) lv (.int (a / b) :: st) h) : VV x pc lv (.int b :: .int a :: st) h := by
  obtain ⟨⟨p, l, e, R, s, m, args, below, meth, c, cn, sn⟩, A, G, nL0, r, h'⟩ := x
  obtain ⟨hx, hb, hr, hlocks, hml, hnl, hown, hts, hK, hD, hA, hE, hR, hcs⟩ := K
  subst hnl
  intro H locs ls hP hS hl
  exact lv_idiv hx hb hdg hz (k H locs ls hP hS hl)
theorem V_irem {x : Cx} {cc : ByteArray} {own : String} {nL : Nat} {ret : Option FieldType} {d pc : Nat} {lv : List (Nat × Value)} {st : List Value} {h : Hp} {a b : Int32} (K : Ok x cc own nL ret d) (hdg : decode cc pc = .ok (.irem, 1)) (hz : ¬ b = 0) (k : VV x (pc + 1) lv (.int (a - a / b * b) :: st) h) : VV x pc lv (.int b :: .int a :: st) h := by
  obtain ⟨⟨p, l, e, R, s, m, args, below, meth, c, cn, sn⟩, A, G, nL0, r, h'⟩ := x
  obtain ⟨hx, hb, hr, hlocks, hml, hnl, hown, hts, hK, hD, hA, hE, hR, hcs⟩ := K
  subst hnl
  intro H locs ls hP hS hl
  exact lv_irem hx hb hdg hz (k H locs ls hP hS hl)
theorem V_ineg {x : Cx} {cc : ByteArray} {own : String} {nL : Nat} {ret : Option FieldType} {d pc : Nat} {lv : List (Nat × Value)} {st : List Value} {h : Hp} {a : Int32} (K : Ok x cc own nL ret d) (hdg : decode cc pc = .ok (.ineg, 1)) (k : VV x (pc + 1) lv (.int (-a) :: st) h) : VV x pc lv (.int a :: st) h := by
  obtain ⟨⟨p, l, e, R, s, m, args, below, meth, c, cn, sn⟩, A, G, nL0, r, h'⟩ := x
  obtain ⟨hx, hb, hr, hlocks, hml, hnl, hown, hts, hK, hD, hA, hE, hR, hcs⟩ := K
  subst hnl
  intro H locs ls hP hS hl
  exact lv_ineg hx hb hdg (k H locs ls hP hS hl)
theorem V_iushr {x : Cx} {cc : ByteArray} {own : String} {nL : Nat} {ret : Option FieldType} {d pc : Nat} {lv : List (Nat × Value)} {st : List Value} {h : Hp} {a b : Int32} (K : Ok x cc own nL ret d) (hdg : decode cc pc = .ok (.iushr, 1)) (k : VV x (pc + 1) lv (.int (a.toUInt32 >>> (b.toUInt32 &&& Int32.toUInt32 31)).toInt32 :: st) h) : VV x pc lv (.int b :: .int a :: st) h := by
  obtain ⟨⟨p, l, e, R, s, m, args, below, meth, c, cn, sn⟩, A, G, nL0, r, h'⟩ := x
  obtain ⟨hx, hb, hr, hlocks, hml, hnl, hown, hts, hK, hD, hA, hE, hR, hcs⟩ := K
  subst hnl
  intro H locs ls hP hS hl
  exact lv_iushr hx hb hdg rfl (k H locs ls hP hS hl)
theorem V_ladd {x : Cx} {cc : ByteArray} {own : String} {nL : Nat} {ret : Option FieldType} {d pc : Nat} {lv : List (Nat × Value)} {st : List Value} {h : Hp} {a b : Int64} (K : Ok x cc own nL ret d) (hdg : decode cc pc = .ok (.ladd, 1)) (k : VV x (pc + 1) lv (.long (a + b) :: st) h) : VV x pc lv (.long b :: .long a :: st) h := by
  obtain ⟨⟨p, l, e, R, s, m, args, below, meth, c, cn, sn⟩, A, G, nL0, r, h'⟩ := x
  obtain ⟨hx, hb, hr, hlocks, hml, hnl, hown, hts, hK, hD, hA, hE, hR, hcs⟩ := K
  subst hnl
  intro H locs ls hP hS hl
  exact lv_ladd hx hb hdg (k H locs ls hP hS hl)
theorem V_lsub {x : Cx} {cc : ByteArray} {own : String} {nL : Nat} {ret : Option FieldType} {d pc : Nat} {lv : List (Nat × Value)} {st : List Value} {h : Hp} {a b : Int64} (K : Ok x cc own nL ret d) (hdg : decode cc pc = .ok (.lsub, 1)) (k : VV x (pc + 1) lv (.long (a - b) :: st) h) : VV x pc lv (.long b :: .long a :: st) h := by
  obtain ⟨⟨p, l, e, R, s, m, args, below, meth, c, cn, sn⟩, A, G, nL0, r, h'⟩ := x
  obtain ⟨hx, hb, hr, hlocks, hml, hnl, hown, hts, hK, hD, hA, hE, hR, hcs⟩ := K
  subst hnl
  intro H locs ls hP hS hl
  exact lv_lsub hx hb hdg (k H locs ls hP hS hl)
theorem V_lmul {x : Cx} {cc : ByteArray} {own : String} {nL : Nat} {ret : Option FieldType} {d pc : Nat} {lv : List (Nat × Value)} {st : List Value} {h : Hp} {a b : Int64} (K : Ok x cc own nL ret d) (hdg : decode cc pc = .ok (.lmul, 1)) (k : VV x (pc + 1) lv (.long (a * b) :: st) h) : VV x pc lv (.long b :: .long a :: st) h := by
  obtain ⟨⟨p, l, e, R, s, m, args, below, meth, c, cn, sn⟩, A, G, nL0, r, h'⟩ := x
  obtain ⟨hx, hb, hr, hlocks, hml, hnl, hown, hts, hK, hD, hA, hE, hR, hcs⟩ := K
  subst hnl
  intro H locs ls hP hS hl
  exact lv_lmul hx hb hdg (k H locs ls hP hS hl)
theorem V_ldiv {x : Cx} {cc : ByteArray} {own : String} {nL : Nat} {ret : Option FieldType} {d pc : Nat} {lv : List (Nat × Value)} {st : List Value} {h : Hp} {a b : Int64} (K : Ok x cc own nL ret d) (hdg : decode cc pc = .ok (.ldiv, 1)) (hz : ¬ b = 0) (k : VV x (pc + 1) lv (.long (a / b) :: st) h) : VV x pc lv (.long b :: .long a :: st) h := by
  obtain ⟨⟨p, l, e, R, s, m, args, below, meth, c, cn, sn⟩, A, G, nL0, r, h'⟩ := x
  obtain ⟨hx, hb, hr, hlocks, hml, hnl, hown, hts, hK, hD, hA, hE, hR, hcs⟩ := K
  subst hnl
  intro H locs ls hP hS hl
  exact lv_ldiv hx hb hdg hz (k H locs ls hP hS hl)
theorem V_lrem {x : Cx} {cc : ByteArray} {own : String} {nL : Nat} {ret : Option FieldType} {d pc : Nat} {lv : List (Nat × Value)} {st : List Value} {h : Hp} {a b : Int64} (K : Ok x cc own nL ret d) (hdg : decode cc pc = .ok (.lrem, 1)) (hz : ¬ b = 0) (k : VV x (pc + 1) lv (.long (a - a / b * b) :: st) h) : VV x pc lv (.long b :: .long a :: st) h := by
  obtain ⟨⟨p, l, e, R, s, m, args, below, meth, c, cn, sn⟩, A, G, nL0, r, h'⟩ := x
  obtain ⟨hx, hb, hr, hlocks, hml, hnl, hown, hts, hK, hD, hA, hE, hR, hcs⟩ := K
  subst hnl
  intro H locs ls hP hS hl
  exact lv_lrem hx hb hdg hz (k H locs ls hP hS hl)
theorem V_i2l {x : Cx} {cc : ByteArray} {own : String} {nL : Nat} {ret : Option FieldType} {d pc : Nat} {lv : List (Nat × Value)} {st : List Value} {h : Hp} {a : Int32} (K : Ok x cc own nL ret d) (hdg : decode cc pc = .ok (.i2l, 1)) (k : VV x (pc + 1) lv (.long a.toInt64 :: st) h) : VV x pc lv (.int a :: st) h := by
  obtain ⟨⟨p, l, e, R, s, m, args, below, meth, c, cn, sn⟩, A, G, nL0, r, h'⟩ := x
  obtain ⟨hx, hb, hr, hlocks, hml, hnl, hown, hts, hK, hD, hA, hE, hR, hcs⟩ := K
  subst hnl
  intro H locs ls hP hS hl
  exact lv_i2l hx hb hdg rfl (k H locs ls hP hS hl)
theorem V_l2i {x : Cx} {cc : ByteArray} {own : String} {nL : Nat} {ret : Option FieldType} {d pc : Nat} {lv : List (Nat × Value)} {st : List Value} {h : Hp} {a : Int64} (K : Ok x cc own nL ret d) (hdg : decode cc pc = .ok (.l2i, 1)) (k : VV x (pc + 1) lv (.int a.toInt32 :: st) h) : VV x pc lv (.long a :: st) h := by
  obtain ⟨⟨p, l, e, R, s, m, args, below, meth, c, cn, sn⟩, A, G, nL0, r, h'⟩ := x
  obtain ⟨hx, hb, hr, hlocks, hml, hnl, hown, hts, hK, hD, hA, hE, hR, hcs⟩ := K
  subst hnl
  intro H locs ls hP hS hl
  exact lv_l2i hx hb hdg rfl (k H locs ls hP hS hl)
theorem V_i2b {x : Cx} {cc : ByteArray} {own : String} {nL : Nat} {ret : Option FieldType} {d pc : Nat} {lv : List (Nat × Value)} {st : List Value} {h : Hp} {a : Int32} (K : Ok x cc own nL ret d) (hdg : decode cc pc = .ok (.i2b, 1)) (k : VV x (pc + 1) lv (.int a.toInt8.toInt32 :: st) h) : VV x pc lv (.int a :: st) h := by
  obtain ⟨⟨p, l, e, R, s, m, args, below, meth, c, cn, sn⟩, A, G, nL0, r, h'⟩ := x
  obtain ⟨hx, hb, hr, hlocks, hml, hnl, hown, hts, hK, hD, hA, hE, hR, hcs⟩ := K
  subst hnl
  intro H locs ls hP hS hl
  exact lv_i2b hx hb hdg rfl (k H locs ls hP hS hl)
theorem V_dup {x : Cx} {cc : ByteArray} {own : String} {nL : Nat} {ret : Option FieldType} {d pc : Nat} {lv : List (Nat × Value)} {st : List Value} {h : Hp} {a : Value} (K : Ok x cc own nL ret d) (hdg : decode cc pc = .ok (.dup, 1)) (hc : a.category = 1) (k : VV x (pc + 1) lv (a :: a :: st) h) : VV x pc lv (a :: st) h := by
  obtain ⟨⟨p, l, e, R, s, m, args, below, meth, c, cn, sn⟩, A, G, nL0, r, h'⟩ := x
  obtain ⟨hx, hb, hr, hlocks, hml, hnl, hown, hts, hK, hD, hA, hE, hR, hcs⟩ := K
  subst hnl
  intro H locs ls hP hS hl
  exact lv_dup hx hb hdg hc (k H locs ls hP hS hl)
theorem V_pop {x : Cx} {cc : ByteArray} {own : String} {nL : Nat} {ret : Option FieldType} {d pc : Nat} {lv : List (Nat × Value)} {st : List Value} {h : Hp} {a : Value} (K : Ok x cc own nL ret d) (hdg : decode cc pc = .ok (.pop, 1)) (hc : a.category = 1) (k : VV x (pc + 1) lv st h) : VV x pc lv (a :: st) h := by
  obtain ⟨⟨p, l, e, R, s, m, args, below, meth, c, cn, sn⟩, A, G, nL0, r, h'⟩ := x
  obtain ⟨hx, hb, hr, hlocks, hml, hnl, hown, hts, hK, hD, hA, hE, hR, hcs⟩ := K
  subst hnl
  intro H locs ls hP hS hl
  exact lv_pop hx hb hdg hc (k H locs ls hP hS hl)
theorem V_dup2 {x : Cx} {cc : ByteArray} {own : String} {nL : Nat} {ret : Option FieldType} {d pc : Nat} {lv : List (Nat × Value)} {st : List Value} {h : Hp} {a b : Value} (K : Ok x cc own nL ret d) (hdg : decode cc pc = .ok (.dup2, 1)) (hc : a.category = 1) (hc2 : b.category = 1) (k : VV x (pc + 1) lv (a :: b :: a :: b :: st) h) : VV x pc lv (a :: b :: st) h := by
  obtain ⟨⟨p, l, e, R, s, m, args, below, meth, c, cn, sn⟩, A, G, nL0, r, h'⟩ := x
  obtain ⟨hx, hb, hr, hlocks, hml, hnl, hown, hts, hK, hD, hA, hE, hR, hcs⟩ := K
  subst hnl
  intro H locs ls hP hS hl
  exact lv_dup2_11 hx hb hdg hc hc2 (k H locs ls hP hS hl)
theorem V_if_eq_t {x : Cx} {cc : ByteArray} {own : String} {nL : Nat} {ret : Option FieldType} {d pc : Nat} {lv : List (Nat × Value)} {st : List Value} {h : Hp} {a : Int32} {off : Int} (K : Ok x cc own nL ret d) (tgt : Nat) (hdg : decode cc pc = .ok (.ifCond .eq off, 3)) (ht : (pc : Int) + off = (tgt : Int)) (hc : a = 0) (k : VV x tgt lv st h) : VV x pc lv (.int a :: st) h := by
  obtain ⟨⟨p, l, e, R, s, m, args, below, meth, c, cn, sn⟩, A, G, nL0, r, h'⟩ := x
  obtain ⟨hx, hb, hr, hlocks, hml, hnl, hown, hts, hK, hD, hA, hE, hR, hcs⟩ := K
  subst hnl
  intro H locs ls hP hS hl
  exact lv_if_eq hx hb hdg ht (fun c => k H locs ls hP hS hl) (fun c => absurd hc c)
theorem V_ic_eq_t {x : Cx} {cc : ByteArray} {own : String} {nL : Nat} {ret : Option FieldType} {d pc : Nat} {lv : List (Nat × Value)} {st : List Value} {h : Hp} {a b : Int32} {off : Int} (K : Ok x cc own nL ret d) (tgt : Nat) (hdg : decode cc pc = .ok (.if_icmp .eq off, 3)) (ht : (pc : Int) + off = (tgt : Int)) (hc : a = b) (k : VV x tgt lv st h) : VV x pc lv (.int b :: .int a :: st) h := by
  obtain ⟨⟨p, l, e, R, s, m, args, below, meth, c, cn, sn⟩, A, G, nL0, r, h'⟩ := x
  obtain ⟨hx, hb, hr, hlocks, hml, hnl, hown, hts, hK, hD, hA, hE, hR, hcs⟩ := K
  subst hnl
  intro H locs ls hP hS hl
  exact lv_icmp_eq hx hb hdg ht (fun c => k H locs ls hP hS hl) (fun c => absurd hc c)
theorem V_if_eq_f {x : Cx} {cc : ByteArray} {own : String} {nL : Nat} {ret : Option FieldType} {d pc : Nat} {lv : List (Nat × Value)} {st : List Value} {h : Hp} {a : Int32} {off : Int} (K : Ok x cc own nL ret d) (tgt : Nat) (hdg : decode cc pc = .ok (.ifCond .eq off, 3)) (ht : (pc : Int) + off = (tgt : Int)) (hc : ¬ (a = 0)) (k : VV x (pc + 3) lv st h) : VV x pc lv (.int a :: st) h := by
  obtain ⟨⟨p, l, e, R, s, m, args, below, meth, c, cn, sn⟩, A, G, nL0, r, h'⟩ := x
  obtain ⟨hx, hb, hr, hlocks, hml, hnl, hown, hts, hK, hD, hA, hE, hR, hcs⟩ := K
  subst hnl
  intro H locs ls hP hS hl
  exact lv_if_eq hx hb hdg ht (fun c => absurd c hc) (fun c => k H locs ls hP hS hl)
theorem V_ic_eq_f {x : Cx} {cc : ByteArray} {own : String} {nL : Nat} {ret : Option FieldType} {d pc : Nat} {lv : List (Nat × Value)} {st : List Value} {h : Hp} {a b : Int32} {off : Int} (K : Ok x cc own nL ret d) (tgt : Nat) (hdg : decode cc pc = .ok (.if_icmp .eq off, 3)) (ht : (pc : Int) + off = (tgt : Int)) (hc : ¬ (a = b)) (k : VV x (pc + 3) lv st h) : VV x pc lv (.int b :: .int a :: st) h := by
  obtain ⟨⟨p, l, e, R, s, m, args, below, meth, c, cn, sn⟩, A, G, nL0, r, h'⟩ := x
  obtain ⟨hx, hb, hr, hlocks, hml, hnl, hown, hts, hK, hD, hA, hE, hR, hcs⟩ := K
  subst hnl
  intro H locs ls hP hS hl
  exact lv_icmp_eq hx hb hdg ht (fun c => absurd c hc) (fun c => k H locs ls hP hS hl)
theorem V_if_ne_t {x : Cx} {cc : ByteArray} {own : String} {nL : Nat} {ret : Option FieldType} {d pc : Nat} {lv : List (Nat × Value)} {st : List Value} {h : Hp} {a : Int32} {off : Int} (K : Ok x cc own nL ret d) (tgt : Nat) (hdg : decode cc pc = .ok (.ifCond .ne off, 3)) (ht : (pc : Int) + off = (tgt : Int)) (hc : ¬ a = 0) (k : VV x tgt lv st h) : VV x pc lv (.int a :: st) h := by
  obtain ⟨⟨p, l, e, R, s, m, args, below, meth, c, cn, sn⟩, A, G, nL0, r, h'⟩ := x
  obtain ⟨hx, hb, hr, hlocks, hml, hnl, hown, hts, hK, hD, hA, hE, hR, hcs⟩ := K
  subst hnl
  intro H locs ls hP hS hl
  refine lv_if_ne hx hb hdg ht (fun c => ?_) (fun c => ?_)
  · first | exact k H locs ls hP hS hl | exact absurd hc c
  · first | exact absurd hc c | exact absurd c hc | exact k H locs ls hP hS hl
theorem V_ic_ne_t {x : Cx} {cc : ByteArray} {own : String} {nL : Nat} {ret : Option FieldType} {d pc : Nat} {lv : List (Nat × Value)} {st : List Value} {h : Hp} {a b : Int32} {off : Int} (K : Ok x cc own nL ret d) (tgt : Nat) (hdg : decode cc pc = .ok (.if_icmp .ne off, 3)) (ht : (pc : Int) + off = (tgt : Int)) (hc : ¬ a = b) (k : VV x tgt lv st h) : VV x pc lv (.int b :: .int a :: st) h := by
  obtain ⟨⟨p, l, e, R, s, m, args, below, meth, c, cn, sn⟩, A, G, nL0, r, h'⟩ := x
  obtain ⟨hx, hb, hr, hlocks, hml, hnl, hown, hts, hK, hD, hA, hE, hR, hcs⟩ := K
  subst hnl
  intro H locs ls hP hS hl
  refine lv_icmp_ne hx hb hdg ht (fun c => ?_) (fun c => ?_)
  · first | exact k H locs ls hP hS hl | exact absurd hc c
  · first | exact absurd hc c | exact absurd c hc | exact k H locs ls hP hS hl
theorem V_if_ne_f {x : Cx} {cc : ByteArray} {own : String} {nL : Nat} {ret : Option FieldType} {d pc : Nat} {lv : List (Nat × Value)} {st : List Value} {h : Hp} {a : Int32} {off : Int} (K : Ok x cc own nL ret d) (tgt : Nat) (hdg : decode cc pc = .ok (.ifCond .ne off, 3)) (ht : (pc : Int) + off = (tgt : Int)) (hc : a = 0) (k : VV x (pc + 3) lv st h) : VV x pc lv (.int a :: st) h := by
  obtain ⟨⟨p, l, e, R, s, m, args, below, meth, c, cn, sn⟩, A, G, nL0, r, h'⟩ := x
  obtain ⟨hx, hb, hr, hlocks, hml, hnl, hown, hts, hK, hD, hA, hE, hR, hcs⟩ := K
  subst hnl
  intro H locs ls hP hS hl
  refine lv_if_ne hx hb hdg ht (fun c => ?_) (fun c => ?_)
  · first | exact absurd hc c | exact absurd c hc
  · exact k H locs ls hP hS hl
theorem V_ic_ne_f {x : Cx} {cc : ByteArray} {own : String} {nL : Nat} {ret : Option FieldType} {d pc : Nat} {lv : List (Nat × Value)} {st : List Value} {h : Hp} {a b : Int32} {off : Int} (K : Ok x cc own nL ret d) (tgt : Nat) (hdg : decode cc pc = .ok (.if_icmp .ne off, 3)) (ht : (pc : Int) + off = (tgt : Int)) (hc : a = b) (k : VV x (pc + 3) lv st h) : VV x pc lv (.int b :: .int a :: st) h := by
  obtain ⟨⟨p, l, e, R, s, m, args, below, meth, c, cn, sn⟩, A, G, nL0, r, h'⟩ := x
  obtain ⟨hx, hb, hr, hlocks, hml, hnl, hown, hts, hK, hD, hA, hE, hR, hcs⟩ := K
  subst hnl
  intro H locs ls hP hS hl
  refine lv_icmp_ne hx hb hdg ht (fun c => ?_) (fun c => ?_)
  · first | exact absurd hc c | exact absurd c hc
  · exact k H locs ls hP hS hl
theorem V_if_lt_t {x : Cx} {cc : ByteArray} {own : String} {nL : Nat} {ret : Option FieldType} {d pc : Nat} {lv : List (Nat × Value)} {st : List Value} {h : Hp} {a : Int32} {off : Int} (K : Ok x cc own nL ret d) (tgt : Nat) (hdg : decode cc pc = .ok (.ifCond .lt off, 3)) (ht : (pc : Int) + off = (tgt : Int)) (hc : a < 0) (k : VV x tgt lv st h) : VV x pc lv (.int a :: st) h := by
  obtain ⟨⟨p, l, e, R, s, m, args, below, meth, c, cn, sn⟩, A, G, nL0, r, h'⟩ := x
  obtain ⟨hx, hb, hr, hlocks, hml, hnl, hown, hts, hK, hD, hA, hE, hR, hcs⟩ := K
  subst hnl
  intro H locs ls hP hS hl
  exact lv_if_lt hx hb hdg ht (fun c => k H locs ls hP hS hl) (fun c => absurd hc c)
theorem V_ic_lt_t {x : Cx} {cc : ByteArray} {own : String} {nL : Nat} {ret : Option FieldType} {d pc : Nat} {lv : List (Nat × Value)} {st : List Value} {h : Hp} {a b : Int32} {off : Int} (K : Ok x cc own nL ret d) (tgt : Nat) (hdg : decode cc pc = .ok (.if_icmp .lt off, 3)) (ht : (pc : Int) + off = (tgt : Int)) (hc : a < b) (k : VV x tgt lv st h) : VV x pc lv (.int b :: .int a :: st) h := by
  obtain ⟨⟨p, l, e, R, s, m, args, below, meth, c, cn, sn⟩, A, G, nL0, r, h'⟩ := x
  obtain ⟨hx, hb, hr, hlocks, hml, hnl, hown, hts, hK, hD, hA, hE, hR, hcs⟩ := K
  subst hnl
  intro H locs ls hP hS hl
  exact lv_icmp_lt hx hb hdg ht (fun c => k H locs ls hP hS hl) (fun c => absurd hc c)
theorem V_if_lt_f {x : Cx} {cc : ByteArray} {own : String} {nL : Nat} {ret : Option FieldType} {d pc : Nat} {lv : List (Nat × Value)} {st : List Value} {h : Hp} {a : Int32} {off : Int} (K : Ok x cc own nL ret d) (tgt : Nat) (hdg : decode cc pc = .ok (.ifCond .lt off, 3)) (ht : (pc : Int) + off = (tgt : Int)) (hc : ¬ (a < 0)) (k : VV x (pc + 3) lv st h) : VV x pc lv (.int a :: st) h := by
  obtain ⟨⟨p, l, e, R, s, m, args, below, meth, c, cn, sn⟩, A, G, nL0, r, h'⟩ := x
  obtain ⟨hx, hb, hr, hlocks, hml, hnl, hown, hts, hK, hD, hA, hE, hR, hcs⟩ := K
  subst hnl
  intro H locs ls hP hS hl
  exact lv_if_lt hx hb hdg ht (fun c => absurd c hc) (fun c => k H locs ls hP hS hl)
theorem V_ic_lt_f {x : Cx} {cc : ByteArray} {own : String} {nL : Nat} {ret : Option FieldType} {d pc : Nat} {lv : List (Nat × Value)} {st : List Value} {h : Hp} {a b : Int32} {off : Int} (K : Ok x cc own nL ret d) (tgt : Nat) (hdg : decode cc pc = .ok (.if_icmp .lt off, 3)) (ht : (pc : Int) + off = (tgt : Int)) (hc : ¬ (a < b)) (k : VV x (pc + 3) lv st h) : VV x pc lv (.int b :: .int a :: st) h := by
  obtain ⟨⟨p, l, e, R, s, m, args, below, meth, c, cn, sn⟩, A, G, nL0, r, h'⟩ := x
  obtain ⟨hx, hb, hr, hlocks, hml, hnl, hown, hts, hK, hD, hA, hE, hR, hcs⟩ := K
  subst hnl
  intro H locs ls hP hS hl
  exact lv_icmp_lt hx hb hdg ht (fun c => absurd c hc) (fun c => k H locs ls hP hS hl)
theorem V_if_ge_t {x : Cx} {cc : ByteArray} {own : String} {nL : Nat} {ret : Option FieldType} {d pc : Nat} {lv : List (Nat × Value)} {st : List Value} {h : Hp} {a : Int32} {off : Int} (K : Ok x cc own nL ret d) (tgt : Nat) (hdg : decode cc pc = .ok (.ifCond .ge off, 3)) (ht : (pc : Int) + off = (tgt : Int)) (hc : 0 ≤ a) (k : VV x tgt lv st h) : VV x pc lv (.int a :: st) h := by
  obtain ⟨⟨p, l, e, R, s, m, args, below, meth, c, cn, sn⟩, A, G, nL0, r, h'⟩ := x
  obtain ⟨hx, hb, hr, hlocks, hml, hnl, hown, hts, hK, hD, hA, hE, hR, hcs⟩ := K
  subst hnl
  intro H locs ls hP hS hl
  exact lv_if_ge hx hb hdg ht (fun c => k H locs ls hP hS hl) (fun c => absurd hc c)
theorem V_ic_ge_t {x : Cx} {cc : ByteArray} {own : String} {nL : Nat} {ret : Option FieldType} {d pc : Nat} {lv : List (Nat × Value)} {st : List Value} {h : Hp} {a b : Int32} {off : Int} (K : Ok x cc own nL ret d) (tgt : Nat) (hdg : decode cc pc = .ok (.if_icmp .ge off, 3)) (ht : (pc : Int) + off = (tgt : Int)) (hc : b ≤ a) (k : VV x tgt lv st h) : VV x pc lv (.int b :: .int a :: st) h := by
  obtain ⟨⟨p, l, e, R, s, m, args, below, meth, c, cn, sn⟩, A, G, nL0, r, h'⟩ := x
  obtain ⟨hx, hb, hr, hlocks, hml, hnl, hown, hts, hK, hD, hA, hE, hR, hcs⟩ := K
  subst hnl
  intro H locs ls hP hS hl
  exact lv_icmp_ge hx hb hdg ht (fun c => k H locs ls hP hS hl) (fun c => absurd hc c)
theorem V_if_ge_f {x : Cx} {cc : ByteArray} {own : String} {nL : Nat} {ret : Option FieldType} {d pc : Nat} {lv : List (Nat × Value)} {st : List Value} {h : Hp} {a : Int32} {off : Int} (K : Ok x cc own nL ret d) (tgt : Nat) (hdg : decode cc pc = .ok (.ifCond .ge off, 3)) (ht : (pc : Int) + off = (tgt : Int)) (hc : ¬ (0 ≤ a)) (k : VV x (pc + 3) lv st h) : VV x pc lv (.int a :: st) h := by
  obtain ⟨⟨p, l, e, R, s, m, args, below, meth, c, cn, sn⟩, A, G, nL0, r, h'⟩ := x
  obtain ⟨hx, hb, hr, hlocks, hml, hnl, hown, hts, hK, hD, hA, hE, hR, hcs⟩ := K
  subst hnl
  intro H locs ls hP hS hl
  exact lv_if_ge hx hb hdg ht (fun c => absurd c hc) (fun c => k H locs ls hP hS hl)
theorem V_ic_ge_f {x : Cx} {cc : ByteArray} {own : String} {nL : Nat} {ret : Option FieldType} {d pc : Nat} {lv : List (Nat × Value)} {st : List Value} {h : Hp} {a b : Int32} {off : Int} (K : Ok x cc own nL ret d) (tgt : Nat) (hdg : decode cc pc = .ok (.if_icmp .ge off, 3)) (ht : (pc : Int) + off = (tgt : Int)) (hc : ¬ (b ≤ a)) (k : VV x (pc + 3) lv st h) : VV x pc lv (.int b :: .int a :: st) h := by
  obtain ⟨⟨p, l, e, R, s, m, args, below, meth, c, cn, sn⟩, A, G, nL0, r, h'⟩ := x
  obtain ⟨hx, hb, hr, hlocks, hml, hnl, hown, hts, hK, hD, hA, hE, hR, hcs⟩ := K
  subst hnl
  intro H locs ls hP hS hl
  exact lv_icmp_ge hx hb hdg ht (fun c => absurd c hc) (fun c => k H locs ls hP hS hl)
theorem V_if_gt_t {x : Cx} {cc : ByteArray} {own : String} {nL : Nat} {ret : Option FieldType} {d pc : Nat} {lv : List (Nat × Value)} {st : List Value} {h : Hp} {a : Int32} {off : Int} (K : Ok x cc own nL ret d) (tgt : Nat) (hdg : decode cc pc = .ok (.ifCond .gt off, 3)) (ht : (pc : Int) + off = (tgt : Int)) (hc : 0 < a) (k : VV x tgt lv st h) : VV x pc lv (.int a :: st) h := by
  obtain ⟨⟨p, l, e, R, s, m, args, below, meth, c, cn, sn⟩, A, G, nL0, r, h'⟩ := x
  obtain ⟨hx, hb, hr, hlocks, hml, hnl, hown, hts, hK, hD, hA, hE, hR, hcs⟩ := K
  subst hnl
  intro H locs ls hP hS hl
  exact lv_if_gt hx hb hdg ht (fun c => k H locs ls hP hS hl) (fun c => absurd hc c)
theorem V_ic_gt_t {x : Cx} {cc : ByteArray} {own : String} {nL : Nat} {ret : Option FieldType} {d pc : Nat} {lv : List (Nat × Value)} {st : List Value} {h : Hp} {a b : Int32} {off : Int} (K : Ok x cc own nL ret d) (tgt : Nat) (hdg : decode cc pc = .ok (.if_icmp .gt off, 3)) (ht : (pc : Int) + off = (tgt : Int)) (hc : b < a) (k : VV x tgt lv st h) : VV x pc lv (.int b :: .int a :: st) h := by
  obtain ⟨⟨p, l, e, R, s, m, args, below, meth, c, cn, sn⟩, A, G, nL0, r, h'⟩ := x
  obtain ⟨hx, hb, hr, hlocks, hml, hnl, hown, hts, hK, hD, hA, hE, hR, hcs⟩ := K
  subst hnl
  intro H locs ls hP hS hl
  exact lv_icmp_gt hx hb hdg ht (fun c => k H locs ls hP hS hl) (fun c => absurd hc c)
theorem V_if_gt_f {x : Cx} {cc : ByteArray} {own : String} {nL : Nat} {ret : Option FieldType} {d pc : Nat} {lv : List (Nat × Value)} {st : List Value} {h : Hp} {a : Int32} {off : Int} (K : Ok x cc own nL ret d) (tgt : Nat) (hdg : decode cc pc = .ok (.ifCond .gt off, 3)) (ht : (pc : Int) + off = (tgt : Int)) (hc : ¬ (0 < a)) (k : VV x (pc + 3) lv st h) : VV x pc lv (.int a :: st) h := by
  obtain ⟨⟨p, l, e, R, s, m, args, below, meth, c, cn, sn⟩, A, G, nL0, r, h'⟩ := x
  obtain ⟨hx, hb, hr, hlocks, hml, hnl, hown, hts, hK, hD, hA, hE, hR, hcs⟩ := K
  subst hnl
  intro H locs ls hP hS hl
  exact lv_if_gt hx hb hdg ht (fun c => absurd c hc) (fun c => k H locs ls hP hS hl)
theorem V_ic_gt_f {x : Cx} {cc : ByteArray} {own : String} {nL : Nat} {ret : Option FieldType} {d pc : Nat} {lv : List (Nat × Value)} {st : List Value} {h : Hp} {a b : Int32} {off : Int} (K : Ok x cc own nL ret d) (tgt : Nat) (hdg : decode cc pc = .ok (.if_icmp .gt off, 3)) (ht : (pc : Int) + off = (tgt : Int)) (hc : ¬ (b < a)) (k : VV x (pc + 3) lv st h) : VV x pc lv (.int b :: .int a :: st) h := by
  obtain ⟨⟨p, l, e, R, s, m, args, below, meth, c, cn, sn⟩, A, G, nL0, r, h'⟩ := x
  obtain ⟨hx, hb, hr, hlocks, hml, hnl, hown, hts, hK, hD, hA, hE, hR, hcs⟩ := K
  subst hnl
  intro H locs ls hP hS hl
  exact lv_icmp_gt hx hb hdg ht (fun c => absurd c hc) (fun c => k H locs ls hP hS hl)
theorem V_if_le_t {x : Cx} {cc : ByteArray} {own : String} {nL : Nat} {ret : Option FieldType} {d pc : Nat} {lv : List (Nat × Value)} {st : List Value} {h : Hp} {a : Int32} {off : Int} (K : Ok x cc own nL ret d) (tgt : Nat) (hdg : decode cc pc = .ok (.ifCond .le off, 3)) (ht : (pc : Int) + off = (tgt : Int)) (hc : a ≤ 0) (k : VV x tgt lv st h) : VV x pc lv (.int a :: st) h := by
  obtain ⟨⟨p, l, e, R, s, m, args, below, meth, c, cn, sn⟩, A, G, nL0, r, h'⟩ := x
  obtain ⟨hx, hb, hr, hlocks, hml, hnl, hown, hts, hK, hD, hA, hE, hR, hcs⟩ := K
  subst hnl
  intro H locs ls hP hS hl
  exact lv_if_le hx hb hdg ht (fun c => k H locs ls hP hS hl) (fun c => absurd hc c)
theorem V_ic_le_t {x : Cx} {cc : ByteArray} {own : String} {nL : Nat} {ret : Option FieldType} {d pc : Nat} {lv : List (Nat × Value)} {st : List Value} {h : Hp} {a b : Int32} {off : Int} (K : Ok x cc own nL ret d) (tgt : Nat) (hdg : decode cc pc = .ok (.if_icmp .le off, 3)) (ht : (pc : Int) + off = (tgt : Int)) (hc : a ≤ b) (k : VV x tgt lv st h) : VV x pc lv (.int b :: .int a :: st) h := by
  obtain ⟨⟨p, l, e, R, s, m, args, below, meth, c, cn, sn⟩, A, G, nL0, r, h'⟩ := x
  obtain ⟨hx, hb, hr, hlocks, hml, hnl, hown, hts, hK, hD, hA, hE, hR, hcs⟩ := K
  subst hnl
  intro H locs ls hP hS hl
  exact lv_icmp_le hx hb hdg ht (fun c => k H locs ls hP hS hl) (fun c => absurd hc c)
theorem V_if_le_f {x : Cx} {cc : ByteArray} {own : String} {nL : Nat} {ret : Option FieldType} {d pc : Nat} {lv : List (Nat × Value)} {st : List Value} {h : Hp} {a : Int32} {off : Int} (K : Ok x cc own nL ret d) (tgt : Nat) (hdg : decode cc pc = .ok (.ifCond .le off, 3)) (ht : (pc : Int) + off = (tgt : Int)) (hc : ¬ (a ≤ 0)) (k : VV x (pc + 3) lv st h) : VV x pc lv (.int a :: st) h := by
  obtain ⟨⟨p, l, e, R, s, m, args, below, meth, c, cn, sn⟩, A, G, nL0, r, h'⟩ := x
  obtain ⟨hx, hb, hr, hlocks, hml, hnl, hown, hts, hK, hD, hA, hE, hR, hcs⟩ := K
  subst hnl
  intro H locs ls hP hS hl
  exact lv_if_le hx hb hdg ht (fun c => absurd c hc) (fun c => k H locs ls hP hS hl)
theorem V_ic_le_f {x : Cx} {cc : ByteArray} {own : String} {nL : Nat} {ret : Option FieldType} {d pc : Nat} {lv : List (Nat × Value)} {st : List Value} {h : Hp} {a b : Int32} {off : Int} (K : Ok x cc own nL ret d) (tgt : Nat) (hdg : decode cc pc = .ok (.if_icmp .le off, 3)) (ht : (pc : Int) + off = (tgt : Int)) (hc : ¬ (a ≤ b)) (k : VV x (pc + 3) lv st h) : VV x pc lv (.int b :: .int a :: st) h := by
  obtain ⟨⟨p, l, e, R, s, m, args, below, meth, c, cn, sn⟩, A, G, nL0, r, h'⟩ := x
  obtain ⟨hx, hb, hr, hlocks, hml, hnl, hown, hts, hK, hD, hA, hE, hR, hcs⟩ := K
  subst hnl
  intro H locs ls hP hS hl
  exact lv_icmp_le hx hb hdg ht (fun c => absurd c hc) (fun c => k H locs ls hP hS hl)
theorem V_goto {x : Cx} {cc : ByteArray} {own : String} {nL : Nat} {ret : Option FieldType} {d pc : Nat} {lv : List (Nat × Value)} {st : List Value} {h : Hp} {off : Int} (K : Ok x cc own nL ret d) (tgt : Nat) (hdg : decode cc pc = .ok (.goto off, 3)) (ht : (pc : Int) + off = (tgt : Int)) (k : VV x tgt lv st h) : VV x pc lv (st) h := by
  obtain ⟨⟨p, l, e, R, s, m, args, below, meth, c, cn, sn⟩, A, G, nL0, r, h'⟩ := x
  obtain ⟨hx, hb, hr, hlocks, hml, hnl, hown, hts, hK, hD, hA, hE, hR, hcs⟩ := K
  subst hnl
  intro H locs ls hP hS hl
  exact lv_goto hx hb hdg ht (k H locs ls hP hS hl)
theorem V_tin {x : Cx} {cc : ByteArray} {own : String} {nL : Nat} {ret : Option FieldType} {d pc : Nat} {lv : List (Nat × Value)} {st : List Value} {h : Hp} {dflt lo hi : Int} {offs : Array Int} {len : Nat} {a : Int32} {off : Int} (K : Ok x cc own nL ret d) (tgt : Nat) (hdg : decode cc pc = .ok (.tableswitch dflt lo hi offs, len)) (h1 : ¬ a.toInt < lo) (h2 : ¬ hi < a.toInt) (ho : offs[(a.toInt - lo).toNat]? = some off) (ht : (pc : Int) + off = (tgt : Int)) (k : VV x tgt lv st h) : VV x pc lv (.int a :: st) h := by
  obtain ⟨⟨p, l, e, R, s, m, args, below, meth, c, cn, sn⟩, A, G, nL0, r, h'⟩ := x
  obtain ⟨hx, hb, hr, hlocks, hml, hnl, hown, hts, hK, hD, hA, hE, hR, hcs⟩ := K
  subst hnl
  intro H locs ls hP hS hl
  exact lv_tableIn hx hb hdg h1 h2 ho ht (k H locs ls hP hS hl)
theorem V_tout {x : Cx} {cc : ByteArray} {own : String} {nL : Nat} {ret : Option FieldType} {d pc : Nat} {lv : List (Nat × Value)} {st : List Value} {h : Hp} {dflt lo hi : Int} {offs : Array Int} {len : Nat} {a : Int32} (K : Ok x cc own nL ret d) (tgt : Nat) (hdg : decode cc pc = .ok (.tableswitch dflt lo hi offs, len)) (h1 : a.toInt < lo ∨ hi < a.toInt) (ht : (pc : Int) + dflt = (tgt : Int)) (k : VV x tgt lv st h) : VV x pc lv (.int a :: st) h := by
  obtain ⟨⟨p, l, e, R, s, m, args, below, meth, c, cn, sn⟩, A, G, nL0, r, h'⟩ := x
  obtain ⟨hx, hb, hr, hlocks, hml, hnl, hown, hts, hK, hD, hA, hE, hR, hcs⟩ := K
  subst hnl
  intro H locs ls hP hS hl
  exact lv_tableOut hx hb hdg h1 ht (k H locs ls hP hS hl)
theorem V_lookup {x : Cx} {cc : ByteArray} {own : String} {nL : Nat} {ret : Option FieldType} {d pc : Nat} {lv : List (Nat × Value)} {st : List Value} {h : Hp} {dflt : Int} {ps : Array (Int × Int)} {len : Nat} {a : Int32} {off : Int} (K : Ok x cc own nL ret d) (tgt : Nat) (hdg : decode cc pc = .ok (.lookupswitch dflt ps, len)) (hp : (ps.toList.zip (ps.toList.drop 1)).all (fun (a, next) => a.1 < next.1) = true) (ho : Op.lookupswitch.offset ps.toList dflt a.toInt = off) (ht : (pc : Int) + off = (tgt : Int)) (k : VV x tgt lv st h) : VV x pc lv (.int a :: st) h := by
  obtain ⟨⟨p, l, e, R, s, m, args, below, meth, c, cn, sn⟩, A, G, nL0, r, h'⟩ := x
  obtain ⟨hx, hb, hr, hlocks, hml, hnl, hown, hts, hK, hD, hA, hE, hR, hcs⟩ := K
  subst hnl
  intro H locs ls hP hS hl
  exact lv_lookup hx hb hdg hp ho ht (k H locs ls hP hS hl)
theorem V_lcmp {x : Cx} {cc : ByteArray} {own : String} {nL : Nat} {ret : Option FieldType} {d pc : Nat} {lv : List (Nat × Value)} {st : List Value} {h : Hp} {a b : Int64} (K : Ok x cc own nL ret d) (hdg : decode cc pc = .ok (.lcmp, 1)) (k : VV x (pc + 1) lv (.int (lg_cmp a b) :: st) h) : VV x pc lv (.long b :: .long a :: st) h := by
  obtain ⟨⟨p, l, e, R, s, m, args, below, meth, c, cn, sn⟩, A, G, nL0, r, h'⟩ := x
  obtain ⟨hx, hb, hr, hlocks, hml, hnl, hown, hts, hK, hD, hA, hE, hR, hcs⟩ := K
  subst hnl
  intro H locs ls hP hS hl
  exact W.lcmp hx hb hdg (k H locs ls hP hS hl)
