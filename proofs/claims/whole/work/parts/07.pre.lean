theorem k_0 : shK 0 = 9 := by decide
theorem k_1 : shK 1 = 15 := by decide
theorem n_1 : shN 1 = 6 := by decide
theorem k_2 : shK 2 = 12 := by decide
theorem n_2 : shN 2 = 40 := by decide
theorem k_3 : shK 3 = 12 := by decide
theorem n_3 : shN 3 = 40 := by decide
theorem k_4 : shK 4 = 12 := by decide
theorem n_4 : shN 4 = 40 := by decide
theorem k_5 : shK 5 = 12 := by decide
theorem n_5 : shN 5 = 40 := by decide
theorem k_6 : shK 6 = 12 := by decide
theorem n_6 : shN 6 = 40 := by decide
theorem k_7 : shK 7 = 12 := by decide
theorem n_7 : shN 7 = 40 := by decide
theorem k_8 : shK 8 = 12 := by decide
theorem n_8 : shN 8 = 6 := by decide
theorem k_9 : shK 9 = 14 := by decide
theorem n_9 : shN 9 = 4 := by decide
theorem k_10 : shK 10 = 11 := by decide
theorem n_10 : shN 10 = 60 := by decide
theorem k_11 : shK 11 = 11 := by decide
theorem n_11 : shN 11 = 60 := by decide
theorem k_12 : shK 12 = 11 := by decide
theorem n_12 : shN 12 = 60 := by decide
theorem k_13 : shK 13 = 11 := by decide
theorem n_13 : shN 13 = 60 := by decide
theorem k_14 : shK 14 = 12 := by decide
theorem n_14 : shN 14 = 4 := by decide
theorem k_15 : shK 15 = 4 := by decide
theorem k_16 : shK 16 = 12 := by decide
theorem n_16 : shN 16 = 6 := by decide
theorem k_17 : shK 17 = 12 := by decide
theorem n_17 : shN 17 = 6 := by decide
theorem k_18 : shK 18 = 12 := by decide
theorem n_18 : shN 18 = 6 := by decide
theorem k_19 : shK 19 = 4 := by decide
theorem k_20 : shK 20 = 12 := by decide
theorem n_20 : shN 20 = 6 := by decide
theorem k_21 : shK 21 = 12 := by decide
theorem n_21 : shN 21 = 6 := by decide
theorem k_22 : shK 22 = 12 := by decide
theorem n_22 : shN 22 = 6 := by decide
theorem k_23 : shK 23 = 4 := by decide
theorem k_24 : shK 24 = 12 := by decide
theorem n_24 : shN 24 = 6 := by decide
theorem k_25 : shK 25 = 12 := by decide
theorem n_25 : shN 25 = 6 := by decide
theorem k_26 : shK 26 = 12 := by decide
theorem n_26 : shN 26 = 6 := by decide
theorem k_27 : shK 27 = 3 := by decide
theorem k_28 : shK 28 = 12 := by decide
theorem n_28 : shN 28 = 40 := by decide
theorem k_29 : shK 29 = 13 := by decide
theorem n_29 : shN 29 = 3 := by decide
theorem k_30 : shK 30 = 3 := by decide
theorem k_31 : shK 31 = 12 := by decide
theorem n_31 : shN 31 = 40 := by decide
theorem k_32 : shK 32 = 3 := by decide
theorem k_33 : shK 33 = 12 := by decide
theorem n_33 : shN 33 = 40 := by decide
theorem k_34 : shK 34 = 3 := by decide
theorem k_35 : shK 35 = 12 := by decide
theorem n_35 : shN 35 = 40 := by decide
theorem k_36 : shK 36 = 15 := by decide
theorem n_36 : shN 36 = 6 := by decide
theorem k_37 : shK 37 = 12 := by decide
theorem n_37 : shN 37 = 31 := by decide
theorem k_38 : shK 38 = 12 := by decide
theorem n_38 : shN 38 = 31 := by decide
theorem k_39 : shK 39 = 12 := by decide
theorem n_39 : shN 39 = 31 := by decide
theorem k_40 : shK 40 = 12 := by decide
theorem n_40 : shN 40 = 31 := by decide
theorem k_41 : shK 41 = 12 := by decide
theorem n_41 : shN 41 = 31 := by decide
theorem k_42 : shK 42 = 12 := by decide
theorem n_42 : shN 42 = 31 := by decide
theorem k_43 : shK 43 = 12 := by decide
theorem n_43 : shN 43 = 6 := by decide
theorem k_44 : shK 44 = 6 := by decide
theorem k_45 : shK 45 = 7 := by decide
theorem k_46 : shK 46 = 1 := by decide
theorem k_47 : shK 47 = 0 := by decide
theorem k_48 : shK 48 = 8 := by decide
theorem k_49 : shK 49 = 2 := by decide
theorem k_50 : shK 50 = 5 := by decide
theorem k_51 : shK 51 = 10 := by decide
theorem k_52 : shK 52 = 12 := by decide
theorem n_52 : shN 52 = 2805 := by decide
theorem k_53 : shK 53 = 12 := by decide
theorem n_53 : shN 53 = 6 := by decide
theorem k_54 : shK 54 = 12 := by decide
theorem n_54 : shN 54 = 3 := by decide
theorem k_55 : shK 55 = 12 := by decide
theorem n_55 : shN 55 = 240 := by decide
theorem k_56 : shK 56 = 12 := by decide
theorem n_56 : shN 56 = 6 := by decide
theorem k_57 : shK 57 = 12 := by decide
theorem n_57 : shN 57 = 240 := by decide
theorem k_58 : shK 58 = 12 := by decide
theorem n_58 : shN 58 = 4 := by decide
theorem k_59 : shK 59 = 12 := by decide
theorem n_59 : shN 59 = 6 := by decide
theorem k_60 : shK 60 = 12 := by decide
theorem n_60 : shN 60 = 6 := by decide
theorem k_61 : shK 61 = 12 := by decide
theorem n_61 : shN 61 = 6 := by decide
theorem k_62 : shK 62 = 12 := by decide
theorem n_62 : shN 62 = 6 := by decide
theorem k_63 : shK 63 = 12 := by decide
theorem n_63 : shN 63 = 31 := by decide
theorem k_64 : shK 64 = 12 := by decide
theorem n_64 : shN 64 = 81 := by decide
theorem isP_45 : isP 45 := by unfold isP; decide
theorem isP_46 : isP 46 := by unfold isP; decide
theorem isP_47 : isP 47 := by unfold isP; decide
theorem isP_48 : isP 48 := by unfold isP; decide
theorem isP_49 : isP 49 := by unfold isP; decide
theorem isP_50 : isP 50 := by unfold isP; decide
def pB (p : Nat) : Bool := decide (45 ≤ p ∧ p ≤ 50)
theorem pB_P {p : Nat} (h : pB p = true) : isP p := by have := of_decide_eq_true h; unfold isP; omega
theorem sh_all {P : Nat → Prop} {k : Nat} (h9 : k < 99) (h : ∀ o, o < 65 → shK o = k → P o) : ∀ {o : Nat}, shK o = k → P o := fun {o} ho => h o (sh_lt ho h9) ho
theorem rfF0 {o : Nat} (ho : shK o = 4) : rf o 0 = some 44 := sh_all (P := fun o => rf o 0 = some 44) (by decide) (by decide +kernel) ho
theorem rfF1 {o : Nat} (ho : shK o = 4) : rf o 1 = some (o + 1) := sh_all (P := fun o => rf o 1 = some (o + 1)) (by decide) (by decide +kernel) ho
theorem rfF2 {o : Nat} (ho : shK o = 4) : rf o 2 = some (o + 2) := sh_all (P := fun o => rf o 2 = some (o + 2)) (by decide) (by decide +kernel) ho
theorem rfF3 {o : Nat} (ho : shK o = 4) : rf o 3 = some (o + 3) := sh_all (P := fun o => rf o 3 = some (o + 3)) (by decide) (by decide +kernel) ho
theorem F1k {o : Nat} (ho : shK o = 4) : shK (o + 1) = 12 := sh_all (P := fun o => shK (o + 1) = 12) (by decide) (by decide +kernel) ho
theorem F1n {o : Nat} (ho : shK o = 4) : shN (o + 1) = 6 := sh_all (P := fun o => shN (o + 1) = 6) (by decide) (by decide +kernel) ho
theorem F2k {o : Nat} (ho : shK o = 4) : shK (o + 2) = 12 := sh_all (P := fun o => shK (o + 2) = 12) (by decide) (by decide +kernel) ho
theorem F2n {o : Nat} (ho : shK o = 4) : shN (o + 2) = 6 := sh_all (P := fun o => shN (o + 2) = 6) (by decide) (by decide +kernel) ho
theorem F3k {o : Nat} (ho : shK o = 4) : shK (o + 3) = 12 := sh_all (P := fun o => shK (o + 3) = 12) (by decide) (by decide +kernel) ho
theorem F3n {o : Nat} (ho : shK o = 4) : shN (o + 3) = 6 := sh_all (P := fun o => shN (o + 3) = 6) (by decide) (by decide +kernel) ho
theorem rfD0 {o : Nat} (ho : shK o = 3) : rf o 0 = some (o + 1) := sh_all (P := fun o => rf o 0 = some (o + 1)) (by decide) (by decide +kernel) ho
theorem D1k {o : Nat} (ho : shK o = 3) : shK (o + 1) = 12 := sh_all (P := fun o => shK (o + 1) = 12) (by decide) (by decide +kernel) ho
theorem D1n {o : Nat} (ho : shK o = 3) : shN (o + 1) = 40 := sh_all (P := fun o => shN (o + 1) = 40) (by decide) (by decide +kernel) ho
theorem ib_lt {i : Int32} {n : Nat} (h : ib i n = true) : ix i < n := Nat.not_le.mp fun q => ib_in h (Or.inr q)
theorem rowR {i : Int32} (h : ib i 6 = true) : rf 1 (ix i) = some (2 + ix i) := (by decide : ∀ q, q < 6 → rf 1 q = some (2 + q)) _ (ib_lt h)
theorem rowK {i : Int32} (h : ib i 6 = true) : shK (2 + ix i) = 12 := (by decide : ∀ q, q < 6 → shK (2 + q) = 12) _ (ib_lt h)
theorem rowN {i : Int32} (h : ib i 6 = true) : shN (2 + ix i) = 40 := (by decide : ∀ q, q < 6 → shN (2 + q) = 40) _ (ib_lt h)
theorem talR {i : Int32} (h : ib i 6 = true) : rf 36 (ix i) = some (37 + ix i) := (by decide : ∀ q, q < 6 → rf 36 q = some (37 + q)) _ (ib_lt h)
theorem talK {i : Int32} (h : ib i 6 = true) : shK (37 + ix i) = 12 := (by decide : ∀ q, q < 6 → shK (37 + q) = 12) _ (ib_lt h)
theorem talN {i : Int32} (h : ib i 6 = true) : shN (37 + ix i) = 31 := (by decide : ∀ q, q < 6 → shN (37 + q) = 31) _ (ib_lt h)
theorem txtR {i : Int32} (h : ib i 4 = true) : rf 9 (ix i) = some (10 + ix i) := (by decide : ∀ q, q < 4 → rf 9 q = some (10 + q)) _ (ib_lt h)
theorem txtK {i : Int32} (h : ib i 4 = true) : shK (10 + ix i) = 11 := (by decide : ∀ q, q < 4 → shK (10 + q) = 11) _ (ib_lt h)
theorem txtN {i : Int32} (h : ib i 4 = true) : shN (10 + ix i) = 60 := (by decide : ∀ q, q < 4 → shN (10 + q) = 60) _ (ib_lt h)
theorem kepR {i : Int32} (h : ib i 3 = true) : rf 29 (ix i) = some (30 + 2 * ix i) := (by decide : ∀ q, q < 3 → rf 29 q = some (30 + 2 * q)) _ (ib_lt h)
theorem kepK {i : Int32} (h : ib i 3 = true) : shK (30 + 2 * ix i) = 3 := (by decide : ∀ q, q < 3 → shK (30 + 2 * q) = 3) _ (ib_lt h)
theorem V_iald {x : Cx} {cc : ByteArray} {own : String} {nL : Nat} {ret : Option FieldType} {d pc : Nat} {lv : List (Nat × Value)} {st : List Value} {h : Hp} {o n : Nat} {i : Int32} (K : Ok x cc own nL ret d) (ho : shK o = 12) (hN : shN o = n) (hi : ib i n = true) (hdg : decode cc pc = .ok (.iaload, 1)) (kk : VV x (pc + 1) lv (.int (h.1 o (ix i)) :: st) h) : VV x pc lv (.int i :: .ref (ad x o) :: st) h := V_iaload K ho (by rw [hN]; exact hi) hdg kk
theorem V_iast {x : Cx} {cc : ByteArray} {own : String} {nL : Nat} {ret : Option FieldType} {d pc : Nat} {lv : List (Nat × Value)} {st : List Value} {h : Hp} {o n : Nat} {i v : Int32} (K : Ok x cc own nL ret d) (ho : shK o = 12) (hN : shN o = n) (hi : ib i n = true) (hdg : decode cc pc = .ok (.iastore, 1)) (kk : VV x (pc + 1) lv st (up h o (ix i) v)) : VV x pc lv (.int v :: .int i :: .ref (ad x o) :: st) h := V_iastore K ho (by rw [hN]; exact hi) hdg kk
theorem V_bald {x : Cx} {cc : ByteArray} {own : String} {nL : Nat} {ret : Option FieldType} {d pc : Nat} {lv : List (Nat × Value)} {st : List Value} {h : Hp} {o n : Nat} {i : Int32} (K : Ok x cc own nL ret d) (ho : shK o = 11) (hN : shN o = n) (hi : ib i n = true) (hdg : decode cc pc = .ok (.baload, 1)) (kk : VV x (pc + 1) lv (.int (h.1 o (ix i)) :: st) h) : VV x pc lv (.int i :: .ref (ad x o) :: st) h := V_baload K ho (by rw [hN]; exact hi) hdg kk
theorem V_bast {x : Cx} {cc : ByteArray} {own : String} {nL : Nat} {ret : Option FieldType} {d pc : Nat} {lv : List (Nat × Value)} {st : List Value} {h : Hp} {o n : Nat} {i v : Int32} (K : Ok x cc own nL ret d) (ho : shK o = 11) (hN : shN o = n) (hi : ib i n = true) (hdg : decode cc pc = .ok (.bastore, 1)) (kk : VV x (pc + 1) lv st (up h o (ix i) (v.toInt8.toInt32))) : VV x pc lv (.int v :: .int i :: .ref (ad x o) :: st) h := V_bastore K ho (by rw [hN]; exact hi) hdg kk
def cpOk (sp dp n : Int32) (n0 n1 : Nat) : Bool := decide (¬ sp < 0 ∧ ¬ dp < 0 ∧ ¬ n < 0 ∧ ix sp + ix n ≤ n0 ∧ ix dp + ix n ≤ n1)
theorem V_cpy {x : Cx} {cc : ByteArray} {own : String} {nL : Nat} {ret : Option FieldType} {d pc : Nat} {lv : List (Nat × Value)} {st : List Value} {h : Hp} {idx o0 o1 n0 n1 : Nat} {sp dp n : Int32} (K : Ok x cc own nL ret (d + 1)) (hm1 : Cond.methodLink own idx arraycopyName ∈ TB) (hm2 : Cond.native arraycopyName ∈ TB) (hm3 : Cond.static arraycopyName ∈ TB) (hm4 : Cond.initialized "java/lang/System" ∈ TB) (h0 : shK o0 = 12) (h1 : shK o1 = 12) (hn0 : shN o0 = n0) (hn1 : shN o1 = n1) (g : cpOk sp dp n n0 n1 = true) (hW : (st.map fun v => v.category).sum ≤ 8) (hdg : decode cc pc = .ok (.invokestatic idx, 3)) (kk : VV x (pc + 3) lv st (upA h o1 (va_cpy (h.1 o0) (h.1 o1) (ix sp) (ix dp) (ix n)))) : VV x pc lv (.int n :: .int dp :: .ref (ad x o1) :: .int sp :: .ref (ad x o0) :: st) h := by
  subst hn0; subst hn1
  obtain ⟨g1, g2, g3, g4, g5⟩ := of_decide_eq_true g
  exact V_copy K hm1 hm2 hm3 hm4 h0 h1 g1 g2 g3 g4 g5 hW hdg kk
def nz (b : Int32) : Bool := decide (¬ b = 0)
def nzL (b : Int64) : Bool := decide (¬ b = 0)
theorem nz_ne {b : Int32} (h : nz b = true) : ¬ b = 0 := of_decide_eq_true h
theorem nzL_ne {b : Int64} (h : nzL b = true) : ¬ b = 0 := of_decide_eq_true h
abbrev irm (a b : Int32) : Int32 := a - a / b * b
abbrev lrm (a b : Int64) : Int64 := a - a / b * b
abbrev mnI (a b : Int32) : Int32 := if b < a then b else a
abbrev mxI (a b : Int32) : Int32 := if a < b then b else a
abbrev abI (a : Int32) : Int32 := if 0 ≤ a then a else 0 - a
theorem in_X3 : ∀ w ∈ u_ws RX3 TX3 2, w ∈ TB := by decide +kernel
theorem in_X4 : ∀ w ∈ u_ws RX4 TX4 12, w ∈ TB := by decide +kernel
theorem in_X6 : ∀ w ∈ u_ws RX6 TX6 6, w ∈ TB := by decide +kernel
theorem in_X9 : ∀ w ∈ u_ws RX9 TX9 15, w ∈ TB := by decide +kernel
theorem in_X10 : ∀ w ∈ u_ws RX10 TX10 25, w ∈ TB := by decide +kernel
def FU : Nat := 10000000
theorem lt1_inv {α β : Type} {a : α} {f : α → β} {z : β} (E : lt_ a f = z) : ∃ v, a = v ∧ f v = z := ⟨a, rfl, E⟩
def ob2 {α0 α1 β : Type} (a : Option (α0 × α1)) (f : α0 → α1 → Option β) : Option β := match a with
  | none => none
  | some v => f (v.1) (v.2)
theorem ob2_inv {α0 α1 β : Type} {a : Option (α0 × α1)} {f : α0 → α1 → Option β} {z : β} (E : ob2 a f = some z) : ∃ v0 v1, a = some (v0, v1) ∧ f v0 v1 = some z := by
  cases a with
  | none => cases E
  | some v => exact ⟨v.1, v.2, rfl, E⟩
def lt2 {α0 α1 β : Type} (a : α0 × α1) (f : α0 → α1 → β) : β := f (a.1) (a.2)
theorem lt2_inv {α0 α1 β : Type} {a : α0 × α1} {f : α0 → α1 → β} {z : β} (E : lt2 a f = z) : ∃ v0 v1, a = (v0, v1) ∧ f v0 v1 = z := ⟨a.1, a.2, rfl, E⟩
def ob3 {α0 α1 α2 β : Type} (a : Option (α0 × α1 × α2)) (f : α0 → α1 → α2 → Option β) : Option β := match a with
  | none => none
  | some v => f (v.1) (v.2.1) (v.2.2)
theorem ob3_inv {α0 α1 α2 β : Type} {a : Option (α0 × α1 × α2)} {f : α0 → α1 → α2 → Option β} {z : β} (E : ob3 a f = some z) : ∃ v0 v1 v2, a = some (v0, v1, v2) ∧ f v0 v1 v2 = some z := by
  cases a with
  | none => cases E
  | some v => exact ⟨v.1, v.2.1, v.2.2, rfl, E⟩
def lt3 {α0 α1 α2 β : Type} (a : α0 × α1 × α2) (f : α0 → α1 → α2 → β) : β := f (a.1) (a.2.1) (a.2.2)
theorem lt3_inv {α0 α1 α2 β : Type} {a : α0 × α1 × α2} {f : α0 → α1 → α2 → β} {z : β} (E : lt3 a f = z) : ∃ v0 v1 v2, a = (v0, v1, v2) ∧ f v0 v1 v2 = z := ⟨a.1, a.2.1, a.2.2, rfl, E⟩
def ob4 {α0 α1 α2 α3 β : Type} (a : Option (α0 × α1 × α2 × α3)) (f : α0 → α1 → α2 → α3 → Option β) : Option β := match a with
  | none => none
  | some v => f (v.1) (v.2.1) (v.2.2.1) (v.2.2.2)
theorem ob4_inv {α0 α1 α2 α3 β : Type} {a : Option (α0 × α1 × α2 × α3)} {f : α0 → α1 → α2 → α3 → Option β} {z : β} (E : ob4 a f = some z) : ∃ v0 v1 v2 v3, a = some (v0, v1, v2, v3) ∧ f v0 v1 v2 v3 = some z := by
  cases a with
  | none => cases E
  | some v => exact ⟨v.1, v.2.1, v.2.2.1, v.2.2.2, rfl, E⟩
def lt4 {α0 α1 α2 α3 β : Type} (a : α0 × α1 × α2 × α3) (f : α0 → α1 → α2 → α3 → β) : β := f (a.1) (a.2.1) (a.2.2.1) (a.2.2.2)
theorem lt4_inv {α0 α1 α2 α3 β : Type} {a : α0 × α1 × α2 × α3} {f : α0 → α1 → α2 → α3 → β} {z : β} (E : lt4 a f = z) : ∃ v0 v1 v2 v3, a = (v0, v1, v2, v3) ∧ f v0 v1 v2 v3 = z := ⟨a.1, a.2.1, a.2.2.1, a.2.2.2, rfl, E⟩
def ob5 {α0 α1 α2 α3 α4 β : Type} (a : Option (α0 × α1 × α2 × α3 × α4)) (f : α0 → α1 → α2 → α3 → α4 → Option β) : Option β := match a with
  | none => none
  | some v => f (v.1) (v.2.1) (v.2.2.1) (v.2.2.2.1) (v.2.2.2.2)
theorem ob5_inv {α0 α1 α2 α3 α4 β : Type} {a : Option (α0 × α1 × α2 × α3 × α4)} {f : α0 → α1 → α2 → α3 → α4 → Option β} {z : β} (E : ob5 a f = some z) : ∃ v0 v1 v2 v3 v4, a = some (v0, v1, v2, v3, v4) ∧ f v0 v1 v2 v3 v4 = some z := by
  cases a with
  | none => cases E
  | some v => exact ⟨v.1, v.2.1, v.2.2.1, v.2.2.2.1, v.2.2.2.2, rfl, E⟩
def lt5 {α0 α1 α2 α3 α4 β : Type} (a : α0 × α1 × α2 × α3 × α4) (f : α0 → α1 → α2 → α3 → α4 → β) : β := f (a.1) (a.2.1) (a.2.2.1) (a.2.2.2.1) (a.2.2.2.2)
theorem lt5_inv {α0 α1 α2 α3 α4 β : Type} {a : α0 × α1 × α2 × α3 × α4} {f : α0 → α1 → α2 → α3 → α4 → β} {z : β} (E : lt5 a f = z) : ∃ v0 v1 v2 v3 v4, a = (v0, v1, v2, v3, v4) ∧ f v0 v1 v2 v3 v4 = z := ⟨a.1, a.2.1, a.2.2.1, a.2.2.2.1, a.2.2.2.2, rfl, E⟩
def ob6 {α0 α1 α2 α3 α4 α5 β : Type} (a : Option (α0 × α1 × α2 × α3 × α4 × α5)) (f : α0 → α1 → α2 → α3 → α4 → α5 → Option β) : Option β := match a with
  | none => none
  | some v => f (v.1) (v.2.1) (v.2.2.1) (v.2.2.2.1) (v.2.2.2.2.1) (v.2.2.2.2.2)
theorem ob6_inv {α0 α1 α2 α3 α4 α5 β : Type} {a : Option (α0 × α1 × α2 × α3 × α4 × α5)} {f : α0 → α1 → α2 → α3 → α4 → α5 → Option β} {z : β} (E : ob6 a f = some z) : ∃ v0 v1 v2 v3 v4 v5, a = some (v0, v1, v2, v3, v4, v5) ∧ f v0 v1 v2 v3 v4 v5 = some z := by
  cases a with
  | none => cases E
  | some v => exact ⟨v.1, v.2.1, v.2.2.1, v.2.2.2.1, v.2.2.2.2.1, v.2.2.2.2.2, rfl, E⟩
def lt6 {α0 α1 α2 α3 α4 α5 β : Type} (a : α0 × α1 × α2 × α3 × α4 × α5) (f : α0 → α1 → α2 → α3 → α4 → α5 → β) : β := f (a.1) (a.2.1) (a.2.2.1) (a.2.2.2.1) (a.2.2.2.2.1) (a.2.2.2.2.2)
theorem lt6_inv {α0 α1 α2 α3 α4 α5 β : Type} {a : α0 × α1 × α2 × α3 × α4 × α5} {f : α0 → α1 → α2 → α3 → α4 → α5 → β} {z : β} (E : lt6 a f = z) : ∃ v0 v1 v2 v3 v4 v5, a = (v0, v1, v2, v3, v4, v5) ∧ f v0 v1 v2 v3 v4 v5 = z := ⟨a.1, a.2.1, a.2.2.1, a.2.2.2.1, a.2.2.2.2.1, a.2.2.2.2.2, rfl, E⟩
def ob7 {α0 α1 α2 α3 α4 α5 α6 β : Type} (a : Option (α0 × α1 × α2 × α3 × α4 × α5 × α6)) (f : α0 → α1 → α2 → α3 → α4 → α5 → α6 → Option β) : Option β := match a with
  | none => none
  | some v => f (v.1) (v.2.1) (v.2.2.1) (v.2.2.2.1) (v.2.2.2.2.1) (v.2.2.2.2.2.1) (v.2.2.2.2.2.2)
theorem ob7_inv {α0 α1 α2 α3 α4 α5 α6 β : Type} {a : Option (α0 × α1 × α2 × α3 × α4 × α5 × α6)} {f : α0 → α1 → α2 → α3 → α4 → α5 → α6 → Option β} {z : β} (E : ob7 a f = some z) : ∃ v0 v1 v2 v3 v4 v5 v6, a = some (v0, v1, v2, v3, v4, v5, v6) ∧ f v0 v1 v2 v3 v4 v5 v6 = some z := by
  cases a with
  | none => cases E
  | some v => exact ⟨v.1, v.2.1, v.2.2.1, v.2.2.2.1, v.2.2.2.2.1, v.2.2.2.2.2.1, v.2.2.2.2.2.2, rfl, E⟩
def lt7 {α0 α1 α2 α3 α4 α5 α6 β : Type} (a : α0 × α1 × α2 × α3 × α4 × α5 × α6) (f : α0 → α1 → α2 → α3 → α4 → α5 → α6 → β) : β := f (a.1) (a.2.1) (a.2.2.1) (a.2.2.2.1) (a.2.2.2.2.1) (a.2.2.2.2.2.1) (a.2.2.2.2.2.2)
theorem lt7_inv {α0 α1 α2 α3 α4 α5 α6 β : Type} {a : α0 × α1 × α2 × α3 × α4 × α5 × α6} {f : α0 → α1 → α2 → α3 → α4 → α5 → α6 → β} {z : β} (E : lt7 a f = z) : ∃ v0 v1 v2 v3 v4 v5 v6, a = (v0, v1, v2, v3, v4, v5, v6) ∧ f v0 v1 v2 v3 v4 v5 v6 = z := ⟨a.1, a.2.1, a.2.2.1, a.2.2.2.1, a.2.2.2.2.1, a.2.2.2.2.2.1, a.2.2.2.2.2.2, rfl, E⟩
def ob8 {α0 α1 α2 α3 α4 α5 α6 α7 β : Type} (a : Option (α0 × α1 × α2 × α3 × α4 × α5 × α6 × α7)) (f : α0 → α1 → α2 → α3 → α4 → α5 → α6 → α7 → Option β) : Option β := match a with
  | none => none
  | some v => f (v.1) (v.2.1) (v.2.2.1) (v.2.2.2.1) (v.2.2.2.2.1) (v.2.2.2.2.2.1) (v.2.2.2.2.2.2.1) (v.2.2.2.2.2.2.2)
theorem ob8_inv {α0 α1 α2 α3 α4 α5 α6 α7 β : Type} {a : Option (α0 × α1 × α2 × α3 × α4 × α5 × α6 × α7)} {f : α0 → α1 → α2 → α3 → α4 → α5 → α6 → α7 → Option β} {z : β} (E : ob8 a f = some z) : ∃ v0 v1 v2 v3 v4 v5 v6 v7, a = some (v0, v1, v2, v3, v4, v5, v6, v7) ∧ f v0 v1 v2 v3 v4 v5 v6 v7 = some z := by
  cases a with
  | none => cases E
  | some v => exact ⟨v.1, v.2.1, v.2.2.1, v.2.2.2.1, v.2.2.2.2.1, v.2.2.2.2.2.1, v.2.2.2.2.2.2.1, v.2.2.2.2.2.2.2, rfl, E⟩
def lt8 {α0 α1 α2 α3 α4 α5 α6 α7 β : Type} (a : α0 × α1 × α2 × α3 × α4 × α5 × α6 × α7) (f : α0 → α1 → α2 → α3 → α4 → α5 → α6 → α7 → β) : β := f (a.1) (a.2.1) (a.2.2.1) (a.2.2.2.1) (a.2.2.2.2.1) (a.2.2.2.2.2.1) (a.2.2.2.2.2.2.1) (a.2.2.2.2.2.2.2)
theorem lt8_inv {α0 α1 α2 α3 α4 α5 α6 α7 β : Type} {a : α0 × α1 × α2 × α3 × α4 × α5 × α6 × α7} {f : α0 → α1 → α2 → α3 → α4 → α5 → α6 → α7 → β} {z : β} (E : lt8 a f = z) : ∃ v0 v1 v2 v3 v4 v5 v6 v7, a = (v0, v1, v2, v3, v4, v5, v6, v7) ∧ f v0 v1 v2 v3 v4 v5 v6 v7 = z := ⟨a.1, a.2.1, a.2.2.1, a.2.2.2.1, a.2.2.2.2.1, a.2.2.2.2.2.1, a.2.2.2.2.2.2.1, a.2.2.2.2.2.2.2, rfl, E⟩
def ob9 {α0 α1 α2 α3 α4 α5 α6 α7 α8 β : Type} (a : Option (α0 × α1 × α2 × α3 × α4 × α5 × α6 × α7 × α8)) (f : α0 → α1 → α2 → α3 → α4 → α5 → α6 → α7 → α8 → Option β) : Option β := match a with
  | none => none
  | some v => f (v.1) (v.2.1) (v.2.2.1) (v.2.2.2.1) (v.2.2.2.2.1) (v.2.2.2.2.2.1) (v.2.2.2.2.2.2.1) (v.2.2.2.2.2.2.2.1) (v.2.2.2.2.2.2.2.2)
theorem ob9_inv {α0 α1 α2 α3 α4 α5 α6 α7 α8 β : Type} {a : Option (α0 × α1 × α2 × α3 × α4 × α5 × α6 × α7 × α8)} {f : α0 → α1 → α2 → α3 → α4 → α5 → α6 → α7 → α8 → Option β} {z : β} (E : ob9 a f = some z) : ∃ v0 v1 v2 v3 v4 v5 v6 v7 v8, a = some (v0, v1, v2, v3, v4, v5, v6, v7, v8) ∧ f v0 v1 v2 v3 v4 v5 v6 v7 v8 = some z := by
  cases a with
  | none => cases E
  | some v => exact ⟨v.1, v.2.1, v.2.2.1, v.2.2.2.1, v.2.2.2.2.1, v.2.2.2.2.2.1, v.2.2.2.2.2.2.1, v.2.2.2.2.2.2.2.1, v.2.2.2.2.2.2.2.2, rfl, E⟩
def lt9 {α0 α1 α2 α3 α4 α5 α6 α7 α8 β : Type} (a : α0 × α1 × α2 × α3 × α4 × α5 × α6 × α7 × α8) (f : α0 → α1 → α2 → α3 → α4 → α5 → α6 → α7 → α8 → β) : β := f (a.1) (a.2.1) (a.2.2.1) (a.2.2.2.1) (a.2.2.2.2.1) (a.2.2.2.2.2.1) (a.2.2.2.2.2.2.1) (a.2.2.2.2.2.2.2.1) (a.2.2.2.2.2.2.2.2)
theorem lt9_inv {α0 α1 α2 α3 α4 α5 α6 α7 α8 β : Type} {a : α0 × α1 × α2 × α3 × α4 × α5 × α6 × α7 × α8} {f : α0 → α1 → α2 → α3 → α4 → α5 → α6 → α7 → α8 → β} {z : β} (E : lt9 a f = z) : ∃ v0 v1 v2 v3 v4 v5 v6 v7 v8, a = (v0, v1, v2, v3, v4, v5, v6, v7, v8) ∧ f v0 v1 v2 v3 v4 v5 v6 v7 v8 = z := ⟨a.1, a.2.1, a.2.2.1, a.2.2.2.1, a.2.2.2.2.1, a.2.2.2.2.2.1, a.2.2.2.2.2.2.1, a.2.2.2.2.2.2.2.1, a.2.2.2.2.2.2.2.2, rfl, E⟩
def obS1 {ρ α0 β : Type} (a : Option (ρ ⊕ (α0))) (g : ρ → Option β) (f : α0 → Option β) : Option β := match a with
  | none => none
  | some (.inl q) => g q
  | some (.inr v) => f (v)
theorem obS1_inv {ρ α0 β : Type} {a : Option (ρ ⊕ (α0))} {g : ρ → Option β} {f : α0 → Option β} {z : β} (E : obS1 a g f = some z) : (∃ q, a = some (.inl q) ∧ g q = some z) ∨ ∃ v0, a = some (.inr (v0)) ∧ f v0 = some z := by
  cases a with
  | none => cases E
  | some v =>
    cases v with
    | inl q => exact Or.inl ⟨q, rfl, E⟩
    | inr v => exact Or.inr ⟨v, rfl, E⟩
def obS2 {ρ α0 α1 β : Type} (a : Option (ρ ⊕ (α0 × α1))) (g : ρ → Option β) (f : α0 → α1 → Option β) : Option β := match a with
  | none => none
  | some (.inl q) => g q
  | some (.inr v) => f (v.1) (v.2)
theorem obS2_inv {ρ α0 α1 β : Type} {a : Option (ρ ⊕ (α0 × α1))} {g : ρ → Option β} {f : α0 → α1 → Option β} {z : β} (E : obS2 a g f = some z) : (∃ q, a = some (.inl q) ∧ g q = some z) ∨ ∃ v0 v1, a = some (.inr (v0, v1)) ∧ f v0 v1 = some z := by
  cases a with
  | none => cases E
  | some v =>
    cases v with
    | inl q => exact Or.inl ⟨q, rfl, E⟩
    | inr v => exact Or.inr ⟨v.1, v.2, rfl, E⟩
def obS3 {ρ α0 α1 α2 β : Type} (a : Option (ρ ⊕ (α0 × α1 × α2))) (g : ρ → Option β) (f : α0 → α1 → α2 → Option β) : Option β := match a with
  | none => none
  | some (.inl q) => g q
  | some (.inr v) => f (v.1) (v.2.1) (v.2.2)
theorem obS3_inv {ρ α0 α1 α2 β : Type} {a : Option (ρ ⊕ (α0 × α1 × α2))} {g : ρ → Option β} {f : α0 → α1 → α2 → Option β} {z : β} (E : obS3 a g f = some z) : (∃ q, a = some (.inl q) ∧ g q = some z) ∨ ∃ v0 v1 v2, a = some (.inr (v0, v1, v2)) ∧ f v0 v1 v2 = some z := by
  cases a with
  | none => cases E
  | some v =>
    cases v with
    | inl q => exact Or.inl ⟨q, rfl, E⟩
    | inr v => exact Or.inr ⟨v.1, v.2.1, v.2.2, rfl, E⟩
def obS4 {ρ α0 α1 α2 α3 β : Type} (a : Option (ρ ⊕ (α0 × α1 × α2 × α3))) (g : ρ → Option β) (f : α0 → α1 → α2 → α3 → Option β) : Option β := match a with
  | none => none
  | some (.inl q) => g q
  | some (.inr v) => f (v.1) (v.2.1) (v.2.2.1) (v.2.2.2)
theorem obS4_inv {ρ α0 α1 α2 α3 β : Type} {a : Option (ρ ⊕ (α0 × α1 × α2 × α3))} {g : ρ → Option β} {f : α0 → α1 → α2 → α3 → Option β} {z : β} (E : obS4 a g f = some z) : (∃ q, a = some (.inl q) ∧ g q = some z) ∨ ∃ v0 v1 v2 v3, a = some (.inr (v0, v1, v2, v3)) ∧ f v0 v1 v2 v3 = some z := by
  cases a with
  | none => cases E
  | some v =>
    cases v with
    | inl q => exact Or.inl ⟨q, rfl, E⟩
    | inr v => exact Or.inr ⟨v.1, v.2.1, v.2.2.1, v.2.2.2, rfl, E⟩
def obS5 {ρ α0 α1 α2 α3 α4 β : Type} (a : Option (ρ ⊕ (α0 × α1 × α2 × α3 × α4))) (g : ρ → Option β) (f : α0 → α1 → α2 → α3 → α4 → Option β) : Option β := match a with
  | none => none
  | some (.inl q) => g q
  | some (.inr v) => f (v.1) (v.2.1) (v.2.2.1) (v.2.2.2.1) (v.2.2.2.2)
theorem obS5_inv {ρ α0 α1 α2 α3 α4 β : Type} {a : Option (ρ ⊕ (α0 × α1 × α2 × α3 × α4))} {g : ρ → Option β} {f : α0 → α1 → α2 → α3 → α4 → Option β} {z : β} (E : obS5 a g f = some z) : (∃ q, a = some (.inl q) ∧ g q = some z) ∨ ∃ v0 v1 v2 v3 v4, a = some (.inr (v0, v1, v2, v3, v4)) ∧ f v0 v1 v2 v3 v4 = some z := by
  cases a with
  | none => cases E
  | some v =>
    cases v with
    | inl q => exact Or.inl ⟨q, rfl, E⟩
    | inr v => exact Or.inr ⟨v.1, v.2.1, v.2.2.1, v.2.2.2.1, v.2.2.2.2, rfl, E⟩
def obS6 {ρ α0 α1 α2 α3 α4 α5 β : Type} (a : Option (ρ ⊕ (α0 × α1 × α2 × α3 × α4 × α5))) (g : ρ → Option β) (f : α0 → α1 → α2 → α3 → α4 → α5 → Option β) : Option β := match a with
  | none => none
  | some (.inl q) => g q
  | some (.inr v) => f (v.1) (v.2.1) (v.2.2.1) (v.2.2.2.1) (v.2.2.2.2.1) (v.2.2.2.2.2)
theorem obS6_inv {ρ α0 α1 α2 α3 α4 α5 β : Type} {a : Option (ρ ⊕ (α0 × α1 × α2 × α3 × α4 × α5))} {g : ρ → Option β} {f : α0 → α1 → α2 → α3 → α4 → α5 → Option β} {z : β} (E : obS6 a g f = some z) : (∃ q, a = some (.inl q) ∧ g q = some z) ∨ ∃ v0 v1 v2 v3 v4 v5, a = some (.inr (v0, v1, v2, v3, v4, v5)) ∧ f v0 v1 v2 v3 v4 v5 = some z := by
  cases a with
  | none => cases E
  | some v =>
    cases v with
    | inl q => exact Or.inl ⟨q, rfl, E⟩
    | inr v => exact Or.inr ⟨v.1, v.2.1, v.2.2.1, v.2.2.2.1, v.2.2.2.2.1, v.2.2.2.2.2, rfl, E⟩
def obS7 {ρ α0 α1 α2 α3 α4 α5 α6 β : Type} (a : Option (ρ ⊕ (α0 × α1 × α2 × α3 × α4 × α5 × α6))) (g : ρ → Option β) (f : α0 → α1 → α2 → α3 → α4 → α5 → α6 → Option β) : Option β := match a with
  | none => none
  | some (.inl q) => g q
  | some (.inr v) => f (v.1) (v.2.1) (v.2.2.1) (v.2.2.2.1) (v.2.2.2.2.1) (v.2.2.2.2.2.1) (v.2.2.2.2.2.2)
theorem obS7_inv {ρ α0 α1 α2 α3 α4 α5 α6 β : Type} {a : Option (ρ ⊕ (α0 × α1 × α2 × α3 × α4 × α5 × α6))} {g : ρ → Option β} {f : α0 → α1 → α2 → α3 → α4 → α5 → α6 → Option β} {z : β} (E : obS7 a g f = some z) : (∃ q, a = some (.inl q) ∧ g q = some z) ∨ ∃ v0 v1 v2 v3 v4 v5 v6, a = some (.inr (v0, v1, v2, v3, v4, v5, v6)) ∧ f v0 v1 v2 v3 v4 v5 v6 = some z := by
  cases a with
  | none => cases E
  | some v =>
    cases v with
    | inl q => exact Or.inl ⟨q, rfl, E⟩
    | inr v => exact Or.inr ⟨v.1, v.2.1, v.2.2.1, v.2.2.2.1, v.2.2.2.2.1, v.2.2.2.2.2.1, v.2.2.2.2.2.2, rfl, E⟩
def obS8 {ρ α0 α1 α2 α3 α4 α5 α6 α7 β : Type} (a : Option (ρ ⊕ (α0 × α1 × α2 × α3 × α4 × α5 × α6 × α7))) (g : ρ → Option β) (f : α0 → α1 → α2 → α3 → α4 → α5 → α6 → α7 → Option β) : Option β := match a with
  | none => none
  | some (.inl q) => g q
  | some (.inr v) => f (v.1) (v.2.1) (v.2.2.1) (v.2.2.2.1) (v.2.2.2.2.1) (v.2.2.2.2.2.1) (v.2.2.2.2.2.2.1) (v.2.2.2.2.2.2.2)
theorem obS8_inv {ρ α0 α1 α2 α3 α4 α5 α6 α7 β : Type} {a : Option (ρ ⊕ (α0 × α1 × α2 × α3 × α4 × α5 × α6 × α7))} {g : ρ → Option β} {f : α0 → α1 → α2 → α3 → α4 → α5 → α6 → α7 → Option β} {z : β} (E : obS8 a g f = some z) : (∃ q, a = some (.inl q) ∧ g q = some z) ∨ ∃ v0 v1 v2 v3 v4 v5 v6 v7, a = some (.inr (v0, v1, v2, v3, v4, v5, v6, v7)) ∧ f v0 v1 v2 v3 v4 v5 v6 v7 = some z := by
  cases a with
  | none => cases E
  | some v =>
    cases v with
    | inl q => exact Or.inl ⟨q, rfl, E⟩
    | inr v => exact Or.inr ⟨v.1, v.2.1, v.2.2.1, v.2.2.2.1, v.2.2.2.2.1, v.2.2.2.2.2.1, v.2.2.2.2.2.2.1, v.2.2.2.2.2.2.2, rfl, E⟩
def obS9 {ρ α0 α1 α2 α3 α4 α5 α6 α7 α8 β : Type} (a : Option (ρ ⊕ (α0 × α1 × α2 × α3 × α4 × α5 × α6 × α7 × α8))) (g : ρ → Option β) (f : α0 → α1 → α2 → α3 → α4 → α5 → α6 → α7 → α8 → Option β) : Option β := match a with
  | none => none
  | some (.inl q) => g q
  | some (.inr v) => f (v.1) (v.2.1) (v.2.2.1) (v.2.2.2.1) (v.2.2.2.2.1) (v.2.2.2.2.2.1) (v.2.2.2.2.2.2.1) (v.2.2.2.2.2.2.2.1) (v.2.2.2.2.2.2.2.2)
theorem obS9_inv {ρ α0 α1 α2 α3 α4 α5 α6 α7 α8 β : Type} {a : Option (ρ ⊕ (α0 × α1 × α2 × α3 × α4 × α5 × α6 × α7 × α8))} {g : ρ → Option β} {f : α0 → α1 → α2 → α3 → α4 → α5 → α6 → α7 → α8 → Option β} {z : β} (E : obS9 a g f = some z) : (∃ q, a = some (.inl q) ∧ g q = some z) ∨ ∃ v0 v1 v2 v3 v4 v5 v6 v7 v8, a = some (.inr (v0, v1, v2, v3, v4, v5, v6, v7, v8)) ∧ f v0 v1 v2 v3 v4 v5 v6 v7 v8 = some z := by
  cases a with
  | none => cases E
  | some v =>
    cases v with
    | inl q => exact Or.inl ⟨q, rfl, E⟩
    | inr v => exact Or.inr ⟨v.1, v.2.1, v.2.2.1, v.2.2.2.1, v.2.2.2.2.1, v.2.2.2.2.2.1, v.2.2.2.2.2.2.1, v.2.2.2.2.2.2.2.1, v.2.2.2.2.2.2.2.2, rfl, E⟩
