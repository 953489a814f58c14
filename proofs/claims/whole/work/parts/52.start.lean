def hp0 : Hp := (fun i => match i with
  | 8 => (fun j => if j < 6 then (-1) else 0)
  | 14 => (fun j => if j < 4 then (-1) else 0)
  | 15 => (fun k => ([0, 0, 0, 0, (0), (0), (0), (0), (0), (1), (0), (0)] : List Int32).getD k 0)
  | 19 => (fun k => ([0, 0, 0, 0, (0), (0), (0), (0), (0), (1), (0), (0)] : List Int32).getD k 0)
  | 23 => (fun k => ([0, 0, 0, 0, (0), (0), (0), (0), (0), (1), (0), (0)] : List Int32).getD k 0)
  | 30 => (fun k => ([0, (-1)] : List Int32).getD k 0)
  | 32 => (fun k => ([0, (-1)] : List Int32).getD k 0)
  | 34 => (fun k => ([0, (-1)] : List Int32).getD k 0)
  | 52 => (upd (fun _ => 0) 14 (1))
  | 54 => (upd (upd (upd (fun _ => 0) 0 (-9)) 1 (-9)) 2 (-9))
  | 56 => (upd (upd (upd (upd (upd (upd (fun _ => 0) 0 (-9)) 1 (-9)) 2 (-9)) 3 (-9)) 4 (-9)) 5 (-9))
  | 58 => (upd (upd (upd (upd (fun _ => 0) 0 (-9)) 1 (-9)) 2 (-9)) 3 (-9))
  | _ => fun _ => 0, fun i => match i with
  | 0 => (fun k => ([0, 0, 0, 0, 0, 0, 0, 0, 0, 0, 0, 0, 0, (0), (1)] : List Int64).getD k 0)
  | 51 => (fun k => ([0, 0, 0, 0, 0, 0, 0, 0, 0, 0, 0, 0, 0, 0, 0, (1), 0, 0, 0, 0, 0, 0, 0, 0, 0] : List Int64).getD k 0)
  | _ => fun _ => 0)
theorem ts_16 : Cond.classLink RL 7 RX9 ∈ TB := TB_at 16 (by decide +kernel) (by decide +kernel)
theorem ts_17 : Cond.instantiable RX9 15 ∈ TB := TB_at 17 (by decide +kernel) (by decide +kernel)
theorem ts_1 : Cond.initialized RX9 ∈ TB := TB_at 1 (by decide +kernel) (by decide +kernel)
theorem ts_18 : Cond.methodLink RL 9 yX9_init ∈ TB := TB_at 18 (by decide +kernel) (by decide +kernel)
theorem ts_19 : Cond.instanceMethod yX9_init ∈ TB := TB_at 19 (by decide +kernel) (by decide +kernel)
theorem ts_20 : Cond.code yX9_init cX9_init 3 none ∈ TB := TB_at 20 (by decide +kernel) (by decide +kernel)
theorem ts_713 : Cond.classLink RL 10 RX10 ∈ TB := TB_at 713 (by decide +kernel) (by decide +kernel)
theorem ts_714 : Cond.instantiable RX10 25 ∈ TB := TB_at 714 (by decide +kernel) (by decide +kernel)
theorem ts_715 : Cond.methodLink RL 12 yX10_init ∈ TB := TB_at 715 (by decide +kernel) (by decide +kernel)
theorem ts_716 : Cond.instanceMethod yX10_init ∈ TB := TB_at 716 (by decide +kernel) (by decide +kernel)
theorem ts_717 : Cond.code yX10_init cX10_init 2 none ∈ TB := TB_at 717 (by decide +kernel) (by decide +kernel)
theorem nest_in : ∀ q ∈ nestL, Cond.methodLinkNest q.1 q.2.1 q.2.2 "FlossRumours" ∈ lw_tbl := by decide +kernel
theorem ao_in1 : Cond.arrayOver (.object "FlossRumours$Deeds") ∈ lw_tbl := by decide +kernel
theorem ao_in2 : Cond.arrayOver (.array .int) ∈ lw_tbl := by decide +kernel
theorem ao_in3 : Cond.arrayOver (.array .byte) ∈ lw_tbl := by decide +kernel
theorem cast_in : ∀ q ∈ ycL, Cond.castable q.1 q.2 ∈ lw_tbl := by decide +kernel
theorem ls_in : Cond.laysStatic "FlossRumours" "LETTERS" "[I" ∈ lw_tbl := by decide +kernel
theorem nc_in {args : Array Value} {s : State} (hgv : (Jvm.Cond.and given_1 narrow_1).before args s = true) : ∀ q ∈ ncL, va_Nc q.1 q.2 s := by
  have hs := flat_of_before _ hgv
  intro q hq
  have hm : ∀ q ∈ ncL, Cond.not (.castable q.1 q.2) ∈ flatC (Jvm.Cond.and given_1 narrow_1) := by decide +kernel
  exact va_Nc.of (hs _ (hm q hq))
theorem ex_start {b : Nat} {s : State} (hts : ∀ w ∈ lw_tbl, w.before #[Value.ref b] s = true) (hgv : (Jvm.Cond.and given_1 narrow_1).before #[Value.ref b] s = true) : ∃ lt : Nat, ∀ (D : va_G) (cy : Nat → ClassId) (a : Nat → Nat), EX (D, cy, a, lt) (fun q : Nat => s.heap.size ≤ q) s s.heap := by
  have hs := flat_of_before _ hgv
  have hA : ∀ a : Nat, a < s.heap.size → ¬ (fun q : Nat => s.heap.size ≤ q) a := fun a h => Nat.not_le.mpr h
  have h1 : (Cond.arrayOf (.static "FlossRumours" "LETTERS" "[I") .int).before #[Value.ref b] s = true := hs _ (by decide +kernel)
  have h2 : (Cond.eq (.length (.static "FlossRumours" "LETTERS" "[I")) (.int 6)).before #[Value.ref b] s = true := hs _ (by decide +kernel)
  have e0 : (Cond.eq (.elem (.static "FlossRumours" "LETTERS" "[I") (.int 0)) (.int 112)).before #[Value.ref b] s = true := hs _ (by decide +kernel)
  have e1 : (Cond.eq (.elem (.static "FlossRumours" "LETTERS" "[I") (.int 1)) (.int 98)).before #[Value.ref b] s = true := hs _ (by decide +kernel)
  have e2 : (Cond.eq (.elem (.static "FlossRumours" "LETTERS" "[I") (.int 2)) (.int 103)).before #[Value.ref b] s = true := hs _ (by decide +kernel)
  have e3 : (Cond.eq (.elem (.static "FlossRumours" "LETTERS" "[I") (.int 3)) (.int 119)).before #[Value.ref b] s = true := hs _ (by decide +kernel)
  have e4 : (Cond.eq (.elem (.static "FlossRumours" "LETTERS" "[I") (.int 4)) (.int 105)).before #[Value.ref b] s = true := hs _ (by decide +kernel)
  have e5 : (Cond.eq (.elem (.static "FlossRumours" "LETTERS" "[I") (.int 5)) (.int 108)).before #[Value.ref b] s = true := hs _ (by decide +kernel)
  obtain ⟨t, ht, hT⟩ := va_Tof (N := 6) (f := lettersF) (A := fun q : Nat => s.heap.size ≤ q) (by decide) h1 (va_eqt h2) (fun j hj => by
    match j, hj with
    | 0, _ => exact va_eqt e0
    | 1, _ => exact va_eqt e1
    | 2, _ => exact va_eqt e2
    | 3, _ => exact va_eqt e3
    | 4, _ => exact va_eqt e4
    | 5, _ => exact va_eqt e5
    | j + 6, h => exact absurd h (by omega)) hA
  refine ⟨t, fun D cy a => ⟨nc_in hgv, va_Zref (hts _ ls_in) (hts (.initialized "FlossRumours") (by decide +kernel)) ht hA, hT, fun q hq => va_Nw.of rfl (hts _ (cast_in q hq))⟩⟩
theorem known_start {b : Nat} {s : State} (hts : ∀ w ∈ TB, w.before #[Value.ref b] s = true) (hti : ∀ w ∈ lw_tbl, w.before #[Value.ref b] s = true) : ∃ (D : va_G) (cy : ClassId × ClassId), va_K D vwCl (tyB cy) s := by
  obtain ⟨c0, s0, k0⟩ := u_known (C := RX0) (T := TX0) (N := 0) (n := 0) hts in_X0 (hti (.instantiable RX0 0) (by decide +kernel))
  obtain ⟨c1, s1, k1⟩ := u_known (C := RX1) (T := TX1) (N := 0) (n := 0) hts in_X1 (hti (.instantiable RX1 0) (by decide +kernel))
  obtain ⟨c2, s2, k2⟩ := u_known (C := RX2) (T := TX2) (N := 0) (n := 0) hts in_X2 (hti (.instantiable RX2 0) (by decide +kernel))
  obtain ⟨c3, s3, k3⟩ := u_known (C := RX3) (T := TX3) (N := 2) (n := 2) hts in_X3 (hti (.instantiable RX3 2) (by decide +kernel))
  obtain ⟨c4, s4, k4⟩ := u_known (C := RX4) (T := TX4) (N := 12) (n := 12) hts in_X4 (hti (.instantiable RX4 12) (by decide +kernel))
  obtain ⟨c5, s5, k5⟩ := u_known (C := RX5) (T := TX5) (N := 0) (n := 0) hts in_X5 (hti (.instantiable RX5 0) (by decide +kernel))
  obtain ⟨c6, s6, k6⟩ := u_known (C := RX6) (T := TX6) (N := 6) (n := 6) hts in_X6 (hti (.instantiable RX6 6) (by decide +kernel))
  obtain ⟨c7, s7, k7⟩ := u_known (C := RX7) (T := TX7) (N := 0) (n := 0) hts in_X7 (hti (.instantiable RX7 0) (by decide +kernel))
  obtain ⟨c8, s8, k8⟩ := u_known (C := RX8) (T := TX8) (N := 0) (n := 0) hts in_X8 (hti (.instantiable RX8 0) (by decide +kernel))
  obtain ⟨c9, s9, k9⟩ := u_known (C := RX9) (T := TX9) (N := 15) (n := 15) hts in_X9 (hti (.instantiable RX9 15) (by decide +kernel))
  obtain ⟨c10, s10, k10⟩ := u_known (C := RX10) (T := TX10) (N := 25) (n := 25) hts in_X10 (hti (.instantiable RX10 25) (by decide +kernel))
  obtain ⟨cB, kB, comB, b1, b2, b3⟩ := Cond.arrayClass_spec (hti (.arrayClass .byte) (by decide +kernel))
  obtain ⟨cI, kI, comI, i1, i2, i3⟩ := Cond.arrayClass_spec (hti (.arrayClass .int) (by decide +kernel))
  refine ⟨(fun k => match k with | 0 => c0 | 1 => c1 | 2 => c2 | 3 => c3 | 4 => c4 | 5 => c5 | 6 => c6 | 7 => c7 | 8 => c8 | 9 => c9 | _ => c10, fun k => match k with | 0 => s0 | 1 => s1 | 2 => s2 | 3 => s3 | 4 => s4 | 5 => s5 | 6 => s6 | 7 => s7 | 8 => s8 | 9 => s9 | _ => s10), (cB, cI), ⟨fun k q hq => ?_, fun k q hq => ?_⟩⟩
  · match k, hq with
    | 0, hq => cases hq; exact k0
    | 1, hq => cases hq; exact k1
    | 2, hq => cases hq; exact k2
    | 3, hq => cases hq; exact k3
    | 4, hq => cases hq; exact k4
    | 5, hq => cases hq; exact k5
    | 6, hq => cases hq; exact k6
    | 7, hq => cases hq; exact k7
    | 8, hq => cases hq; exact k8
    | 9, hq => cases hq; exact k9
    | 10, hq => cases hq; exact k10
    | k + 11, hq => cases hq
  · match k, hq with
    | 0, hq => cases hq; exact ⟨fun n z => ⟨fun k h => (by cases h), kB, b2, comB, b3⟩, b1⟩
    | 1, hq => cases hq; exact ⟨fun n z => ⟨fun k h => (by cases h), kI, i2, comI, i3⟩, i1⟩
    | k + 2, hq => cases hq

set_option maxHeartbeats 8000000 in
set_option maxRecDepth 100000 in
theorem start_end {Sim : Hp → Prop} (SS : LawSteps Sim) (S0 : Sim hp0) {p : Program} {l : Launch} {e : Env} {s : State} {m : MethodId} {below : List Frame} {meth : Method} {c : Code} {b L : Nat} {xs : Nat → Int32} (hL : L ≤ 384) {D : va_G} {cy : ClassId × ClassId} {lt : Nat} {hF q1 q5 q6 q10 q28 q29 q30 q31 q32 q33 q34 q35 q36 q37 q38 q39 q11 q12 q13 q40 q41 q42 q43 q44 q45 q16 q20 q21 p22 p23 p24 p25 p26 p27 hM mq1 mq2 mq3 mq4 mq5 mq6 mq7 mq8 mq9 mq10 mq11 mq12 mq13 : Nat} {r2 r7 r17 : Nat → Nat} {c14 c8 c18 : ClassId} {H : Heap} {locs : List Loc} {ls : Array Slot} (hx : p.tables.exec = Jvm.exec) (hb : c.code = code) (hr : meth.sig.returnType = ret) (hlocks : meth.locks = false) (hml : c.maxLocals = 4) (hown : s.vm.findClass RL = some m.cls) (htb : ∀ w ∈ TB, w.before #[Value.ref b] s = true) (hK5 : va_K D vwCl [(cy.1, .byte), (cy.2, .int), (c14, .object "FlossRumours$Deeds"), (c8, .array .byte), (c18, .array .int)] s) (hEx : ∀ (D : va_G) (cy : Nat → ClassId) (a : Nat → Nat), EX (D, cy, a, lt) (fun q : Nat => s.heap.size ≤ q) s s.heap) (hX : va_X b L xs s s.heap) (hbl : b < s.heap.size) (hP : va_P D vwCl ([(hF, .inr (9, [.ref q1, .ref q5, .ref q6, .ref q10, .ref q28, .ref q32, .ref q36, .ref q11, .ref q13, .ref q16, .ref q20, .int (0), .int (0), .long (0), .long (1)])), (q1, .inl (c18, 6, .inr (.inr (.inr (.inr (fun i => if i < 6 then some (r2 i) else none)))))), ((r2 0), .inl (cy.2, 40, .inl (fun _ => 0))), ((r2 1), .inl (cy.2, 40, .inl (fun _ => 0))), ((r2 2), .inl (cy.2, 40, .inl (fun _ => 0))), ((r2 3), .inl (cy.2, 40, .inl (fun _ => 0))), ((r2 4), .inl (cy.2, 40, .inl (fun _ => 0))), ((r2 5), .inl (cy.2, 40, .inl (fun _ => 0))), (q5, .inl (cy.2, 6, .inl (fun j => if j < 6 then (-1) else 0))), (q6, .inl (c8, 4, .inr (.inr (.inr (.inr (fun i => if i < 4 then some (r7 i) else none)))))), ((r7 0), .inl (cy.1, 60, .inl (fun _ => 0))), ((r7 1), .inl (cy.1, 60, .inl (fun _ => 0))), ((r7 2), .inl (cy.1, 60, .inl (fun _ => 0))), ((r7 3), .inl (cy.1, 60, .inl (fun _ => 0))), (q10, .inl (cy.2, 4, .inl (fun j => if j < 4 then (-1) else 0))), (q28, .inr (4, [.ref q21, .ref q29, .ref q30, .ref q31, .int (0), .int (0), .int (0), .int (0), .int (0), .int (1), .int (0), .int (0)])), (q29, .inl (cy.2, 6, .inl (fun _ => 0))), (q30, .inl (cy.2, 6, .inl (fun _ => 0))), (q31, .inl (cy.2, 6, .inl (fun _ => 0))), (q32, .inr (4, [.ref q21, .ref q33, .ref q34, .ref q35, .int (0), .int (0), .int (0), .int (0), .int (0), .int (1), .int (0), .int (0)])), (q33, .inl (cy.2, 6, .inl (fun _ => 0))), (q34, .inl (cy.2, 6, .inl (fun _ => 0))), (q35, .inl (cy.2, 6, .inl (fun _ => 0))), (q36, .inr (4, [.ref q21, .ref q37, .ref q38, .ref q39, .int (0), .int (0), .int (0), .int (0), .int (0), .int (1), .int (0), .int (0)])), (q37, .inl (cy.2, 6, .inl (fun _ => 0))), (q38, .inl (cy.2, 6, .inl (fun _ => 0))), (q39, .inl (cy.2, 6, .inl (fun _ => 0))), (q11, .inr (3, [.ref q12, .int (0)])), (q12, .inl (cy.2, 40, .inl (fun _ => 0))), (q13, .inl (c14, 3, .inr (.inr (.inr (.inr (va_up (va_up (va_up (fun _ => none) 0 (some q40)) 1 (some q42)) 2 (some q44))))))), (q40, .inr (3, [.ref q41, .int (-1)])), (q41, .inl (cy.2, 40, .inl (fun _ => 0))), (q42, .inr (3, [.ref q43, .int (-1)])), (q43, .inl (cy.2, 40, .inl (fun _ => 0))), (q44, .inr (3, [.ref q45, .int (-1)])), (q45, .inl (cy.2, 40, .inl (fun _ => 0))), (q16, .inl (c18, 6, .inr (.inr (.inr (.inr (fun i => if i < 6 then some (r17 i) else none)))))), ((r17 0), .inl (cy.2, 31, .inl (fun _ => 0))), ((r17 1), .inl (cy.2, 31, .inl (fun _ => 0))), ((r17 2), .inl (cy.2, 31, .inl (fun _ => 0))), ((r17 3), .inl (cy.2, 31, .inl (fun _ => 0))), ((r17 4), .inl (cy.2, 31, .inl (fun _ => 0))), ((r17 5), .inl (cy.2, 31, .inl (fun _ => 0))), (q20, .inl (cy.2, 6, .inl (fun _ => 0))), (q21, .inr (6, [.ref p22, .ref p23, .ref p24, .ref p25, .ref p26, .ref p27])), (p22, .inr (7, [])), (p23, .inr (1, [])), (p24, .inr (0, [])), (p25, .inr (8, [])), (p26, .inr (2, [])), (p27, .inr (5, []))] ++ [(hM, .inr (10, [.ref mq1, .ref mq2, .int 0, .int 0, .int 0, .int 0, .ref mq3, .ref mq4, .ref mq5, .ref mq6, .ref mq7, .ref mq8, .int 0, .int 0, .long 0, .long (1), .int 0, .int 0, .int 0, .int 0, .ref mq9, .ref mq10, .ref mq11, .ref mq12, .ref mq13])), (mq1, .inl (cy.2, 2805, .inl (upd (fun _ => 0) 14 (1)))), (mq2, .inl (cy.2, 6, .inl (fun _ => 0))), (mq3, .inl (cy.2, 3, .inl (upd (upd (upd (fun _ => 0) 0 (-9)) 1 (-9)) 2 (-9)))), (mq4, .inl (cy.2, 240, .inl (fun _ => 0))), (mq5, .inl (cy.2, 6, .inl (upd (upd (upd (upd (upd (upd (fun _ => 0) 0 (-9)) 1 (-9)) 2 (-9)) 3 (-9)) 4 (-9)) 5 (-9)))), (mq6, .inl (cy.2, 240, .inl (fun _ => 0))), (mq7, .inl (cy.2, 4, .inl (upd (upd (upd (upd (fun _ => 0) 0 (-9)) 1 (-9)) 2 (-9)) 3 (-9)))), (mq8, .inl (cy.2, 6, .inl (fun _ => 0))), (mq9, .inl (cy.2, 6, .inl (fun _ => 0))), (mq10, .inl (cy.2, 6, .inl (fun _ => 0))), (mq11, .inl (cy.2, 6, .inl (fun _ => 0))), (mq12, .inl (cy.2, 31, .inl (fun _ => 0))), (mq13, .inl (cy.2, 81, .inl (fun _ => 0)))]) H) (hD : va_D (fun q : Nat => s.heap.size ≤ q) ([(hF, .inr (9, [.ref q1, .ref q5, .ref q6, .ref q10, .ref q28, .ref q32, .ref q36, .ref q11, .ref q13, .ref q16, .ref q20, .int (0), .int (0), .long (0), .long (1)])), (q1, .inl (c18, 6, .inr (.inr (.inr (.inr (fun i => if i < 6 then some (r2 i) else none)))))), ((r2 0), .inl (cy.2, 40, .inl (fun _ => 0))), ((r2 1), .inl (cy.2, 40, .inl (fun _ => 0))), ((r2 2), .inl (cy.2, 40, .inl (fun _ => 0))), ((r2 3), .inl (cy.2, 40, .inl (fun _ => 0))), ((r2 4), .inl (cy.2, 40, .inl (fun _ => 0))), ((r2 5), .inl (cy.2, 40, .inl (fun _ => 0))), (q5, .inl (cy.2, 6, .inl (fun j => if j < 6 then (-1) else 0))), (q6, .inl (c8, 4, .inr (.inr (.inr (.inr (fun i => if i < 4 then some (r7 i) else none)))))), ((r7 0), .inl (cy.1, 60, .inl (fun _ => 0))), ((r7 1), .inl (cy.1, 60, .inl (fun _ => 0))), ((r7 2), .inl (cy.1, 60, .inl (fun _ => 0))), ((r7 3), .inl (cy.1, 60, .inl (fun _ => 0))), (q10, .inl (cy.2, 4, .inl (fun j => if j < 4 then (-1) else 0))), (q28, .inr (4, [.ref q21, .ref q29, .ref q30, .ref q31, .int (0), .int (0), .int (0), .int (0), .int (0), .int (1), .int (0), .int (0)])), (q29, .inl (cy.2, 6, .inl (fun _ => 0))), (q30, .inl (cy.2, 6, .inl (fun _ => 0))), (q31, .inl (cy.2, 6, .inl (fun _ => 0))), (q32, .inr (4, [.ref q21, .ref q33, .ref q34, .ref q35, .int (0), .int (0), .int (0), .int (0), .int (0), .int (1), .int (0), .int (0)])), (q33, .inl (cy.2, 6, .inl (fun _ => 0))), (q34, .inl (cy.2, 6, .inl (fun _ => 0))), (q35, .inl (cy.2, 6, .inl (fun _ => 0))), (q36, .inr (4, [.ref q21, .ref q37, .ref q38, .ref q39, .int (0), .int (0), .int (0), .int (0), .int (0), .int (1), .int (0), .int (0)])), (q37, .inl (cy.2, 6, .inl (fun _ => 0))), (q38, .inl (cy.2, 6, .inl (fun _ => 0))), (q39, .inl (cy.2, 6, .inl (fun _ => 0))), (q11, .inr (3, [.ref q12, .int (0)])), (q12, .inl (cy.2, 40, .inl (fun _ => 0))), (q13, .inl (c14, 3, .inr (.inr (.inr (.inr (va_up (va_up (va_up (fun _ => none) 0 (some q40)) 1 (some q42)) 2 (some q44))))))), (q40, .inr (3, [.ref q41, .int (-1)])), (q41, .inl (cy.2, 40, .inl (fun _ => 0))), (q42, .inr (3, [.ref q43, .int (-1)])), (q43, .inl (cy.2, 40, .inl (fun _ => 0))), (q44, .inr (3, [.ref q45, .int (-1)])), (q45, .inl (cy.2, 40, .inl (fun _ => 0))), (q16, .inl (c18, 6, .inr (.inr (.inr (.inr (fun i => if i < 6 then some (r17 i) else none)))))), ((r17 0), .inl (cy.2, 31, .inl (fun _ => 0))), ((r17 1), .inl (cy.2, 31, .inl (fun _ => 0))), ((r17 2), .inl (cy.2, 31, .inl (fun _ => 0))), ((r17 3), .inl (cy.2, 31, .inl (fun _ => 0))), ((r17 4), .inl (cy.2, 31, .inl (fun _ => 0))), ((r17 5), .inl (cy.2, 31, .inl (fun _ => 0))), (q20, .inl (cy.2, 6, .inl (fun _ => 0))), (q21, .inr (6, [.ref p22, .ref p23, .ref p24, .ref p25, .ref p26, .ref p27])), (p22, .inr (7, [])), (p23, .inr (1, [])), (p24, .inr (0, [])), (p25, .inr (8, [])), (p26, .inr (2, [])), (p27, .inr (5, []))] ++ [(hM, .inr (10, [.ref mq1, .ref mq2, .int 0, .int 0, .int 0, .int 0, .ref mq3, .ref mq4, .ref mq5, .ref mq6, .ref mq7, .ref mq8, .int 0, .int 0, .long 0, .long (1), .int 0, .int 0, .int 0, .int 0, .ref mq9, .ref mq10, .ref mq11, .ref mq12, .ref mq13])), (mq1, .inl (cy.2, 2805, .inl (upd (fun _ => 0) 14 (1)))), (mq2, .inl (cy.2, 6, .inl (fun _ => 0))), (mq3, .inl (cy.2, 3, .inl (upd (upd (upd (fun _ => 0) 0 (-9)) 1 (-9)) 2 (-9)))), (mq4, .inl (cy.2, 240, .inl (fun _ => 0))), (mq5, .inl (cy.2, 6, .inl (upd (upd (upd (upd (upd (upd (fun _ => 0) 0 (-9)) 1 (-9)) 2 (-9)) 3 (-9)) 4 (-9)) 5 (-9)))), (mq6, .inl (cy.2, 240, .inl (fun _ => 0))), (mq7, .inl (cy.2, 4, .inl (upd (upd (upd (upd (fun _ => 0) 0 (-9)) 1 (-9)) 2 (-9)) 3 (-9)))), (mq8, .inl (cy.2, 6, .inl (fun _ => 0))), (mq9, .inl (cy.2, 6, .inl (fun _ => 0))), (mq10, .inl (cy.2, 6, .inl (fun _ => 0))), (mq11, .inl (cy.2, 6, .inl (fun _ => 0))), (mq12, .inl (cy.2, 31, .inl (fun _ => 0))), (mq13, .inl (cy.2, 81, .inl (fun _ => 0)))])) (hS : va_S (fun q : Nat => s.heap.size ≤ q) s.heap H locs) (hl : lv_has ls 4 [(3, .int 0), (2, .ref hM), (1, .ref hF), (0, .ref b)]) : W p l e room_1 s m #[Value.ref b] below meth c H locs 600000 7302250 (lw_Z below #[Value.ref b] s) (F0 m 18 ls []) := by
  obtain ⟨G, hG⟩ : ∃ G : Gx, G = (D, (fun k => ([cy.1, cy.2, c14, c8, c18] : List ClassId).getD k cy.1), (fun i => ([hF, q1, (r2 0), (r2 1), (r2 2), (r2 3), (r2 4), (r2 5), q5, q6, (r7 0), (r7 1), (r7 2), (r7 3), q10, q28, q29, q30, q31, q32, q33, q34, q35, q36, q37, q38, q39, q11, q12, q13, q40, q41, q42, q43, q44, q45, q16, (r17 0), (r17 1), (r17 2), (r17 3), (r17 4), (r17 5), q20, q21, p22, p23, p24, p25, p26, p27] ++ [hM, mq1, mq2, mq3, mq4, mq5, mq6, mq7, mq8, mq9, mq10, mq11, mq12, mq13] : List Nat).getD i 0), lt) := ⟨_, rfl⟩
  have f1 : (fun i => if i < 6 then some (r2 i) else none) = fun j => (rf 1 j).map G.2.2.1 := by
    subst hG
    funext j
    match j with
    | 0 => rfl
    | 1 => rfl
    | 2 => rfl
    | 3 => rfl
    | 4 => rfl
    | 5 => rfl
    | j + 6 => exact if_neg (by omega)
  have f9 : (fun i => if i < 4 then some (r7 i) else none) = fun j => (rf 9 j).map G.2.2.1 := by
    subst hG
    funext j
    match j with
    | 0 => rfl
    | 1 => rfl
    | 2 => rfl
    | 3 => rfl
    | j + 4 => exact if_neg (by omega)
  have f29 : (va_up (va_up (va_up (fun _ => none) 0 (some q40)) 1 (some q42)) 2 (some q44)) = fun j => (rf 29 j).map G.2.2.1 := by
    subst hG
    funext j
    match j with
    | 0 => rfl
    | 1 => rfl
    | 2 => rfl
    | j + 3 => rfl
  have f36 : (fun i => if i < 6 then some (r17 i) else none) = fun j => (rf 36 j).map G.2.2.1 := by
    subst hG
    funext j
    match j with
    | 0 => rfl
    | 1 => rfl
    | 2 => rfl
    | 3 => rfl
    | 4 => rfl
    | 5 => rfl
    | j + 6 => exact if_neg (by omega)
  rw [f1, f9, f29, f36] at hP hD
  have hP2 : va_P G.1 vwCl (wd G hp0) H := by subst hG; exact hP
  have hD2 : va_D (fun q : Nat => s.heap.size ≤ q) (wd G hp0) := by subst hG; exact hD
  have hK6 : va_K G.1 vwCl (tyL G) s := by subst hG; exact hK5
  have hE6 : EX G (fun q : Nat => s.heap.size ≤ q) s s.heap := by subst hG; exact hEx _ _ _
  have hl6 : lv_has ls 4 [(0, .ref b), (1, .ref (G.2.2.1 0)), (2, .ref (G.2.2.1 51)), (3, .int (nI 0))] := by subst hG; exact lv_sub hl [3, 2, 1, 0] rfl
  exact law_loop (x := ((p, l, e, s, m, below, meth, c), (b, L, xs), G)) ⟨hx, hb, hr, hlocks, hml, hown, htb, hK6, fun h => wd_D hD2, hE6, hX, hbl⟩ SS hL (L + 7) 0 hp0 (by show L + 6 - 0 < L + 7; omega) (Nat.zero_le _) S0 H locs ls hP2 hS hl6

set_option maxHeartbeats 8000000 in
set_option maxRecDepth 100000 in
theorem whole_of {Sim : Hp → Prop} (SS : LawSteps Sim) (S0 : Sim hp0) {p : Program} {e : Env} {s : State} {m : MethodId} {below : List Frame} {meth : Method} {c : Code} (l : Launch) {b L : Nat} {xs : Nat → Int32} (hL : L ≤ 384) (C0 : lw_At p s m meth c b L xs) : W p l e room_1 s m #[Value.ref b] below meth c s.heap [] 0 0 (lw_Z below #[Value.ref b] s) (entryFrame m ([Value.ref b] : List Value).toArray 4) := by
  obtain ⟨hx, hb, hr, hml, hown, hts, hX, hbl, hlocks, hgv⟩ := id C0
  have htb : ∀ w ∈ TB, w.before #[Value.ref b] s = true := fun w hw => hts w (List.mem_filter.mp hw).1
  obtain ⟨D, cy, hK0⟩ := known_start htb hts
  obtain ⟨lt, hEx⟩ := ex_start hts hgv
  have hNW : NW s := ⟨fun q hq => va_Nw.of rfl (hts _ (nest_in q hq)), va_AO.of (hts _ ao_in1), hts _ ao_in2, hts _ ao_in3⟩
  have K : CK ((p, l, e, room_1, s, m, #[Value.ref b], below, meth, c), (fun q : Nat => s.heap.size ≤ q), D, cy, 4, lw_Z below #[Value.ref b] s) code RL 4 (30 + 1) 600000 7302250 false := ⟨hx, hb, trivial, hlocks, fun q => (by cases q), hml, rfl, hown, htb, hK0, fun _ h => h, hNW, ⟨by decide, by decide⟩, Nat.le_refl _, Nat.le_refl _⟩
  have hl := lv_entry ([.ref b]) (n := 4) (Nat.le_of_ble_eq_true rfl)
  rw [lg_entry_eq]
  suffices G0 : CV ((p, l, e, room_1, s, m, #[Value.ref b], below, meth, c), (fun q : Nat => s.heap.size ≤ q), D, cy, 4, lw_Z below #[Value.ref b] s) 0 [(0, .ref b)] [] [] 0 0 from G0 s.heap [] _ (fun k q h => by simp at h) ⟨fun i j p q h => by simp at h, fun k q h => by simp at h⟩ va_S.rf hl
  generalize hxe : ((p, l, e, room_1, s, m, #[Value.ref b], below, meth, c), (fun q : Nat => s.heap.size ≤ q), D, cy, 4, lw_Z below #[Value.ref b] s) = x at K ⊢
  have hxD : x.2.2.1 = D := by rw [← hxe]
  have hxC : x.2.2.2.1 = cy := by rw [← hxe]
  have hxs : x.1.2.2.2.2.1 = s := by rw [← hxe]
  refine C_new (ci := 9) (fs := [.null, .null, .null, .null, .null, .null, .null, .null, .null, .null, .null, .int 0, .int 0, .long 0, .long 0]) (C := RX9) (T := TX9) (N := 15) K in_X9 tyX9 tyX9_ok ts_16 ts_17 ts_1 rfl dv_X9 (by decide) (by decide) dL_law_0 (fun hF => ?_)
  show CV x 3 [(0, .ref b)] [.ref hF] [(hF, .inr (9, [.null, .null, .null, .null, .null, .null, .null, .null, .null, .null, .null, .int 0, .int 0, .long 0, .long 0]))] 1 15
  refine C_dup K dL_law_3 rfl ?_
  refine C_call (n := 0) (As := []) (wr := []) K (br_X9_init _ _ hF) [0] [] rfl rfl (by decide) (by decide) (by decide) ts_18 ts_19 ts_1 rfl (by decide +kernel) ts_20 (by decide) (by decide) (by decide) (by decide) dL_law_4 rfl (Nat.le_of_ble_eq_true rfl) (fun w1 t hv hp => ?_)
  obtain ⟨q1, q5, q6, q10, q28, q29, q30, q31, q32, q33, q34, q35, q36, q37, q38, q39, q11, q12, q13, q40, q41, q42, q43, q44, q45, q16, q20, q21, p22, p23, p24, p25, p26, p27, r2, r7, r17, c14, c8, c18, rfl, hK1⟩ := hp
  rw [hxs] at hv
  have hK5 := va_K.moved hv.symm hK1
  show CV x 7 [(0, .ref b)] [.ref hF] [(hF, .inr (9, [.ref q1, .ref q5, .ref q6, .ref q10, .ref q28, .ref q32, .ref q36, .ref q11, .ref q13, .ref q16, .ref q20, .int (0), .int (0), .long (0), .long (1)])), (q1, .inl (c18, 6, .inr (.inr (.inr (.inr (fun i => if i < 6 then some (r2 i) else none)))))), ((r2 0), .inl (x.2.2.2.1.2, 40, .inl (fun _ => 0))), ((r2 1), .inl (x.2.2.2.1.2, 40, .inl (fun _ => 0))), ((r2 2), .inl (x.2.2.2.1.2, 40, .inl (fun _ => 0))), ((r2 3), .inl (x.2.2.2.1.2, 40, .inl (fun _ => 0))), ((r2 4), .inl (x.2.2.2.1.2, 40, .inl (fun _ => 0))), ((r2 5), .inl (x.2.2.2.1.2, 40, .inl (fun _ => 0))), (q5, .inl (x.2.2.2.1.2, 6, .inl (fun j => if j < 6 then (-1) else 0))), (q6, .inl (c8, 4, .inr (.inr (.inr (.inr (fun i => if i < 4 then some (r7 i) else none)))))), ((r7 0), .inl (x.2.2.2.1.1, 60, .inl (fun _ => 0))), ((r7 1), .inl (x.2.2.2.1.1, 60, .inl (fun _ => 0))), ((r7 2), .inl (x.2.2.2.1.1, 60, .inl (fun _ => 0))), ((r7 3), .inl (x.2.2.2.1.1, 60, .inl (fun _ => 0))), (q10, .inl (x.2.2.2.1.2, 4, .inl (fun j => if j < 4 then (-1) else 0))), (q28, .inr (4, [.ref q21, .ref q29, .ref q30, .ref q31, .int (0), .int (0), .int (0), .int (0), .int (0), .int (1), .int (0), .int (0)])), (q29, .inl (x.2.2.2.1.2, 6, .inl (fun _ => 0))), (q30, .inl (x.2.2.2.1.2, 6, .inl (fun _ => 0))), (q31, .inl (x.2.2.2.1.2, 6, .inl (fun _ => 0))), (q32, .inr (4, [.ref q21, .ref q33, .ref q34, .ref q35, .int (0), .int (0), .int (0), .int (0), .int (0), .int (1), .int (0), .int (0)])), (q33, .inl (x.2.2.2.1.2, 6, .inl (fun _ => 0))), (q34, .inl (x.2.2.2.1.2, 6, .inl (fun _ => 0))), (q35, .inl (x.2.2.2.1.2, 6, .inl (fun _ => 0))), (q36, .inr (4, [.ref q21, .ref q37, .ref q38, .ref q39, .int (0), .int (0), .int (0), .int (0), .int (0), .int (1), .int (0), .int (0)])), (q37, .inl (x.2.2.2.1.2, 6, .inl (fun _ => 0))), (q38, .inl (x.2.2.2.1.2, 6, .inl (fun _ => 0))), (q39, .inl (x.2.2.2.1.2, 6, .inl (fun _ => 0))), (q11, .inr (3, [.ref q12, .int (0)])), (q12, .inl (x.2.2.2.1.2, 40, .inl (fun _ => 0))), (q13, .inl (c14, 3, .inr (.inr (.inr (.inr (va_up (va_up (va_up (fun _ => none) 0 (some q40)) 1 (some q42)) 2 (some q44))))))), (q40, .inr (3, [.ref q41, .int (-1)])), (q41, .inl (x.2.2.2.1.2, 40, .inl (fun _ => 0))), (q42, .inr (3, [.ref q43, .int (-1)])), (q43, .inl (x.2.2.2.1.2, 40, .inl (fun _ => 0))), (q44, .inr (3, [.ref q45, .int (-1)])), (q45, .inl (x.2.2.2.1.2, 40, .inl (fun _ => 0))), (q16, .inl (c18, 6, .inr (.inr (.inr (.inr (fun i => if i < 6 then some (r17 i) else none)))))), ((r17 0), .inl (x.2.2.2.1.2, 31, .inl (fun _ => 0))), ((r17 1), .inl (x.2.2.2.1.2, 31, .inl (fun _ => 0))), ((r17 2), .inl (x.2.2.2.1.2, 31, .inl (fun _ => 0))), ((r17 3), .inl (x.2.2.2.1.2, 31, .inl (fun _ => 0))), ((r17 4), .inl (x.2.2.2.1.2, 31, .inl (fun _ => 0))), ((r17 5), .inl (x.2.2.2.1.2, 31, .inl (fun _ => 0))), (q20, .inl (x.2.2.2.1.2, 6, .inl (fun _ => 0))), (q21, .inr (6, [.ref p22, .ref p23, .ref p24, .ref p25, .ref p26, .ref p27])), (p22, .inr (7, [])), (p23, .inr (1, [])), (p24, .inr (0, [])), (p25, .inr (8, [])), (p26, .inr (2, [])), (p27, .inr (5, []))] 51 980
  refine C_astore (lv' := [(1, .ref hF), (0, .ref b)]) K dL_law_7 (by decide) rfl ?_
  refine C_new (ci := 10) (fs := [.null, .null, .int 0, .int 0, .int 0, .int 0, .null, .null, .null, .null, .null, .null, .int 0, .int 0, .long 0, .long 0, .int 0, .int 0, .int 0, .int 0, .null, .null, .null, .null, .null]) (C := RX10) (T := TX10) (N := 25) K in_X10 tyX10 tyX10_ok ts_713 ts_714 tc_12 rfl dv_X10 (by decide) (by decide) dL_law_8 (fun hM => ?_)
  refine C_dup K dL_law_11 rfl ?_
  refine C_call (n := 0) (As := []) (wr := [(hF, .inr (9, [.ref q1, .ref q5, .ref q6, .ref q10, .ref q28, .ref q32, .ref q36, .ref q11, .ref q13, .ref q16, .ref q20, .int (0), .int (0), .long (0), .long (1)])), (q1, .inl (c18, 6, .inr (.inr (.inr (.inr (fun i => if i < 6 then some (r2 i) else none)))))), ((r2 0), .inl (x.2.2.2.1.2, 40, .inl (fun _ => 0))), ((r2 1), .inl (x.2.2.2.1.2, 40, .inl (fun _ => 0))), ((r2 2), .inl (x.2.2.2.1.2, 40, .inl (fun _ => 0))), ((r2 3), .inl (x.2.2.2.1.2, 40, .inl (fun _ => 0))), ((r2 4), .inl (x.2.2.2.1.2, 40, .inl (fun _ => 0))), ((r2 5), .inl (x.2.2.2.1.2, 40, .inl (fun _ => 0))), (q5, .inl (x.2.2.2.1.2, 6, .inl (fun j => if j < 6 then (-1) else 0))), (q6, .inl (c8, 4, .inr (.inr (.inr (.inr (fun i => if i < 4 then some (r7 i) else none)))))), ((r7 0), .inl (x.2.2.2.1.1, 60, .inl (fun _ => 0))), ((r7 1), .inl (x.2.2.2.1.1, 60, .inl (fun _ => 0))), ((r7 2), .inl (x.2.2.2.1.1, 60, .inl (fun _ => 0))), ((r7 3), .inl (x.2.2.2.1.1, 60, .inl (fun _ => 0))), (q10, .inl (x.2.2.2.1.2, 4, .inl (fun j => if j < 4 then (-1) else 0))), (q28, .inr (4, [.ref q21, .ref q29, .ref q30, .ref q31, .int (0), .int (0), .int (0), .int (0), .int (0), .int (1), .int (0), .int (0)])), (q29, .inl (x.2.2.2.1.2, 6, .inl (fun _ => 0))), (q30, .inl (x.2.2.2.1.2, 6, .inl (fun _ => 0))), (q31, .inl (x.2.2.2.1.2, 6, .inl (fun _ => 0))), (q32, .inr (4, [.ref q21, .ref q33, .ref q34, .ref q35, .int (0), .int (0), .int (0), .int (0), .int (0), .int (1), .int (0), .int (0)])), (q33, .inl (x.2.2.2.1.2, 6, .inl (fun _ => 0))), (q34, .inl (x.2.2.2.1.2, 6, .inl (fun _ => 0))), (q35, .inl (x.2.2.2.1.2, 6, .inl (fun _ => 0))), (q36, .inr (4, [.ref q21, .ref q37, .ref q38, .ref q39, .int (0), .int (0), .int (0), .int (0), .int (0), .int (1), .int (0), .int (0)])), (q37, .inl (x.2.2.2.1.2, 6, .inl (fun _ => 0))), (q38, .inl (x.2.2.2.1.2, 6, .inl (fun _ => 0))), (q39, .inl (x.2.2.2.1.2, 6, .inl (fun _ => 0))), (q11, .inr (3, [.ref q12, .int (0)])), (q12, .inl (x.2.2.2.1.2, 40, .inl (fun _ => 0))), (q13, .inl (c14, 3, .inr (.inr (.inr (.inr (va_up (va_up (va_up (fun _ => none) 0 (some q40)) 1 (some q42)) 2 (some q44))))))), (q40, .inr (3, [.ref q41, .int (-1)])), (q41, .inl (x.2.2.2.1.2, 40, .inl (fun _ => 0))), (q42, .inr (3, [.ref q43, .int (-1)])), (q43, .inl (x.2.2.2.1.2, 40, .inl (fun _ => 0))), (q44, .inr (3, [.ref q45, .int (-1)])), (q45, .inl (x.2.2.2.1.2, 40, .inl (fun _ => 0))), (q16, .inl (c18, 6, .inr (.inr (.inr (.inr (fun i => if i < 6 then some (r17 i) else none)))))), ((r17 0), .inl (x.2.2.2.1.2, 31, .inl (fun _ => 0))), ((r17 1), .inl (x.2.2.2.1.2, 31, .inl (fun _ => 0))), ((r17 2), .inl (x.2.2.2.1.2, 31, .inl (fun _ => 0))), ((r17 3), .inl (x.2.2.2.1.2, 31, .inl (fun _ => 0))), ((r17 4), .inl (x.2.2.2.1.2, 31, .inl (fun _ => 0))), ((r17 5), .inl (x.2.2.2.1.2, 31, .inl (fun _ => 0))), (q20, .inl (x.2.2.2.1.2, 6, .inl (fun _ => 0))), (q21, .inr (6, [.ref p22, .ref p23, .ref p24, .ref p25, .ref p26, .ref p27])), (p22, .inr (7, [])), (p23, .inr (1, [])), (p24, .inr (0, [])), (p25, .inr (8, [])), (p26, .inr (2, [])), (p27, .inr (5, []))]) K (br_X10_init _ _ hM) [51] [0, 1, 2, 3, 4, 5, 6, 7, 8, 9, 10, 11, 12, 13, 14, 15, 16, 17, 18, 19, 20, 21, 22, 23, 24, 25, 26, 27, 28, 29, 30, 31, 32, 33, 34, 35, 36, 37, 38, 39, 40, 41, 42, 43, 44, 45, 46, 47, 48, 49, 50] rfl rfl (by decide) (by decide) (by decide) ts_715 ts_716 tc_12 rfl (by decide +kernel) ts_717 (by decide) (by decide) (by decide) (by decide) dL_law_12 rfl (Nat.le_of_ble_eq_true rfl) (fun w1 t2 hv2 hp2 => ?_)
  obtain ⟨mq1, mq2, mq3, mq4, mq5, mq6, mq7, mq8, mq9, mq10, mq11, mq12, mq13, rfl⟩ := hp2
  show CV x 15 [(1, .ref hF), (0, .ref b)] [.ref hM] ([(hF, .inr (9, [.ref q1, .ref q5, .ref q6, .ref q10, .ref q28, .ref q32, .ref q36, .ref q11, .ref q13, .ref q16, .ref q20, .int (0), .int (0), .long (0), .long (1)])), (q1, .inl (c18, 6, .inr (.inr (.inr (.inr (fun i => if i < 6 then some (r2 i) else none)))))), ((r2 0), .inl (x.2.2.2.1.2, 40, .inl (fun _ => 0))), ((r2 1), .inl (x.2.2.2.1.2, 40, .inl (fun _ => 0))), ((r2 2), .inl (x.2.2.2.1.2, 40, .inl (fun _ => 0))), ((r2 3), .inl (x.2.2.2.1.2, 40, .inl (fun _ => 0))), ((r2 4), .inl (x.2.2.2.1.2, 40, .inl (fun _ => 0))), ((r2 5), .inl (x.2.2.2.1.2, 40, .inl (fun _ => 0))), (q5, .inl (x.2.2.2.1.2, 6, .inl (fun j => if j < 6 then (-1) else 0))), (q6, .inl (c8, 4, .inr (.inr (.inr (.inr (fun i => if i < 4 then some (r7 i) else none)))))), ((r7 0), .inl (x.2.2.2.1.1, 60, .inl (fun _ => 0))), ((r7 1), .inl (x.2.2.2.1.1, 60, .inl (fun _ => 0))), ((r7 2), .inl (x.2.2.2.1.1, 60, .inl (fun _ => 0))), ((r7 3), .inl (x.2.2.2.1.1, 60, .inl (fun _ => 0))), (q10, .inl (x.2.2.2.1.2, 4, .inl (fun j => if j < 4 then (-1) else 0))), (q28, .inr (4, [.ref q21, .ref q29, .ref q30, .ref q31, .int (0), .int (0), .int (0), .int (0), .int (0), .int (1), .int (0), .int (0)])), (q29, .inl (x.2.2.2.1.2, 6, .inl (fun _ => 0))), (q30, .inl (x.2.2.2.1.2, 6, .inl (fun _ => 0))), (q31, .inl (x.2.2.2.1.2, 6, .inl (fun _ => 0))), (q32, .inr (4, [.ref q21, .ref q33, .ref q34, .ref q35, .int (0), .int (0), .int (0), .int (0), .int (0), .int (1), .int (0), .int (0)])), (q33, .inl (x.2.2.2.1.2, 6, .inl (fun _ => 0))), (q34, .inl (x.2.2.2.1.2, 6, .inl (fun _ => 0))), (q35, .inl (x.2.2.2.1.2, 6, .inl (fun _ => 0))), (q36, .inr (4, [.ref q21, .ref q37, .ref q38, .ref q39, .int (0), .int (0), .int (0), .int (0), .int (0), .int (1), .int (0), .int (0)])), (q37, .inl (x.2.2.2.1.2, 6, .inl (fun _ => 0))), (q38, .inl (x.2.2.2.1.2, 6, .inl (fun _ => 0))), (q39, .inl (x.2.2.2.1.2, 6, .inl (fun _ => 0))), (q11, .inr (3, [.ref q12, .int (0)])), (q12, .inl (x.2.2.2.1.2, 40, .inl (fun _ => 0))), (q13, .inl (c14, 3, .inr (.inr (.inr (.inr (va_up (va_up (va_up (fun _ => none) 0 (some q40)) 1 (some q42)) 2 (some q44))))))), (q40, .inr (3, [.ref q41, .int (-1)])), (q41, .inl (x.2.2.2.1.2, 40, .inl (fun _ => 0))), (q42, .inr (3, [.ref q43, .int (-1)])), (q43, .inl (x.2.2.2.1.2, 40, .inl (fun _ => 0))), (q44, .inr (3, [.ref q45, .int (-1)])), (q45, .inl (x.2.2.2.1.2, 40, .inl (fun _ => 0))), (q16, .inl (c18, 6, .inr (.inr (.inr (.inr (fun i => if i < 6 then some (r17 i) else none)))))), ((r17 0), .inl (x.2.2.2.1.2, 31, .inl (fun _ => 0))), ((r17 1), .inl (x.2.2.2.1.2, 31, .inl (fun _ => 0))), ((r17 2), .inl (x.2.2.2.1.2, 31, .inl (fun _ => 0))), ((r17 3), .inl (x.2.2.2.1.2, 31, .inl (fun _ => 0))), ((r17 4), .inl (x.2.2.2.1.2, 31, .inl (fun _ => 0))), ((r17 5), .inl (x.2.2.2.1.2, 31, .inl (fun _ => 0))), (q20, .inl (x.2.2.2.1.2, 6, .inl (fun _ => 0))), (q21, .inr (6, [.ref p22, .ref p23, .ref p24, .ref p25, .ref p26, .ref p27])), (p22, .inr (7, [])), (p23, .inr (1, [])), (p24, .inr (0, [])), (p25, .inr (8, [])), (p26, .inr (2, [])), (p27, .inr (5, []))] ++ [(hM, .inr (10, [.ref mq1, .ref mq2, .int 0, .int 0, .int 0, .int 0, .ref mq3, .ref mq4, .ref mq5, .ref mq6, .ref mq7, .ref mq8, .int 0, .int 0, .long 0, .long (1), .int 0, .int 0, .int 0, .int 0, .ref mq9, .ref mq10, .ref mq11, .ref mq12, .ref mq13])), (mq1, .inl (x.2.2.2.1.2, 2805, .inl (upd (fun _ => 0) 14 (1)))), (mq2, .inl (x.2.2.2.1.2, 6, .inl (fun _ => 0))), (mq3, .inl (x.2.2.2.1.2, 3, .inl (upd (upd (upd (fun _ => 0) 0 (-9)) 1 (-9)) 2 (-9)))), (mq4, .inl (x.2.2.2.1.2, 240, .inl (fun _ => 0))), (mq5, .inl (x.2.2.2.1.2, 6, .inl (upd (upd (upd (upd (upd (upd (fun _ => 0) 0 (-9)) 1 (-9)) 2 (-9)) 3 (-9)) 4 (-9)) 5 (-9)))), (mq6, .inl (x.2.2.2.1.2, 240, .inl (fun _ => 0))), (mq7, .inl (x.2.2.2.1.2, 4, .inl (upd (upd (upd (upd (fun _ => 0) 0 (-9)) 1 (-9)) 2 (-9)) 3 (-9)))), (mq8, .inl (x.2.2.2.1.2, 6, .inl (fun _ => 0))), (mq9, .inl (x.2.2.2.1.2, 6, .inl (fun _ => 0))), (mq10, .inl (x.2.2.2.1.2, 6, .inl (fun _ => 0))), (mq11, .inl (x.2.2.2.1.2, 6, .inl (fun _ => 0))), (mq12, .inl (x.2.2.2.1.2, 31, .inl (fun _ => 0))), (mq13, .inl (x.2.2.2.1.2, 81, .inl (fun _ => 0)))]) 65 4445
  refine C_astore (lv' := [(2, .ref hM), (1, .ref hF), (0, .ref b)]) K dL_law_15 (by decide) rfl ?_
  refine C_ic (v := 0) K dL_law_16 rfl ?_
  refine C_istore (lv' := [(3, .int 0), (2, .ref hM), (1, .ref hF), (0, .ref b)]) K dL_law_17 (by decide) rfl ?_
  rw [hxD, hxC] at hK5
  subst hxe
  intro H locs ls hP hD hS hl
  refine W.widen (k := 600000) (n := 7302250) (by decide) (by decide) ?_
  exact start_end SS S0 hL hx hb hr hlocks hml hown htb hK5 hEx hX hbl hP hD hS hl

