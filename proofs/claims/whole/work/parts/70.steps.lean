theorem st_row : St_row Sim := by
  intro a1 a2 h S
  obtain ⟨r, h1, h2, e1, e2, S2⟩ := (k_row a1 a2).st S
  exact ⟨r, h1, h2, c_X9_row 39 a1 a2 h e1, c_X10_row 38 a1 a2 h1 e2, S2⟩
theorem st_lay : St_lay Sim := by
  intro a1 a2 a3 h S
  obtain ⟨r, h1, h2, e1, e2, S2⟩ := (k_lay a1 a2 a3).st S
  exact ⟨r, h1, h2, c_X9_lay 37 a1 a2 a3 h e1, c_X10_lay 38 a1 a2 a3 h1 e2, S2⟩
theorem st_at : St_at Sim := by
  intro a1 a2 h S
  obtain ⟨r, h1, h2, e1, e2, S2⟩ := (k_at a1 a2).st S
  exact ⟨r, h1, h2, c_X9_at 37 a1 a2 h e1, c_X10_at 38 a1 a2 h1 e2, S2⟩
theorem st_tear : St_tear Sim := by
  intro a1 h S
  obtain ⟨r, h1, h2, e1, e2, S2⟩ := (k_tear a1).st S
  exact ⟨r, h1, h2, c_X9_tear 38 a1 h e1, c_X10_tear 38 a1 h1 e2, S2⟩
theorem st_copy : St_copy Sim := by
  intro a1 a2 a3 a4 a5 h S
  obtain ⟨r, h1, h2, e1, e2, S2⟩ := (k_copy a1 a2 a3 a4 a5).st S
  exact ⟨r, h1, h2, c_X9_copy 39 a1 a2 a3 a4 a5 h e1, c_X10_copy 38 a1 a2 a3 a4 a5 h1 e2, S2⟩
theorem st_mean : St_mean Sim := by
  intro a1 h S
  obtain ⟨r, h1, h2, e1, e2, S2⟩ := (k_mean a1).st S
  exact ⟨r, h1, h2, c_X9_mean 38 a1 h e1, c_X10_mean 38 a1 h1 e2, S2⟩
theorem st_text : St_text Sim := by
  intro a1 a2 h S
  obtain ⟨r, h1, h2, e1, e2, S2⟩ := (k_text a1 a2).st S
  exact ⟨r, h1, h2, c_X9_text 39 a1 a2 h e1, c_X10_text 38 a1 a2 h1 e2, S2⟩
theorem st_put : St_put Sim := by
  intro a1 a2 a3 h S
  obtain ⟨r, h1, h2, e1, e2, S2⟩ := (k_put a1 a2 a3).st S
  exact ⟨r, h1, h2, c_X9_put 38 a1 a2 a3 h e1, c_X10_put 38 a1 a2 a3 h1 e2, S2⟩
theorem st_fault : St_fault Sim := by
  intro a1 h S
  obtain ⟨r, h1, h2, e1, e2, S2⟩ := (k_fault a1).st S
  exact ⟨r, h1, h2, c_X9_fault 37 a1 h e1, c_X10_fault 36 a1 h1 e2, S2⟩
theorem st_front : St_front Sim := by
  intro a1 h S
  obtain ⟨r, h1, h2, e1, e2, S2⟩ := (k_front a1).st S
  exact ⟨r, h1, h2, c_X9_front 37 a1 h e1, c_X10_front 36 a1 h1 e2, S2⟩
theorem st_one : St_one Sim := by
  intro a1 a2 h S
  obtain ⟨r, h1, h2, e1, e2, S2⟩ := (k_one a1 a2).st S
  exact ⟨r, h1, h2, c_X9_one 35 a1 a2 h e1, c_X10_one 37 a1 a2 h1 e2, S2⟩
theorem st_mark : St_mark Sim := by
  intro a1 a2 h S
  obtain ⟨r, h1, h2, e1, e2, S2⟩ := (k_mark a1 a2).st S
  exact ⟨r, h1, h2, c_X9_mark 36 a1 a2 h e1, c_X10_mark 37 a1 a2 h1 e2, S2⟩
theorem st_turn : St_turn Sim := by
  intro h S
  obtain ⟨r, h1, h2, e1, e2, S2⟩ := k_turn.st S
  exact ⟨r, h1, h2, c_X9_turn 33  h e1, c_X10_turn 36  h1 e2, S2⟩
theorem st_spoon : St_spoon Sim := by
  intro a1 h S
  obtain ⟨r, h1, h2, e1, e2, S2⟩ := (k_spoon a1).st S
  exact ⟨r, h1, h2, c_X9_spoon 33 a1 h e1, c_X10_spoon 38 a1 h1 e2, S2⟩
theorem st_wind : St_wind Sim := by
  intro a1 h S
  obtain ⟨r, h1, h2, e1, e2, S2⟩ := (k_wind a1).st S
  exact ⟨r, h1, h2, c_X9_wind 33 a1 h e1, c_X10_wind 38 a1 h1 e2, S2⟩
theorem st_rain : St_rain Sim := by
  intro a1 h S
  obtain ⟨r, h1, h2, e1, e2, S2⟩ := (k_rain a1).st S
  exact ⟨r, h1, h2, c_X9_rain 33 a1 h e1, c_X10_rain 38 a1 h1 e2, S2⟩
theorem st_stand : St_stand Sim := by
  intro a1 a2 h S
  obtain ⟨r, h1, h2, e1, e2, S2⟩ := (k_stand a1 a2).st S
  exact ⟨r, h1, h2, c_X9_stand 33 a1 a2 h e1, c_X10_stand 38 a1 a2 h1 e2, S2⟩
theorem st_undo : St_undo Sim := by
  intro a1 h S
  obtain ⟨r, h1, h2, e1, e2, S2⟩ := (k_undo a1).st S
  exact ⟨r, h1, h2, c_X9_undo 33 a1 h e1, c_X10_undo 39 a1 h1 e2, S2⟩
theorem st_keep : St_keep Sim := by
  intro a1 h S
  obtain ⟨r, h1, h2, e1, e2, S2⟩ := (k_keep a1).st S
  exact ⟨r, h1, h2, c_X9_keep 38 a1 h e1, c_X10_keep 39 a1 h1 e2, S2⟩
theorem st_on : St_on Sim := by
  intro a1 h S
  obtain ⟨r, h1, h2, e1, e2, S2⟩ := (k_on a1).st S
  exact ⟨r, h1, h2, c_X9_on 33 a1 h e1, c_X10_on 39 a1 h1 e2, S2⟩
theorem st_gathers : St_gathers Sim := by
  intro a1 a2 h S
  obtain ⟨r, e1, e2⟩ := (k_gathers a1 a2).st S
  exact ⟨r, h, h, c_X9_gathers 36 a1 a2 h e1, c_X10_gathers 38 a1 a2 h e2, S⟩
theorem st_cloud : St_cloud Sim := by
  intro a1 h S
  obtain ⟨r, h1, h2, e1, e2, S2⟩ := (k_cloud a1).st S
  exact ⟨r, h1, h2, c_X9_cloud 34 a1 h e1, c_X10_cloud 36 a1 h1 e2, S2⟩
theorem st_share : St_share Sim := by
  intro a1 a2 h S
  obtain ⟨r, h1, h2, e1, e2, S2⟩ := (k_share a1 a2).st S
  exact ⟨r, h1, h2, c_X9_share 34 a1 a2 h e1, c_X10_share 36 a1 a2 h1 e2, S2⟩
theorem st_first : St_first Sim := by
  intro a1 h S
  obtain ⟨r, h1, h2, e1, e2, S2⟩ := (k_first a1).st S
  exact ⟨r, h1, h2, c_X9_first 35 a1 h e1, c_X10_first 36 a1 h1 e2, S2⟩
theorem st_away : St_away Sim := by
  intro a1 a2 a3 h S
  obtain ⟨r, h1, h2, e1, e2, S2⟩ := (k_away a1 a2 a3).st S
  exact ⟨r, h1, h2, c_X9_away 34 a1 a2 a3 h e1, c_X10_away 36 a1 a2 a3 h1 e2, S2⟩
theorem st_best : St_best Sim := by
  intro a1 a2 h S
  obtain ⟨r, h1, h2, e1, e2, S2⟩ := (k_best a1 a2).st S
  exact ⟨r, h1, h2, c_X9_best 34 a1 a2 h e1, c_X10_best 36 a1 a2 h1 e2, S2⟩
theorem st_least : St_least Sim := by
  intro a1 a2 h S
  obtain ⟨r, h1, h2, e1, e2, S2⟩ := (k_least a1 a2).st S
  exact ⟨r, h1, h2, c_X9_least 34 a1 a2 h e1, c_X10_least 35 a1 a2 h1 e2, S2⟩
theorem st_sizes : St_sizes Sim := by
  intro a1 a2 h S
  obtain ⟨r, h1, h2, e1, e2, S2⟩ := (k_sizes a1 a2).st S
  exact ⟨r, h1, h2, c_X9_sizes 33 a1 a2 h e1, c_X10_sizes 35 a1 a2 h1 e2, S2⟩
theorem st_winds : St_winds Sim := by
  intro a1 a2 h S
  obtain ⟨r, h1, h2, e1, e2, S2⟩ := (k_winds a1 a2).st S
  exact ⟨r, h1, h2, c_X9_winds 34 a1 a2 h e1, c_X10_winds 36 a1 a2 h1 e2, S2⟩
theorem st_kinds : St_kinds Sim := by
  intro a1 a2 h S
  obtain ⟨r, h1, h2, e1, e2, S2⟩ := (k_kinds a1 a2).st S
  exact ⟨r, h1, h2, c_X9_kinds 34 a1 a2 h e1, c_X10_kinds 36 a1 a2 h1 e2, S2⟩
theorem st_next : St_next Sim := by
  intro a1 a2 h S
  obtain ⟨r, h1, h2, e1, e2, S2⟩ := (k_next a1 a2).st S
  exact ⟨r, h1, h2, c_X9_next 33 a1 a2 h e1, c_X10_next 35 a1 a2 h1 e2, S2⟩
theorem st_sets : St_sets Sim := by
  intro a1 h S
  obtain ⟨r, h1, h2, e1, e2, S2⟩ := (k_sets a1).st S
  exact ⟨r, h1, h2, c_X9_sets 38 a1 h e1, c_X10_sets 38 a1 h1 e2, S2⟩
theorem st_sure : St_sure Sim := by
  intro a1 h S
  obtain ⟨r, h1, h2, e1, e2, S2⟩ := (k_sure a1).st S
  exact ⟨r, h1, h2, c_X9_sure 39 a1 h e1, c_X10_sure 38 a1 h1 e2, S2⟩
theorem st_duel : St_duel Sim := by
  intro a1 a2 a3 h S
  obtain ⟨r, h1, h2, e1, e2, S2⟩ := (k_duel a1 a2 a3).st S
  exact ⟨r, h1, h2, c_X9_duel 29 a1 a2 a3 h e1, c_X10_duel 35 a1 a2 a3 h1 e2, S2⟩
theorem st_odds : St_odds Sim := by
  intro a1 a2 h S
  obtain ⟨r, h1, h2, e1, e2, S2⟩ := (k_odds a1 a2).st S
  exact ⟨r, h1, h2, c_X9_odds 35 a1 a2 h e1, c_X10_odds 36 a1 a2 h1 e2, S2⟩
theorem st_mid : St_mid Sim := by
  intro a1 h S
  obtain ⟨r, h1, h2, e1, e2, S2⟩ := (k_mid a1).st S
  exact ⟨r, h1, h2, c_X9_mid 35 a1 h e1, c_X10_mid 36 a1 h1 e2, S2⟩
theorem st_lots : St_lots Sim := by
  intro a1 a2 h S
  obtain ⟨r, h1, h2, e1, e2, S2⟩ := (k_lots a1 a2).st S
  exact ⟨r, h1, h2, c_X9_lots 32 a1 a2 h e1, c_X10_lots 35 a1 a2 h1 e2, S2⟩
theorem st_asked : St_asked Sim := by
  intro h S
  refine ⟨X9_asked h, h, h, c_X9_asked 40 h, ?_, S⟩
  rw [k_asked h h h h S]
  exact c_X10_asked 40 h
theorem st_upper : St_upper Sim := by
  intro h S
  refine ⟨X9_upper h, h, h, c_X9_upper 40 h, ?_, S⟩
  rw [k_upper h h h h S]
  exact c_X10_upper 40 h
theorem st_lower : St_lower Sim := by
  intro h S
  refine ⟨X9_lower h, h, h, c_X9_lower 40 h, ?_, S⟩
  rw [k_lower h h h h S]
  exact c_X10_lower 40 h
theorem st_count : St_count Sim := by
  intro a1 h S
  obtain ⟨r, e1, e2⟩ := (k_count a1).st S
  exact ⟨r, h, h, c_X9_count 37 a1 h e1, c_X10_count 38 a1 h e2, S⟩
theorem st_finding : St_finding Sim := by
  intro h S
  refine ⟨X9_finding h, h, h, c_X9_finding 40 h, ?_, S⟩
  rw [k_finding h h h h S]
  exact c_X10_finding 40 h
theorem st_findings : St_findings Sim := by
  intro a1 h S
  obtain ⟨r, e1, e2⟩ := (k_findings a1).st S
  exact ⟨r, h, h, c_X9_findings 40 a1 h e1, c_X10_findings 39 a1 h e2, S⟩
theorem st_digest : St_digest Sim := by
  intro h S
  obtain ⟨r, e1, e2⟩ := k_digest.st S
  exact ⟨r, h, h, c_X9_digest 35  h e1, c_X10_digest 37  h e2, S⟩
theorem law_steps : LawSteps Sim := ⟨st_row, st_lay, st_at, st_tear, st_copy, st_mean, st_text, st_put, st_fault, st_front, st_one, st_mark, st_turn, st_spoon, st_wind, st_rain, st_stand, st_undo, st_keep, st_on, st_gathers, st_cloud, st_share, st_first, st_away, st_best, st_least, st_sizes, st_winds, st_kinds, st_next, st_sets, st_sure, st_duel, st_odds, st_mid, st_lots, st_asked, st_upper, st_lower, st_count, st_finding, st_findings, st_digest⟩
theorem hp0_rows : ∀ r, r < 6 → hp0.1 8 r = (-1 : Int32) ∧ hp0.1 56 r = (-9 : Int32) := by decide +kernel
theorem hp0_txts : ∀ t, t < 4 → hp0.1 14 t = (-1 : Int32) ∧ hp0.1 58 t = (-9 : Int32) := by decide +kernel
theorem hp0_kept : ∀ k, k < 3 → hp0.1 (30 + 2 * k) 1 = (-1 : Int32) ∧ hp0.1 54 k = (-9 : Int32) := by decide +kernel
theorem hp0_tell : hp0.1 0 11 = hp0.1 51 12 ∧ (∀ k, k < 6 → hp0.1 43 k = hp0.1 59 k) ∧ hp0.1 0 12 = hp0.1 51 13 ∧ hp0.2 0 13 = hp0.2 51 14 ∧ hp0.2 0 14 = hp0.2 51 15 := ⟨by decide +kernel, by decide +kernel, by decide +kernel, by decide +kernel, by decide +kernel⟩
def z00 : ZS := (0, (fun _ => 0), 0, 0)
def d00 : DS := ((fun _ => 0), (fun _ => 0), 0, 0, 1, 0, 0)
theorem fr00 (o : Nat) (h : Hp) (e : h.1 o 4 = 0 ∧ h.1 o 5 = 0 ∧ h.1 o 6 = 0 ∧ h.1 o 7 = 0 ∧ h.1 o 8 = 0 ∧ h.1 o 9 = 1 ∧ h.1 o 10 = 0 ∧ h.1 o 11 = 0) : FrAt z00 o d00 h := by
  obtain ⟨e1, e2, e3, e4, e5, e6, e7, e8⟩ := e
  exact ⟨e1, e2, e3, fun i hi => absurd hi (Nat.not_lt_zero _), fun i hi => absurd hi (Nat.not_lt_zero _), fun i hi => absurd hi (Nat.not_lt_zero _), e4, e5, e6, e7, e8⟩
theorem sim0 : Sim hp0 := by
  refine ⟨z00, d00, (fun _ => 0), 0, fun r hr => Or.inl (hp0_rows r hr), fun t ht => Or.inl (hp0_txts t ht), hp0_tell, ⟨⟨by decide, fun i hi => absurd hi (Nat.not_lt_zero _), by decide, by decide⟩, ⟨fun i hi => absurd hi (Nat.not_lt_zero _), fun i hi => absurd hi (Nat.not_lt_zero _), by decide, by decide, by decide, by decide⟩, fr00 15 hp0 (by decide +kernel), fr00 19 hp0 (by decide +kernel), ⟨Nat.zero_le _, by decide +kernel, fun j hj => absurd hj (Nat.not_lt_zero _), fun j hj => absurd hj (Nat.not_lt_zero _), fun j hj => ?_⟩, by decide +kernel, ⟨by decide +kernel, by decide +kernel, by decide +kernel, fun i hi => absurd hi (Nat.not_lt_zero _)⟩, fun k hk => Or.inl (hp0_kept k hk)⟩, fun i _ => ⟨rfl, rfl⟩, fun i _ => ⟨rfl, rfl⟩⟩
  rw [show j = 0 by omega]
  exact ⟨fun i hi => absurd hi (Nat.not_lt_zero _), fun i hi => absurd hi (Nat.not_lt_zero _), by decide +kernel, by decide +kernel, by decide +kernel, by decide +kernel, by decide +kernel⟩
