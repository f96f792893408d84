/-! THE REFERENCE'S CALLS, first part -/
theorem nt {P : Prop} (h : (1 : Int32) = 0) : P := absurd h (by decide)
theorem nf {P : Prop} (h : ¬ (0 : Int32) = 0) : P := absurd rfl h
theorem ix_nI {j : Nat} (h : j < 1000) : ix (nI j) = j := nI_clamp (by omega)
set_option maxRecDepth 100000 in
set_option maxHeartbeats 400000 in
theorem m_fire {SM : zC} {SF : Nat → zQ → zP} (hZ : zZ SM SF) {Q : zQ} {x : zXs} {σ : zS} {as g F : Nat → Int32} {q : zMq} {v : Int32} (k : Q (some (.int (sp_fire σ F v).1)) (gh x (ec (sp_fire σ F v).2.1, as, g, (sp_fire σ F v).2.2, q))) : SM mn_M_fire [.ref 43, .int v] (gh x (ec σ, as, g, F, q)) Q := by
  unfold sp_fire at k
  refine zin hZ 999 60 rfl rfl rfl ?_
  refine t_inI hZ v 0 20 rfl (by decide) (by decide) (fun h1 h2 => ⟨nt, fun _ => ?_⟩) (fun h1 => ⟨fun _ => ?_, nf⟩)
  · rw [if_pos ⟨h1, h2⟩, show (σ 8 1 : Int32) = ec σ 1 from (ec_c (by decide)).symm, ← ec_uc σ (k := 1) (by decide)] at k
    exact t_becomes hZ (w := 1) (by decide) k
  · rw [if_neg h1] at k
    exact t_finds hZ 0 (by decide) rfl k
set_option maxRecDepth 100000 in
set_option maxHeartbeats 400000 in
theorem m_now {SM : zC} {SF : Nat → zQ → zP} (hZ : zZ SM SF) {Q : zQ} {x : zXs} {σ : zS} {as g F : Nat → Int32} {q : zMq} {D : Nat} (hw : wf D σ) (hD : D ≤ 20000) {v : Int32} (k : Q (some (.int (sp_now σ F v).1)) (gh x (ec (sp_now σ F v).2.1, as, g, (sp_now σ F v).2.2, q))) : SM mn_M_now [.ref 43, .int v] (gh x (ec σ, as, g, F, q)) Q := by
  unfold sp_now at k
  refine zin hZ 999 60 rfl rfl rfl ?_
  refine ⟨fun h0 => ?_, fun h0 => ⟨fun h1 => ?_, fun h1 => ⟨fun h2 => ?_, fun h2 => ⟨fun h3 => ?_, fun h3 => ⟨fun h4 => ?_, fun h4 => ⟨fun h5 => ?_, fun h5 => ?_⟩⟩⟩⟩⟩⟩
  · rw [if_pos (show v = 0 from h0), show (σ 8 0 : Int32) = ec σ 0 from (ec_c (by decide)).symm] at k
    exact ⟨0, by decide, rfl, k⟩
  · rw [if_neg (show ¬ v = 0 from h0), if_pos (show v = 1 from h1), show (σ 8 1 : Int32) = ec σ 1 from (ec_c (by decide)).symm] at k
    exact ⟨1, by decide, rfl, k⟩
  · rw [if_neg (show ¬ v = 0 from h0), if_neg (show ¬ v = 1 from h1), if_pos (show v = 2 from h2)] at k
    exact t_firstCouple hZ hw hD k
  · rw [if_neg (show ¬ v = 0 from h0), if_neg (show ¬ v = 1 from h1), if_neg (show ¬ v = 2 from h2), if_pos (show v = 3 from h3)] at k
    exact t_satOn hZ hw.2.2.2.1.1 hw.2.2.2.1.2 k
  · rw [if_neg (show ¬ v = 0 from h0), if_neg (show ¬ v = 1 from h1), if_neg (show ¬ v = 2 from h2), if_neg (show ¬ v = 3 from h3), if_pos (show v = 4 from h4)] at k
    exact t_wells hZ hw.2.2.2.2.1 hw.2.2.2.2.2 k
  · rw [if_neg (show ¬ v = 0 from h0), if_neg (show ¬ v = 1 from h1), if_neg (show ¬ v = 2 from h2), if_neg (show ¬ v = 3 from h3), if_neg (show ¬ v = 4 from h4), if_pos (show v = 5 from h5)] at k
    exact t_together hZ (w := 1) hw.2.2.2.1.1 hw.2.2.2.1.2 (by decide) k
  · rw [if_neg (show ¬ v = 0 from h0), if_neg (show ¬ v = 1 from h1), if_neg (show ¬ v = 2 from h2), if_neg (show ¬ v = 3 from h3), if_neg (show ¬ v = 4 from h4), if_neg (show ¬ v = 5 from h5)] at k
    exact t_finds hZ 0 (by decide) rfl k
set_option maxRecDepth 100000 in
set_option maxHeartbeats 400000 in
theorem t_addsInlaw {SM : zC} {SF : Nat → zQ → zP} (hZ : zZ SM SF) {Q : zQ} {x : zXs} {σ : zS} {r : zMr} {kd : Int32} (hn : σ 8 2 = nI (nn σ)) (h8 : nn σ < 8) (k : Q (some (.int (nI (nn σ)))) (gh x (ec (addI σ kd), r))) : SM mn_M_addsInlaw [.ref 43, .int kd] (gh x (ec σ, r)) Q := by
  have e2 : (ec σ 2 : Int32) = nI (nn σ) := by rw [ec_c (by decide), ← hn]
  refine zin hZ 999 99 rfl rfl rfl ?_
  refine ⟨2, by decide, rfl, 2, by decide, rfl, 2, by decide, rfl, ?_⟩
  rw [ec_uc σ (k := 2) (by decide), show (ec σ, r).1 2 = nI (nn σ) from e2, nI_1]
  refine t_spot hZ (w := 0) ?_
  refine ⟨4 + 5 * nn σ + 0, by omega, rfl, ?_⟩
  rw [ec_ui (s2 σ 8 2 (nI (nn σ + 1))) h8 (w := 0) (by decide)]
  refine t_spot hZ (w := 1) ?_
  refine ⟨4 + 5 * nn σ + 1, by omega, rfl, ?_⟩
  rw [ec_ui (s2 (s2 σ 8 2 (nI (nn σ + 1))) 0 (nn σ) kd) h8 (w := 1) (by decide)]
  refine ⟨fun hc => absurd hc (by decide), fun _ => ?_⟩
  refine t_spot hZ (w := 2) ?_
  refine ⟨4 + 5 * nn σ + 2, by omega, rfl, ?_⟩
  rw [ec_ui (s2 (s2 (s2 σ 8 2 (nI (nn σ + 1))) 0 (nn σ) kd) 1 (nn σ) 40) h8 (w := 2) (by decide)]
  refine ⟨fun hc => absurd hc (by decide), fun _ => ?_⟩
  refine t_spot hZ (w := 3) ?_
  refine ⟨4 + 5 * nn σ + 3, by omega, rfl, ?_⟩
  rw [ec_ui (s2 (s2 (s2 (s2 σ 8 2 (nI (nn σ + 1))) 0 (nn σ) kd) 1 (nn σ) 40) 2 (nn σ) 0) h8 (w := 3) (by decide)]
  refine ⟨fun hc => absurd hc (by decide), fun _ => ?_⟩
  refine t_spot hZ (w := 4) ?_
  refine ⟨4 + 5 * nn σ + 4, by omega, rfl, ?_⟩
  rw [ec_ui (s2 (s2 (s2 (s2 (s2 σ 8 2 (nI (nn σ + 1))) 0 (nn σ) kd) 1 (nn σ) 40) 2 (nn σ) 0) 3 (nn σ) 0) h8 (w := 4) (by decide)]
  refine ⟨fun _ => ?_, fun hc => absurd (show (4 : Int32) < 2 + 1 + 1 + 1 by decide) hc⟩
  exact k
