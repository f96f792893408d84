/-! THE REFERENCE, fifth part: a Sunday goes -/
set_option maxRecDepth 100000 in
set_option maxHeartbeats 400000 in
theorem t_sunday_b {SM : zC} {SF : Nat → zQ → zP} (hZ : zZ SM SF) {Q : zQ} {x : zXs} {G : zHl} {as F : Nat → Int32} {q : zMq} {n : Nat} (hn : G.1 8 2 = nI n) (h8 : n ≤ 8) (hw : wf 20000 G.1) (k : Q none (gh x (ec (s2 (als G n).1 8 0 ((als G n).1 8 0 + 1)), as, G.2.1, F, q))) : ∀ d i o3 o4, i + d = n → SF mn_M_sunday Q 104 [some (.ref 43), some (.int G.2.2), some (.int (nI i)), o3, o4] [] (0, 0) (gh x (ec (als G i).1, as, G.2.1, F, q)) := by
  intro d
  induction d with
  | zero =>
    intro i o3 o4 hi
    obtain ⟨w1, w2, w3⟩ := als_wf hw i
    have e : (ec (als G i).1 2 : Int32) = nI n := by rw [ec_c (by decide), w2, hn]
    refine zgo hZ 104 99 rfl ?_
    refine ⟨2, by decide, rfl, fun hc => ?_, fun hc => ?_⟩
    · rw [show i = n by omega]
      refine ⟨0, by decide, rfl, 0, by decide, rfl, ?_⟩
      rw [ec_uc (als G n).1 (k := 0) (by decide), show (ec (als G n).1, as, G.2.1, F, q).1 0 = (als G n).1 8 0 from ec_c (k := 0) (by decide)]
      exact k
    · exact absurd ((ile e rfl (by omega) (by omega)).mpr (by omega)) hc
  | succ d ih =>
    intro i o3 o4 hi
    obtain ⟨w1, w2, w3⟩ := als_wf hw i
    have e : (ec (als G i).1 2 : Int32) = nI n := by rw [ec_c (by decide), w2, hn]
    have h1 := ih (i + 1) o3 o4 (by omega)
    rw [show als G (i + 1) = al1 (als G i) i from rfl, al1_eq, w3, ← nI_1] at h1
    refine zgo hZ 104 99 rfl ?_
    refine ⟨2, by decide, rfl, fun hc => ?_, fun hc => ⟨fun h2 => ?_, fun h2 => ?_⟩⟩
    · have := (ile e rfl (by omega) (by omega)).mp hc
      omega
    · rw [if_neg (fun z => h2 ((fr_sh (by omega)).mpr z))] at h1
      exact h1
    · rw [if_pos ((fr_sh (by omega)).mp h2)] at h1
      exact t_isAlone hZ (by omega) h1
set_option maxRecDepth 100000 in
set_option maxHeartbeats 400000 in
theorem t_sunday_a {SM : zC} {SF : Nat → zQ → zP} (hZ : zZ SM SF) {Q : zQ} {x : zXs} {H : zHl} {as F : Nat → Int32} {q : zMq} {D : Nat} (hw : wf D H.1) (hD : D ≤ 19000) (k : Q none (gh x (ec (su H).1, as, (su H).2.1, F, q))) : ∀ d j o3 o4, j + d = nc H.1 → SF mn_M_sunday Q 4 [some (.ref 43), some (.int (csu H j).2.2), some (.int (nI j)), o3, o4] [] (0, 0) (gh x (ec (csu H j).1, as, (csu H j).2.1, F, q)) := by
  have hc8 : nc H.1 ≤ 8 := hw.2.2.2.2.2
  have hn8 : nn H.1 ≤ 8 := hw.2.2.2.1.2
  have hdD : nd H.1 ≤ D := hw.2.1.2
  intro d
  induction d with
  | zero =>
    intro j o3 o4 hj
    obtain ⟨w1, w2⟩ := csu_wf hw j
    have e : (ec (csu H j).1 3 : Int32) = nI (nc H.1) := by rw [ec_c (by decide), w2, ← hw.2.2.2.2.1]
    refine zgo hZ 104 99 rfl ?_
    refine ⟨3, by decide, rfl, fun hc => ?_, fun hc => ?_⟩
    · have hjn : j = nc H.1 := by omega
      subst hjn
      have e2 : (csu H (nc H.1)).1 8 2 = nI (nn H.1) := by rw [w2, ← hw.2.2.2.1.1]
      have w20 : wf 20000 (csu H (nc H.1)).1 := ⟨w1.1, ⟨w1.2.1.1, Nat.le_trans w1.2.1.2 (by omega)⟩, w1.2.2⟩
      have e3 : (als (csu H (nc H.1)) (nn H.1)).2 = (csu H (nc H.1)).2 := (als_wf w20 (nn H.1)).2.2
      refine t_sunday_b (G := csu H (nc H.1)) hZ e2 hn8 w20 ?_ (nn H.1) 0 o3 o4 (by omega)
      have k2 := k
      rw [show (su H).2.1 = (als (csu H (nc H.1)) (nn H.1)).2.1 from rfl, e3] at k2
      exact k2
    · exact absurd ((ile e rfl (by omega) (by omega)).mpr (by omega)) hc
  | succ d ih =>
    intro j o3 o4 hj
    obtain ⟨w1, w2⟩ := csu_wf hw j
    have e : (ec (csu H j).1 3 : Int32) = nI (nc H.1) := by rw [ec_c (by decide), w2, ← hw.2.2.2.2.1]
    have e0 : (ec (csu H j).1 0 : Int32) = nI (nd H.1) := by rw [ec_c (by decide), w2, ← hw.2.1.1]
    have e2 : (csu H j).1 8 2 = nI (nn H.1) := by rw [w2, ← hw.2.2.2.1.1]
    have en : nn (csu H j).1 = nn H.1 := (nn_8 w2).1
    have h1 := fun o3 o4 => ih (j + 1) o3 o4 (by omega)
    rw [show csu H (j + 1) = rc (csu H j) ((nd H.1 + j) % nc H.1) from rfl, ← nI_1] at h1
    unfold rc at h1
    rw [en] at h1
    have hcl : (nd H.1 + j) % nc H.1 < nc H.1 := Nat.mod_lt _ (by omega)
    have er : (ec (csu H j).1 0 : Int32) + nI j - (ec (csu H j).1 0 + nI j) / ec (csu H j).1 3 * ec (csu H j).1 3 = nI ((nd H.1 + j) % nc H.1) := by
      rw [e0, e, nI_add]
      exact pk_rem (by omega) (by omega) (by omega)
    generalize hcn : (nd H.1 + j) % nc H.1 = cn at h1 hcl er
    refine zgo hZ 4 99 rfl ?_
    refine ⟨3, by decide, rfl, fun hc => ?_, fun hc => ⟨0, by decide, rfl, 3, by decide, rfl, ?_, ?_⟩⟩
    · have := (ile e rfl (by omega) (by omega)).mp hc
      omega
    · show ¬ ec (csu H j).1 3 = 0
      rw [e]
      exact nI_ne0 (by omega) (by omega)
    · rw [show (ec (csu H j).1, as, (csu H j).2.1, F, q).1 0 + nI j - ((ec (csu H j).1, as, (csu H j).2.1, F, q).1 0 + nI j) / (ec (csu H j).1, as, (csu H j).2.1, F, q).1 3 * (ec (csu H j).1, as, (csu H j).2.1, F, q).1 3 = nI cn from er]
      refine t_charmer hZ (by omega) e2 hn8 ?_
      refine ⟨cn, by omega, rfl, fun h2 => ?_, fun h2 => ?_⟩
      · rw [if_neg h2] at h1
        obtain ⟨b, hb1, hb2⟩ := pk_ge h2
        rw [hb2, nI_clamp (by omega)] at h1
        rw [hb2]
        exact t_has (σ := (csu H j).1) (r := (as, upd (csu H j).2.1 cn (nI b), F, q)) (c := cn) (i := b) hZ (by omega) (by omega) (h1 _ _)
      · rw [if_pos h2] at h1
        rw [h2]
        refine t_cspot hZ (w := 1) ?_
        refine t_c1 (σ := (csu H j).1) (r := (as, upd (csu H j).2.1 cn (-1), F, q)) hZ (by omega) ?_
        refine t_held hZ ?_
        refine ⟨44 + 3 * cn + 1, by omega, rfl, ?_⟩
        rw [ec_up (csu H j).1 (c := cn) (w := 1) (by decide)]
        exact h1 _ _
set_option maxRecDepth 100000 in
set_option maxHeartbeats 400000 in
theorem t_sunday {SM : zC} {SF : Nat → zQ → zP} (hZ : zZ SM SF) {Q : zQ} {x : zXs} {H : zHl} {as F : Nat → Int32} {q : zMq} {D : Nat} (hw : wf D H.1) (hD : D ≤ 19000) (k : Q none (gh x (ec (su H).1, as, (su H).2.1, F, q))) : SM mn_M_sunday [.ref 43] (gh x (ec H.1, as, H.2.1, F, q)) Q := by
  refine zin hZ 4 99 rfl rfl rfl ?_
  exact t_sunday_a hZ hw hD k (nc H.1) 0 none none (by omega)
