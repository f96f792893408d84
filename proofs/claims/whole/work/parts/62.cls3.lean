/-! THE CLASS, third part: Sundays in a hall -/
theorem nxt8 (d n : Nat) (h0 : 0 < n) (h8 : n ≤ 8) : (d + 1) % n = if d % n + 1 < n then d % n + 1 else 0 := by
  have h : n = 1 ∨ n = 2 ∨ n = 3 ∨ n = 4 ∨ n = 5 ∨ n = 6 ∨ n = 7 ∨ n = 8 := by omega
  by_cases h1 : d % n + 1 < n
  · rw [if_pos h1]
    rcases h with rfl | rfl | rfl | rfl | rfl | rfl | rfl | rfl <;> omega
  · rw [if_neg h1]
    rcases h with rfl | rfl | rfl | rfl | rfl | rfl | rfl | rfl <;> omega
theorem had_min {v : Int32} (h1 : 0 ≤ v.toInt) (h2 : v.toInt ≤ 9999) : (if 9999 < v + 1 then (9999 : Int32) else v + 1) = hd3 (v + 1) 0 9999 := by
  refine min_eq ?_
  rw [zle, zadd (by rw [show (1 : Int32).toInt = 1 by decide]; omega) (by rw [show (1 : Int32).toInt = 1 by decide]; omega), show (0 : Int32).toInt = 0 by decide, show (1 : Int32).toInt = 1 by decide]
  omega
set_option maxRecDepth 100000 in
set_option maxHeartbeats 400000 in
theorem c_chosenBy1_l {SM : zC} {SF : Nat → zQ → zP} (hZ : zZ SM SF) {Q : zQ} {H : zHl} {y : zY1} {m : zMs} {c N : Nat} (hc : c < 8) (hn : H.1 8 2 = nI N) (h8 : N ≤ 8) (k : Q (some (.int (pk H.1 c H.2.2 N))) (gh (H, y) m)) : ∀ d i mo o, i + d = N → (∀ b, b < 8 → pk H.1 c H.2.2 i = nI b → mo = ch H.1 b c) → SF mn_H_chosenBy Q 7 [some (.ref 1), some (.int (nI c)), some (.int (pk H.1 c H.2.2 i)), some (.int mo), some (.int (nI i)), o] [] (0, 0) (gh (H, y) m) := by
  intro d
  induction d with
  | zero =>
    intro i mo o hi _
    refine zgo hZ 7 99 rfl ?_
    refine ⟨fun hc => ?_, fun hc => ?_⟩
    · rw [show i = N by omega]
      exact k
    · exact absurd ((ile hn rfl (by omega) (by omega)).mpr (by omega)) hc
  | succ d ih =>
    intro i mo o hi hmo
    have key : ∀ b mo' o', b = pk H.1 c H.2.2 (i + 1) → (∀ b', b' < 8 → b = nI b' → mo' = ch H.1 b' c) → SF mn_H_chosenBy Q 7 [some (.ref 1), some (.int (nI c)), some (.int b), some (.int mo'), some (.int (nI i + 1)), o'] [] (0, 0) (gh (H, y) m) := by
      intro b mo' o' eb hb
      rw [eb, nI_1]
      exact ih (i + 1) mo' o' (by omega) (by rw [← eb]; exact hb)
    have es : pk H.1 c H.2.2 (i + 1) = if (fr H.2.2 i ∧ H.1 2 i = 0) ∧ (pk H.1 c H.2.2 i = -1 ∨ ch H.1 (pk H.1 c H.2.2 i).toNatClampNeg c < ch H.1 i c) then nI i else pk H.1 c H.2.2 i := rfl
    generalize pk H.1 c H.2.2 (i + 1) = np at es key
    have hr := pk_rng H.1 c H.2.2 i
    generalize pk H.1 c H.2.2 i = b at es hr hmo ⊢
    have hi8 : i < 8 := by omega
    have hch : ∀ b', b' < 8 → nI i = nI b' → ch H.1 i c = ch H.1 b' c := by
      intro b' h1 h2
      rw [(nI_eq (by omega) (by omega)).mp h2]
    refine zgo hZ 7 99 rfl ?_
    refine ⟨fun hq => ?_, fun hq => ?_⟩
    · have := (ile hn rfl (by omega) (by omega)).mp hq
      omega
    · refine c_isFree1 hZ (fun h1 => ⟨nt, fun _ => ?_⟩) (fun h1 => ⟨fun _ => ?_, nf⟩)
      · refine ⟨i, hi8, rfl, fun h2 => ?_, fun h2 => ?_⟩
        · exact key b mo o (by rw [es, if_neg (fun z => h2 z.1.2)]) hmo
        · refine c_charmsOf1 hZ hi8 hc ?_
          refine ⟨fun h3 => ?_, fun h3 => ⟨fun h4 => ?_, fun h4 => ?_⟩⟩
          · exact key (nI i) (ch H.1 i c) (some (.int (ch H.1 i c))) (by rw [es, if_pos ⟨⟨h1, h2⟩, Or.inl h3⟩]) hch
          · rcases hr with hr | ⟨b', hb', rfl⟩
            · exact absurd hr h3
            · have ecl : (nI b').toNatClampNeg = b' := nI_clamp (by omega)
              have em := hmo b' (by omega) rfl
              rw [ecl, ← em] at es
              exact key (nI b') mo (some (.int (ch H.1 i c))) (by rw [es, if_neg (fun z => z.2.elim h3 (nlt_of h4))]) hmo
          · rcases hr with hr | ⟨b', hb', rfl⟩
            · exact absurd hr h3
            · have ecl : (nI b').toNatClampNeg = b' := nI_clamp (by omega)
              have em := hmo b' (by omega) rfl
              rw [ecl, ← em] at es
              exact key (nI i) (ch H.1 i c) (some (.int (ch H.1 i c))) (by rw [es, if_pos ⟨⟨h1, h2⟩, Or.inr (lt_of h4)⟩]) hch
      · exact key b mo o (by rw [es, if_neg (fun z => h1 z.1.1)]) hmo
set_option maxRecDepth 100000 in
set_option maxHeartbeats 400000 in
theorem c_chosenBy1 {SM : zC} {SF : Nat → zQ → zP} (hZ : zZ SM SF) {Q : zQ} {H : zHl} {y : zY1} {m : zMs} {c N : Nat} (hc : c < 8) (hn : H.1 8 2 = nI N) (h8 : N ≤ 8) (k : Q (some (.int (pk H.1 c H.2.2 N))) (gh (H, y) m)) : SM mn_H_chosenBy [.ref 1, .int (nI c)] (gh (H, y) m) Q := by
  refine zin hZ 7 99 rfl rfl rfl ?_
  exact c_chosenBy1_l hZ hc hn h8 k N 0 0 none (by omega) (fun b hb e => absurd e.symm (nI_ne_m1 (by omega)))
set_option maxRecDepth 100000 in
set_option maxHeartbeats 400000 in
theorem c_receive1_a {SM : zC} {SF : Nat → zQ → zP} (hZ : zZ SM SF) {Q : zQ} {H : zHl} {y : zY1} {m : zMs} {D : Nat} (hw : wf D H.1) {c b : Nat} (hc : c < 8) (hb : b < 8) {g : Nat → Int32} (k : Q none (gh ((hs H.1 c b, g, H.2.2 ||| ((1 : Int32) <<< (nI b &&& 31))), y) m)) : SF mn_H_receive Q 42 [some (.ref 1), some (.int (nI c)), some (.int (nI b))] [] (0, 0) (gh ((H.1, g, H.2.2), y) m) := by
  have h4 := (hw.1 b hb).2.2.2.2.1
  unfold hs at k
  rw [← had_min h4.1 h4.2] at k
  refine zgo hZ 999 99 rfl ?_
  refine ⟨c, hc, rfl, ?_⟩
  refine c_doesOf1 (H := (H.1, g, H.2.2 ||| ((1 : Int32) <<< (nI b &&& 31)))) (y := y) (m := m) hZ hb hc ?_
  refine c_hold hZ (by decide) ?_
  refine ⟨c, hc, rfl, c, hc, rfl, b, hb, rfl, b, hb, rfl, b, hb, rfl, ?_⟩
  refine c_thawsOf1 (H := (s2 (s2 (s2 H.1 6 c (hd3 (H.1 6 c + dz H.1 b c) (-999) 999)) 7 c (nI b)) 4 b (if 9999 < H.1 4 b + 1 then 9999 else H.1 4 b + 1), g, H.2.2 ||| ((1 : Int32) <<< (nI b &&& 31)))) (y := y) (m := m) hZ hb hc ?_
  refine c_hold hZ (by decide) ?_
  exact ⟨b, hb, rfl, k⟩
set_option maxRecDepth 100000 in
set_option maxHeartbeats 400000 in
theorem c_receive1 {SM : zC} {SF : Nat → zQ → zP} (hZ : zZ SM SF) {Q : zQ} {H : zHl} {y : zY1} {m : zMs} {D : Nat} (hw : wf D H.1) {c : Nat} (hc : c < 8) (k : Q none (gh (rc H c, y) m)) : SM mn_H_receive [.ref 1, .int (nI c)] (gh (H, y) m) Q := by
  have h8 : nn H.1 ≤ 8 := hw.2.2.2.1.2
  unfold rc at k
  refine zin hZ 42 99 rfl rfl rfl ?_
  refine c_chosenBy1 hZ hc hw.2.2.2.1.1 h8 ?_
  refine ⟨c, hc, rfl, fun h1 => ?_, fun h1 => ?_⟩
  · have h1 : ¬ pk H.1 c H.2.2 (nn H.1) = -1 := h1
    obtain ⟨b, hb1, hb2⟩ := pk_ge h1
    rw [if_neg h1, hb2, nI_clamp (by omega)] at k
    have h := c_receive1_a (H := H) (g := upd H.2.1 c (nI b)) (y := y) (m := m) hZ hw hc (show b < 8 by omega) k
    rw [← hb2] at h
    exact h
  · have h1 : pk H.1 c H.2.2 (nn H.1) = -1 := h1
    rw [if_pos h1] at k
    refine ⟨c, hc, rfl, ?_⟩
    refine c_hold hZ (by decide) ?_
    rw [← h1] at k
    exact ⟨c, hc, rfl, k⟩
set_option maxRecDepth 100000 in
set_option maxHeartbeats 400000 in
theorem c_sun_b1 {SM : zC} {SF : Nat → zQ → zP} (hZ : zZ SM SF) {Q : zQ} {E : zHl} {y : zY1} {m : zMs} {N : Nat} (hn : E.1 8 2 = nI N) (h8 : N ≤ 8) (hw : wf 20000 E.1) (k : Q none (gh ((s2 (als E N).1 8 0 ((als E N).1 8 0 + 1), (als E N).2), y) m)) : ∀ d i o1, i + d = N → SF mn_H_goOneSunday Q 51 [some (.ref 1), o1, some (.int (nI i))] [] (0, 0) (gh (als E i, y) m) := by
  intro d
  induction d with
  | zero =>
    intro i o1 hi
    obtain ⟨w1, w2, w3⟩ := als_wf hw i
    have e : (als E i).1 8 2 = nI N := by rw [w2, hn]
    refine zgo hZ 51 99 rfl ?_
    refine ⟨fun hc => ?_, fun hc => ?_⟩
    · rw [show i = N by omega]
      exact k
    · exact absurd ((ile e rfl (by omega) (by omega)).mpr (by omega)) hc
  | succ d ih =>
    intro i o1 hi
    obtain ⟨w1, w2, w3⟩ := als_wf hw i
    have e : (als E i).1 8 2 = nI N := by rw [w2, hn]
    have h1 := ih (i + 1) o1 (by omega)
    rw [show als E (i + 1) = al1 (als E i) i from rfl, al1_eq, ← nI_1] at h1
    have hi8 : i < 8 := by omega
    have hf := fire_nI w1
    have h4 := (w1.1 i hi8).2.2.2.1
    generalize als E i = U at h1 e hf h4 ⊢
    refine zgo hZ 51 99 rfl ?_
    refine ⟨fun hc => ?_, fun hc => ?_⟩
    · have := (ile e rfl (by omega) (by omega)).mp hc
      omega
    · refine c_isFree1 hZ (fun h2 => ⟨nt, fun _ => ?_⟩) (fun h2 => ⟨fun _ => ?_, nf⟩)
      · rw [if_pos h2] at h1
        unfold alo at h1
        rw [← had_min h4.1 h4.2] at h1
        refine ⟨i, hi8, rfl, i, hi8, rfl, i, hi8, rfl, ?_⟩
        refine c_chillsOf1 (H := (s2 U.1 3 i (if 9999 < U.1 3 i + 1 then 9999 else U.1 3 i + 1), U.2)) (y := y) (m := m) hZ hi8 hf ?_
        refine c_hold hZ (by decide) ?_
        exact ⟨i, hi8, rfl, h1⟩
      · rw [if_neg h2] at h1
        exact h1
set_option maxRecDepth 100000 in
set_option maxHeartbeats 400000 in
theorem c_sun_a1 {SM : zC} {SF : Nat → zQ → zP} (hZ : zZ SM SF) {Q : zQ} {H : zHl} {y : zY1} {m : zMs} {D : Nat} (hw : wf D H.1) (hD : D ≤ 19000) (k : Q none (gh (su H, y) m)) : ∀ d j v, j + d = nc H.1 → (0 < d → v = nI ((nd H.1 + j) % nc H.1)) → SF mn_H_goOneSunday Q 12 [some (.ref 1), some (.int v), some (.int (nI j))] [] (0, 0) (gh (csu H j, y) m) := by
  have hc8 : nc H.1 ≤ 8 := hw.2.2.2.2.2
  have hn8 : nn H.1 ≤ 8 := hw.2.2.2.1.2
  have hdD : nd H.1 ≤ D := hw.2.1.2
  intro d
  induction d with
  | zero =>
    intro j v hj _
    obtain ⟨w1, w2⟩ := csu_wf hw j
    have e : (csu H j).1 8 3 = nI (nc H.1) := by rw [w2, ← hw.2.2.2.2.1]
    refine zgo hZ 51 99 rfl ?_
    refine ⟨fun hc => ?_, fun hc => ?_⟩
    · have hjn : j = nc H.1 := by omega
      subst hjn
      have e2 : (csu H (nc H.1)).1 8 2 = nI (nn H.1) := by rw [w2, ← hw.2.2.2.1.1]
      have w20 : wf 20000 (csu H (nc H.1)).1 := ⟨w1.1, ⟨w1.2.1.1, Nat.le_trans w1.2.1.2 (by omega)⟩, w1.2.2⟩
      exact c_sun_b1 (E := csu H (nc H.1)) hZ e2 hn8 w20 k (nn H.1) 0 (some (.int v)) (by omega)
    · exact absurd ((ile e rfl (by omega) (by omega)).mpr (by omega)) hc
  | succ d ih =>
    intro j v hj hv
    obtain ⟨w1, w2⟩ := csu_wf hw j
    obtain ⟨w3, w4⟩ := csu_wf hw (j + 1)
    have e : (csu H j).1 8 3 = nI (nc H.1) := by rw [w2, ← hw.2.2.2.2.1]
    have e' : (csu H (j + 1)).1 8 3 = nI (nc H.1) := by rw [w4, ← hw.2.2.2.2.1]
    have hv := hv (by omega)
    have hcl : (nd H.1 + j) % nc H.1 < nc H.1 := Nat.mod_lt _ (by omega)
    have hnx := nxt8 (nd H.1 + j) (nc H.1) (by omega) hc8
    have h1 := fun v => ih (j + 1) v (by omega)
    rw [show csu H (j + 1) = rc (csu H j) ((nd H.1 + j) % nc H.1) from rfl] at h1 e'
    rw [← Nat.add_assoc, hnx, ← nI_1 j] at h1
    generalize (nd H.1 + j) % nc H.1 = cn at h1 hcl hv e'
    subst hv
    refine zgo hZ 12 99 rfl ?_
    refine ⟨fun hc => ?_, fun hc => ?_⟩
    · have := (ile e rfl (by omega) (by omega)).mp hc
      omega
    · refine c_receive1 hZ w1 (show cn < 8 by omega) ?_
      refine ⟨fun h2 => ?_, fun h2 => ?_⟩
      · have h2 := (ile e' (nI_1 cn) (by omega) (by omega)).mp h2
        exact h1 0 (fun _ => by rw [if_neg (by omega)]; rfl)
      · have h2 : ¬ nc H.1 ≤ cn + 1 := fun z => h2 ((ile e' (nI_1 cn) (by omega) (by omega)).mpr z)
        exact h1 (nI cn + 1) (fun _ => by rw [if_pos (by omega), nI_1])
set_option maxRecDepth 100000 in
set_option maxHeartbeats 400000 in
theorem c_goOneSunday1 {SM : zC} {SF : Nat → zQ → zP} (hZ : zZ SM SF) {Q : zQ} {H : zHl} {y : zY1} {m : zMs} {D : Nat} (hw : wf D H.1) (hD : D ≤ 19000) (k : Q none (gh (su H, y) m)) : SM mn_H_goOneSunday [.ref 1] (gh (H, y) m) Q := by
  refine zin hZ 12 99 rfl rfl rfl ?_
  refine c_firstCouple1 (H := (H.1, H.2.1, 0)) (y := y) (m := m) hZ hw (by omega) ?_
  exact c_sun_a1 hZ hw hD k (nc H.1) 0 (fc H.1) (by omega) (fun h0 => by unfold fc; rw [if_neg (by omega), Nat.add_zero])
set_option maxRecDepth 100000 in
set_option maxHeartbeats 400000 in
theorem c_goSundays1_l {SM : zC} {SF : Nat → zQ → zP} (hZ : zZ SM SF) {Q : zQ} {H : zHl} {y : zY1} {m : zMs} {D N : Nat} (hw : wf D H.1) (hN : N ≤ 100) (hD : D + N ≤ 18000) (k : Q none (gh (sus H N, y) m)) : ∀ d j, j + d = N → SF mn_H_goSundays Q 2 [some (.ref 1), some (.int (nI N)), some (.int (nI j))] [] (0, 0) (gh (sus H j, y) m) := by
  intro d
  induction d with
  | zero =>
    intro j hj
    refine zgo hZ 2 99 rfl ?_
    refine ⟨fun hc => ?_, fun hc => ?_⟩
    · rw [show j = N by omega]
      exact k
    · exact absurd ((ile rfl rfl (by omega) (by omega)).mpr (by omega)) hc
  | succ d ih =>
    intro j hj
    have h1 := ih (j + 1) (by omega)
    rw [← nI_1] at h1
    obtain ⟨w1, -⟩ := sus_wf hw j (by omega)
    refine zgo hZ 2 99 rfl ?_
    refine ⟨fun hc => ?_, fun hc => ?_⟩
    · have := (ile rfl rfl (by omega) (by omega)).mp hc
      omega
    · exact c_goOneSunday1 hZ w1 (by omega) h1
theorem c_goSundays1 {SM : zC} {SF : Nat → zQ → zP} (hZ : zZ SM SF) {Q : zQ} {H : zHl} {y : zY1} {m : zMs} {D N : Nat} (hw : wf D H.1) (hN : N ≤ 100) (hD : D + N ≤ 18000) (k : Q none (gh (sus H N, y) m)) : SM mn_H_goSundays [.ref 1, .int (nI N)] (gh (H, y) m) Q := by
  refine zin hZ 2 99 rfl rfl rfl ?_
  exact c_goSundays1_l hZ hw hN hD k N 0 (by omega)
set_option maxRecDepth 100000 in
set_option maxHeartbeats 400000 in
theorem c_chosenBy2_l {SM : zC} {SF : Nat → zQ → zP} (hZ : zZ SM SF) {Q : zQ} {H : zHl} {B : zHl} {y : zY2} {m : zMs} {c N : Nat} (hc : c < 8) (hn : H.1 8 2 = nI N) (h8 : N ≤ 8) (k : Q (some (.int (pk H.1 c H.2.2 N))) (gh (B, H, y) m)) : ∀ d i mo o, i + d = N → (∀ b, b < 8 → pk H.1 c H.2.2 i = nI b → mo = ch H.1 b c) → SF mn_H_chosenBy Q 7 [some (.ref 11), some (.int (nI c)), some (.int (pk H.1 c H.2.2 i)), some (.int mo), some (.int (nI i)), o] [] (0, 0) (gh (B, H, y) m) := by
  intro d
  induction d with
  | zero =>
    intro i mo o hi _
    refine zgo hZ 7 99 rfl ?_
    refine ⟨fun hc => ?_, fun hc => ?_⟩
    · rw [show i = N by omega]
      exact k
    · exact absurd ((ile hn rfl (by omega) (by omega)).mpr (by omega)) hc
  | succ d ih =>
    intro i mo o hi hmo
    have key : ∀ b mo' o', b = pk H.1 c H.2.2 (i + 1) → (∀ b', b' < 8 → b = nI b' → mo' = ch H.1 b' c) → SF mn_H_chosenBy Q 7 [some (.ref 11), some (.int (nI c)), some (.int b), some (.int mo'), some (.int (nI i + 1)), o'] [] (0, 0) (gh (B, H, y) m) := by
      intro b mo' o' eb hb
      rw [eb, nI_1]
      exact ih (i + 1) mo' o' (by omega) (by rw [← eb]; exact hb)
    have es : pk H.1 c H.2.2 (i + 1) = if (fr H.2.2 i ∧ H.1 2 i = 0) ∧ (pk H.1 c H.2.2 i = -1 ∨ ch H.1 (pk H.1 c H.2.2 i).toNatClampNeg c < ch H.1 i c) then nI i else pk H.1 c H.2.2 i := rfl
    generalize pk H.1 c H.2.2 (i + 1) = np at es key
    have hr := pk_rng H.1 c H.2.2 i
    generalize pk H.1 c H.2.2 i = b at es hr hmo ⊢
    have hi8 : i < 8 := by omega
    have hch : ∀ b', b' < 8 → nI i = nI b' → ch H.1 i c = ch H.1 b' c := by
      intro b' h1 h2
      rw [(nI_eq (by omega) (by omega)).mp h2]
    refine zgo hZ 7 99 rfl ?_
    refine ⟨fun hq => ?_, fun hq => ?_⟩
    · have := (ile hn rfl (by omega) (by omega)).mp hq
      omega
    · refine c_isFree2 hZ (fun h1 => ⟨nt, fun _ => ?_⟩) (fun h1 => ⟨fun _ => ?_, nf⟩)
      · refine ⟨i, hi8, rfl, fun h2 => ?_, fun h2 => ?_⟩
        · exact key b mo o (by rw [es, if_neg (fun z => h2 z.1.2)]) hmo
        · refine c_charmsOf2 hZ hi8 hc ?_
          refine ⟨fun h3 => ?_, fun h3 => ⟨fun h4 => ?_, fun h4 => ?_⟩⟩
          · exact key (nI i) (ch H.1 i c) (some (.int (ch H.1 i c))) (by rw [es, if_pos ⟨⟨h1, h2⟩, Or.inl h3⟩]) hch
          · rcases hr with hr | ⟨b', hb', rfl⟩
            · exact absurd hr h3
            · have ecl : (nI b').toNatClampNeg = b' := nI_clamp (by omega)
              have em := hmo b' (by omega) rfl
              rw [ecl, ← em] at es
              exact key (nI b') mo (some (.int (ch H.1 i c))) (by rw [es, if_neg (fun z => z.2.elim h3 (nlt_of h4))]) hmo
          · rcases hr with hr | ⟨b', hb', rfl⟩
            · exact absurd hr h3
            · have ecl : (nI b').toNatClampNeg = b' := nI_clamp (by omega)
              have em := hmo b' (by omega) rfl
              rw [ecl, ← em] at es
              exact key (nI i) (ch H.1 i c) (some (.int (ch H.1 i c))) (by rw [es, if_pos ⟨⟨h1, h2⟩, Or.inr (lt_of h4)⟩]) hch
      · exact key b mo o (by rw [es, if_neg (fun z => h1 z.1.1)]) hmo
set_option maxRecDepth 100000 in
set_option maxHeartbeats 400000 in
theorem c_chosenBy2 {SM : zC} {SF : Nat → zQ → zP} (hZ : zZ SM SF) {Q : zQ} {H : zHl} {B : zHl} {y : zY2} {m : zMs} {c N : Nat} (hc : c < 8) (hn : H.1 8 2 = nI N) (h8 : N ≤ 8) (k : Q (some (.int (pk H.1 c H.2.2 N))) (gh (B, H, y) m)) : SM mn_H_chosenBy [.ref 11, .int (nI c)] (gh (B, H, y) m) Q := by
  refine zin hZ 7 99 rfl rfl rfl ?_
  exact c_chosenBy2_l hZ hc hn h8 k N 0 0 none (by omega) (fun b hb e => absurd e.symm (nI_ne_m1 (by omega)))
set_option maxRecDepth 100000 in
set_option maxHeartbeats 400000 in
theorem c_receive2_a {SM : zC} {SF : Nat → zQ → zP} (hZ : zZ SM SF) {Q : zQ} {H : zHl} {B : zHl} {y : zY2} {m : zMs} {D : Nat} (hw : wf D H.1) {c b : Nat} (hc : c < 8) (hb : b < 8) {g : Nat → Int32} (k : Q none (gh (B, (hs H.1 c b, g, H.2.2 ||| ((1 : Int32) <<< (nI b &&& 31))), y) m)) : SF mn_H_receive Q 42 [some (.ref 11), some (.int (nI c)), some (.int (nI b))] [] (0, 0) (gh (B, (H.1, g, H.2.2), y) m) := by
  have h4 := (hw.1 b hb).2.2.2.2.1
  unfold hs at k
  rw [← had_min h4.1 h4.2] at k
  refine zgo hZ 999 99 rfl ?_
  refine ⟨c, hc, rfl, ?_⟩
  refine c_doesOf2 (H := (H.1, g, H.2.2 ||| ((1 : Int32) <<< (nI b &&& 31)))) (B := B) (y := y) (m := m) hZ hb hc ?_
  refine c_hold hZ (by decide) ?_
  refine ⟨c, hc, rfl, c, hc, rfl, b, hb, rfl, b, hb, rfl, b, hb, rfl, ?_⟩
  refine c_thawsOf2 (H := (s2 (s2 (s2 H.1 6 c (hd3 (H.1 6 c + dz H.1 b c) (-999) 999)) 7 c (nI b)) 4 b (if 9999 < H.1 4 b + 1 then 9999 else H.1 4 b + 1), g, H.2.2 ||| ((1 : Int32) <<< (nI b &&& 31)))) (B := B) (y := y) (m := m) hZ hb hc ?_
  refine c_hold hZ (by decide) ?_
  exact ⟨b, hb, rfl, k⟩
set_option maxRecDepth 100000 in
set_option maxHeartbeats 400000 in
theorem c_receive2 {SM : zC} {SF : Nat → zQ → zP} (hZ : zZ SM SF) {Q : zQ} {H : zHl} {B : zHl} {y : zY2} {m : zMs} {D : Nat} (hw : wf D H.1) {c : Nat} (hc : c < 8) (k : Q none (gh (B, rc H c, y) m)) : SM mn_H_receive [.ref 11, .int (nI c)] (gh (B, H, y) m) Q := by
  have h8 : nn H.1 ≤ 8 := hw.2.2.2.1.2
  unfold rc at k
  refine zin hZ 42 99 rfl rfl rfl ?_
  refine c_chosenBy2 hZ hc hw.2.2.2.1.1 h8 ?_
  refine ⟨c, hc, rfl, fun h1 => ?_, fun h1 => ?_⟩
  · have h1 : ¬ pk H.1 c H.2.2 (nn H.1) = -1 := h1
    obtain ⟨b, hb1, hb2⟩ := pk_ge h1
    rw [if_neg h1, hb2, nI_clamp (by omega)] at k
    have h := c_receive2_a (H := H) (g := upd H.2.1 c (nI b)) (B := B) (y := y) (m := m) hZ hw hc (show b < 8 by omega) k
    rw [← hb2] at h
    exact h
  · have h1 : pk H.1 c H.2.2 (nn H.1) = -1 := h1
    rw [if_pos h1] at k
    refine ⟨c, hc, rfl, ?_⟩
    refine c_hold hZ (by decide) ?_
    rw [← h1] at k
    exact ⟨c, hc, rfl, k⟩
set_option maxRecDepth 100000 in
set_option maxHeartbeats 400000 in
theorem c_sun_b2 {SM : zC} {SF : Nat → zQ → zP} (hZ : zZ SM SF) {Q : zQ} {E : zHl} {B : zHl} {y : zY2} {m : zMs} {N : Nat} (hn : E.1 8 2 = nI N) (h8 : N ≤ 8) (hw : wf 20000 E.1) (k : Q none (gh (B, (s2 (als E N).1 8 0 ((als E N).1 8 0 + 1), (als E N).2), y) m)) : ∀ d i o1, i + d = N → SF mn_H_goOneSunday Q 51 [some (.ref 11), o1, some (.int (nI i))] [] (0, 0) (gh (B, als E i, y) m) := by
  intro d
  induction d with
  | zero =>
    intro i o1 hi
    obtain ⟨w1, w2, w3⟩ := als_wf hw i
    have e : (als E i).1 8 2 = nI N := by rw [w2, hn]
    refine zgo hZ 51 99 rfl ?_
    refine ⟨fun hc => ?_, fun hc => ?_⟩
    · rw [show i = N by omega]
      exact k
    · exact absurd ((ile e rfl (by omega) (by omega)).mpr (by omega)) hc
  | succ d ih =>
    intro i o1 hi
    obtain ⟨w1, w2, w3⟩ := als_wf hw i
    have e : (als E i).1 8 2 = nI N := by rw [w2, hn]
    have h1 := ih (i + 1) o1 (by omega)
    rw [show als E (i + 1) = al1 (als E i) i from rfl, al1_eq, ← nI_1] at h1
    have hi8 : i < 8 := by omega
    have hf := fire_nI w1
    have h4 := (w1.1 i hi8).2.2.2.1
    generalize als E i = U at h1 e hf h4 ⊢
    refine zgo hZ 51 99 rfl ?_
    refine ⟨fun hc => ?_, fun hc => ?_⟩
    · have := (ile e rfl (by omega) (by omega)).mp hc
      omega
    · refine c_isFree2 hZ (fun h2 => ⟨nt, fun _ => ?_⟩) (fun h2 => ⟨fun _ => ?_, nf⟩)
      · rw [if_pos h2] at h1
        unfold alo at h1
        rw [← had_min h4.1 h4.2] at h1
        refine ⟨i, hi8, rfl, i, hi8, rfl, i, hi8, rfl, ?_⟩
        refine c_chillsOf2 (H := (s2 U.1 3 i (if 9999 < U.1 3 i + 1 then 9999 else U.1 3 i + 1), U.2)) (B := B) (y := y) (m := m) hZ hi8 hf ?_
        refine c_hold hZ (by decide) ?_
        exact ⟨i, hi8, rfl, h1⟩
      · rw [if_neg h2] at h1
        exact h1
set_option maxRecDepth 100000 in
set_option maxHeartbeats 400000 in
theorem c_sun_a2 {SM : zC} {SF : Nat → zQ → zP} (hZ : zZ SM SF) {Q : zQ} {H : zHl} {B : zHl} {y : zY2} {m : zMs} {D : Nat} (hw : wf D H.1) (hD : D ≤ 19000) (k : Q none (gh (B, su H, y) m)) : ∀ d j v, j + d = nc H.1 → (0 < d → v = nI ((nd H.1 + j) % nc H.1)) → SF mn_H_goOneSunday Q 12 [some (.ref 11), some (.int v), some (.int (nI j))] [] (0, 0) (gh (B, csu H j, y) m) := by
  have hc8 : nc H.1 ≤ 8 := hw.2.2.2.2.2
  have hn8 : nn H.1 ≤ 8 := hw.2.2.2.1.2
  have hdD : nd H.1 ≤ D := hw.2.1.2
  intro d
  induction d with
  | zero =>
    intro j v hj _
    obtain ⟨w1, w2⟩ := csu_wf hw j
    have e : (csu H j).1 8 3 = nI (nc H.1) := by rw [w2, ← hw.2.2.2.2.1]
    refine zgo hZ 51 99 rfl ?_
    refine ⟨fun hc => ?_, fun hc => ?_⟩
    · have hjn : j = nc H.1 := by omega
      subst hjn
      have e2 : (csu H (nc H.1)).1 8 2 = nI (nn H.1) := by rw [w2, ← hw.2.2.2.1.1]
      have w20 : wf 20000 (csu H (nc H.1)).1 := ⟨w1.1, ⟨w1.2.1.1, Nat.le_trans w1.2.1.2 (by omega)⟩, w1.2.2⟩
      exact c_sun_b2 (E := csu H (nc H.1)) hZ e2 hn8 w20 k (nn H.1) 0 (some (.int v)) (by omega)
    · exact absurd ((ile e rfl (by omega) (by omega)).mpr (by omega)) hc
  | succ d ih =>
    intro j v hj hv
    obtain ⟨w1, w2⟩ := csu_wf hw j
    obtain ⟨w3, w4⟩ := csu_wf hw (j + 1)
    have e : (csu H j).1 8 3 = nI (nc H.1) := by rw [w2, ← hw.2.2.2.2.1]
    have e' : (csu H (j + 1)).1 8 3 = nI (nc H.1) := by rw [w4, ← hw.2.2.2.2.1]
    have hv := hv (by omega)
    have hcl : (nd H.1 + j) % nc H.1 < nc H.1 := Nat.mod_lt _ (by omega)
    have hnx := nxt8 (nd H.1 + j) (nc H.1) (by omega) hc8
    have h1 := fun v => ih (j + 1) v (by omega)
    rw [show csu H (j + 1) = rc (csu H j) ((nd H.1 + j) % nc H.1) from rfl] at h1 e'
    rw [← Nat.add_assoc, hnx, ← nI_1 j] at h1
    generalize (nd H.1 + j) % nc H.1 = cn at h1 hcl hv e'
    subst hv
    refine zgo hZ 12 99 rfl ?_
    refine ⟨fun hc => ?_, fun hc => ?_⟩
    · have := (ile e rfl (by omega) (by omega)).mp hc
      omega
    · refine c_receive2 hZ w1 (show cn < 8 by omega) ?_
      refine ⟨fun h2 => ?_, fun h2 => ?_⟩
      · have h2 := (ile e' (nI_1 cn) (by omega) (by omega)).mp h2
        exact h1 0 (fun _ => by rw [if_neg (by omega)]; rfl)
      · have h2 : ¬ nc H.1 ≤ cn + 1 := fun z => h2 ((ile e' (nI_1 cn) (by omega) (by omega)).mpr z)
        exact h1 (nI cn + 1) (fun _ => by rw [if_pos (by omega), nI_1])
set_option maxRecDepth 100000 in
set_option maxHeartbeats 400000 in
theorem c_goOneSunday2 {SM : zC} {SF : Nat → zQ → zP} (hZ : zZ SM SF) {Q : zQ} {H : zHl} {B : zHl} {y : zY2} {m : zMs} {D : Nat} (hw : wf D H.1) (hD : D ≤ 19000) (k : Q none (gh (B, su H, y) m)) : SM mn_H_goOneSunday [.ref 11] (gh (B, H, y) m) Q := by
  refine zin hZ 12 99 rfl rfl rfl ?_
  refine c_firstCouple2 (H := (H.1, H.2.1, 0)) (B := B) (y := y) (m := m) hZ hw (by omega) ?_
  exact c_sun_a2 hZ hw hD k (nc H.1) 0 (fc H.1) (by omega) (fun h0 => by unfold fc; rw [if_neg (by omega), Nat.add_zero])
set_option maxRecDepth 100000 in
set_option maxHeartbeats 400000 in
theorem c_goSundays2_l {SM : zC} {SF : Nat → zQ → zP} (hZ : zZ SM SF) {Q : zQ} {H : zHl} {B : zHl} {y : zY2} {m : zMs} {D N : Nat} (hw : wf D H.1) (hN : N ≤ 100) (hD : D + N ≤ 18000) (k : Q none (gh (B, sus H N, y) m)) : ∀ d j, j + d = N → SF mn_H_goSundays Q 2 [some (.ref 11), some (.int (nI N)), some (.int (nI j))] [] (0, 0) (gh (B, sus H j, y) m) := by
  intro d
  induction d with
  | zero =>
    intro j hj
    refine zgo hZ 2 99 rfl ?_
    refine ⟨fun hc => ?_, fun hc => ?_⟩
    · rw [show j = N by omega]
      exact k
    · exact absurd ((ile rfl rfl (by omega) (by omega)).mpr (by omega)) hc
  | succ d ih =>
    intro j hj
    have h1 := ih (j + 1) (by omega)
    rw [← nI_1] at h1
    obtain ⟨w1, -⟩ := sus_wf hw j (by omega)
    refine zgo hZ 2 99 rfl ?_
    refine ⟨fun hc => ?_, fun hc => ?_⟩
    · have := (ile rfl rfl (by omega) (by omega)).mp hc
      omega
    · exact c_goOneSunday2 hZ w1 (by omega) h1
theorem c_goSundays2 {SM : zC} {SF : Nat → zQ → zP} (hZ : zZ SM SF) {Q : zQ} {H : zHl} {B : zHl} {y : zY2} {m : zMs} {D N : Nat} (hw : wf D H.1) (hN : N ≤ 100) (hD : D + N ≤ 18000) (k : Q none (gh (B, sus H N, y) m)) : SM mn_H_goSundays [.ref 11, .int (nI N)] (gh (B, H, y) m) Q := by
  refine zin hZ 2 99 rfl rfl rfl ?_
  exact c_goSundays2_l hZ hw hN hD k N 0 (by omega)
