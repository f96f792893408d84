/-! THE CLASS: an item, the whole text, institute -/
theorem c_nameOf {SM : zC} {SF : Nat → zQ → zP} (hZ : zZ SM SF) {Q : zQ} {h : zH} {j : Nat} (hj : j < 6) (k : Q (some (.ref (1000 + j))) h) : SM mn_K_nameOf [.int (nI j)] h Q := by
  refine zin hZ 999 20 rfl rfl rfl ?_
  match j, hj with
  | 0, _ => exact ⟨fun z => absurd z (by decide), fun _ => ⟨fun z => absurd z (by decide), fun _ => ⟨fun z => absurd z (by decide), fun _ => ⟨fun z => absurd z (by decide), fun _ => ⟨fun z => absurd z (by decide), fun _ => k⟩⟩⟩⟩⟩
  | 1, _ => exact ⟨fun _ => k, fun z => absurd rfl z⟩
  | 2, _ => exact ⟨fun z => absurd z (by decide), fun _ => ⟨fun _ => k, fun z => absurd rfl z⟩⟩
  | 3, _ => exact ⟨fun z => absurd z (by decide), fun _ => ⟨fun z => absurd z (by decide), fun _ => ⟨fun _ => k, fun z => absurd rfl z⟩⟩⟩
  | 4, _ => exact ⟨fun z => absurd z (by decide), fun _ => ⟨fun z => absurd z (by decide), fun _ => ⟨fun z => absurd z (by decide), fun _ => ⟨fun _ => k, fun z => absurd rfl z⟩⟩⟩⟩
  | 5, _ => exact ⟨fun z => absurd z (by decide), fun _ => ⟨fun z => absurd z (by decide), fun _ => ⟨fun z => absurd z (by decide), fun _ => ⟨fun z => absurd z (by decide), fun _ => ⟨fun _ => k, fun z => absurd rfl z⟩⟩⟩⟩⟩
set_option maxRecDepth 100000 in
set_option maxHeartbeats 400000 in
theorem c_it_2 {SM : zC} {SF : Nat → zQ → zP} (hZ : zZ SM SF) {Q : zQ} {h : zH} {j : Nat} (hj : j < 6) {o1 : Option Value} (k : SF mn_T_tellItem Q 13 [some (.ref 31), o1, some (.int (nI j))] [.ref (1000 + j), .ref 31] (0, 0) h) : SF mn_T_tellItem Q 2 [some (.ref 31), o1, some (.int (nI j))] [] (0, 0) h := by
  refine zgo hZ 13 8 rfl ?_
  refine ⟨fun z => ?_, fun _ => ?_⟩
  · have := (ile (a := 6) (m := 6) rfl rfl (by omega) (by omega)).mp z
    omega
  · exact c_nameOf hZ hj k
theorem c_it_2e {SM : zC} {SF : Nat → zQ → zP} (hZ : zZ SM SF) {Q : zQ} {h : zH} {o1 : Option Value} (k : SF mn_T_tellItem Q 32 [some (.ref 31), o1, some (.int (nI 6))] [] (0, 0) h) : SF mn_T_tellItem Q 2 [some (.ref 31), o1, some (.int (nI 6))] [] (0, 0) h := by
  refine zgo hZ 32 5 rfl ?_
  exact ⟨fun _ => k, fun z => absurd (show (6 : Int32) ≤ nI 6 by decide) z⟩
theorem c_it_26 {SM : zC} {SF : Nat → zQ → zP} (hZ : zZ SM SF) {Q : zQ} {h : zH} {j : Int32} {o1 : Option Value} (k : SF mn_T_tellItem Q 2 [some (.ref 31), o1, some (.int (j + 1))] [] (0, 0) h) : SF mn_T_tellItem Q 26 [some (.ref 31), o1, some (.int j)] [] (0, 0) h := by
  refine zgo hZ 2 5 rfl ?_
  exact k
set_option maxRecDepth 100000 in
set_option maxHeartbeats 400000 in
theorem c_it_13 {SM : zC} {SF : Nat → zQ → zP} (hZ : zZ SM SF) {Q : zQ} {H K : zHl} {kp : Int32} {S : Nat → zSh} {F : Nat → Int32} {m : zMs} {tp : Nat → Int32} {A : zHl} {tl s j : Nat} (ht : tl ≤ 120) (hs : s ≤ tl) (hj : j < 12) {nu : Int32} {o1 o2 : Option Value} (k1 : isw tp tl s (zm_tx.getD j []) → SF mn_T_tellItem Q 19 [some (.ref 31), o1, o2] [] (0, 0) (gh (H, A, K, kp, (tp, nI tl, sor tp tl (s), nI (s), nI (tkE tp tl (s)), nu), S, F) m)) (k0 : ¬ isw tp tl s (zm_tx.getD j []) → SF mn_T_tellItem Q 26 [some (.ref 31), o1, o2] [] (0, 0) (gh (H, A, K, kp, (tp, nI tl, sor tp tl (s), nI (s), nI (tkE tp tl (s)), nu), S, F) m)) : SF mn_T_tellItem Q 13 [some (.ref 31), o1, o2] [.ref (1000 + j), .ref 31] (0, 0) (gh (H, A, K, kp, (tp, nI tl, sor tp tl (s), nI (s), nI (tkE tp tl (s)), nu), S, F) m) := by
  by_cases h : isw tp tl s (zm_tx.getD j [])
  · have k := k1 h
    refine zgo hZ 19 6 rfl ?_
    exact c_isWord hZ j ht hs hj (fun _ => ⟨nt, fun _ => k⟩) (fun z => absurd h z)
  · have k := k0 h
    refine zgo hZ 26 6 rfl ?_
    exact c_isWord hZ j ht hs hj (fun z => absurd z h) (fun _ => ⟨fun _ => k, nf⟩)
set_option maxRecDepth 100000 in
set_option maxHeartbeats 400000 in
theorem c_it_19 {SM : zC} {SF : Nat → zQ → zP} (hZ : zZ SM SF) {Q : zQ} {H K : zHl} {kp : Int32} {S : Nat → zSh} {F : Nat → Int32} {m : zMs} {tp : Nat → Int32} {A : zHl} {R : Int32 × Int32 × Int32 × Int32 × Int32} {kd : Int32} (k : ∀ (Q' : zQ), (∀ h', Q (some (.int 1)) h' → Q' (some (.int 1)) h') → (∀ h', Q (some (.int 0)) h' → Q' (some (.int 0)) h') → SM mn_T_tellInlaw [.ref 31, .ref 11, .int kd] (gh (H, A, K, kp, (tp, R), S, F) m) Q') : SF mn_T_tellItem Q 19 [some (.ref 31), some (.ref 11), some (.int kd)] [] (0, 0) (gh (H, A, K, kp, (tp, R), S, F) m) := by
  refine zgo hZ 999 6 rfl ?_
  exact k _ (fun h' q => ⟨Or.inr rfl, q⟩) (fun h' q => ⟨Or.inl rfl, q⟩)
set_option maxRecDepth 100000 in
set_option maxHeartbeats 400000 in
theorem c_it_32 {SM : zC} {SF : Nat → zQ → zP} (hZ : zZ SM SF) {Q : zQ} {H K : zHl} {kp : Int32} {S : Nat → zSh} {F : Nat → Int32} {m : zMs} {tp : Nat → Int32} {A : zHl} {tl s : Nat} (ht : tl ≤ 120) (hs : s ≤ tl) {nu : Int32} {o2 : Option Value} (k1 : isw tp tl s (zm_tx.getD 6 []) → SF mn_T_tellItem Q 41 [some (.ref 31), some (.ref 11), o2] [] (0, 0) (gh (H, A, K, kp, (tp, nI tl, sor tp tl (s), nI (s), nI (tkE tp tl (s)), nu), S, F) m)) (k0 : ¬ isw tp tl s (zm_tx.getD 6 []) → SF mn_T_tellItem Q 47 [some (.ref 31), some (.ref 11), o2] [] (0, 0) (gh (H, A, K, kp, (tp, nI tl, sor tp tl (s), nI (s), nI (tkE tp tl (s)), nu), S, F) m)) : SF mn_T_tellItem Q 32 [some (.ref 31), some (.ref 11), o2] [] (0, 0) (gh (H, A, K, kp, (tp, nI tl, sor tp tl (s), nI (s), nI (tkE tp tl (s)), nu), S, F) m) := by
  by_cases h : isw tp tl s (zm_tx.getD 6 [])
  · have k := k1 h
    refine zgo hZ 41 6 rfl ?_
    exact c_isWord hZ 6 ht hs (by decide) (fun _ => ⟨nt, fun _ => k⟩) (fun z => absurd h z)
  · have k := k0 h
    refine zgo hZ 47 6 rfl ?_
    exact c_isWord hZ 6 ht hs (by decide) (fun z => absurd z h) (fun _ => ⟨fun _ => k, nf⟩)
set_option maxRecDepth 100000 in
set_option maxHeartbeats 400000 in
theorem c_it_47 {SM : zC} {SF : Nat → zQ → zP} (hZ : zZ SM SF) {Q : zQ} {H K : zHl} {kp : Int32} {S : Nat → zSh} {F : Nat → Int32} {m : zMs} {tp : Nat → Int32} {A : zHl} {tl s : Nat} (ht : tl ≤ 120) (hs : s ≤ tl) {nu : Int32} {o2 : Option Value} (k1 : isw tp tl s (zm_tx.getD 7 []) → SF mn_T_tellItem Q 56 [some (.ref 31), some (.ref 11), o2] [] (0, 0) (gh (H, A, K, kp, (tp, nI tl, sor tp tl (s), nI (s), nI (tkE tp tl (s)), nu), S, F) m)) (k0 : ¬ isw tp tl s (zm_tx.getD 7 []) → SF mn_T_tellItem Q 62 [some (.ref 31), some (.ref 11), o2] [] (0, 0) (gh (H, A, K, kp, (tp, nI tl, sor tp tl (s), nI (s), nI (tkE tp tl (s)), nu), S, F) m)) : SF mn_T_tellItem Q 47 [some (.ref 31), some (.ref 11), o2] [] (0, 0) (gh (H, A, K, kp, (tp, nI tl, sor tp tl (s), nI (s), nI (tkE tp tl (s)), nu), S, F) m) := by
  by_cases h : isw tp tl s (zm_tx.getD 7 [])
  · have k := k1 h
    refine zgo hZ 56 6 rfl ?_
    exact c_isWord hZ 7 ht hs (by decide) (fun _ => ⟨nt, fun _ => k⟩) (fun z => absurd h z)
  · have k := k0 h
    refine zgo hZ 62 6 rfl ?_
    exact c_isWord hZ 7 ht hs (by decide) (fun z => absurd z h) (fun _ => ⟨fun _ => k, nf⟩)
set_option maxRecDepth 100000 in
set_option maxHeartbeats 400000 in
theorem c_it_62 {SM : zC} {SF : Nat → zQ → zP} (hZ : zZ SM SF) {Q : zQ} {H K : zHl} {kp : Int32} {S : Nat → zSh} {F : Nat → Int32} {m : zMs} {tp : Nat → Int32} {A : zHl} {tl s : Nat} (ht : tl ≤ 120) (hs : s ≤ tl) {nu : Int32} {o2 : Option Value} (k1 : isw tp tl s (zm_tx.getD 8 []) → SF mn_T_tellItem Q 71 [some (.ref 31), some (.ref 11), o2] [] (0, 0) (gh (H, A, K, kp, (tp, nI tl, sor tp tl (s), nI (s), nI (tkE tp tl (s)), nu), S, F) m)) (k0 : ¬ isw tp tl s (zm_tx.getD 8 []) → Q (some (.int 0)) (gh (H, A, K, kp, (tp, nI tl, sor tp tl (s), nI (s), nI (tkE tp tl (s)), nu), S, F) m)) : SF mn_T_tellItem Q 62 [some (.ref 31), some (.ref 11), o2] [] (0, 0) (gh (H, A, K, kp, (tp, nI tl, sor tp tl (s), nI (s), nI (tkE tp tl (s)), nu), S, F) m) := by
  by_cases h : isw tp tl s (zm_tx.getD 8 [])
  · have k := k1 h
    refine zgo hZ 71 6 rfl ?_
    exact c_isWord hZ 8 ht hs (by decide) (fun _ => ⟨nt, fun _ => k⟩) (fun z => absurd h z)
  · have k := k0 h
    refine zgo hZ 999 8 rfl ?_
    exact c_isWord hZ 8 ht hs (by decide) (fun z => absurd z h) (fun _ => ⟨fun _ => ⟨Or.inl rfl, k⟩, nf⟩)
set_option maxRecDepth 100000 in
set_option maxHeartbeats 400000 in
theorem c_it_41 {SM : zC} {SF : Nat → zQ → zP} (hZ : zZ SM SF) {Q : zQ} {H K : zHl} {kp : Int32} {S : Nat → zSh} {F : Nat → Int32} {m : zMs} {tp : Nat → Int32} {A : zHl} {R : Int32 × Int32 × Int32 × Int32 × Int32} {o2 : Option Value} (k : ∀ (Q' : zQ), (∀ h', Q (some (.int 1)) h' → Q' (some (.int 1)) h') → (∀ h', Q (some (.int 0)) h' → Q' (some (.int 0)) h') → SM mn_T_tellCouple [.ref 31, .ref 11] (gh (H, A, K, kp, (tp, R), S, F) m) Q') : SF mn_T_tellItem Q 41 [some (.ref 31), some (.ref 11), o2] [] (0, 0) (gh (H, A, K, kp, (tp, R), S, F) m) := by
  refine zgo hZ 999 6 rfl ?_
  exact k _ (fun h' q => ⟨Or.inr rfl, q⟩) (fun h' q => ⟨Or.inl rfl, q⟩)
set_option maxRecDepth 100000 in
set_option maxHeartbeats 400000 in
theorem c_it_56 {SM : zC} {SF : Nat → zQ → zP} (hZ : zZ SM SF) {Q : zQ} {H K : zHl} {kp : Int32} {S : Nat → zSh} {F : Nat → Int32} {m : zMs} {tp : Nat → Int32} {A : zHl} {R : Int32 × Int32 × Int32 × Int32 × Int32} {o2 : Option Value} (k : ∀ (Q' : zQ), (∀ h', Q (some (.int 1)) h' → Q' (some (.int 1)) h') → (∀ h', Q (some (.int 0)) h' → Q' (some (.int 0)) h') → SM mn_T_tellFire [.ref 31, .ref 11] (gh (H, A, K, kp, (tp, R), S, F) m) Q') : SF mn_T_tellItem Q 56 [some (.ref 31), some (.ref 11), o2] [] (0, 0) (gh (H, A, K, kp, (tp, R), S, F) m) := by
  refine zgo hZ 999 6 rfl ?_
  exact k _ (fun h' q => ⟨Or.inr rfl, q⟩) (fun h' q => ⟨Or.inl rfl, q⟩)
set_option maxRecDepth 100000 in
set_option maxHeartbeats 400000 in
theorem c_it_71 {SM : zC} {SF : Nat → zQ → zP} (hZ : zZ SM SF) {Q : zQ} {H K : zHl} {kp : Int32} {S : Nat → zSh} {F : Nat → Int32} {m : zMs} {tp : Nat → Int32} {A : zHl} {R : Int32 × Int32 × Int32 × Int32 × Int32} {o2 : Option Value} (k : ∀ (Q' : zQ), (∀ h', Q (some (.int 1)) h' → Q' (some (.int 1)) h') → (∀ h', Q (some (.int 0)) h' → Q' (some (.int 0)) h') → SM mn_T_tellSit [.ref 31, .ref 11] (gh (H, A, K, kp, (tp, R), S, F) m) Q') : SF mn_T_tellItem Q 71 [some (.ref 31), some (.ref 11), o2] [] (0, 0) (gh (H, A, K, kp, (tp, R), S, F) m) := by
  refine zgo hZ 999 8 rfl ?_
  exact k _ (fun h' q => ⟨nt, fun _ => ⟨Or.inr rfl, q⟩⟩) (fun h' q => ⟨fun _ => ⟨Or.inl rfl, q⟩, nf⟩)
/-- one kind's name: this one, or the next -/
theorem c_it_k {SM : zC} {SF : Nat → zQ → zP} (hZ : zZ SM SF) {Q : zQ} {H K : zHl} {kp : Int32} {S : Nat → zSh} {F : Nat → Int32} {m : zMs} {tp : Nat → Int32} {A : zHl} {tl s : Nat} (j : Nat) (hj : j < 6) {D : Nat} (hw : wf D A.1) (ht : tl ≤ 120) (hs : s ≤ tl) {nu : Int32} (kt : isw tp tl s (zm_tx.getD j []) → (p_inl tp tl A.1 (nI j) s).1 = true → ∀ nu', (dg (byt tp tl (p_inl tp tl A.1 (nI j) s).2.2) → nu' = num tp tl (p_inl tp tl A.1 (nI j) s).2.2) → Q (some (.int 1)) (gh (H, ((p_inl tp tl A.1 (nI j) s).2.1, A.2), K, kp, (tp, nI tl, sor tp tl ((p_inl tp tl A.1 (nI j) s).2.2), nI ((p_inl tp tl A.1 (nI j) s).2.2), nI (tkE tp tl ((p_inl tp tl A.1 (nI j) s).2.2)), nu'), S, F) m)) (kf : isw tp tl s (zm_tx.getD j []) → (p_inl tp tl A.1 (nI j) s).1 = false → ∀ A' so be nu', Q (some (.int 0)) (gh (H, A', K, kp, (tp, nI tl, so, nI (p_inl tp tl A.1 (nI j) s).2.2, be, nu'), S, F) m))
    (k0 : ¬ isw tp tl s (zm_tx.getD j []) → SF mn_T_tellItem Q 2 [some (.ref 31), some (.ref 11), some (.int (nI (j + 1)))] [] (0, 0) (gh (H, A, K, kp, (tp, nI tl, sor tp tl (s), nI (s), nI (tkE tp tl (s)), nu), S, F) m)) : SF mn_T_tellItem Q 2 [some (.ref 31), some (.ref 11), some (.int (nI j))] [] (0, 0) (gh (H, A, K, kp, (tp, nI tl, sor tp tl (s), nI (s), nI (tkE tp tl (s)), nu), S, F) m) := by
  refine c_it_2 hZ hj ?_
  refine c_it_13 hZ ht hs (by omega) (fun h => ?_) (fun h => ?_)
  · refine c_it_19 hZ (fun Q' q1 q0 => ?_)
    exact c_tellInlaw hZ hw ht hs (fun z nu' hu => q1 _ (kt h z nu' hu)) (fun z A' so be nu' => q0 _ (kf h z A' so be nu'))
  · refine c_it_26 hZ ?_
    rw [nI_1]
    exact k0 h
set_option maxRecDepth 100000 in
set_option maxHeartbeats 400000 in
theorem c_it_0 {SM : zC} {SF : Nat → zQ → zP} (hZ : zZ SM SF) {Q : zQ} {h : zH} (k : SF mn_T_tellItem Q 2 [some (.ref 31), some (.ref 11), some (.int (nI 0))] [] (0, 0) h) : SM mn_T_tellItem [.ref 31, .ref 11] h Q := by
  refine zin hZ 2 4 rfl rfl rfl ?_
  exact k
theorem c_tellItem {SM : zC} {SF : Nat → zQ → zP} (hZ : zZ SM SF) {Q : zQ} {H K : zHl} {kp : Int32} {S : Nat → zSh} {F : Nat → Int32} {m : zMs} {tp : Nat → Int32} {A : zHl} {tl s : Nat} {nu : Int32} {D : Nat} (hw : wf D A.1) (ht : tl ≤ 120) (hs : s ≤ tl) (kt : (p_item tp tl A.1 s).1 = true → ∀ nu', (dg (byt tp tl (p_item tp tl A.1 s).2.2) → nu' = num tp tl (p_item tp tl A.1 s).2.2) → Q (some (.int 1)) (gh (H, ((p_item tp tl A.1 s).2.1, A.2), K, kp, (tp, nI tl, sor tp tl ((p_item tp tl A.1 s).2.2), nI ((p_item tp tl A.1 s).2.2), nI (tkE tp tl ((p_item tp tl A.1 s).2.2)), nu'), S, F) m)) (kf : (p_item tp tl A.1 s).1 = false → ∀ A' so be nu', Q (some (.int 0)) (gh (H, A', K, kp, (tp, nI tl, so, nI (p_item tp tl A.1 s).2.2, be, nu'), S, F) m)) : SM mn_T_tellItem [.ref 31, .ref 11] (gh (H, A, K, kp, (tp, nI tl, sor tp tl (s), nI (s), nI (tkE tp tl (s)), nu), S, F) m) Q := by
  unfold p_item at kt kf
  refine c_it_0 hZ ?_
  refine c_it_k hZ 0 (by decide) hw ht hs (fun h => ?_) (fun h => ?_) (fun h => ?_)
  · rw [cif_t h] at kt; exact kt
  · rw [cif_t h] at kf; exact kf
  rw [cif_f h] at kt kf
  clear h
  refine c_it_k hZ 1 (by decide) hw ht hs (fun h => ?_) (fun h => ?_) (fun h => ?_)
  · rw [cif_t h] at kt; exact kt
  · rw [cif_t h] at kf; exact kf
  rw [cif_f h] at kt kf
  clear h
  refine c_it_k hZ 2 (by decide) hw ht hs (fun h => ?_) (fun h => ?_) (fun h => ?_)
  · rw [cif_t h] at kt; exact kt
  · rw [cif_t h] at kf; exact kf
  rw [cif_f h] at kt kf
  clear h
  refine c_it_k hZ 3 (by decide) hw ht hs (fun h => ?_) (fun h => ?_) (fun h => ?_)
  · rw [cif_t h] at kt; exact kt
  · rw [cif_t h] at kf; exact kf
  rw [cif_f h] at kt kf
  clear h
  refine c_it_k hZ 4 (by decide) hw ht hs (fun h => ?_) (fun h => ?_) (fun h => ?_)
  · rw [cif_t h] at kt; exact kt
  · rw [cif_t h] at kf; exact kf
  rw [cif_f h] at kt kf
  clear h
  refine c_it_k hZ 5 (by decide) hw ht hs (fun h => ?_) (fun h => ?_) (fun h => ?_)
  · rw [cif_t h] at kt; exact kt
  · rw [cif_t h] at kf; exact kf
  rw [cif_f h] at kt kf
  clear h
  refine c_it_2e hZ ?_
  refine c_it_32 hZ ht hs (fun h => ?_) (fun h => ?_)
  · rw [cif_t h] at kt kf
    refine c_it_41 hZ (fun Q' q1 q0 => ?_)
    exact c_tellCouple hZ hw ht hs (fun z nu' hu => q1 _ (kt z nu' hu)) (fun z A' so be nu' => q0 _ (kf z A' so be nu'))
  rw [cif_f h] at kt kf
  clear h
  refine c_it_47 hZ ht hs (fun h => ?_) (fun h => ?_)
  · rw [cif_t h] at kt kf
    refine c_it_56 hZ (fun Q' q1 q0 => ?_)
    exact c_tellFire hZ ht hs (fun z nu' hu => q1 _ (kt z nu' hu)) (fun z A' so be nu' => q0 _ (kf z A' so be nu'))
  rw [cif_f h] at kt kf
  clear h
  refine c_it_62 hZ ht hs (fun h => ?_) (fun h => ?_)
  · rw [cif_t h] at kt kf
    refine c_it_71 hZ (fun Q' q1 q0 => ?_)
    exact c_tellSit hZ hw ht hs (fun z nu' hu => q1 _ (kt z nu' hu)) (fun z A' so be nu' => q0 _ (kf z A' so be nu'))
  rw [cif_f h] at kf
  exact kf rfl _ _ _ _
-- the whole text
theorem sor_0 {tp : Nat → Int32} {tl s : Nat} : sor tp tl s = 0 ↔ ¬ s < tl := by
  unfold sor
  by_cases h : s < tl
  · rw [if_pos h]
    refine ⟨fun z => ?_, fun z => absurd h z⟩
    by_cases h1 : lt (tp s)
    · rw [if_pos h1] at z; exact absurd z (by decide)
    · rw [if_neg h1] at z
      by_cases h2 : dg (tp s)
      · rw [if_pos h2] at z; exact absurd z (by decide)
      · rw [if_neg h2] at z
        by_cases h3 : tp s = 59
        · rw [if_pos h3] at z; exact absurd z (by decide)
        · rw [if_neg h3] at z; exact absurd z (by decide)
  · rw [if_neg h]
    exact ⟨fun _ => h, fun _ => rfl⟩
theorem sor_3 {tp : Nat → Int32} {tl s : Nat} (h : s < tl) : sor tp tl s = 3 ↔ tp s = 59 := by
  unfold sor
  rw [if_pos h]
  by_cases h3 : tp s = 59
  · rw [h3]
    exact ⟨fun _ => rfl, fun _ => by decide⟩
  · refine ⟨fun z => ?_, fun z => absurd z h3⟩
    by_cases h1 : lt (tp s)
    · rw [if_pos h1] at z; exact absurd z (by decide)
    · rw [if_neg h1] at z
      by_cases h2 : dg (tp s)
      · rw [if_pos h2] at z; exact absurd z (by decide)
      · rw [if_neg h2, if_neg h3] at z; exact absurd z (by decide)
set_option maxRecDepth 100000 in
set_option maxHeartbeats 400000 in
theorem c_to_7 {SM : zC} {SF : Nat → zQ → zP} (hZ : zZ SM SF) {Q : zQ} {H K : zHl} {kp : Int32} {S : Nat → zSh} {F : Nat → Int32} {m : zMs} {tp : Nat → Int32} {A : zHl} {tl s n : Nat} (ht : tl ≤ 120) (hs : s ≤ tl) (hn : n ≤ 120) {so st nu : Int32} (k : ∀ nu', (dg (byt tp tl (tkS tp tl s)) → nu' = num tp tl (tkS tp tl s)) → SF mn_T_tellTo Q 17 [some (.ref 31), some (.ref 11), some (.int (nI n))] [] (0, 0) (gh (H, A, K, kp, (tp, nI tl, sor tp tl (tkS tp tl s), nI (tkS tp tl s), nI (tkE tp tl (tkS tp tl s)), nu'), S, F) m)) : SF mn_T_tellTo Q 7 [some (.ref 31), some (.ref 11), some (.int (nI n))] [] (0, 0) (gh (H, A, K, kp, (tp, nI tl, so, st, nI s, nu), S, F) m) := by
  refine zgo hZ 17 8 rfl ?_
  refine ⟨fun z => ?_, fun _ => ?_⟩
  · have := (ilt (a := 120) (m := 120) rfl rfl (by omega) (by omega)).mp z
    omega
  · exact c_advance hZ ht hs k
set_option maxRecDepth 100000 in
set_option maxHeartbeats 400000 in
theorem c_to_17 {SM : zC} {SF : Nat → zQ → zP} (hZ : zZ SM SF) {Q : zQ} {H K : zHl} {kp : Int32} {S : Nat → zSh} {F : Nat → Int32} {m : zMs} {tp : Nat → Int32} {A : zHl} {R : Int32 × Int32 × Int32 × Int32 × Int32} {n : Int32} (k : ∀ (Q' : zQ), (∀ h', SF mn_T_tellTo Q 32 [some (.ref 31), some (.ref 11), some (.int n)] [] (0, 0) h' → Q' (some (.int 1)) h') → (∀ A' a so st be nu, Q (some (.int (-1 - st))) (gh (H, A', K, kp, (tp, a, so, st, be, nu), S, F) m) → Q' (some (.int 0)) (gh (H, A', K, kp, (tp, a, so, st, be, nu), S, F) m)) → SM mn_T_tellItem [.ref 31, .ref 11] (gh (H, A, K, kp, (tp, R), S, F) m) Q') : SF mn_T_tellTo Q 17 [some (.ref 31), some (.ref 11), some (.int n)] [] (0, 0) (gh (H, A, K, kp, (tp, R), S, F) m) := by
  refine zgo hZ 32 12 rfl ?_
  exact k _ (fun h' q => ⟨fun _ => q, nt⟩) (fun A' a so st be nu q => ⟨nf, fun _ => q⟩)
set_option maxRecDepth 100000 in
set_option maxHeartbeats 400000 in
theorem c_to_32 {SM : zC} {SF : Nat → zQ → zP} (hZ : zZ SM SF) {Q : zQ} {H K : zHl} {kp : Int32} {S : Nat → zSh} {F : Nat → Int32} {m : zMs} {tp : Nat → Int32} {A : zHl} {a so st be nu n : Int32} (k0 : so = 0 → Q (some (.int n)) (gh (H, A, K, kp, (tp, a, so, st, be, nu), S, F) m)) (k3 : so = 3 → SF mn_T_tellTo Q 56 [some (.ref 31), some (.ref 11), some (.int n)] [] (0, 0) (gh (H, A, K, kp, (tp, a, so, st, be, nu), S, F) m)) (k4 : ¬ so = 0 → ¬ so = 3 → Q (some (.int (-1 - st))) (gh (H, A, K, kp, (tp, a, so, st, be, nu), S, F) m)) : SF mn_T_tellTo Q 32 [some (.ref 31), some (.ref 11), some (.int n)] [] (0, 0) (gh (H, A, K, kp, (tp, a, so, st, be, nu), S, F) m) := by
  refine zgo hZ 56 14 rfl ?_
  exact ⟨fun h => ⟨fun h2 => k3 h2, fun h2 => k4 h h2⟩, fun h => k0 h⟩
theorem c_to_56 {SM : zC} {SF : Nat → zQ → zP} (hZ : zZ SM SF) {Q : zQ} {h : zH} {n : Int32} (k : SF mn_T_tellTo Q 7 [some (.ref 31), some (.ref 11), some (.int (n + 1))] [] (0, 0) h) : SF mn_T_tellTo Q 56 [some (.ref 31), some (.ref 11), some (.int n)] [] (0, 0) h := by
  refine zgo hZ 7 4 rfl ?_
  exact k
theorem c_to_l {SM : zC} {SF : Nat → zQ → zP} (hZ : zZ SM SF) {Q : zQ} {H K : zHl} {kp : Int32} {S : Nat → zSh} {F : Nat → Int32} {m : zMs} {tp : Nat → Int32} {tl D : Nat} {p : (Nat → Int32) × Int32} (ht : tl ≤ 120) : ∀ d σ s n nu, n + d = 121 → 2 * n ≤ s + 1 → s ≤ tl → wf D σ → ((p_aft tp tl d σ s n).1 = true → ∀ R, Q (some (.int (nI (p_aft tp tl d σ s n).2.2))) (gh (H, ((p_aft tp tl d σ s n).2.1, p), K, kp, (tp, nI tl, R), S, F) m)) → ((p_aft tp tl d σ s n).1 = false → ∀ A' R, Q (some (.int (-1 - nI (p_aft tp tl d σ s n).2.2))) (gh (H, A', K, kp, (tp, nI tl, R), S, F) m)) → SF mn_T_tellTo Q 32 [some (.ref 31), some (.ref 11), some (.int (nI n))] [] (0, 0) (gh (H, (σ, p), K, kp, (tp, nI tl, sor tp tl (s), nI (s), nI (tkE tp tl (s)), nu), S, F) m) := by
  intro d
  induction d with
  | zero =>
    intro σ s n nu h1 h2 hs hw kt kf
    omega
  | succ d ih =>
    intro σ s n nu h1 h2 hs hw kt kf
    have e : p_aft tp tl (d + 1) σ s n = if s < tl then (if tp s = 59 then (if (p_item tp tl σ (nx tp tl s)).1 = true then p_aft tp tl d (p_item tp tl σ (nx tp tl s)).2.1 (p_item tp tl σ (nx tp tl s)).2.2 (n + 1) else (false, σ, (p_item tp tl σ (nx tp tl s)).2.2)) else (false, σ, s)) else (true, σ, n) := rfl
    rw [e] at kt kf
    have r1 := nx_rng (tp := tp) hs
    refine c_to_32 hZ (fun h => ?_) (fun h => ?_) (fun h h' => ?_)
    · rw [if_neg (sor_0.mp h)] at kt
      exact kt rfl _
    · have hl : s < tl := by
        by_cases hl : s < tl
        · exact hl
        · exact absurd ((sor_0.mpr hl).symm.trans h) (by decide)
      rw [if_pos hl, if_pos ((sor_3 hl).mp h)] at kt kf
      have r1' := r1.2.2 hl
      refine c_to_56 hZ ?_
      rw [nI_1]
      refine c_to_7 hZ ht (tkE_rng (tp := tp) hs).2.1 (by omega) (fun nu1 hu1 => ?_)
      refine c_to_17 hZ (fun Q' q1 q0 => ?_)
      obtain ⟨a1, a2⟩ := p_item_ok (tp := tp) hw r1.2.1
      refine c_tellItem (A := (σ, p)) (s := nx tp tl s) hZ hw ht r1.2.1 (fun hi nu2 hu2 => q1 _ ?_) (fun hi A' so be nu' => q0 _ _ _ _ _ _ ?_)
      · have hi : (p_item tp tl σ (nx tp tl s)).1 = true := hi
        rw [if_pos hi] at kt kf
        obtain ⟨b1, b2⟩ := a2 hi
        exact ih (p_item tp tl σ (nx tp tl s)).2.1 (p_item tp tl σ (nx tp tl s)).2.2 (n + 1) nu2 (by omega) (by omega) a1.2 b2 kt kf
      · have hi : (p_item tp tl σ (nx tp tl s)).1 = false := hi
        rw [if_neg (by rw [hi]; decide)] at kf
        exact kf rfl _ _
    · have hl : s < tl := by
        by_cases hl : s < tl
        · exact hl
        · exact absurd (sor_0.mpr hl) h
      rw [if_pos hl, if_neg (fun z => h' ((sor_3 hl).mpr z))] at kf
      exact kf rfl _ _
set_option maxRecDepth 100000 in
set_option maxHeartbeats 400000 in
theorem c_to_0 {SM : zC} {SF : Nat → zQ → zP} (hZ : zZ SM SF) {Q : zQ} {H K : zHl} {kp : Int32} {S : Nat → zSh} {F : Nat → Int32} {m : zMs} {tp : Nat → Int32} {A : zHl} {a so st be nu : Int32} (k : SF mn_T_tellTo Q 7 [some (.ref 31), some (.ref 11), some (.int (nI 1))] [] (0, 0) (gh (H, A, K, kp, (tp, a, so, st, nI 0, nu), S, F) m)) : SM mn_T_tellTo [.ref 31, .ref 11] (gh (H, A, K, kp, (tp, a, so, st, be, nu), S, F) m) Q := by
  refine zin hZ 7 8 rfl rfl rfl ?_
  exact k
theorem c_tellTo {SM : zC} {SF : Nat → zQ → zP} (hZ : zZ SM SF) {Q : zQ} {H K : zHl} {kp : Int32} {S : Nat → zSh} {F : Nat → Int32} {m : zMs} {tp : Nat → Int32} {tl D : Nat} {σ : zS} {p : (Nat → Int32) × Int32} (hw : wf D σ) (ht : tl ≤ 120) {so st be nu : Int32} (kt : (p_txt tp tl σ).1 = true → ∀ R, Q (some (.int (nI (p_txt tp tl σ).2.2))) (gh (H, ((p_txt tp tl σ).2.1, p), K, kp, (tp, nI tl, R), S, F) m)) (kf : (p_txt tp tl σ).1 = false → ∀ A' R, Q (some (.int (-1 - nI (p_txt tp tl σ).2.2))) (gh (H, A', K, kp, (tp, nI tl, R), S, F) m)) : SM mn_T_tellTo [.ref 31, .ref 11] (gh (H, (σ, p), K, kp, (tp, nI tl, so, st, be, nu), S, F) m) Q := by
  have hs := tkS_rng (tp := tp) (Nat.zero_le tl)
  obtain ⟨a1, a2⟩ := p_item_ok (tp := tp) hw hs.2
  unfold p_txt at kt kf
  refine c_to_0 hZ ?_
  refine c_to_7 hZ ht (Nat.zero_le _) (by omega) (fun nu1 hu1 => ?_)
  refine c_to_17 hZ (fun Q' q1 q0 => ?_)
  refine c_tellItem (A := (σ, p)) hZ hw ht hs.2 (fun hi nu2 hu2 => q1 _ ?_) (fun hi A' so be nu' => q0 _ _ _ _ _ _ ?_)
  · have hi : (p_item tp tl σ (tkS tp tl 0)).1 = true := hi
    rw [if_pos hi] at kt kf
    obtain ⟨b1, b2⟩ := a2 hi
    exact c_to_l hZ ht 120 (p_item tp tl σ (tkS tp tl 0)).2.1 (p_item tp tl σ (tkS tp tl 0)).2.2 1 nu2 (by omega) (by omega) a1.2 b2 kt kf
  · have hi : (p_item tp tl σ (tkS tp tl 0)).1 = false := hi
    rw [if_neg (by rw [hi]; decide)] at kf
    exact kf rfl _ _
set_option maxRecDepth 100000 in
set_option maxHeartbeats 400000 in
theorem c_xi_38 {SM : zC} {SF : Nat → zQ → zP} (hZ : zZ SM SF) {Q : zQ} {H K : zHl} {kp : Int32} {S : Nat → zSh} {F : Nat → Int32} {m : zMs} {tp : Nat → Int32} {A : zHl} {R : Int32 × Int32 × Int32 × Int32} {a v : Int32} (k : Q (some (.int v)) (gh (H, A, K, kp, (tp, 0, R), S, F) m)) : SF mn_X_institute Q 38 [some (.ref 0), some (.int v)] [] (0, 0) (gh (H, A, K, kp, (tp, a, R), S, F) m) := by
  refine zgo hZ 999 10 rfl ?_
  exact k
set_option maxRecDepth 100000 in
set_option maxHeartbeats 400000 in
theorem c_xi_22 {SM : zC} {SF : Nat → zQ → zP} (hZ : zZ SM SF) {Q : zQ} {H K : zHl} {kp : Int32} {S : Nat → zSh} {F : Nat → Int32} {m : zMs} {tp : Nat → Int32} {A : zHl} {R : Int32 × Int32 × Int32 × Int32} {a v : Int32} (k1 : ¬ v < 0 → Q (some (.int v)) (gh ((A.1, H.2), A, K, kp, (tp, 0, R), S, F) m)) (k0 : v < 0 → Q (some (.int v)) (gh (H, A, K, kp, (tp, 0, R), S, F) m)) : SF mn_X_institute Q 22 [some (.ref 0), none] [.int v] (0, 0) (gh (H, A, K, kp, (tp, a, R), S, F) m) := by
  by_cases h : v < 0
  · have k := c_xi_38 (a := a) hZ (k0 h)
    refine zgo hZ 38 5 rfl ?_
    exact ⟨fun _ => k, fun z => absurd h z⟩
  · have k := c_xi_38 (H := (A.1, H.2)) (a := a) hZ (k1 h)
    refine zgo hZ 38 10 rfl ?_
    refine ⟨fun z => absurd z h, fun _ => ?_⟩
    exact c_becomeHA hZ k
theorem p_aft_rng {tp : Nat → Int32} {D tl : Nat} (ht : tl ≤ 120) : ∀ d σ s n, wf D σ → s ≤ tl → n + d ≤ 121 → (p_aft tp tl d σ s n).2.2 ≤ 121
  | 0, σ, s, n, hw, hs, h => by show s ≤ 121; omega
  | d + 1, σ, s, n, hw, hs, h => by
    have e : p_aft tp tl (d + 1) σ s n = if s < tl then (if tp s = 59 then (if (p_item tp tl σ (nx tp tl s)).1 = true then p_aft tp tl d (p_item tp tl σ (nx tp tl s)).2.1 (p_item tp tl σ (nx tp tl s)).2.2 (n + 1) else (false, σ, (p_item tp tl σ (nx tp tl s)).2.2)) else (false, σ, s)) else (true, σ, n) := rfl
    rw [e]
    obtain ⟨a1, a2⟩ := p_item_ok (tp := tp) hw (nx_rng (tp := tp) hs).2.1
    by_cases h1 : s < tl
    · rw [if_pos h1]
      by_cases h2 : tp s = 59
      · rw [if_pos h2]
        by_cases h3 : (p_item tp tl σ (nx tp tl s)).1 = true
        · rw [if_pos h3]
          exact p_aft_rng ht d _ _ (n + 1) (a2 h3).2 a1.2 (by omega)
        · rw [if_neg h3]
          show (p_item tp tl σ (nx tp tl s)).2.2 ≤ 121
          omega
      · rw [if_neg h2]
        show s ≤ 121
        omega
    · rw [if_neg h1]
      show n ≤ 121
      omega
set_option maxRecDepth 100000 in
set_option maxHeartbeats 400000 in
theorem c_institute {SM : zC} {SF : Nat → zQ → zP} (hZ : zZ SM SF) {Q : zQ} {H K : zHl} {kp : Int32} {S : Nat → zSh} {F : Nat → Int32} {m : zMs} {tp : Nat → Int32} {A : zHl} {R : Int32 × Int32 × Int32 × Int32} {tl D : Nat} (hw : wf D H.1) (ht : tl ≤ 120) (k : ∀ A' R', Q (some (.int (sp_inst tp tl H.1).1)) (gh (((sp_inst tp tl H.1).2, H.2), A', K, kp, (tp, 0, R'), S, F) m)) : SM mn_X_institute [.ref 0] (gh (H, A, K, kp, (tp, nI tl, R), S, F) m) Q := by
  have hs := tkS_rng (tp := tp) (Nat.zero_le tl)
  obtain ⟨a1, a2⟩ := p_item_ok (tp := tp) hw hs.2
  have hb : (p_txt tp tl H.1).2.2 ≤ 121 := by
    unfold p_txt
    by_cases h1 : (p_item tp tl H.1 (tkS tp tl 0)).1 = true
    · rw [if_pos h1]
      exact p_aft_rng ht 120 _ _ 1 (a2 h1).2 a1.2 (by omega)
    · rw [if_neg h1]
      show (p_item tp tl H.1 (tkS tp tl 0)).2.2 ≤ 121
      omega
  unfold sp_inst at k
  have key : ∀ v A' R', (¬ v < 0 → Q (some (.int v)) (gh ((A'.1, H.2), A', K, kp, (tp, 0, R'), S, F) m)) → (v < 0 → Q (some (.int v)) (gh (H, A', K, kp, (tp, 0, R'), S, F) m)) → SF mn_X_institute Q 22 [some (.ref 0), none] [.int v] (0, 0) (gh (H, A', K, kp, (tp, nI tl, R'), S, F) m) := fun v A' R' q1 q0 => c_xi_22 hZ q1 q0
  refine zin hZ 22 14 rfl rfl rfl ?_
  refine c_becomeAH hZ ?_
  refine c_tellTo (p := A.2) hZ hw ht (fun z R' => key _ _ _ (fun _ => ?_) (fun y => ?_)) (fun z A' R' => key _ _ _ (fun y => ?_) (fun _ => ?_))
  · rw [if_pos z] at k
    exact k _ _
  · rw [zlt, nI_toInt (by omega), show (0 : Int32).toInt = 0 by decide] at y
    omega
  · exfalso
    refine y ?_
    rw [zlt, zsub (by rw [nI_toInt (by omega), show (-1 : Int32).toInt = -1 by decide]; omega) (by rw [nI_toInt (by omega), show (-1 : Int32).toInt = -1 by decide]; omega), nI_toInt (by omega), show (-1 : Int32).toInt = -1 by decide, show (0 : Int32).toInt = 0 by decide]
    omega
  · rw [if_neg (by rw [z]; decide)] at k
    exact k _ _
