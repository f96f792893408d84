/-! THE LAW: each call answers alike (by program) -/
set_option maxRecDepth 100000 in
set_option maxHeartbeats 1000000 in
theorem la_sit {SM : zC} {SF : Nat → zQ → zP} (hZ : zZ SM SF) {xs : Nat → Int32} {n : Nat} {KL : zP} (hL : zLw xs n SM KL) {i : Nat} (hi : i + 6 ≤ n) {u : Nat × Nat} {H A K : zHl} {kp : Int32} {tp : Nat → Int32} {tl : Nat} {T : Int32 × Int32 × Int32 × Int32} {S : Nat → zSh} {F as g ks ot : Nat → Int32} {R : Int32 × Int32 × Int32 × Int32} {mv : Nat → Int64} (J : Jn H K kp tl S ks) (kI : ∀ (H A K : zHl) (kp : Int32) (tp : Nat → Int32) (tl : Nat) (T : Int32 × Int32 × Int32 × Int32) (S : Nat → zSh) (F as g ks ot : Nat → Int32) (R : Int32 × Int32 × Int32 × Int32) (mv : Nat → Int64), Jn H K kp tl S ks → KL 1348 [some (.ref 3000), some (.ref 0), some (.ref 43), some (.int (nI i))] [] u (gh (H, A, K, kp, (tp, nI tl, T), S, F) (ec H.1, as, g, F, mq ks ot kp tp (nI tl, R) S mv))) : KL 823 [some (.ref 3000), some (.ref 0), some (.ref 43), some (.int (nI i))] [] u (gh (H, A, K, kp, (tp, nI tl, T), S, F) (ec H.1, as, g, F, mq ks ot kp tp (nI tl, R) S mv)) := by
  obtain ⟨hw, ht, hS, hK⟩ := J
  have kB : ∀ (A' : zHl), KL 832 [some (.ref 3000), some (.ref 0), some (.ref 43), some (.int (nI i))] [.int ((sp_sit H.1 F (xs (i + 1))).1)] u (gh (((sp_sit H.1 F (xs (i + 1))).2.1, H.2), A', K, kp, (tp, nI tl, T), S, (sp_sit H.1 F (xs (i + 1))).2.2) (ec H.1, as, g, F, mq ks ot kp tp (nI tl, R) S mv)) := by
    intro A'
    refine zgoL hL 19 1348 13 rfl ?_
    refine ⟨i + 1, by omega, ia1 i, ?_⟩
    refine m_sit hZ hw (by omega) (fun as' g' => ?_)
    exact ⟨fun _ => kI ((sp_sit H.1 F (xs (i + 1))).2.1, H.2) A' K kp tp tl T S (sp_sit H.1 F (xs (i + 1))).2.2 as' g' ks ot R mv ⟨by rw [e_sit]; exact hw, ht, hS, hK⟩, fun z => absurd rfl z⟩
  refine zgoL hL 19 832 8 rfl ?_
  refine ⟨i + 1, by omega, ia1 i, ?_⟩
  exact c_sit hZ hw (by omega) kB
set_option maxRecDepth 100000 in
set_option maxHeartbeats 1000000 in
theorem la_loud {SM : zC} {SF : Nat → zQ → zP} (hZ : zZ SM SF) {xs : Nat → Int32} {n : Nat} {KL : zP} (hL : zLw xs n SM KL) {i : Nat} (hi : i + 6 ≤ n) {u : Nat × Nat} {H A K : zHl} {kp : Int32} {tp : Nat → Int32} {tl : Nat} {T : Int32 × Int32 × Int32 × Int32} {S : Nat → zSh} {F as g ks ot : Nat → Int32} {R : Int32 × Int32 × Int32 × Int32} {mv : Nat → Int64} (J : Jn H K kp tl S ks) (kI : ∀ (H A K : zHl) (kp : Int32) (tp : Nat → Int32) (tl : Nat) (T : Int32 × Int32 × Int32 × Int32) (S : Nat → zSh) (F as g ks ot : Nat → Int32) (R : Int32 × Int32 × Int32 × Int32) (mv : Nat → Int64), Jn H K kp tl S ks → KL 1348 [some (.ref 3000), some (.ref 0), some (.ref 43), some (.int (nI i))] [] u (gh (H, A, K, kp, (tp, nI tl, T), S, F) (ec H.1, as, g, F, mq ks ot kp tp (nI tl, R) S mv))) : KL 846 [some (.ref 3000), some (.ref 0), some (.ref 43), some (.int (nI i))] [] u (gh (H, A, K, kp, (tp, nI tl, T), S, F) (ec H.1, as, g, F, mq ks ot kp tp (nI tl, R) S mv)) := by
  obtain ⟨hw, ht, hS, hK⟩ := J
  have kB : ∀ (A' : zHl), KL 860 [some (.ref 3000), some (.ref 0), some (.ref 43), some (.int (nI i))] [.int ((sp_loud H.1 F (xs (i + 1)) (xs (i + 2))).1)] u (gh (((sp_loud H.1 F (xs (i + 1)) (xs (i + 2))).2.1, H.2), A', K, kp, (tp, nI tl, T), S, (sp_loud H.1 F (xs (i + 1)) (xs (i + 2))).2.2) (ec H.1, as, g, F, mq ks ot kp tp (nI tl, R) S mv)) := by
    intro A'
    refine zgoL hL 20 1348 18 rfl ?_
    refine ⟨i + 1, by omega, ia1 i, i + 2, by omega, ia2 i, ?_⟩
    refine m_loud hZ hw (by omega) (fun as' g' => ?_)
    exact ⟨fun _ => kI ((sp_loud H.1 F (xs (i + 1)) (xs (i + 2))).2.1, H.2) A' K kp tp tl T S (sp_loud H.1 F (xs (i + 1)) (xs (i + 2))).2.2 as' g' ks ot R mv ⟨by rw [e_loud]; exact hw, ht, hS, hK⟩, fun z => absurd rfl z⟩
  refine zgoL hL 20 860 13 rfl ?_
  refine ⟨i + 1, by omega, ia1 i, i + 2, by omega, ia2 i, ?_⟩
  exact c_loud hZ hw (by omega) kB
set_option maxRecDepth 100000 in
set_option maxHeartbeats 1000000 in
theorem la_stoke {SM : zC} {SF : Nat → zQ → zP} (hZ : zZ SM SF) {xs : Nat → Int32} {n : Nat} {KL : zP} (hL : zLw xs n SM KL) {i : Nat} (hi : i + 6 ≤ n) {u : Nat × Nat} {H A K : zHl} {kp : Int32} {tp : Nat → Int32} {tl : Nat} {T : Int32 × Int32 × Int32 × Int32} {S : Nat → zSh} {F as g ks ot : Nat → Int32} {R : Int32 × Int32 × Int32 × Int32} {mv : Nat → Int64} (J : Jn H K kp tl S ks) (kI : ∀ (H A K : zHl) (kp : Int32) (tp : Nat → Int32) (tl : Nat) (T : Int32 × Int32 × Int32 × Int32) (S : Nat → zSh) (F as g ks ot : Nat → Int32) (R : Int32 × Int32 × Int32 × Int32) (mv : Nat → Int64), Jn H K kp tl S ks → KL 1348 [some (.ref 3000), some (.ref 0), some (.ref 43), some (.int (nI i))] [] u (gh (H, A, K, kp, (tp, nI tl, T), S, F) (ec H.1, as, g, F, mq ks ot kp tp (nI tl, R) S mv))) : KL 879 [some (.ref 3000), some (.ref 0), some (.ref 43), some (.int (nI i))] [] u (gh (H, A, K, kp, (tp, nI tl, T), S, F) (ec H.1, as, g, F, mq ks ot kp tp (nI tl, R) S mv)) := by
  obtain ⟨hw, ht, hS, hK⟩ := J
  have kB : ∀ (A' : zHl), KL 888 [some (.ref 3000), some (.ref 0), some (.ref 43), some (.int (nI i))] [.int ((sp_stoke H.1 F (xs (i + 1))).1)] u (gh (((sp_stoke H.1 F (xs (i + 1))).2.1, H.2), A', K, kp, (tp, nI tl, T), S, (sp_stoke H.1 F (xs (i + 1))).2.2) (ec H.1, as, g, F, mq ks ot kp tp (nI tl, R) S mv)) := by
    intro A'
    refine zgoL hL 21 1348 13 rfl ?_
    refine ⟨i + 1, by omega, ia1 i, ?_⟩
    refine m_stoke hZ hw (by omega) (fun as' g' => ?_)
    exact ⟨fun _ => kI ((sp_stoke H.1 F (xs (i + 1))).2.1, H.2) A' K kp tp tl T S (sp_stoke H.1 F (xs (i + 1))).2.2 as' g' ks ot R mv ⟨by rw [e_stoke]; exact hw, ht, hS, hK⟩, fun z => absurd rfl z⟩
  refine zgoL hL 21 888 8 rfl ?_
  refine ⟨i + 1, by omega, ia1 i, ?_⟩
  exact c_stoke hZ hw (by omega) kB
set_option maxRecDepth 100000 in
set_option maxHeartbeats 1000000 in
theorem la_lonely {SM : zC} {SF : Nat → zQ → zP} (hZ : zZ SM SF) {xs : Nat → Int32} {n : Nat} {KL : zP} (hL : zLw xs n SM KL) {i : Nat} (hi : i + 6 ≤ n) {u : Nat × Nat} {H A K : zHl} {kp : Int32} {tp : Nat → Int32} {tl : Nat} {T : Int32 × Int32 × Int32 × Int32} {S : Nat → zSh} {F as g ks ot : Nat → Int32} {R : Int32 × Int32 × Int32 × Int32} {mv : Nat → Int64} (J : Jn H K kp tl S ks) (kI : ∀ (H A K : zHl) (kp : Int32) (tp : Nat → Int32) (tl : Nat) (T : Int32 × Int32 × Int32 × Int32) (S : Nat → zSh) (F as g ks ot : Nat → Int32) (R : Int32 × Int32 × Int32 × Int32) (mv : Nat → Int64), Jn H K kp tl S ks → KL 1348 [some (.ref 3000), some (.ref 0), some (.ref 43), some (.int (nI i))] [] u (gh (H, A, K, kp, (tp, nI tl, T), S, F) (ec H.1, as, g, F, mq ks ot kp tp (nI tl, R) S mv))) : KL 902 [some (.ref 3000), some (.ref 0), some (.ref 43), some (.int (nI i))] [] u (gh (H, A, K, kp, (tp, nI tl, T), S, F) (ec H.1, as, g, F, mq ks ot kp tp (nI tl, R) S mv)) := by
  obtain ⟨hw, ht, hS, hK⟩ := J
  have kB : ∀ (A' : zHl), KL 911 [some (.ref 3000), some (.ref 0), some (.ref 43), some (.int (nI i))] [.int ((sp_lonely H.1 F (xs (i + 1))).1)] u (gh (((sp_lonely H.1 F (xs (i + 1))).2.1, H.2), A', K, kp, (tp, nI tl, T), S, (sp_lonely H.1 F (xs (i + 1))).2.2) (ec H.1, as, g, F, mq ks ot kp tp (nI tl, R) S mv)) := by
    intro A'
    refine zgoL hL 22 1348 13 rfl ?_
    refine ⟨i + 1, by omega, ia1 i, ?_⟩
    refine m_lonely hZ hw (by omega) (fun as' g' => ?_)
    exact ⟨fun _ => kI ((sp_lonely H.1 F (xs (i + 1))).2.1, H.2) A' K kp tp tl T S (sp_lonely H.1 F (xs (i + 1))).2.2 as' g' ks ot R mv ⟨by rw [e_lonely]; exact hw, ht, hS, hK⟩, fun z => absurd rfl z⟩
  refine zgoL hL 22 911 8 rfl ?_
  refine ⟨i + 1, by omega, ia1 i, ?_⟩
  exact c_lonely hZ hw (by omega) kB
set_option maxRecDepth 100000 in
set_option maxHeartbeats 1000000 in
theorem la_feed {SM : zC} {SF : Nat → zQ → zP} (hZ : zZ SM SF) {xs : Nat → Int32} {n : Nat} {KL : zP} (hL : zLw xs n SM KL) {i : Nat} (hi : i + 6 ≤ n) {u : Nat × Nat} {H A K : zHl} {kp : Int32} {tp : Nat → Int32} {tl : Nat} {T : Int32 × Int32 × Int32 × Int32} {S : Nat → zSh} {F as g ks ot : Nat → Int32} {R : Int32 × Int32 × Int32 × Int32} {mv : Nat → Int64} (J : Jn H K kp tl S ks) (kI : ∀ (H A K : zHl) (kp : Int32) (tp : Nat → Int32) (tl : Nat) (T : Int32 × Int32 × Int32 × Int32) (S : Nat → zSh) (F as g ks ot : Nat → Int32) (R : Int32 × Int32 × Int32 × Int32) (mv : Nat → Int64), Jn H K kp tl S ks → KL 1348 [some (.ref 3000), some (.ref 0), some (.ref 43), some (.int (nI i))] [] u (gh (H, A, K, kp, (tp, nI tl, T), S, F) (ec H.1, as, g, F, mq ks ot kp tp (nI tl, R) S mv))) : KL 925 [some (.ref 3000), some (.ref 0), some (.ref 43), some (.int (nI i))] [] u (gh (H, A, K, kp, (tp, nI tl, T), S, F) (ec H.1, as, g, F, mq ks ot kp tp (nI tl, R) S mv)) := by
  obtain ⟨hw, ht, hS, hK⟩ := J
  have kB : KL 939 [some (.ref 3000), some (.ref 0), some (.ref 43), some (.int (nI i))] [.int ((sp_feed tp tl F (xs (i + 1)) (xs (i + 2))).1)] u (gh (H, A, K, kp, ((sp_feed tp tl F (xs (i + 1)) (xs (i + 2))).2.1, nI (sp_feed tp tl F (xs (i + 1)) (xs (i + 2))).2.2.1, T), S, (sp_feed tp tl F (xs (i + 1)) (xs (i + 2))).2.2.2) (ec H.1, as, g, F, mq ks ot kp tp (nI tl, R) S mv)) := by
    refine zgoL hL 23 1348 18 rfl ?_
    refine ⟨i + 1, by omega, ia1 i, i + 2, by omega, ia2 i, ?_⟩
    refine m_feed hZ ht ?_
    exact ⟨fun _ => kI H A K kp (sp_feed tp tl F (xs (i + 1)) (xs (i + 2))).2.1 (sp_feed tp tl F (xs (i + 1)) (xs (i + 2))).2.2.1 T S (sp_feed tp tl F (xs (i + 1)) (xs (i + 2))).2.2.2 as g ks ot R mv ⟨hw, f_feed ht F _ _, hS, hK⟩, fun z => absurd rfl z⟩
  refine zgoL hL 23 939 13 rfl ?_
  refine ⟨i + 1, by omega, ia1 i, i + 2, by omega, ia2 i, ?_⟩
  exact c_feed hZ ht kB
set_option maxRecDepth 100000 in
set_option maxHeartbeats 1000000 in
theorem la_wipe {SM : zC} {SF : Nat → zQ → zP} (hZ : zZ SM SF) {xs : Nat → Int32} {n : Nat} {KL : zP} (hL : zLw xs n SM KL) {i : Nat} (hi : i + 6 ≤ n) {u : Nat × Nat} {H A K : zHl} {kp : Int32} {tp : Nat → Int32} {tl : Nat} {T : Int32 × Int32 × Int32 × Int32} {S : Nat → zSh} {F as g ks ot : Nat → Int32} {R : Int32 × Int32 × Int32 × Int32} {mv : Nat → Int64} (J : Jn H K kp tl S ks) (kI : ∀ (H A K : zHl) (kp : Int32) (tp : Nat → Int32) (tl : Nat) (T : Int32 × Int32 × Int32 × Int32) (S : Nat → zSh) (F as g ks ot : Nat → Int32) (R : Int32 × Int32 × Int32 × Int32) (mv : Nat → Int64), Jn H K kp tl S ks → KL 1348 [some (.ref 3000), some (.ref 0), some (.ref 43), some (.int (nI i))] [] u (gh (H, A, K, kp, (tp, nI tl, T), S, F) (ec H.1, as, g, F, mq ks ot kp tp (nI tl, R) S mv))) : KL 958 [some (.ref 3000), some (.ref 0), some (.ref 43), some (.int (nI i))] [] u (gh (H, A, K, kp, (tp, nI tl, T), S, F) (ec H.1, as, g, F, mq ks ot kp tp (nI tl, R) S mv)) := by
  obtain ⟨hw, ht, hS, hK⟩ := J
  have kB : KL 962 [some (.ref 3000), some (.ref 0), some (.ref 43), some (.int (nI i))] [.int (nI tl)] u (gh (H, A, K, kp, (tp, 0, T), S, F) (ec H.1, as, g, F, mq ks ot kp tp (nI tl, R) S mv)) := by
    refine zgoL hL 24 1348 8 rfl ?_
    refine m_wipe hZ ?_
    exact ⟨fun _ => kI H A K kp tp 0 T S F as g ks ot R mv ⟨hw, Nat.zero_le _, hS, hK⟩, fun z => absurd rfl z⟩
  refine zgoL hL 24 962 3 rfl ?_
  exact c_wipe hZ kB
set_option maxRecDepth 100000 in
set_option maxHeartbeats 1000000 in
theorem la_institute {SM : zC} {SF : Nat → zQ → zP} (hZ : zZ SM SF) {xs : Nat → Int32} {n : Nat} {KL : zP} (hL : zLw xs n SM KL) {i : Nat} (hi : i + 6 ≤ n) {u : Nat × Nat} {H A K : zHl} {kp : Int32} {tp : Nat → Int32} {tl : Nat} {T : Int32 × Int32 × Int32 × Int32} {S : Nat → zSh} {F as g ks ot : Nat → Int32} {R : Int32 × Int32 × Int32 × Int32} {mv : Nat → Int64} (J : Jn H K kp tl S ks) (kI : ∀ (H A K : zHl) (kp : Int32) (tp : Nat → Int32) (tl : Nat) (T : Int32 × Int32 × Int32 × Int32) (S : Nat → zSh) (F as g ks ot : Nat → Int32) (R : Int32 × Int32 × Int32 × Int32) (mv : Nat → Int64), Jn H K kp tl S ks → KL 1348 [some (.ref 3000), some (.ref 0), some (.ref 43), some (.int (nI i))] [] u (gh (H, A, K, kp, (tp, nI tl, T), S, F) (ec H.1, as, g, F, mq ks ot kp tp (nI tl, R) S mv))) : KL 971 [some (.ref 3000), some (.ref 0), some (.ref 43), some (.int (nI i))] [] u (gh (H, A, K, kp, (tp, nI tl, T), S, F) (ec H.1, as, g, F, mq ks ot kp tp (nI tl, R) S mv)) := by
  obtain ⟨hw, ht, hS, hK⟩ := J
  have kB : ∀ (A' : zHl) (T' : Int32 × Int32 × Int32 × Int32), KL 975 [some (.ref 3000), some (.ref 0), some (.ref 43), some (.int (nI i))] [.int ((sp_inst tp tl H.1).1)] u (gh (((sp_inst tp tl H.1).2, H.2), A', K, kp, (tp, 0, T'), S, F) (ec H.1, as, g, F, mq ks ot kp tp (nI tl, R) S mv)) := by
    intro A' T'
    refine zgoL hL 25 1348 8 rfl ?_
    refine m_institute hZ hw ht (fun R' => ?_)
    exact ⟨fun _ => kI ((sp_inst tp tl H.1).2, H.2) A' K kp tp 0 T' S F as g ks (ec H.1) R' mv ⟨sp_inst_wf hw, Nat.zero_le _, hS, hK⟩, fun z => absurd rfl z⟩
  refine zgoL hL 25 975 3 rfl ?_
  exact c_institute hZ hw ht kB
set_option maxRecDepth 100000 in
set_option maxHeartbeats 1000000 in
theorem la_sheet {SM : zC} {SF : Nat → zQ → zP} (hZ : zZ SM SF) {xs : Nat → Int32} {n : Nat} {KL : zP} (hL : zLw xs n SM KL) {i : Nat} (hi : i + 6 ≤ n) {u : Nat × Nat} {H A K : zHl} {kp : Int32} {tp : Nat → Int32} {tl : Nat} {T : Int32 × Int32 × Int32 × Int32} {S : Nat → zSh} {F as g ks ot : Nat → Int32} {R : Int32 × Int32 × Int32 × Int32} {mv : Nat → Int64} (J : Jn H K kp tl S ks) (kI : ∀ (H A K : zHl) (kp : Int32) (tp : Nat → Int32) (tl : Nat) (T : Int32 × Int32 × Int32 × Int32) (S : Nat → zSh) (F as g ks ot : Nat → Int32) (R : Int32 × Int32 × Int32 × Int32) (mv : Nat → Int64), Jn H K kp tl S ks → KL 1348 [some (.ref 3000), some (.ref 0), some (.ref 43), some (.int (nI i))] [] u (gh (H, A, K, kp, (tp, nI tl, T), S, F) (ec H.1, as, g, F, mq ks ot kp tp (nI tl, R) S mv))) : KL 984 [some (.ref 3000), some (.ref 0), some (.ref 43), some (.int (nI i))] [] u (gh (H, A, K, kp, (tp, nI tl, T), S, F) (ec H.1, as, g, F, mq ks ot kp tp (nI tl, R) S mv)) := by
  obtain ⟨hw, ht, hS, hK⟩ := J
  have kB : KL 1003 [some (.ref 3000), some (.ref 0), some (.ref 43), some (.int (nI i))] [.int ((sp_sheet S F (xs (i + 1)) (xs (i + 2)) (xs (i + 3))).1)] u (gh (H, A, K, kp, (tp, nI tl, T), (sp_sheet S F (xs (i + 1)) (xs (i + 2)) (xs (i + 3))).2.1, (sp_sheet S F (xs (i + 1)) (xs (i + 2)) (xs (i + 3))).2.2) (ec H.1, as, g, F, mq ks ot kp tp (nI tl, R) S mv)) := by
    refine zgoL hL 26 1348 23 rfl ?_
    refine ⟨i + 1, by omega, ia1 i, i + 2, by omega, ia2 i, i + 3, by omega, ia3 i, ?_⟩
    refine m_sheet hZ ?_
    exact ⟨fun _ => kI H A K kp tp tl T (sp_sheet S F (xs (i + 1)) (xs (i + 2)) (xs (i + 3))).2.1 (sp_sheet S F (xs (i + 1)) (xs (i + 2)) (xs (i + 3))).2.2 as g ks ot R mv ⟨hw, ht, s_sheet hS F _ _ _, hK⟩, fun z => absurd rfl z⟩
  refine zgoL hL 26 1003 18 rfl ?_
  refine ⟨i + 1, by omega, ia1 i, i + 2, by omega, ia2 i, i + 3, by omega, ia3 i, ?_⟩
  exact c_sheet hZ kB
set_option maxRecDepth 100000 in
set_option maxHeartbeats 1000000 in
theorem la_write {SM : zC} {SF : Nat → zQ → zP} (hZ : zZ SM SF) {xs : Nat → Int32} {n : Nat} {KL : zP} (hL : zLw xs n SM KL) {i : Nat} (hi : i + 6 ≤ n) {u : Nat × Nat} {H A K : zHl} {kp : Int32} {tp : Nat → Int32} {tl : Nat} {T : Int32 × Int32 × Int32 × Int32} {S : Nat → zSh} {F as g ks ot : Nat → Int32} {R : Int32 × Int32 × Int32 × Int32} {mv : Nat → Int64} (J : Jn H K kp tl S ks) (kI : ∀ (H A K : zHl) (kp : Int32) (tp : Nat → Int32) (tl : Nat) (T : Int32 × Int32 × Int32 × Int32) (S : Nat → zSh) (F as g ks ot : Nat → Int32) (R : Int32 × Int32 × Int32 × Int32) (mv : Nat → Int64), Jn H K kp tl S ks → KL 1348 [some (.ref 3000), some (.ref 0), some (.ref 43), some (.int (nI i))] [] u (gh (H, A, K, kp, (tp, nI tl, T), S, F) (ec H.1, as, g, F, mq ks ot kp tp (nI tl, R) S mv))) : KL 1027 [some (.ref 3000), some (.ref 0), some (.ref 43), some (.int (nI i))] [] u (gh (H, A, K, kp, (tp, nI tl, T), S, F) (ec H.1, as, g, F, mq ks ot kp tp (nI tl, R) S mv)) := by
  obtain ⟨hw, ht, hS, hK⟩ := J
  have kB : KL 1061 [some (.ref 3000), some (.ref 0), some (.ref 43), some (.int (nI i))] [.long ((sp_write S F (xs (i + 1)) (xs (i + 2)) ((xs (i + 3)).toInt64 <<< ((32 : Int32).toInt64 &&& 63) ||| (xs (i + 4)).toInt64 &&& 4294967295)).1)] u (gh (H, A, K, kp, (tp, nI tl, T), (sp_write S F (xs (i + 1)) (xs (i + 2)) ((xs (i + 3)).toInt64 <<< ((32 : Int32).toInt64 &&& 63) ||| (xs (i + 4)).toInt64 &&& 4294967295)).2.1, (sp_write S F (xs (i + 1)) (xs (i + 2)) ((xs (i + 3)).toInt64 <<< ((32 : Int32).toInt64 &&& 63) ||| (xs (i + 4)).toInt64 &&& 4294967295)).2.2) (ec H.1, as, g, F, mq ks ot kp tp (nI tl, R) S mv)) := by
    refine zgoL hL 27 1348 35 rfl ?_
    refine ⟨i + 1, by omega, ia1 i, i + 2, by omega, ia2 i, i + 3, by omega, ia3 i, i + 4, by omega, ia4 i, ?_⟩
    refine m_write hZ hS ?_
    exact ⟨fun _ => kI H A K kp tp tl T (sp_write S F (xs (i + 1)) (xs (i + 2)) ((xs (i + 3)).toInt64 <<< ((32 : Int32).toInt64 &&& 63) ||| (xs (i + 4)).toInt64 &&& 4294967295)).2.1 (sp_write S F (xs (i + 1)) (xs (i + 2)) ((xs (i + 3)).toInt64 <<< ((32 : Int32).toInt64 &&& 63) ||| (xs (i + 4)).toInt64 &&& 4294967295)).2.2 as g ks ot R mv ⟨hw, ht, s_write hS F _ _ _, hK⟩, fun z => absurd ((lcmp_eq _ _).mpr rfl) z⟩
  refine zgoL hL 27 1061 30 rfl ?_
  refine ⟨i + 1, by omega, ia1 i, i + 2, by omega, ia2 i, i + 3, by omega, ia3 i, i + 4, by omega, ia4 i, ?_⟩
  exact c_write hZ hS kB
set_option maxRecDepth 100000 in
set_option maxHeartbeats 1000000 in
theorem la_copy {SM : zC} {SF : Nat → zQ → zP} (hZ : zZ SM SF) {xs : Nat → Int32} {n : Nat} {KL : zP} (hL : zLw xs n SM KL) {i : Nat} (hi : i + 6 ≤ n) {u : Nat × Nat} {H A K : zHl} {kp : Int32} {tp : Nat → Int32} {tl : Nat} {T : Int32 × Int32 × Int32 × Int32} {S : Nat → zSh} {F as g ks ot : Nat → Int32} {R : Int32 × Int32 × Int32 × Int32} {mv : Nat → Int64} (J : Jn H K kp tl S ks) (kI : ∀ (H A K : zHl) (kp : Int32) (tp : Nat → Int32) (tl : Nat) (T : Int32 × Int32 × Int32 × Int32) (S : Nat → zSh) (F as g ks ot : Nat → Int32) (R : Int32 × Int32 × Int32 × Int32) (mv : Nat → Int64), Jn H K kp tl S ks → KL 1348 [some (.ref 3000), some (.ref 0), some (.ref 43), some (.int (nI i))] [] u (gh (H, A, K, kp, (tp, nI tl, T), S, F) (ec H.1, as, g, F, mq ks ot kp tp (nI tl, R) S mv))) : KL 1101 [some (.ref 3000), some (.ref 0), some (.ref 43), some (.int (nI i))] [] u (gh (H, A, K, kp, (tp, nI tl, T), S, F) (ec H.1, as, g, F, mq ks ot kp tp (nI tl, R) S mv)) := by
  obtain ⟨hw, ht, hS, hK⟩ := J
  have kB : KL 1130 [some (.ref 3000), some (.ref 0), some (.ref 43), some (.int (nI i))] [.int ((sp_copy S F (xs (i + 1)) (xs (i + 2)) (xs (i + 3)) (xs (i + 4)) (xs (i + 5))).1)] u (gh (H, A, K, kp, (tp, nI tl, T), (sp_copy S F (xs (i + 1)) (xs (i + 2)) (xs (i + 3)) (xs (i + 4)) (xs (i + 5))).2.1, (sp_copy S F (xs (i + 1)) (xs (i + 2)) (xs (i + 3)) (xs (i + 4)) (xs (i + 5))).2.2) (ec H.1, as, g, F, mq ks ot kp tp (nI tl, R) S mv)) := by
    refine zgoL hL 28 1348 33 rfl ?_
    refine ⟨i + 1, by omega, ia1 i, i + 2, by omega, ia2 i, i + 3, by omega, ia3 i, i + 4, by omega, ia4 i, i + 5, by omega, ia5 i, ?_⟩
    refine m_copy hZ hS (fun mv' => ?_)
    exact ⟨fun _ => kI H A K kp tp tl T (sp_copy S F (xs (i + 1)) (xs (i + 2)) (xs (i + 3)) (xs (i + 4)) (xs (i + 5))).2.1 (sp_copy S F (xs (i + 1)) (xs (i + 2)) (xs (i + 3)) (xs (i + 4)) (xs (i + 5))).2.2 as g ks ot R mv' ⟨hw, ht, s_copy hS F _ _ _ _ _, hK⟩, fun z => absurd rfl z⟩
  refine zgoL hL 28 1130 28 rfl ?_
  refine ⟨i + 1, by omega, ia1 i, i + 2, by omega, ia2 i, i + 3, by omega, ia3 i, i + 4, by omega, ia4 i, i + 5, by omega, ia5 i, ?_⟩
  exact c_copy hZ hS kB
set_option maxRecDepth 100000 in
set_option maxHeartbeats 1000000 in
theorem la_lays {SM : zC} {SF : Nat → zQ → zP} (hZ : zZ SM SF) {xs : Nat → Int32} {n : Nat} {KL : zP} (hL : zLw xs n SM KL) {i : Nat} (hi : i + 6 ≤ n) {u : Nat × Nat} {H A K : zHl} {kp : Int32} {tp : Nat → Int32} {tl : Nat} {T : Int32 × Int32 × Int32 × Int32} {S : Nat → zSh} {F as g ks ot : Nat → Int32} {R : Int32 × Int32 × Int32 × Int32} {mv : Nat → Int64} (J : Jn H K kp tl S ks) (kI : ∀ (H A K : zHl) (kp : Int32) (tp : Nat → Int32) (tl : Nat) (T : Int32 × Int32 × Int32 × Int32) (S : Nat → zSh) (F as g ks ot : Nat → Int32) (R : Int32 × Int32 × Int32 × Int32) (mv : Nat → Int64), Jn H K kp tl S ks → KL 1348 [some (.ref 3000), some (.ref 0), some (.ref 43), some (.int (nI i))] [] u (gh (H, A, K, kp, (tp, nI tl, T), S, F) (ec H.1, as, g, F, mq ks ot kp tp (nI tl, R) S mv))) : KL 1164 [some (.ref 3000), some (.ref 0), some (.ref 43), some (.int (nI i))] [] u (gh (H, A, K, kp, (tp, nI tl, T), S, F) (ec H.1, as, g, F, mq ks ot kp tp (nI tl, R) S mv)) := by
  obtain ⟨hw, ht, hS, hK⟩ := J
  have kB : KL 1173 [some (.ref 3000), some (.ref 0), some (.ref 43), some (.int (nI i))] [.int ((sp_lays S H.1 F (xs (i + 1))).1)] u (gh (((sp_lays S H.1 F (xs (i + 1))).2.1, H.2), A, K, kp, (tp, nI tl, T), S, (sp_lays S H.1 F (xs (i + 1))).2.2) (ec H.1, as, g, F, mq ks ot kp tp (nI tl, R) S mv)) := by
    refine zgoL hL 29 1348 13 rfl ?_
    refine ⟨i + 1, by omega, ia1 i, ?_⟩
    refine m_lays hZ hw hS ?_
    exact ⟨fun _ => kI ((sp_lays S H.1 F (xs (i + 1))).2.1, H.2) A K kp tp tl T S (sp_lays S H.1 F (xs (i + 1))).2.2 as g ks ot R mv ⟨w_lays hw F _, ht, hS, hK⟩, fun z => absurd rfl z⟩
  refine zgoL hL 29 1173 8 rfl ?_
  refine ⟨i + 1, by omega, ia1 i, ?_⟩
  exact c_lays hZ hw hS kB
set_option maxRecDepth 100000 in
set_option maxHeartbeats 1000000 in
theorem la_book {SM : zC} {SF : Nat → zQ → zP} (hZ : zZ SM SF) {xs : Nat → Int32} {n : Nat} {KL : zP} (hL : zLw xs n SM KL) {i : Nat} (hi : i + 6 ≤ n) {u : Nat × Nat} {H A K : zHl} {kp : Int32} {tp : Nat → Int32} {tl : Nat} {T : Int32 × Int32 × Int32 × Int32} {S : Nat → zSh} {F as g ks ot : Nat → Int32} {R : Int32 × Int32 × Int32 × Int32} {mv : Nat → Int64} (J : Jn H K kp tl S ks) (kI : ∀ (H A K : zHl) (kp : Int32) (tp : Nat → Int32) (tl : Nat) (T : Int32 × Int32 × Int32 × Int32) (S : Nat → zSh) (F as g ks ot : Nat → Int32) (R : Int32 × Int32 × Int32 × Int32) (mv : Nat → Int64), Jn H K kp tl S ks → KL 1348 [some (.ref 3000), some (.ref 0), some (.ref 43), some (.int (nI i))] [] u (gh (H, A, K, kp, (tp, nI tl, T), S, F) (ec H.1, as, g, F, mq ks ot kp tp (nI tl, R) S mv))) : KL 1187 [some (.ref 3000), some (.ref 0), some (.ref 43), some (.int (nI i))] [] u (gh (H, A, K, kp, (tp, nI tl, T), S, F) (ec H.1, as, g, F, mq ks ot kp tp (nI tl, R) S mv)) := by
  obtain ⟨hw, ht, hS, hK⟩ := J
  have kB : ∀ (A' : zHl), KL 1201 [some (.ref 3000), some (.ref 0), some (.ref 43), some (.int (nI i))] [.int ((sp_book S H.1 F (xs (i + 1)) (xs (i + 2))).1)] u (gh (H, A', K, kp, (tp, nI tl, T), (sp_book S H.1 F (xs (i + 1)) (xs (i + 2))).2.1, (sp_book S H.1 F (xs (i + 1)) (xs (i + 2))).2.2) (ec H.1, as, g, F, mq ks ot kp tp (nI tl, R) S mv)) := by
    intro A'
    refine zgoL hL 30 1348 18 rfl ?_
    refine ⟨i + 1, by omega, ia1 i, i + 2, by omega, ia2 i, ?_⟩
    refine m_book hZ hw (by omega) hS (fun as' g' => ?_)
    exact ⟨fun _ => kI H A' K kp tp tl T (sp_book S H.1 F (xs (i + 1)) (xs (i + 2))).2.1 (sp_book S H.1 F (xs (i + 1)) (xs (i + 2))).2.2 as' g' ks ot R mv ⟨hw, ht, s_book hS H.1 F _ _, hK⟩, fun z => absurd rfl z⟩
  refine zgoL hL 30 1201 13 rfl ?_
  refine ⟨i + 1, by omega, ia1 i, i + 2, by omega, ia2 i, ?_⟩
  exact c_book hZ hw (by omega) hS kB
set_option maxRecDepth 100000 in
set_option maxHeartbeats 1000000 in
theorem la_read {SM : zC} {SF : Nat → zQ → zP} (hZ : zZ SM SF) {xs : Nat → Int32} {n : Nat} {KL : zP} (hL : zLw xs n SM KL) {i : Nat} (hi : i + 6 ≤ n) {u : Nat × Nat} {H A K : zHl} {kp : Int32} {tp : Nat → Int32} {tl : Nat} {T : Int32 × Int32 × Int32 × Int32} {S : Nat → zSh} {F as g ks ot : Nat → Int32} {R : Int32 × Int32 × Int32 × Int32} {mv : Nat → Int64} (J : Jn H K kp tl S ks) (kI : ∀ (H A K : zHl) (kp : Int32) (tp : Nat → Int32) (tl : Nat) (T : Int32 × Int32 × Int32 × Int32) (S : Nat → zSh) (F as g ks ot : Nat → Int32) (R : Int32 × Int32 × Int32 × Int32) (mv : Nat → Int64), Jn H K kp tl S ks → KL 1348 [some (.ref 3000), some (.ref 0), some (.ref 43), some (.int (nI i))] [] u (gh (H, A, K, kp, (tp, nI tl, T), S, F) (ec H.1, as, g, F, mq ks ot kp tp (nI tl, R) S mv))) : KL 1220 [some (.ref 3000), some (.ref 0), some (.ref 43), some (.int (nI i))] [] u (gh (H, A, K, kp, (tp, nI tl, T), S, F) (ec H.1, as, g, F, mq ks ot kp tp (nI tl, R) S mv)) := by
  obtain ⟨hw, ht, hS, hK⟩ := J
  have kB : ∀ (A' : zHl), KL 1239 [some (.ref 3000), some (.ref 0), some (.ref 43), some (.int (nI i))] [.int ((sp_read S H.1 F (xs (i + 1)) (xs (i + 2)) (xs (i + 3))).1)] u (gh (((sp_read S H.1 F (xs (i + 1)) (xs (i + 2)) (xs (i + 3))).2.1, H.2), A', K, kp, (tp, nI tl, T), S, (sp_read S H.1 F (xs (i + 1)) (xs (i + 2)) (xs (i + 3))).2.2) (ec H.1, as, g, F, mq ks ot kp tp (nI tl, R) S mv)) := by
    intro A'
    refine zgoL hL 31 1348 23 rfl ?_
    refine ⟨i + 1, by omega, ia1 i, i + 2, by omega, ia2 i, i + 3, by omega, ia3 i, ?_⟩
    refine m_read hZ hw (by omega) hS (fun as' g' => ?_)
    exact ⟨fun _ => kI ((sp_read S H.1 F (xs (i + 1)) (xs (i + 2)) (xs (i + 3))).2.1, H.2) A' K kp tp tl T S (sp_read S H.1 F (xs (i + 1)) (xs (i + 2)) (xs (i + 3))).2.2 as' g' ks ot R mv ⟨by rw [e_read]; exact hw, ht, hS, hK⟩, fun z => absurd rfl z⟩
  refine zgoL hL 31 1239 18 rfl ?_
  refine ⟨i + 1, by omega, ia1 i, i + 2, by omega, ia2 i, i + 3, by omega, ia3 i, ?_⟩
  exact c_read hZ hw (by omega) hS kB
set_option maxRecDepth 100000 in
set_option maxHeartbeats 1000000 in
theorem la_image {SM : zC} {SF : Nat → zQ → zP} (hZ : zZ SM SF) {xs : Nat → Int32} {n : Nat} {KL : zP} (hL : zLw xs n SM KL) {i : Nat} (hi : i + 6 ≤ n) {u : Nat × Nat} {H A K : zHl} {kp : Int32} {tp : Nat → Int32} {tl : Nat} {T : Int32 × Int32 × Int32 × Int32} {S : Nat → zSh} {F as g ks ot : Nat → Int32} {R : Int32 × Int32 × Int32 × Int32} {mv : Nat → Int64} (J : Jn H K kp tl S ks) (kI : ∀ (H A K : zHl) (kp : Int32) (tp : Nat → Int32) (tl : Nat) (T : Int32 × Int32 × Int32 × Int32) (S : Nat → zSh) (F as g ks ot : Nat → Int32) (R : Int32 × Int32 × Int32 × Int32) (mv : Nat → Int64), Jn H K kp tl S ks → KL 1348 [some (.ref 3000), some (.ref 0), some (.ref 43), some (.int (nI i))] [] u (gh (H, A, K, kp, (tp, nI tl, T), S, F) (ec H.1, as, g, F, mq ks ot kp tp (nI tl, R) S mv))) : KL 1263 [some (.ref 3000), some (.ref 0), some (.ref 43), some (.int (nI i))] [] u (gh (H, A, K, kp, (tp, nI tl, T), S, F) (ec H.1, as, g, F, mq ks ot kp tp (nI tl, R) S mv)) := by
  obtain ⟨hw, ht, hS, hK⟩ := J
  have kB : KL 1267 [some (.ref 3000), some (.ref 0), some (.ref 43), some (.int (nI i))] [.int (1)] u (gh (H, A, (H.1, K.2), 1, (tp, nI tl, T), S, F) (ec H.1, as, g, F, mq ks ot kp tp (nI tl, R) S mv)) := by
    refine zgoL hL 32 1348 8 rfl ?_
    refine m_image hZ ?_
    exact ⟨fun _ => kI H A (H.1, K.2) 1 tp tl T S F as g (ec H.1) ot R mv ⟨hw, ht, hS, Or.inr ⟨rfl, rfl, hw⟩⟩, fun z => absurd rfl z⟩
  refine zgoL hL 32 1267 3 rfl ?_
  exact c_image hZ kB
set_option maxRecDepth 100000 in
set_option maxHeartbeats 1000000 in
theorem la_undo {SM : zC} {SF : Nat → zQ → zP} (hZ : zZ SM SF) {xs : Nat → Int32} {n : Nat} {KL : zP} (hL : zLw xs n SM KL) {i : Nat} (hi : i + 6 ≤ n) {u : Nat × Nat} {H A K : zHl} {kp : Int32} {tp : Nat → Int32} {tl : Nat} {T : Int32 × Int32 × Int32 × Int32} {S : Nat → zSh} {F as g ks ot : Nat → Int32} {R : Int32 × Int32 × Int32 × Int32} {mv : Nat → Int64} (J : Jn H K kp tl S ks) (kI : ∀ (H A K : zHl) (kp : Int32) (tp : Nat → Int32) (tl : Nat) (T : Int32 × Int32 × Int32 × Int32) (S : Nat → zSh) (F as g ks ot : Nat → Int32) (R : Int32 × Int32 × Int32 × Int32) (mv : Nat → Int64), Jn H K kp tl S ks → KL 1348 [some (.ref 3000), some (.ref 0), some (.ref 43), some (.int (nI i))] [] u (gh (H, A, K, kp, (tp, nI tl, T), S, F) (ec H.1, as, g, F, mq ks ot kp tp (nI tl, R) S mv))) : KL 1276 [some (.ref 3000), some (.ref 0), some (.ref 43), some (.int (nI i))] [] u (gh (H, A, K, kp, (tp, nI tl, T), S, F) (ec H.1, as, g, F, mq ks ot kp tp (nI tl, R) S mv)) := by
  obtain ⟨hw, ht, hS, hK⟩ := J
  rcases hK with rfl | ⟨rfl, rfl, hk⟩
  · have kB : KL 1280 [some (.ref 3000), some (.ref 0), some (.ref 43), some (.int (nI i))] [.int (-1000000004)] u (gh (H, A, K, 0, (tp, nI tl, T), S, upd F 3 (F 3 + 1)) (ec H.1, as, g, F, mq ks ot 0 tp (nI tl, R) S mv)) := by
      refine zgoL hL 33 1348 8 rfl ?_
      refine m_undo0 hZ ?_
      exact ⟨fun _ => kI H A K 0 tp tl T S (upd F 3 (F 3 + 1)) as g ks ot R mv ⟨hw, ht, hS, Or.inl rfl⟩, fun z => absurd rfl z⟩
    refine zgoL hL 33 1280 4 rfl ?_
    exact c_undo0 (kp := 0) hZ kB
  · have kB : KL 1280 [some (.ref 3000), some (.ref 0), some (.ref 43), some (.int (nI i))] [.int (K.1 8 2)] u (gh ((K.1, H.2), A, K, 1, (tp, nI tl, T), S, F) (ec H.1, as, g, F, mq (ec K.1) ot 1 tp (nI tl, R) S mv)) := by
      refine zgoL hL 33 1348 8 rfl ?_
      refine m_undo1 hZ ?_
      exact ⟨fun _ => kI (K.1, H.2) A K 1 tp tl T S F as g (ec K.1) ot R mv ⟨hk, ht, hS, Or.inr ⟨rfl, rfl, hk⟩⟩, fun z => absurd (show K.1 8 2 = ec K.1 2 from (ec_c (by decide)).symm) z⟩
    refine zgoL hL 33 1280 4 rfl ?_
    exact c_undo1 (kp := 1) hZ kB
set_option maxRecDepth 100000 in
set_option maxHeartbeats 1000000 in
theorem la_tear {SM : zC} {SF : Nat → zQ → zP} (hZ : zZ SM SF) {xs : Nat → Int32} {n : Nat} {KL : zP} (hL : zLw xs n SM KL) {i : Nat} (hi : i + 6 ≤ n) {u : Nat × Nat} {H A K : zHl} {kp : Int32} {tp : Nat → Int32} {tl : Nat} {T : Int32 × Int32 × Int32 × Int32} {S : Nat → zSh} {F as g ks ot : Nat → Int32} {R : Int32 × Int32 × Int32 × Int32} {mv : Nat → Int64} (J : Jn H K kp tl S ks) (kI : ∀ (H A K : zHl) (kp : Int32) (tp : Nat → Int32) (tl : Nat) (T : Int32 × Int32 × Int32 × Int32) (S : Nat → zSh) (F as g ks ot : Nat → Int32) (R : Int32 × Int32 × Int32 × Int32) (mv : Nat → Int64), Jn H K kp tl S ks → KL 1348 [some (.ref 3000), some (.ref 0), some (.ref 43), some (.int (nI i))] [] u (gh (H, A, K, kp, (tp, nI tl, T), S, F) (ec H.1, as, g, F, mq ks ot kp tp (nI tl, R) S mv))) : KL 1289 [some (.ref 3000), some (.ref 0), some (.ref 43), some (.int (nI i))] [] u (gh (H, A, K, kp, (tp, nI tl, T), S, F) (ec H.1, as, g, F, mq ks ot kp tp (nI tl, R) S mv)) := by
  obtain ⟨hw, ht, hS, hK⟩ := J
  have kB : KL 1293 [some (.ref 3000), some (.ref 0), some (.ref 43), some (.int (nI i))] [.int (kp)] u (gh (H, A, K, 0, (tp, nI tl, T), S, F) (ec H.1, as, g, F, mq ks ot kp tp (nI tl, R) S mv)) := by
    refine zgoL hL 34 1348 8 rfl ?_
    refine m_tear hZ (hK.elim Or.inl (fun z => Or.inr z.1)) ?_
    exact ⟨fun _ => kI H A K 0 tp tl T S F as g ks ot R mv ⟨hw, ht, hS, Or.inl rfl⟩, fun z => absurd rfl z⟩
  refine zgoL hL 34 1293 3 rfl ?_
  exact c_tear hZ (hK.elim Or.inl (fun z => Or.inr z.1)) kB
set_option maxRecDepth 100000 in
set_option maxHeartbeats 1000000 in
theorem la_count {SM : zC} {SF : Nat → zQ → zP} (hZ : zZ SM SF) {xs : Nat → Int32} {n : Nat} {KL : zP} (hL : zLw xs n SM KL) {i : Nat} (hi : i + 6 ≤ n) {u : Nat × Nat} {H A K : zHl} {kp : Int32} {tp : Nat → Int32} {tl : Nat} {T : Int32 × Int32 × Int32 × Int32} {S : Nat → zSh} {F as g ks ot : Nat → Int32} {R : Int32 × Int32 × Int32 × Int32} {mv : Nat → Int64} (J : Jn H K kp tl S ks) (kI : ∀ (H A K : zHl) (kp : Int32) (tp : Nat → Int32) (tl : Nat) (T : Int32 × Int32 × Int32 × Int32) (S : Nat → zSh) (F as g ks ot : Nat → Int32) (R : Int32 × Int32 × Int32 × Int32) (mv : Nat → Int64), Jn H K kp tl S ks → KL 1348 [some (.ref 3000), some (.ref 0), some (.ref 43), some (.int (nI i))] [] u (gh (H, A, K, kp, (tp, nI tl, T), S, F) (ec H.1, as, g, F, mq ks ot kp tp (nI tl, R) S mv))) : KL 1302 [some (.ref 3000), some (.ref 0), some (.ref 43), some (.int (nI i))] [] u (gh (H, A, K, kp, (tp, nI tl, T), S, F) (ec H.1, as, g, F, mq ks ot kp tp (nI tl, R) S mv)) := by
  obtain ⟨hw, ht, hS, hK⟩ := J
  have kB : KL 1311 [some (.ref 3000), some (.ref 0), some (.ref 43), some (.int (nI i))] [.int ((sp_count H.1 F (nI tl) (xs (i + 1))).1)] u (gh (((sp_count H.1 F (nI tl) (xs (i + 1))).2.1, H.2), A, K, kp, (tp, nI tl, T), S, (sp_count H.1 F (nI tl) (xs (i + 1))).2.2) (ec H.1, as, g, F, mq ks ot kp tp (nI tl, R) S mv)) := by
    refine zgoL hL 35 1348 13 rfl ?_
    refine ⟨i + 1, by omega, ia1 i, ?_⟩
    refine m_count hZ hw ?_
    exact ⟨fun _ => kI ((sp_count H.1 F (nI tl) (xs (i + 1))).2.1, H.2) A K kp tp tl T S (sp_count H.1 F (nI tl) (xs (i + 1))).2.2 as g ks ot R mv ⟨by rw [e_count]; exact hw, ht, hS, hK⟩, fun z => absurd rfl z⟩
  refine zgoL hL 35 1311 8 rfl ?_
  refine ⟨i + 1, by omega, ia1 i, ?_⟩
  exact c_count hZ hw kB
set_option maxRecDepth 100000 in
set_option maxHeartbeats 1000000 in
theorem la_status {SM : zC} {SF : Nat → zQ → zP} (hZ : zZ SM SF) {xs : Nat → Int32} {n : Nat} {KL : zP} (hL : zLw xs n SM KL) {i : Nat} (hi : i + 6 ≤ n) {u : Nat × Nat} {H A K : zHl} {kp : Int32} {tp : Nat → Int32} {tl : Nat} {T : Int32 × Int32 × Int32 × Int32} {S : Nat → zSh} {F as g ks ot : Nat → Int32} {R : Int32 × Int32 × Int32 × Int32} {mv : Nat → Int64} (J : Jn H K kp tl S ks) (kI : ∀ (H A K : zHl) (kp : Int32) (tp : Nat → Int32) (tl : Nat) (T : Int32 × Int32 × Int32 × Int32) (S : Nat → zSh) (F as g ks ot : Nat → Int32) (R : Int32 × Int32 × Int32 × Int32) (mv : Nat → Int64), Jn H K kp tl S ks → KL 1348 [some (.ref 3000), some (.ref 0), some (.ref 43), some (.int (nI i))] [] u (gh (H, A, K, kp, (tp, nI tl, T), S, F) (ec H.1, as, g, F, mq ks ot kp tp (nI tl, R) S mv))) : KL 1325 [some (.ref 3000), some (.ref 0), some (.ref 43), some (.int (nI i))] [] u (gh (H, A, K, kp, (tp, nI tl, T), S, F) (ec H.1, as, g, F, mq ks ot kp tp (nI tl, R) S mv)) := by
  obtain ⟨hw, ht, hS, hK⟩ := J
  have kB : KL 1334 [some (.ref 3000), some (.ref 0), some (.ref 43), some (.int (nI i))] [.int ((sp_status H.1 F (xs (i + 1))).1)] u (gh (((sp_status H.1 F (xs (i + 1))).2.1, H.2), A, K, kp, (tp, nI tl, T), S, (sp_status H.1 F (xs (i + 1))).2.2) (ec H.1, as, g, F, mq ks ot kp tp (nI tl, R) S mv)) := by
    refine zgoL hL 36 1348 13 rfl ?_
    refine ⟨i + 1, by omega, ia1 i, ?_⟩
    refine m_status (σ := H.1) hZ ?_
    exact ⟨fun _ => kI ((sp_status H.1 F (xs (i + 1))).2.1, H.2) A K kp tp tl T S (sp_status H.1 F (xs (i + 1))).2.2 as g ks ot R mv ⟨by rw [e_status]; exact hw, ht, hS, hK⟩, fun z => absurd rfl z⟩
  refine zgoL hL 36 1334 8 rfl ?_
  refine ⟨i + 1, by omega, ia1 i, ?_⟩
  exact c_status hZ kB
