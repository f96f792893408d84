/-! THE LAW: each call answers alike (by program) -/
set_option maxRecDepth 100000 in
set_option maxHeartbeats 1000000 in
theorem la_fire {SM : zC} {SF : Nat → zQ → zP} (hZ : zZ SM SF) {xs : Nat → Int32} {n : Nat} {KL : zP} (hL : zLw xs n SM KL) {i : Nat} (hi : i + 6 ≤ n) {u : Nat × Nat} {H A K : zHl} {kp : Int32} {tp : Nat → Int32} {tl : Nat} {T : Int32 × Int32 × Int32 × Int32} {S : Nat → zSh} {F as g ks ot : Nat → Int32} {R : Int32 × Int32 × Int32 × Int32} {mv : Nat → Int64} (J : Jn H K kp tl S ks) (kI : ∀ (H A K : zHl) (kp : Int32) (tp : Nat → Int32) (tl : Nat) (T : Int32 × Int32 × Int32 × Int32) (S : Nat → zSh) (F as g ks ot : Nat → Int32) (R : Int32 × Int32 × Int32 × Int32) (mv : Nat → Int64), Jn H K kp tl S ks → KL 1348 [some (.ref 3000), some (.ref 0), some (.ref 43), some (.int (nI i))] [] u (gh (H, A, K, kp, (tp, nI tl, T), S, F) (ec H.1, as, g, F, mq ks ot kp tp (nI tl, R) S mv))) : KL 196 [some (.ref 3000), some (.ref 0), some (.ref 43), some (.int (nI i))] [] u (gh (H, A, K, kp, (tp, nI tl, T), S, F) (ec H.1, as, g, F, mq ks ot kp tp (nI tl, R) S mv)) := by
  obtain ⟨hw, ht, hS, hK⟩ := J
  have kB : KL 205 [some (.ref 3000), some (.ref 0), some (.ref 43), some (.int (nI i))] [.int ((sp_fire H.1 F (xs (i + 1))).1)] u (gh (((sp_fire H.1 F (xs (i + 1))).2.1, H.2), A, K, kp, (tp, nI tl, T), S, (sp_fire H.1 F (xs (i + 1))).2.2) (ec H.1, as, g, F, mq ks ot kp tp (nI tl, R) S mv)) := by
    refine zgoL hL 0 1348 13 rfl ?_
    refine ⟨i + 1, by omega, ia1 i, ?_⟩
    refine m_fire hZ  ?_
    exact ⟨fun _ => kI ((sp_fire H.1 F (xs (i + 1))).2.1, H.2) A K kp tp tl T S (sp_fire H.1 F (xs (i + 1))).2.2 as g ks ot R mv ⟨w_fire hw F _, ht, hS, hK⟩, fun z => absurd rfl z⟩
  refine zgoL hL 0 205 8 rfl ?_
  refine ⟨i + 1, by omega, ia1 i, ?_⟩
  exact c_fire hZ  kB
set_option maxRecDepth 100000 in
set_option maxHeartbeats 1000000 in
theorem la_now {SM : zC} {SF : Nat → zQ → zP} (hZ : zZ SM SF) {xs : Nat → Int32} {n : Nat} {KL : zP} (hL : zLw xs n SM KL) {i : Nat} (hi : i + 6 ≤ n) {u : Nat × Nat} {H A K : zHl} {kp : Int32} {tp : Nat → Int32} {tl : Nat} {T : Int32 × Int32 × Int32 × Int32} {S : Nat → zSh} {F as g ks ot : Nat → Int32} {R : Int32 × Int32 × Int32 × Int32} {mv : Nat → Int64} (J : Jn H K kp tl S ks) (kI : ∀ (H A K : zHl) (kp : Int32) (tp : Nat → Int32) (tl : Nat) (T : Int32 × Int32 × Int32 × Int32) (S : Nat → zSh) (F as g ks ot : Nat → Int32) (R : Int32 × Int32 × Int32 × Int32) (mv : Nat → Int64), Jn H K kp tl S ks → KL 1348 [some (.ref 3000), some (.ref 0), some (.ref 43), some (.int (nI i))] [] u (gh (H, A, K, kp, (tp, nI tl, T), S, F) (ec H.1, as, g, F, mq ks ot kp tp (nI tl, R) S mv))) : KL 219 [some (.ref 3000), some (.ref 0), some (.ref 43), some (.int (nI i))] [] u (gh (H, A, K, kp, (tp, nI tl, T), S, F) (ec H.1, as, g, F, mq ks ot kp tp (nI tl, R) S mv)) := by
  obtain ⟨hw, ht, hS, hK⟩ := J
  have kB : KL 228 [some (.ref 3000), some (.ref 0), some (.ref 43), some (.int (nI i))] [.int ((sp_now H.1 F (xs (i + 1))).1)] u (gh (((sp_now H.1 F (xs (i + 1))).2.1, H.2), A, K, kp, (tp, nI tl, T), S, (sp_now H.1 F (xs (i + 1))).2.2) (ec H.1, as, g, F, mq ks ot kp tp (nI tl, R) S mv)) := by
    refine zgoL hL 1 1348 13 rfl ?_
    refine ⟨i + 1, by omega, ia1 i, ?_⟩
    refine m_now hZ hw (by omega) ?_
    exact ⟨fun _ => kI ((sp_now H.1 F (xs (i + 1))).2.1, H.2) A K kp tp tl T S (sp_now H.1 F (xs (i + 1))).2.2 as g ks ot R mv ⟨by rw [e_now]; exact hw, ht, hS, hK⟩, fun z => absurd rfl z⟩
  refine zgoL hL 1 228 8 rfl ?_
  refine ⟨i + 1, by omega, ia1 i, ?_⟩
  exact c_now hZ hw (by omega) kB
set_option maxRecDepth 100000 in
set_option maxHeartbeats 1000000 in
theorem la_inlaw {SM : zC} {SF : Nat → zQ → zP} (hZ : zZ SM SF) {xs : Nat → Int32} {n : Nat} {KL : zP} (hL : zLw xs n SM KL) {i : Nat} (hi : i + 6 ≤ n) {u : Nat × Nat} {H A K : zHl} {kp : Int32} {tp : Nat → Int32} {tl : Nat} {T : Int32 × Int32 × Int32 × Int32} {S : Nat → zSh} {F as g ks ot : Nat → Int32} {R : Int32 × Int32 × Int32 × Int32} {mv : Nat → Int64} (J : Jn H K kp tl S ks) (kI : ∀ (H A K : zHl) (kp : Int32) (tp : Nat → Int32) (tl : Nat) (T : Int32 × Int32 × Int32 × Int32) (S : Nat → zSh) (F as g ks ot : Nat → Int32) (R : Int32 × Int32 × Int32 × Int32) (mv : Nat → Int64), Jn H K kp tl S ks → KL 1348 [some (.ref 3000), some (.ref 0), some (.ref 43), some (.int (nI i))] [] u (gh (H, A, K, kp, (tp, nI tl, T), S, F) (ec H.1, as, g, F, mq ks ot kp tp (nI tl, R) S mv))) : KL 242 [some (.ref 3000), some (.ref 0), some (.ref 43), some (.int (nI i))] [] u (gh (H, A, K, kp, (tp, nI tl, T), S, F) (ec H.1, as, g, F, mq ks ot kp tp (nI tl, R) S mv)) := by
  obtain ⟨hw, ht, hS, hK⟩ := J
  have kB : KL 251 [some (.ref 3000), some (.ref 0), some (.ref 43), some (.int (nI i))] [.int ((sp_inlaw H.1 F (xs (i + 1))).1)] u (gh (((sp_inlaw H.1 F (xs (i + 1))).2.1, H.2), A, K, kp, (tp, nI tl, T), S, (sp_inlaw H.1 F (xs (i + 1))).2.2) (ec H.1, as, g, F, mq ks ot kp tp (nI tl, R) S mv)) := by
    refine zgoL hL 2 1348 13 rfl ?_
    refine ⟨i + 1, by omega, ia1 i, ?_⟩
    refine m_inlaw hZ hw ?_
    exact ⟨fun _ => kI ((sp_inlaw H.1 F (xs (i + 1))).2.1, H.2) A K kp tp tl T S (sp_inlaw H.1 F (xs (i + 1))).2.2 as g ks ot R mv ⟨w_inlaw hw F _, ht, hS, hK⟩, fun z => absurd rfl z⟩
  refine zgoL hL 2 251 8 rfl ?_
  refine ⟨i + 1, by omega, ia1 i, ?_⟩
  exact c_inlaw hZ hw kB
set_option maxRecDepth 100000 in
set_option maxHeartbeats 1000000 in
theorem la_of {SM : zC} {SF : Nat → zQ → zP} (hZ : zZ SM SF) {xs : Nat → Int32} {n : Nat} {KL : zP} (hL : zLw xs n SM KL) {i : Nat} (hi : i + 6 ≤ n) {u : Nat × Nat} {H A K : zHl} {kp : Int32} {tp : Nat → Int32} {tl : Nat} {T : Int32 × Int32 × Int32 × Int32} {S : Nat → zSh} {F as g ks ot : Nat → Int32} {R : Int32 × Int32 × Int32 × Int32} {mv : Nat → Int64} (J : Jn H K kp tl S ks) (kI : ∀ (H A K : zHl) (kp : Int32) (tp : Nat → Int32) (tl : Nat) (T : Int32 × Int32 × Int32 × Int32) (S : Nat → zSh) (F as g ks ot : Nat → Int32) (R : Int32 × Int32 × Int32 × Int32) (mv : Nat → Int64), Jn H K kp tl S ks → KL 1348 [some (.ref 3000), some (.ref 0), some (.ref 43), some (.int (nI i))] [] u (gh (H, A, K, kp, (tp, nI tl, T), S, F) (ec H.1, as, g, F, mq ks ot kp tp (nI tl, R) S mv))) : KL 265 [some (.ref 3000), some (.ref 0), some (.ref 43), some (.int (nI i))] [] u (gh (H, A, K, kp, (tp, nI tl, T), S, F) (ec H.1, as, g, F, mq ks ot kp tp (nI tl, R) S mv)) := by
  obtain ⟨hw, ht, hS, hK⟩ := J
  have kB : KL 279 [some (.ref 3000), some (.ref 0), some (.ref 43), some (.int (nI i))] [.int ((sp_of H.1 F (xs (i + 1)) (xs (i + 2))).1)] u (gh (((sp_of H.1 F (xs (i + 1)) (xs (i + 2))).2.1, H.2), A, K, kp, (tp, nI tl, T), S, (sp_of H.1 F (xs (i + 1)) (xs (i + 2))).2.2) (ec H.1, as, g, F, mq ks ot kp tp (nI tl, R) S mv)) := by
    refine zgoL hL 3 1348 18 rfl ?_
    refine ⟨i + 1, by omega, ia1 i, i + 2, by omega, ia2 i, ?_⟩
    refine m_of hZ hw ?_
    exact ⟨fun _ => kI ((sp_of H.1 F (xs (i + 1)) (xs (i + 2))).2.1, H.2) A K kp tp tl T S (sp_of H.1 F (xs (i + 1)) (xs (i + 2))).2.2 as g ks ot R mv ⟨by rw [e_of]; exact hw, ht, hS, hK⟩, fun z => absurd rfl z⟩
  refine zgoL hL 3 279 13 rfl ?_
  refine ⟨i + 1, by omega, ia1 i, i + 2, by omega, ia2 i, ?_⟩
  exact c_of hZ hw kB
set_option maxRecDepth 100000 in
set_option maxHeartbeats 1000000 in
theorem la_with {SM : zC} {SF : Nat → zQ → zP} (hZ : zZ SM SF) {xs : Nat → Int32} {n : Nat} {KL : zP} (hL : zLw xs n SM KL) {i : Nat} (hi : i + 6 ≤ n) {u : Nat × Nat} {H A K : zHl} {kp : Int32} {tp : Nat → Int32} {tl : Nat} {T : Int32 × Int32 × Int32 × Int32} {S : Nat → zSh} {F as g ks ot : Nat → Int32} {R : Int32 × Int32 × Int32 × Int32} {mv : Nat → Int64} (J : Jn H K kp tl S ks) (kI : ∀ (H A K : zHl) (kp : Int32) (tp : Nat → Int32) (tl : Nat) (T : Int32 × Int32 × Int32 × Int32) (S : Nat → zSh) (F as g ks ot : Nat → Int32) (R : Int32 × Int32 × Int32 × Int32) (mv : Nat → Int64), Jn H K kp tl S ks → KL 1348 [some (.ref 3000), some (.ref 0), some (.ref 43), some (.int (nI i))] [] u (gh (H, A, K, kp, (tp, nI tl, T), S, F) (ec H.1, as, g, F, mq ks ot kp tp (nI tl, R) S mv))) : KL 298 [some (.ref 3000), some (.ref 0), some (.ref 43), some (.int (nI i))] [] u (gh (H, A, K, kp, (tp, nI tl, T), S, F) (ec H.1, as, g, F, mq ks ot kp tp (nI tl, R) S mv)) := by
  obtain ⟨hw, ht, hS, hK⟩ := J
  have kB : KL 317 [some (.ref 3000), some (.ref 0), some (.ref 43), some (.int (nI i))] [.int ((sp_with H.1 F (xs (i + 1)) (xs (i + 2)) (xs (i + 3))).1)] u (gh (((sp_with H.1 F (xs (i + 1)) (xs (i + 2)) (xs (i + 3))).2.1, H.2), A, K, kp, (tp, nI tl, T), S, (sp_with H.1 F (xs (i + 1)) (xs (i + 2)) (xs (i + 3))).2.2) (ec H.1, as, g, F, mq ks ot kp tp (nI tl, R) S mv)) := by
    refine zgoL hL 4 1348 23 rfl ?_
    refine ⟨i + 1, by omega, ia1 i, i + 2, by omega, ia2 i, i + 3, by omega, ia3 i, ?_⟩
    refine m_with hZ hw ?_
    exact ⟨fun _ => kI ((sp_with H.1 F (xs (i + 1)) (xs (i + 2)) (xs (i + 3))).2.1, H.2) A K kp tp tl T S (sp_with H.1 F (xs (i + 1)) (xs (i + 2)) (xs (i + 3))).2.2 as g ks ot R mv ⟨by rw [e_with]; exact hw, ht, hS, hK⟩, fun z => absurd rfl z⟩
  refine zgoL hL 4 317 18 rfl ?_
  refine ⟨i + 1, by omega, ia1 i, i + 2, by omega, ia2 i, i + 3, by omega, ia3 i, ?_⟩
  exact c_with hZ hw kB
set_option maxRecDepth 100000 in
set_option maxHeartbeats 1000000 in
theorem la_set {SM : zC} {SF : Nat → zQ → zP} (hZ : zZ SM SF) {xs : Nat → Int32} {n : Nat} {KL : zP} (hL : zLw xs n SM KL) {i : Nat} (hi : i + 6 ≤ n) {u : Nat × Nat} {H A K : zHl} {kp : Int32} {tp : Nat → Int32} {tl : Nat} {T : Int32 × Int32 × Int32 × Int32} {S : Nat → zSh} {F as g ks ot : Nat → Int32} {R : Int32 × Int32 × Int32 × Int32} {mv : Nat → Int64} (J : Jn H K kp tl S ks) (kI : ∀ (H A K : zHl) (kp : Int32) (tp : Nat → Int32) (tl : Nat) (T : Int32 × Int32 × Int32 × Int32) (S : Nat → zSh) (F as g ks ot : Nat → Int32) (R : Int32 × Int32 × Int32 × Int32) (mv : Nat → Int64), Jn H K kp tl S ks → KL 1348 [some (.ref 3000), some (.ref 0), some (.ref 43), some (.int (nI i))] [] u (gh (H, A, K, kp, (tp, nI tl, T), S, F) (ec H.1, as, g, F, mq ks ot kp tp (nI tl, R) S mv))) : KL 341 [some (.ref 3000), some (.ref 0), some (.ref 43), some (.int (nI i))] [] u (gh (H, A, K, kp, (tp, nI tl, T), S, F) (ec H.1, as, g, F, mq ks ot kp tp (nI tl, R) S mv)) := by
  obtain ⟨hw, ht, hS, hK⟩ := J
  have kB : KL 360 [some (.ref 3000), some (.ref 0), some (.ref 43), some (.int (nI i))] [.int ((sp_set H.1 F (xs (i + 1)) (xs (i + 2)) (xs (i + 3))).1)] u (gh (((sp_set H.1 F (xs (i + 1)) (xs (i + 2)) (xs (i + 3))).2.1, H.2), A, K, kp, (tp, nI tl, T), S, (sp_set H.1 F (xs (i + 1)) (xs (i + 2)) (xs (i + 3))).2.2) (ec H.1, as, g, F, mq ks ot kp tp (nI tl, R) S mv)) := by
    refine zgoL hL 5 1348 23 rfl ?_
    refine ⟨i + 1, by omega, ia1 i, i + 2, by omega, ia2 i, i + 3, by omega, ia3 i, ?_⟩
    refine m_set hZ hw ?_
    exact ⟨fun _ => kI ((sp_set H.1 F (xs (i + 1)) (xs (i + 2)) (xs (i + 3))).2.1, H.2) A K kp tp tl T S (sp_set H.1 F (xs (i + 1)) (xs (i + 2)) (xs (i + 3))).2.2 as g ks ot R mv ⟨w_set hw F _ _ _, ht, hS, hK⟩, fun z => absurd rfl z⟩
  refine zgoL hL 5 360 18 rfl ?_
  refine ⟨i + 1, by omega, ia1 i, i + 2, by omega, ia2 i, i + 3, by omega, ia3 i, ?_⟩
  exact c_set hZ hw kB
set_option maxRecDepth 100000 in
set_option maxHeartbeats 1000000 in
theorem la_turn {SM : zC} {SF : Nat → zQ → zP} (hZ : zZ SM SF) {xs : Nat → Int32} {n : Nat} {KL : zP} (hL : zLw xs n SM KL) {i : Nat} (hi : i + 6 ≤ n) {u : Nat × Nat} {H A K : zHl} {kp : Int32} {tp : Nat → Int32} {tl : Nat} {T : Int32 × Int32 × Int32 × Int32} {S : Nat → zSh} {F as g ks ot : Nat → Int32} {R : Int32 × Int32 × Int32 × Int32} {mv : Nat → Int64} (J : Jn H K kp tl S ks) (kI : ∀ (H A K : zHl) (kp : Int32) (tp : Nat → Int32) (tl : Nat) (T : Int32 × Int32 × Int32 × Int32) (S : Nat → zSh) (F as g ks ot : Nat → Int32) (R : Int32 × Int32 × Int32 × Int32) (mv : Nat → Int64), Jn H K kp tl S ks → KL 1348 [some (.ref 3000), some (.ref 0), some (.ref 43), some (.int (nI i))] [] u (gh (H, A, K, kp, (tp, nI tl, T), S, F) (ec H.1, as, g, F, mq ks ot kp tp (nI tl, R) S mv))) : KL 384 [some (.ref 3000), some (.ref 0), some (.ref 43), some (.int (nI i))] [] u (gh (H, A, K, kp, (tp, nI tl, T), S, F) (ec H.1, as, g, F, mq ks ot kp tp (nI tl, R) S mv)) := by
  obtain ⟨hw, ht, hS, hK⟩ := J
  have kB : KL 398 [some (.ref 3000), some (.ref 0), some (.ref 43), some (.int (nI i))] [.int ((sp_turn H.1 F (xs (i + 1)) (xs (i + 2))).1)] u (gh (((sp_turn H.1 F (xs (i + 1)) (xs (i + 2))).2.1, H.2), A, K, kp, (tp, nI tl, T), S, (sp_turn H.1 F (xs (i + 1)) (xs (i + 2))).2.2) (ec H.1, as, g, F, mq ks ot kp tp (nI tl, R) S mv)) := by
    refine zgoL hL 6 1348 18 rfl ?_
    refine ⟨i + 1, by omega, ia1 i, i + 2, by omega, ia2 i, ?_⟩
    refine m_turn hZ hw ?_
    exact ⟨fun _ => kI ((sp_turn H.1 F (xs (i + 1)) (xs (i + 2))).2.1, H.2) A K kp tp tl T S (sp_turn H.1 F (xs (i + 1)) (xs (i + 2))).2.2 as g ks ot R mv ⟨w_turn hw F _ _, ht, hS, hK⟩, fun z => absurd rfl z⟩
  refine zgoL hL 6 398 13 rfl ?_
  refine ⟨i + 1, by omega, ia1 i, i + 2, by omega, ia2 i, ?_⟩
  exact c_turn hZ hw kB
set_option maxRecDepth 100000 in
set_option maxHeartbeats 1000000 in
theorem la_as {SM : zC} {SF : Nat → zQ → zP} (hZ : zZ SM SF) {xs : Nat → Int32} {n : Nat} {KL : zP} (hL : zLw xs n SM KL) {i : Nat} (hi : i + 6 ≤ n) {u : Nat × Nat} {H A K : zHl} {kp : Int32} {tp : Nat → Int32} {tl : Nat} {T : Int32 × Int32 × Int32 × Int32} {S : Nat → zSh} {F as g ks ot : Nat → Int32} {R : Int32 × Int32 × Int32 × Int32} {mv : Nat → Int64} (J : Jn H K kp tl S ks) (kI : ∀ (H A K : zHl) (kp : Int32) (tp : Nat → Int32) (tl : Nat) (T : Int32 × Int32 × Int32 × Int32) (S : Nat → zSh) (F as g ks ot : Nat → Int32) (R : Int32 × Int32 × Int32 × Int32) (mv : Nat → Int64), Jn H K kp tl S ks → KL 1348 [some (.ref 3000), some (.ref 0), some (.ref 43), some (.int (nI i))] [] u (gh (H, A, K, kp, (tp, nI tl, T), S, F) (ec H.1, as, g, F, mq ks ot kp tp (nI tl, R) S mv))) : KL 417 [some (.ref 3000), some (.ref 0), some (.ref 43), some (.int (nI i))] [] u (gh (H, A, K, kp, (tp, nI tl, T), S, F) (ec H.1, as, g, F, mq ks ot kp tp (nI tl, R) S mv)) := by
  obtain ⟨hw, ht, hS, hK⟩ := J
  have kB : KL 431 [some (.ref 3000), some (.ref 0), some (.ref 43), some (.int (nI i))] [.int ((sp_as H.1 F (xs (i + 1)) (xs (i + 2))).1)] u (gh (((sp_as H.1 F (xs (i + 1)) (xs (i + 2))).2.1, H.2), A, K, kp, (tp, nI tl, T), S, (sp_as H.1 F (xs (i + 1)) (xs (i + 2))).2.2) (ec H.1, as, g, F, mq ks ot kp tp (nI tl, R) S mv)) := by
    refine zgoL hL 7 1348 18 rfl ?_
    refine ⟨i + 1, by omega, ia1 i, i + 2, by omega, ia2 i, ?_⟩
    refine m_as hZ hw ?_
    exact ⟨fun _ => kI ((sp_as H.1 F (xs (i + 1)) (xs (i + 2))).2.1, H.2) A K kp tp tl T S (sp_as H.1 F (xs (i + 1)) (xs (i + 2))).2.2 as g ks ot R mv ⟨by rw [e_as]; exact hw, ht, hS, hK⟩, fun z => absurd rfl z⟩
  refine zgoL hL 7 431 13 rfl ?_
  refine ⟨i + 1, by omega, ia1 i, i + 2, by omega, ia2 i, ?_⟩
  exact c_as hZ hw kB
set_option maxRecDepth 100000 in
set_option maxHeartbeats 1000000 in
theorem la_couple {SM : zC} {SF : Nat → zQ → zP} (hZ : zZ SM SF) {xs : Nat → Int32} {n : Nat} {KL : zP} (hL : zLw xs n SM KL) {i : Nat} (hi : i + 6 ≤ n) {u : Nat × Nat} {H A K : zHl} {kp : Int32} {tp : Nat → Int32} {tl : Nat} {T : Int32 × Int32 × Int32 × Int32} {S : Nat → zSh} {F as g ks ot : Nat → Int32} {R : Int32 × Int32 × Int32 × Int32} {mv : Nat → Int64} (J : Jn H K kp tl S ks) (kI : ∀ (H A K : zHl) (kp : Int32) (tp : Nat → Int32) (tl : Nat) (T : Int32 × Int32 × Int32 × Int32) (S : Nat → zSh) (F as g ks ot : Nat → Int32) (R : Int32 × Int32 × Int32 × Int32) (mv : Nat → Int64), Jn H K kp tl S ks → KL 1348 [some (.ref 3000), some (.ref 0), some (.ref 43), some (.int (nI i))] [] u (gh (H, A, K, kp, (tp, nI tl, T), S, F) (ec H.1, as, g, F, mq ks ot kp tp (nI tl, R) S mv))) : KL 450 [some (.ref 3000), some (.ref 0), some (.ref 43), some (.int (nI i))] [] u (gh (H, A, K, kp, (tp, nI tl, T), S, F) (ec H.1, as, g, F, mq ks ot kp tp (nI tl, R) S mv)) := by
  obtain ⟨hw, ht, hS, hK⟩ := J
  have kB : KL 459 [some (.ref 3000), some (.ref 0), some (.ref 43), some (.int (nI i))] [.int ((sp_couple H.1 F (xs (i + 1))).1)] u (gh (((sp_couple H.1 F (xs (i + 1))).2.1, H.2), A, K, kp, (tp, nI tl, T), S, (sp_couple H.1 F (xs (i + 1))).2.2) (ec H.1, as, g, F, mq ks ot kp tp (nI tl, R) S mv)) := by
    refine zgoL hL 8 1348 13 rfl ?_
    refine ⟨i + 1, by omega, ia1 i, ?_⟩
    refine m_couple hZ hw ?_
    exact ⟨fun _ => kI ((sp_couple H.1 F (xs (i + 1))).2.1, H.2) A K kp tp tl T S (sp_couple H.1 F (xs (i + 1))).2.2 as g ks ot R mv ⟨w_couple hw F _, ht, hS, hK⟩, fun z => absurd rfl z⟩
  refine zgoL hL 8 459 8 rfl ?_
  refine ⟨i + 1, by omega, ia1 i, ?_⟩
  exact c_couple hZ hw kB
set_option maxRecDepth 100000 in
set_option maxHeartbeats 1000000 in
theorem la_coupleOf {SM : zC} {SF : Nat → zQ → zP} (hZ : zZ SM SF) {xs : Nat → Int32} {n : Nat} {KL : zP} (hL : zLw xs n SM KL) {i : Nat} (hi : i + 6 ≤ n) {u : Nat × Nat} {H A K : zHl} {kp : Int32} {tp : Nat → Int32} {tl : Nat} {T : Int32 × Int32 × Int32 × Int32} {S : Nat → zSh} {F as g ks ot : Nat → Int32} {R : Int32 × Int32 × Int32 × Int32} {mv : Nat → Int64} (J : Jn H K kp tl S ks) (kI : ∀ (H A K : zHl) (kp : Int32) (tp : Nat → Int32) (tl : Nat) (T : Int32 × Int32 × Int32 × Int32) (S : Nat → zSh) (F as g ks ot : Nat → Int32) (R : Int32 × Int32 × Int32 × Int32) (mv : Nat → Int64), Jn H K kp tl S ks → KL 1348 [some (.ref 3000), some (.ref 0), some (.ref 43), some (.int (nI i))] [] u (gh (H, A, K, kp, (tp, nI tl, T), S, F) (ec H.1, as, g, F, mq ks ot kp tp (nI tl, R) S mv))) : KL 473 [some (.ref 3000), some (.ref 0), some (.ref 43), some (.int (nI i))] [] u (gh (H, A, K, kp, (tp, nI tl, T), S, F) (ec H.1, as, g, F, mq ks ot kp tp (nI tl, R) S mv)) := by
  obtain ⟨hw, ht, hS, hK⟩ := J
  have kB : ∀ (A' : zHl), KL 487 [some (.ref 3000), some (.ref 0), some (.ref 43), some (.int (nI i))] [.int ((sp_coupleOf H.1 F (xs (i + 1)) (xs (i + 2))).1)] u (gh (((sp_coupleOf H.1 F (xs (i + 1)) (xs (i + 2))).2.1, H.2), A', K, kp, (tp, nI tl, T), S, (sp_coupleOf H.1 F (xs (i + 1)) (xs (i + 2))).2.2) (ec H.1, as, g, F, mq ks ot kp tp (nI tl, R) S mv)) := by
    intro A'
    refine zgoL hL 9 1348 18 rfl ?_
    refine ⟨i + 1, by omega, ia1 i, i + 2, by omega, ia2 i, ?_⟩
    refine m_coupleOf hZ hw (by omega) (fun as' g' => ?_)
    exact ⟨fun _ => kI ((sp_coupleOf H.1 F (xs (i + 1)) (xs (i + 2))).2.1, H.2) A' K kp tp tl T S (sp_coupleOf H.1 F (xs (i + 1)) (xs (i + 2))).2.2 as' g' ks ot R mv ⟨by rw [e_coupleOf]; exact hw, ht, hS, hK⟩, fun z => absurd rfl z⟩
  refine zgoL hL 9 487 13 rfl ?_
  refine ⟨i + 1, by omega, ia1 i, i + 2, by omega, ia2 i, ?_⟩
  exact c_coupleOf hZ hw (by omega) kB
set_option maxRecDepth 100000 in
set_option maxHeartbeats 1000000 in
theorem la_give {SM : zC} {SF : Nat → zQ → zP} (hZ : zZ SM SF) {xs : Nat → Int32} {n : Nat} {KL : zP} (hL : zLw xs n SM KL) {i : Nat} (hi : i + 6 ≤ n) {u : Nat × Nat} {H A K : zHl} {kp : Int32} {tp : Nat → Int32} {tl : Nat} {T : Int32 × Int32 × Int32 × Int32} {S : Nat → zSh} {F as g ks ot : Nat → Int32} {R : Int32 × Int32 × Int32 × Int32} {mv : Nat → Int64} (J : Jn H K kp tl S ks) (kI : ∀ (H A K : zHl) (kp : Int32) (tp : Nat → Int32) (tl : Nat) (T : Int32 × Int32 × Int32 × Int32) (S : Nat → zSh) (F as g ks ot : Nat → Int32) (R : Int32 × Int32 × Int32 × Int32) (mv : Nat → Int64), Jn H K kp tl S ks → KL 1348 [some (.ref 3000), some (.ref 0), some (.ref 43), some (.int (nI i))] [] u (gh (H, A, K, kp, (tp, nI tl, T), S, F) (ec H.1, as, g, F, mq ks ot kp tp (nI tl, R) S mv))) : KL 506 [some (.ref 3000), some (.ref 0), some (.ref 43), some (.int (nI i))] [] u (gh (H, A, K, kp, (tp, nI tl, T), S, F) (ec H.1, as, g, F, mq ks ot kp tp (nI tl, R) S mv)) := by
  obtain ⟨hw, ht, hS, hK⟩ := J
  have kB : KL 525 [some (.ref 3000), some (.ref 0), some (.ref 43), some (.int (nI i))] [.int ((sp_give H.1 F (xs (i + 1)) (xs (i + 2)) (xs (i + 3))).1)] u (gh (((sp_give H.1 F (xs (i + 1)) (xs (i + 2)) (xs (i + 3))).2.1, H.2), A, K, kp, (tp, nI tl, T), S, (sp_give H.1 F (xs (i + 1)) (xs (i + 2)) (xs (i + 3))).2.2) (ec H.1, as, g, F, mq ks ot kp tp (nI tl, R) S mv)) := by
    refine zgoL hL 10 1348 23 rfl ?_
    refine ⟨i + 1, by omega, ia1 i, i + 2, by omega, ia2 i, i + 3, by omega, ia3 i, ?_⟩
    refine m_give hZ hw ?_
    exact ⟨fun _ => kI ((sp_give H.1 F (xs (i + 1)) (xs (i + 2)) (xs (i + 3))).2.1, H.2) A K kp tp tl T S (sp_give H.1 F (xs (i + 1)) (xs (i + 2)) (xs (i + 3))).2.2 as g ks ot R mv ⟨w_give hw F _ _ _, ht, hS, hK⟩, fun z => absurd rfl z⟩
  refine zgoL hL 10 525 18 rfl ?_
  refine ⟨i + 1, by omega, ia1 i, i + 2, by omega, ia2 i, i + 3, by omega, ia3 i, ?_⟩
  exact c_give hZ hw kB
set_option maxRecDepth 100000 in
set_option maxHeartbeats 1000000 in
theorem la_sundays {SM : zC} {SF : Nat → zQ → zP} (hZ : zZ SM SF) {xs : Nat → Int32} {n : Nat} {KL : zP} (hL : zLw xs n SM KL) {i : Nat} (hi : i + 6 ≤ n) {u : Nat × Nat} {H A K : zHl} {kp : Int32} {tp : Nat → Int32} {tl : Nat} {T : Int32 × Int32 × Int32 × Int32} {S : Nat → zSh} {F as g ks ot : Nat → Int32} {R : Int32 × Int32 × Int32 × Int32} {mv : Nat → Int64} (J : Jn H K kp tl S ks) (kI : ∀ (H A K : zHl) (kp : Int32) (tp : Nat → Int32) (tl : Nat) (T : Int32 × Int32 × Int32 × Int32) (S : Nat → zSh) (F as g ks ot : Nat → Int32) (R : Int32 × Int32 × Int32 × Int32) (mv : Nat → Int64), Jn H K kp tl S ks → KL 1348 [some (.ref 3000), some (.ref 0), some (.ref 43), some (.int (nI i))] [] u (gh (H, A, K, kp, (tp, nI tl, T), S, F) (ec H.1, as, g, F, mq ks ot kp tp (nI tl, R) S mv))) : KL 549 [some (.ref 3000), some (.ref 0), some (.ref 43), some (.int (nI i))] [] u (gh (H, A, K, kp, (tp, nI tl, T), S, F) (ec H.1, as, g, F, mq ks ot kp tp (nI tl, R) S mv)) := by
  obtain ⟨hw, ht, hS, hK⟩ := J
  have kB : ∀ (q : (Nat → Int32) × Int32), KL 558 [some (.ref 3000), some (.ref 0), some (.ref 43), some (.int (nI i))] [.int ((sp_sundays H.1 F (xs (i + 1))).1)] u (gh (((sp_sundays H.1 F (xs (i + 1))).2.1, q), A, K, kp, (tp, nI tl, T), S, (sp_sundays H.1 F (xs (i + 1))).2.2) (ec H.1, as, g, F, mq ks ot kp tp (nI tl, R) S mv)) := by
    intro q
    refine zgoL hL 11 1348 13 rfl ?_
    refine ⟨i + 1, by omega, ia1 i, ?_⟩
    refine m_sundays hZ hw (by omega) (fun as' g' => ?_)
    exact ⟨fun _ => kI ((sp_sundays H.1 F (xs (i + 1))).2.1, q) A K kp tp tl T S (sp_sundays H.1 F (xs (i + 1))).2.2 as' g' ks ot R mv ⟨w_sundays hw F _, ht, hS, hK⟩, fun z => absurd rfl z⟩
  refine zgoL hL 11 558 8 rfl ?_
  refine ⟨i + 1, by omega, ia1 i, ?_⟩
  exact c_sundays hZ hw (by omega) kB
set_option maxRecDepth 100000 in
set_option maxHeartbeats 1000000 in
theorem la_on {SM : zC} {SF : Nat → zQ → zP} (hZ : zZ SM SF) {xs : Nat → Int32} {n : Nat} {KL : zP} (hL : zLw xs n SM KL) {i : Nat} (hi : i + 6 ≤ n) {u : Nat × Nat} {H A K : zHl} {kp : Int32} {tp : Nat → Int32} {tl : Nat} {T : Int32 × Int32 × Int32 × Int32} {S : Nat → zSh} {F as g ks ot : Nat → Int32} {R : Int32 × Int32 × Int32 × Int32} {mv : Nat → Int64} (J : Jn H K kp tl S ks) (kI : ∀ (H A K : zHl) (kp : Int32) (tp : Nat → Int32) (tl : Nat) (T : Int32 × Int32 × Int32 × Int32) (S : Nat → zSh) (F as g ks ot : Nat → Int32) (R : Int32 × Int32 × Int32 × Int32) (mv : Nat → Int64), Jn H K kp tl S ks → KL 1348 [some (.ref 3000), some (.ref 0), some (.ref 43), some (.int (nI i))] [] u (gh (H, A, K, kp, (tp, nI tl, T), S, F) (ec H.1, as, g, F, mq ks ot kp tp (nI tl, R) S mv))) : KL 572 [some (.ref 3000), some (.ref 0), some (.ref 43), some (.int (nI i))] [] u (gh (H, A, K, kp, (tp, nI tl, T), S, F) (ec H.1, as, g, F, mq ks ot kp tp (nI tl, R) S mv)) := by
  obtain ⟨hw, ht, hS, hK⟩ := J
  have kB : ∀ (A' : zHl), KL 591 [some (.ref 3000), some (.ref 0), some (.ref 43), some (.int (nI i))] [.int ((sp_on H.1 F (xs (i + 1)) (xs (i + 2)) (xs (i + 3))).1)] u (gh (((sp_on H.1 F (xs (i + 1)) (xs (i + 2)) (xs (i + 3))).2.1, H.2), A', K, kp, (tp, nI tl, T), S, (sp_on H.1 F (xs (i + 1)) (xs (i + 2)) (xs (i + 3))).2.2) (ec H.1, as, g, F, mq ks ot kp tp (nI tl, R) S mv)) := by
    intro A'
    refine zgoL hL 12 1348 23 rfl ?_
    refine ⟨i + 1, by omega, ia1 i, i + 2, by omega, ia2 i, i + 3, by omega, ia3 i, ?_⟩
    refine m_on hZ hw (by omega) (fun as' g' => ?_)
    exact ⟨fun _ => kI ((sp_on H.1 F (xs (i + 1)) (xs (i + 2)) (xs (i + 3))).2.1, H.2) A' K kp tp tl T S (sp_on H.1 F (xs (i + 1)) (xs (i + 2)) (xs (i + 3))).2.2 as' g' ks ot R mv ⟨by rw [e_on]; exact hw, ht, hS, hK⟩, fun z => absurd rfl z⟩
  refine zgoL hL 12 591 18 rfl ?_
  refine ⟨i + 1, by omega, ia1 i, i + 2, by omega, ia2 i, i + 3, by omega, ia3 i, ?_⟩
  exact c_on hZ hw (by omega) kB
set_option maxRecDepth 100000 in
set_option maxHeartbeats 1000000 in
theorem la_then {SM : zC} {SF : Nat → zQ → zP} (hZ : zZ SM SF) {xs : Nat → Int32} {n : Nat} {KL : zP} (hL : zLw xs n SM KL) {i : Nat} (hi : i + 6 ≤ n) {u : Nat × Nat} {H A K : zHl} {kp : Int32} {tp : Nat → Int32} {tl : Nat} {T : Int32 × Int32 × Int32 × Int32} {S : Nat → zSh} {F as g ks ot : Nat → Int32} {R : Int32 × Int32 × Int32 × Int32} {mv : Nat → Int64} (J : Jn H K kp tl S ks) (kI : ∀ (H A K : zHl) (kp : Int32) (tp : Nat → Int32) (tl : Nat) (T : Int32 × Int32 × Int32 × Int32) (S : Nat → zSh) (F as g ks ot : Nat → Int32) (R : Int32 × Int32 × Int32 × Int32) (mv : Nat → Int64), Jn H K kp tl S ks → KL 1348 [some (.ref 3000), some (.ref 0), some (.ref 43), some (.int (nI i))] [] u (gh (H, A, K, kp, (tp, nI tl, T), S, F) (ec H.1, as, g, F, mq ks ot kp tp (nI tl, R) S mv))) : KL 615 [some (.ref 3000), some (.ref 0), some (.ref 43), some (.int (nI i))] [] u (gh (H, A, K, kp, (tp, nI tl, T), S, F) (ec H.1, as, g, F, mq ks ot kp tp (nI tl, R) S mv)) := by
  obtain ⟨hw, ht, hS, hK⟩ := J
  have kB : ∀ (A' : zHl), KL 634 [some (.ref 3000), some (.ref 0), some (.ref 43), some (.int (nI i))] [.int ((sp_then H.1 F (xs (i + 1)) (xs (i + 2)) (xs (i + 3))).1)] u (gh (((sp_then H.1 F (xs (i + 1)) (xs (i + 2)) (xs (i + 3))).2.1, H.2), A', K, kp, (tp, nI tl, T), S, (sp_then H.1 F (xs (i + 1)) (xs (i + 2)) (xs (i + 3))).2.2) (ec H.1, as, g, F, mq ks ot kp tp (nI tl, R) S mv)) := by
    intro A'
    refine zgoL hL 13 1348 23 rfl ?_
    refine ⟨i + 1, by omega, ia1 i, i + 2, by omega, ia2 i, i + 3, by omega, ia3 i, ?_⟩
    refine m_then hZ hw (by omega) (fun as' g' => ?_)
    exact ⟨fun _ => kI ((sp_then H.1 F (xs (i + 1)) (xs (i + 2)) (xs (i + 3))).2.1, H.2) A' K kp tp tl T S (sp_then H.1 F (xs (i + 1)) (xs (i + 2)) (xs (i + 3))).2.2 as' g' ks ot R mv ⟨by rw [e_then]; exact hw, ht, hS, hK⟩, fun z => absurd rfl z⟩
  refine zgoL hL 13 634 18 rfl ?_
  refine ⟨i + 1, by omega, ia1 i, i + 2, by omega, ia2 i, i + 3, by omega, ia3 i, ?_⟩
  exact c_then hZ hw (by omega) kB
set_option maxRecDepth 100000 in
set_option maxHeartbeats 1000000 in
theorem la_meets {SM : zC} {SF : Nat → zQ → zP} (hZ : zZ SM SF) {xs : Nat → Int32} {n : Nat} {KL : zP} (hL : zLw xs n SM KL) {i : Nat} (hi : i + 6 ≤ n) {u : Nat × Nat} {H A K : zHl} {kp : Int32} {tp : Nat → Int32} {tl : Nat} {T : Int32 × Int32 × Int32 × Int32} {S : Nat → zSh} {F as g ks ot : Nat → Int32} {R : Int32 × Int32 × Int32 × Int32} {mv : Nat → Int64} (J : Jn H K kp tl S ks) (kI : ∀ (H A K : zHl) (kp : Int32) (tp : Nat → Int32) (tl : Nat) (T : Int32 × Int32 × Int32 × Int32) (S : Nat → zSh) (F as g ks ot : Nat → Int32) (R : Int32 × Int32 × Int32 × Int32) (mv : Nat → Int64), Jn H K kp tl S ks → KL 1348 [some (.ref 3000), some (.ref 0), some (.ref 43), some (.int (nI i))] [] u (gh (H, A, K, kp, (tp, nI tl, T), S, F) (ec H.1, as, g, F, mq ks ot kp tp (nI tl, R) S mv))) : KL 658 [some (.ref 3000), some (.ref 0), some (.ref 43), some (.int (nI i))] [] u (gh (H, A, K, kp, (tp, nI tl, T), S, F) (ec H.1, as, g, F, mq ks ot kp tp (nI tl, R) S mv)) := by
  obtain ⟨hw, ht, hS, hK⟩ := J
  have kB : ∀ (A' : zHl), KL 672 [some (.ref 3000), some (.ref 0), some (.ref 43), some (.int (nI i))] [.int ((sp_meets H.1 F (xs (i + 1)) (xs (i + 2))).1)] u (gh (((sp_meets H.1 F (xs (i + 1)) (xs (i + 2))).2.1, H.2), A', K, kp, (tp, nI tl, T), S, (sp_meets H.1 F (xs (i + 1)) (xs (i + 2))).2.2) (ec H.1, as, g, F, mq ks ot kp tp (nI tl, R) S mv)) := by
    intro A'
    refine zgoL hL 14 1348 18 rfl ?_
    refine ⟨i + 1, by omega, ia1 i, i + 2, by omega, ia2 i, ?_⟩
    refine m_meets hZ hw (by omega) (fun as' g' => ?_)
    exact ⟨fun _ => kI ((sp_meets H.1 F (xs (i + 1)) (xs (i + 2))).2.1, H.2) A' K kp tp tl T S (sp_meets H.1 F (xs (i + 1)) (xs (i + 2))).2.2 as' g' ks ot R mv ⟨by rw [e_meets]; exact hw, ht, hS, hK⟩, fun z => absurd rfl z⟩
  refine zgoL hL 14 672 13 rfl ?_
  refine ⟨i + 1, by omega, ia1 i, i + 2, by omega, ia2 i, ?_⟩
  exact c_meets hZ hw (by omega) kB
set_option maxRecDepth 100000 in
set_option maxHeartbeats 1000000 in
theorem la_well {SM : zC} {SF : Nat → zQ → zP} (hZ : zZ SM SF) {xs : Nat → Int32} {n : Nat} {KL : zP} (hL : zLw xs n SM KL) {i : Nat} (hi : i + 6 ≤ n) {u : Nat × Nat} {H A K : zHl} {kp : Int32} {tp : Nat → Int32} {tl : Nat} {T : Int32 × Int32 × Int32 × Int32} {S : Nat → zSh} {F as g ks ot : Nat → Int32} {R : Int32 × Int32 × Int32 × Int32} {mv : Nat → Int64} (J : Jn H K kp tl S ks) (kI : ∀ (H A K : zHl) (kp : Int32) (tp : Nat → Int32) (tl : Nat) (T : Int32 × Int32 × Int32 × Int32) (S : Nat → zSh) (F as g ks ot : Nat → Int32) (R : Int32 × Int32 × Int32 × Int32) (mv : Nat → Int64), Jn H K kp tl S ks → KL 1348 [some (.ref 3000), some (.ref 0), some (.ref 43), some (.int (nI i))] [] u (gh (H, A, K, kp, (tp, nI tl, T), S, F) (ec H.1, as, g, F, mq ks ot kp tp (nI tl, R) S mv))) : KL 691 [some (.ref 3000), some (.ref 0), some (.ref 43), some (.int (nI i))] [] u (gh (H, A, K, kp, (tp, nI tl, T), S, F) (ec H.1, as, g, F, mq ks ot kp tp (nI tl, R) S mv)) := by
  obtain ⟨hw, ht, hS, hK⟩ := J
  have kB : ∀ (A' : zHl), KL 705 [some (.ref 3000), some (.ref 0), some (.ref 43), some (.int (nI i))] [.int ((sp_well H.1 F (xs (i + 1)) (xs (i + 2))).1)] u (gh (((sp_well H.1 F (xs (i + 1)) (xs (i + 2))).2.1, H.2), A', K, kp, (tp, nI tl, T), S, (sp_well H.1 F (xs (i + 1)) (xs (i + 2))).2.2) (ec H.1, as, g, F, mq ks ot kp tp (nI tl, R) S mv)) := by
    intro A'
    refine zgoL hL 15 1348 18 rfl ?_
    refine ⟨i + 1, by omega, ia1 i, i + 2, by omega, ia2 i, ?_⟩
    refine m_well hZ hw (by omega) (fun as' g' => ?_)
    exact ⟨fun _ => kI ((sp_well H.1 F (xs (i + 1)) (xs (i + 2))).2.1, H.2) A' K kp tp tl T S (sp_well H.1 F (xs (i + 1)) (xs (i + 2))).2.2 as' g' ks ot R mv ⟨by rw [e_well]; exact hw, ht, hS, hK⟩, fun z => absurd rfl z⟩
  refine zgoL hL 15 705 13 rfl ?_
  refine ⟨i + 1, by omega, ia1 i, i + 2, by omega, ia2 i, ?_⟩
  exact c_well hZ hw (by omega) kB
set_option maxRecDepth 100000 in
set_option maxHeartbeats 1000000 in
theorem la_cold {SM : zC} {SF : Nat → zQ → zP} (hZ : zZ SM SF) {xs : Nat → Int32} {n : Nat} {KL : zP} (hL : zLw xs n SM KL) {i : Nat} (hi : i + 6 ≤ n) {u : Nat × Nat} {H A K : zHl} {kp : Int32} {tp : Nat → Int32} {tl : Nat} {T : Int32 × Int32 × Int32 × Int32} {S : Nat → zSh} {F as g ks ot : Nat → Int32} {R : Int32 × Int32 × Int32 × Int32} {mv : Nat → Int64} (J : Jn H K kp tl S ks) (kI : ∀ (H A K : zHl) (kp : Int32) (tp : Nat → Int32) (tl : Nat) (T : Int32 × Int32 × Int32 × Int32) (S : Nat → zSh) (F as g ks ot : Nat → Int32) (R : Int32 × Int32 × Int32 × Int32) (mv : Nat → Int64), Jn H K kp tl S ks → KL 1348 [some (.ref 3000), some (.ref 0), some (.ref 43), some (.int (nI i))] [] u (gh (H, A, K, kp, (tp, nI tl, T), S, F) (ec H.1, as, g, F, mq ks ot kp tp (nI tl, R) S mv))) : KL 724 [some (.ref 3000), some (.ref 0), some (.ref 43), some (.int (nI i))] [] u (gh (H, A, K, kp, (tp, nI tl, T), S, F) (ec H.1, as, g, F, mq ks ot kp tp (nI tl, R) S mv)) := by
  obtain ⟨hw, ht, hS, hK⟩ := J
  have kB : ∀ (A' : zHl), KL 733 [some (.ref 3000), some (.ref 0), some (.ref 43), some (.int (nI i))] [.int ((sp_cold H.1 F (xs (i + 1))).1)] u (gh (((sp_cold H.1 F (xs (i + 1))).2.1, H.2), A', K, kp, (tp, nI tl, T), S, (sp_cold H.1 F (xs (i + 1))).2.2) (ec H.1, as, g, F, mq ks ot kp tp (nI tl, R) S mv)) := by
    intro A'
    refine zgoL hL 16 1348 13 rfl ?_
    refine ⟨i + 1, by omega, ia1 i, ?_⟩
    refine m_cold hZ hw (by omega) (fun as' g' => ?_)
    exact ⟨fun _ => kI ((sp_cold H.1 F (xs (i + 1))).2.1, H.2) A' K kp tp tl T S (sp_cold H.1 F (xs (i + 1))).2.2 as' g' ks ot R mv ⟨by rw [e_cold]; exact hw, ht, hS, hK⟩, fun z => absurd rfl z⟩
  refine zgoL hL 16 733 8 rfl ?_
  refine ⟨i + 1, by omega, ia1 i, ?_⟩
  exact c_cold hZ hw (by omega) kB
set_option maxRecDepth 100000 in
set_option maxHeartbeats 1000000 in
theorem la_kind {SM : zC} {SF : Nat → zQ → zP} (hZ : zZ SM SF) {xs : Nat → Int32} {n : Nat} {KL : zP} (hL : zLw xs n SM KL) {i : Nat} (hi : i + 6 ≤ n) {u : Nat × Nat} {H A K : zHl} {kp : Int32} {tp : Nat → Int32} {tl : Nat} {T : Int32 × Int32 × Int32 × Int32} {S : Nat → zSh} {F as g ks ot : Nat → Int32} {R : Int32 × Int32 × Int32 × Int32} {mv : Nat → Int64} (J : Jn H K kp tl S ks) (kI : ∀ (H A K : zHl) (kp : Int32) (tp : Nat → Int32) (tl : Nat) (T : Int32 × Int32 × Int32 × Int32) (S : Nat → zSh) (F as g ks ot : Nat → Int32) (R : Int32 × Int32 × Int32 × Int32) (mv : Nat → Int64), Jn H K kp tl S ks → KL 1348 [some (.ref 3000), some (.ref 0), some (.ref 43), some (.int (nI i))] [] u (gh (H, A, K, kp, (tp, nI tl, T), S, F) (ec H.1, as, g, F, mq ks ot kp tp (nI tl, R) S mv))) : KL 747 [some (.ref 3000), some (.ref 0), some (.ref 43), some (.int (nI i))] [] u (gh (H, A, K, kp, (tp, nI tl, T), S, F) (ec H.1, as, g, F, mq ks ot kp tp (nI tl, R) S mv)) := by
  obtain ⟨hw, ht, hS, hK⟩ := J
  have kB : ∀ (A' : zHl), KL 761 [some (.ref 3000), some (.ref 0), some (.ref 43), some (.int (nI i))] [.int ((sp_kind H.1 F (xs (i + 1)) (xs (i + 2))).1)] u (gh (((sp_kind H.1 F (xs (i + 1)) (xs (i + 2))).2.1, H.2), A', K, kp, (tp, nI tl, T), S, (sp_kind H.1 F (xs (i + 1)) (xs (i + 2))).2.2) (ec H.1, as, g, F, mq ks ot kp tp (nI tl, R) S mv)) := by
    intro A'
    refine zgoL hL 17 1348 18 rfl ?_
    refine ⟨i + 1, by omega, ia1 i, i + 2, by omega, ia2 i, ?_⟩
    refine m_kind hZ hw (by omega) (fun as' g' => ?_)
    exact ⟨fun _ => kI ((sp_kind H.1 F (xs (i + 1)) (xs (i + 2))).2.1, H.2) A' K kp tp tl T S (sp_kind H.1 F (xs (i + 1)) (xs (i + 2))).2.2 as' g' ks ot R mv ⟨by rw [e_kind]; exact hw, ht, hS, hK⟩, fun z => absurd rfl z⟩
  refine zgoL hL 17 761 13 rfl ?_
  refine ⟨i + 1, by omega, ia1 i, i + 2, by omega, ia2 i, ?_⟩
  exact c_kind hZ hw (by omega) kB
set_option maxRecDepth 100000 in
set_option maxHeartbeats 1000000 in
theorem la_warm {SM : zC} {SF : Nat → zQ → zP} (hZ : zZ SM SF) {xs : Nat → Int32} {n : Nat} {KL : zP} (hL : zLw xs n SM KL) {i : Nat} (hi : i + 6 ≤ n) {u : Nat × Nat} {H A K : zHl} {kp : Int32} {tp : Nat → Int32} {tl : Nat} {T : Int32 × Int32 × Int32 × Int32} {S : Nat → zSh} {F as g ks ot : Nat → Int32} {R : Int32 × Int32 × Int32 × Int32} {mv : Nat → Int64} (J : Jn H K kp tl S ks) (kI : ∀ (H A K : zHl) (kp : Int32) (tp : Nat → Int32) (tl : Nat) (T : Int32 × Int32 × Int32 × Int32) (S : Nat → zSh) (F as g ks ot : Nat → Int32) (R : Int32 × Int32 × Int32 × Int32) (mv : Nat → Int64), Jn H K kp tl S ks → KL 1348 [some (.ref 3000), some (.ref 0), some (.ref 43), some (.int (nI i))] [] u (gh (H, A, K, kp, (tp, nI tl, T), S, F) (ec H.1, as, g, F, mq ks ot kp tp (nI tl, R) S mv))) : KL 780 [some (.ref 3000), some (.ref 0), some (.ref 43), some (.int (nI i))] [] u (gh (H, A, K, kp, (tp, nI tl, T), S, F) (ec H.1, as, g, F, mq ks ot kp tp (nI tl, R) S mv)) := by
  obtain ⟨hw, ht, hS, hK⟩ := J
  have kB : ∀ (A' : zHl), KL 799 [some (.ref 3000), some (.ref 0), some (.ref 43), some (.int (nI i))] [.int ((sp_warm H.1 F (xs (i + 1)) (xs (i + 2)) (xs (i + 3))).1)] u (gh (((sp_warm H.1 F (xs (i + 1)) (xs (i + 2)) (xs (i + 3))).2.1, H.2), A', K, kp, (tp, nI tl, T), S, (sp_warm H.1 F (xs (i + 1)) (xs (i + 2)) (xs (i + 3))).2.2) (ec H.1, as, g, F, mq ks ot kp tp (nI tl, R) S mv)) := by
    intro A'
    refine zgoL hL 18 1348 23 rfl ?_
    refine ⟨i + 1, by omega, ia1 i, i + 2, by omega, ia2 i, i + 3, by omega, ia3 i, ?_⟩
    refine m_warm hZ hw (by omega) (fun as' g' => ?_)
    exact ⟨fun _ => kI ((sp_warm H.1 F (xs (i + 1)) (xs (i + 2)) (xs (i + 3))).2.1, H.2) A' K kp tp tl T S (sp_warm H.1 F (xs (i + 1)) (xs (i + 2)) (xs (i + 3))).2.2 as' g' ks ot R mv ⟨by rw [e_warm]; exact hw, ht, hS, hK⟩, fun z => absurd rfl z⟩
  refine zgoL hL 18 799 18 rfl ?_
  refine ⟨i + 1, by omega, ia1 i, i + 2, by omega, ia2 i, i + 3, by omega, ia3 i, ?_⟩
  exact c_warm hZ hw (by omega) kB
