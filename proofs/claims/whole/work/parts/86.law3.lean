/-! THE LAW: its loop, its start (by program) -/
set_option maxRecDepth 100000 in
set_option maxHeartbeats 4000000 in
theorem la_27 {SM : zC} {SF : Nat → zQ → zP} (hZ : zZ SM SF) {xs : Nat → Int32} {n : Nat} {KL : zP} (hL : zLw xs n SM KL) {i : Nat} (hi : i + 6 ≤ n) (kI : ∀ (H A K : zHl) (kp : Int32) (tp : Nat → Int32) (tl : Nat) (T : Int32 × Int32 × Int32 × Int32) (S : Nat → zSh) (F as g ks ot : Nat → Int32) (R : Int32 × Int32 × Int32 × Int32) (mv : Nat → Int64), Jn H K kp tl S ks → KL 1348 [some (.ref 3000), some (.ref 0), some (.ref 43), some (.int (nI i))] [] (55, 1206) (gh (H, A, K, kp, (tp, nI tl, T), S, F) (ec H.1, as, g, F, mq ks ot kp tp (nI tl, R) S mv))) : ∀ (H A K : zHl) (kp : Int32) (tp : Nat → Int32) (tl : Nat) (T : Int32 × Int32 × Int32 × Int32) (S : Nat → zSh) (F as g ks ot : Nat → Int32) (R : Int32 × Int32 × Int32 × Int32) (mv : Nat → Int64), Jn H K kp tl S ks → KL 27 [some (.ref 3000), some (.ref 0), some (.ref 43), some (.int (nI i))] [] (55, 1206) (gh (H, A, K, kp, (tp, nI tl, T), S, F) (ec H.1, as, g, F, mq ks ot kp tp (nI tl, R) S mv)) := by
  intro H A K kp tp tl T S F as g ks ot R mv J
  refine zgoL hL 37 999 5 rfl ?_
  refine ⟨i, by omega, rfl, ?_⟩
  exact ⟨fun _ => la_fire hZ hL hi J kI, fun _ => ⟨fun _ => la_now hZ hL hi J kI, fun _ => ⟨fun _ => la_inlaw hZ hL hi J kI, fun _ => ⟨fun _ => la_of hZ hL hi J kI, fun _ => ⟨fun _ => la_with hZ hL hi J kI, fun _ => ⟨fun _ => la_set hZ hL hi J kI, fun _ => ⟨fun _ => la_turn hZ hL hi J kI, fun _ => ⟨fun _ => la_as hZ hL hi J kI, fun _ => ⟨fun _ => la_couple hZ hL hi J kI, fun _ => ⟨fun _ => la_coupleOf hZ hL hi J kI, fun _ => ⟨fun _ => la_give hZ hL hi J kI, fun _ => ⟨fun _ => la_sundays hZ hL hi J kI, fun _ => ⟨fun _ => la_on hZ hL hi J kI, fun _ => ⟨fun _ => la_then hZ hL hi J kI, fun _ => ⟨fun _ => la_meets hZ hL hi J kI, fun _ => ⟨fun _ => la_well hZ hL hi J kI, fun _ => ⟨fun _ => la_cold hZ hL hi J kI, fun _ => ⟨fun _ => la_kind hZ hL hi J kI, fun _ => ⟨fun _ => la_warm hZ hL hi J kI, fun _ => ⟨fun _ => la_sit hZ hL hi J kI, fun _ => ⟨fun _ => la_loud hZ hL hi J kI, fun _ => ⟨fun _ => la_stoke hZ hL hi J kI, fun _ => ⟨fun _ => la_lonely hZ hL hi J kI, fun _ => ⟨fun _ => la_feed hZ hL hi J kI, fun _ => ⟨fun _ => la_wipe hZ hL hi J kI, fun _ => ⟨fun _ => la_institute hZ hL hi J kI, fun _ => ⟨fun _ => la_sheet hZ hL hi J kI, fun _ => ⟨fun _ => la_write hZ hL hi J kI, fun _ => ⟨fun _ => la_copy hZ hL hi J kI, fun _ => ⟨fun _ => la_lays hZ hL hi J kI, fun _ => ⟨fun _ => la_book hZ hL hi J kI, fun _ => ⟨fun _ => la_read hZ hL hi J kI, fun _ => ⟨fun _ => la_image hZ hL hi J kI, fun _ => ⟨fun _ => la_undo hZ hL hi J kI, fun _ => ⟨fun _ => la_tear hZ hL hi J kI, fun _ => ⟨fun _ => la_count hZ hL hi J kI, fun _ => ⟨fun _ => la_status hZ hL hi J kI, fun _ => kI H A K kp tp tl T S F as g ks ot R mv J⟩⟩⟩⟩⟩⟩⟩⟩⟩⟩⟩⟩⟩⟩⟩⟩⟩⟩⟩⟩⟩⟩⟩⟩⟩⟩⟩⟩⟩⟩⟩⟩⟩⟩⟩⟩⟩
set_option maxRecDepth 100000 in
set_option maxHeartbeats 1000000 in
theorem la_18 {SM : zC} {SF : Nat → zQ → zP} (hZ : zZ SM SF) {xs : Nat → Int32} {n : Nat} {KL : zP} (hL : zLw xs n SM KL) (hn : n ≤ 3072) {i : Nat} (hi : i ≤ n) (kI : i + 6 ≤ n → ∀ (H A K : zHl) (kp : Int32) (tp : Nat → Int32) (tl : Nat) (T : Int32 × Int32 × Int32 × Int32) (S : Nat → zSh) (F as g ks ot : Nat → Int32) (R : Int32 × Int32 × Int32 × Int32) (mv : Nat → Int64), Jn H K kp tl S ks → KL 27 [some (.ref 3000), some (.ref 0), some (.ref 43), some (.int (nI i))] [] (55, 1206) (gh (H, A, K, kp, (tp, nI tl, T), S, F) (ec H.1, as, g, F, mq ks ot kp tp (nI tl, R) S mv))) : ∀ (H A K : zHl) (kp : Int32) (tp : Nat → Int32) (tl : Nat) (T : Int32 × Int32 × Int32 × Int32) (S : Nat → zSh) (F as g ks ot : Nat → Int32) (R : Int32 × Int32 × Int32 × Int32) (mv : Nat → Int64), Jn H K kp tl S ks → KL 18 [some (.ref 3000), some (.ref 0), some (.ref 43), some (.int (nI i))] [] (55, 1206) (gh (H, A, K, kp, (tp, nI tl, T), S, F) (ec H.1, as, g, F, mq ks ot kp tp (nI tl, R) S mv)) := by
  intro H A K kp tp tl T S F as g ks ot R mv J
  have e6 : (6 : Int32).toInt = 6 := by decide
  have e : (nI n - 6).toInt = (n : Int) - 6 := by rw [zsub (by rw [nI_toInt (by omega), e6]; omega) (by rw [nI_toInt (by omega), e6]; omega), nI_toInt (by omega), e6]
  by_cases hc : i + 6 ≤ n
  · have k := kI hc H A K kp tp tl T S F as g ks ot R mv J
    refine zgoL hL 37 27 8 rfl ?_
    refine ⟨fun z => ?_, fun _ => k⟩
    have z : nI n - 6 < nI i := z
    rw [zlt, e, nI_toInt (by omega)] at z
    omega
  · refine zgoL hL 37 999 10 rfl ?_
    refine ⟨fun _ => ⟨Or.inr rfl, rfl⟩, fun z => ?_⟩
    have z : ¬ nI n - 6 < nI i := z
    rw [zlt, e, nI_toInt (by omega)] at z
    omega
theorem la_1348 {SM : zC} {xs : Nat → Int32} {n : Nat} {KL : zP} (hL : zLw xs n SM KL) {i : Nat} {u : Nat × Nat} {h : zH} (k : KL 18 [some (.ref 3000), some (.ref 0), some (.ref 43), some (.int (nI (i + 6)))] [] u h) : KL 1348 [some (.ref 3000), some (.ref 0), some (.ref 43), some (.int (nI i))] [] u h := by
  rw [← ia6] at k
  refine zgoL hL 37 18 4 rfl ?_
  exact k
theorem la_loop {SM : zC} {SF : Nat → zQ → zP} (hZ : zZ SM SF) {xs : Nat → Int32} {n : Nat} {KL : zP} (hL : zLw xs n SM KL) (hn : n ≤ 3072) : ∀ d i, i ≤ n → n < i + 6 * d → ∀ (H A K : zHl) (kp : Int32) (tp : Nat → Int32) (tl : Nat) (T : Int32 × Int32 × Int32 × Int32) (S : Nat → zSh) (F as g ks ot : Nat → Int32) (R : Int32 × Int32 × Int32 × Int32) (mv : Nat → Int64), Jn H K kp tl S ks → KL 18 [some (.ref 3000), some (.ref 0), some (.ref 43), some (.int (nI i))] [] (55, 1206) (gh (H, A, K, kp, (tp, nI tl, T), S, F) (ec H.1, as, g, F, mq ks ot kp tp (nI tl, R) S mv))
  | 0, i, h1, h2 => by omega
  | d + 1, i, h1, h2 => la_18 hZ hL hn h1 (fun hc => la_27 hZ hL hc (fun H A K kp tp tl T S F as g ks ot R mv J => la_1348 hL (la_loop hZ hL hn d (i + 6) hc (by omega) H A K kp tp tl T S F as g ks ot R mv J)))
set_option maxRecDepth 100000 in
set_option maxHeartbeats 4000000 in
theorem la_start {SM : zC} {SF : Nat → zQ → zP} (hZ : zZ SM SF) {xs : Nat → Int32} {n : Nat} {KL : zP} (hL : zLw xs n SM KL) (hn : n ≤ 3072) : KL 0 [some (.ref 3000), none, none, none] [] (0, 0) [] := by
  have k18 : KL 18 [some (.ref 3000), some (.ref 0), some (.ref 43), some (.int (nI 0))] [] (55, 1206) (gh x0 m0) := la_loop hZ hL hn 513 0 (Nat.zero_le _) (by omega) hl0 hl0 hl0 0 (fun _ => 0) 0 (0, 0, 0, 0) sh0' (fun _ => 0) (fun _ => 0) (fun _ => 0) (fun _ => 0) (fun _ => 0) (0, 0, 0, 0) (fun _ => 0) ⟨wf_zs0, Nat.zero_le _, wS_0, Or.inl rfl⟩
  have k8 : KL 8 [some (.ref 3000), some (.ref 0), none, none] [] (43, 574) (gX x0) := by
    refine zgoL hL 37 18 8 rfl ?_
    refine ⟨rfl, rfl, ?_⟩
    refine ci_M hZ ?_
    exact k18
  refine zgoL hL 37 8 6 rfl ?_
  refine ⟨rfl, rfl, ?_⟩
  refine ci_X hZ ?_
  exact k8
