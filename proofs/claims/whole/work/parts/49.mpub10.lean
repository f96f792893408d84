/-! THE REFERENCE'S CALLS, tenth part: lays, book, read -/
abbrev wq (v : Int64) : Prop := 0 ≤ v ∧ v ≤ 99
def ly (σ : zS) (f : Nat → Int64) : Nat → zS
  | 0 => σ
  | k + 1 => if wq (f k) then s2 (ly σ f k) 1 k (f k).toInt32 else ly σ f k
def lyn (f : Nat → Int64) : Nat → Int32
  | 0 => 0
  | k + 1 => lyn f k + (if wq (f k) then 1 else 0)
def sp_lays (S : Nat → zSh) (σ : zS) (F : Nat → Int32) (s : Int32) : zA3 :=
  if 0 ≤ s ∧ s < 4 then (if (S (ix s)).1 = 0 then fnx (-1000000006) 5 σ F
    else (lyn (S (ix s)).2.2 (min (sz S (ix s)) (nn σ)), ly σ (S (ix s)).2.2 (min (sz S (ix s)) (nn σ)), F))
  else bey σ F
theorem ly_8 (σ : zS) (f : Nat → Int64) (k j : Nat) : ly σ f k 8 j = σ 8 j := by
  induction k with
  | zero => rfl
  | succ k ih =>
    unfold ly
    by_cases h : wq (f k)
    · rw [if_pos h, s2_o _ (Or.inl (by omega)), ih]
    · rw [if_neg h, ih]
set_option maxRecDepth 100000 in
set_option maxHeartbeats 400000 in
theorem m_lays_l {SM : zC} {SF : Nat → zQ → zP} (hZ : zZ SM SF) {Q : zQ} {x : zXs} {σ : zS} {as g F ks ot : Nat → Int32} {kp : Int32} {tp : Nat → Int32} {R : zR} {S : Nat → zSh} {mv : Nat → Int64} {D : Nat} (hw : wf D σ) (hS : wS S) {t : Nat} (ht : t < 4) {u : Int32} (k : Q (some (.int (lyn (S t).2.2 (min (sz S t) (nn σ))))) (gh x (ec (ly σ (S t).2.2 (min (sz S t) (nn σ))), as, g, F, mq ks ot kp tp R S mv))) :
    ∀ d j o, j + d = min (sz S t) (nn σ) → SF mn_M_lays Q 21 [some (.ref 43), some (.int (nI t)), some (.int u), some (.int (lyn (S t).2.2 j)), some (.int (nI j)), o] [] (0, 0) (gh x (ec (ly σ (S t).2.2 j), as, g, F, mq ks ot kp tp R S mv)) := by
  obtain ⟨hs1, hs2⟩ := hS t ht
  have h8 := hw.2.2.2.1.2
  have en : ∀ j, (ec (ly σ (S t).2.2 j) 2 : Int32) = nI (nn σ) := fun j => by rw [ec_c (by decide), ly_8, ← hw.2.2.2.1.1]
  intro d
  induction d with
  | zero =>
    intro j o hj
    have hj : j = min (sz S t) (nn σ) := by omega
    rw [← hj] at k
    refine zgo hZ 21 99 rfl ?_
    refine ⟨t, ht, rfl, fun hc => k, fun hc => ?_⟩
    have hc : ¬ (S t).2.1 ≤ nI j := hc
    rw [ile hs1 rfl (by omega) (by omega)] at hc
    refine ⟨2, by decide, rfl, fun hc => k, fun hc2 => ?_⟩
    have hc2 : ¬ ec (ly σ (S t).2.2 j) 2 ≤ nI j := hc2
    rw [ile (en j) rfl (by omega) (by omega)] at hc2
    omega
  | succ d ih =>
    intro j o hj
    refine zgo hZ 21 99 rfl ?_
    refine ⟨t, ht, rfl, fun hc => ?_, fun hc => ?_⟩
    · have hc : (S t).2.1 ≤ nI j := hc
      rw [ile hs1 rfl (by omega) (by omega)] at hc
      omega
    refine ⟨2, by decide, rfl, fun hc2 => ?_, fun hc2 => ?_⟩
    · have hc2 : ec (ly σ (S t).2.2 j) 2 ≤ nI j := hc2
      rw [ile (en j) rfl (by omega) (by omega)] at hc2
      omega
    refine ⟨40 * t + j, by omega, m40 t j, ?_⟩
    have en2 : nb S (40 * t + j) = (S t).2.2 j := nb_at S t (by omega)
    have es : ly σ (S t).2.2 (j + 1) = if wq ((S t).2.2 j) then s2 (ly σ (S t).2.2 j) 1 j ((S t).2.2 j).toInt32 else ly σ (S t).2.2 j := rfl
    have el : lyn (S t).2.2 (j + 1) = lyn (S t).2.2 j + (if wq ((S t).2.2 j) then 1 else 0) := rfl
    refine t_in hZ (fun h1 h2 => ?_) (fun h1 => ?_)
    · have hv : wq ((S t).2.2 j) := by
        rw [← en2]
        exact ⟨h1, h2⟩
      have h := ih (j + 1) (some (.int 1)) (by omega)
      rw [es, el, if_pos hv, if_pos hv, ← ec_ui (ly σ (S t).2.2 j) (i := j) (w := 1) (by omega) (by decide), ← nI_1, ← en2] at h
      refine t_spot hZ (w := 1) ?_
      refine ⟨nt, fun _ => ?_⟩
      refine ⟨40 * t + j, by omega, m40 t j, ?_⟩
      refine ⟨4 + 5 * j + 1, by omega, rfl, ?_⟩
      exact ⟨nt, fun _ => h⟩
    · have hv : ¬ wq ((S t).2.2 j) := by
        rw [← en2]
        exact h1
      have h := ih (j + 1) (some (.int 0)) (by omega)
      rw [es, el, if_neg hv, if_neg hv, ← s2_id (ly σ (S t).2.2 j) 1 j, ← ec_ui (ly σ (S t).2.2 j) (i := j) (w := 1) (by omega) (by decide), ← nI_1] at h
      refine t_spot hZ (w := 1) ?_
      refine ⟨fun _ => ?_, nf⟩
      refine t_its hZ (w := 1) (by omega) (by decide) ?_
      refine ⟨4 + 5 * j + 1, by omega, rfl, ?_⟩
      exact ⟨fun _ => h, nf⟩
set_option maxRecDepth 100000 in
set_option maxHeartbeats 400000 in
theorem m_lays {SM : zC} {SF : Nat → zQ → zP} (hZ : zZ SM SF) {Q : zQ} {x : zXs} {σ : zS} {as g F ks ot : Nat → Int32} {kp : Int32} {tp : Nat → Int32} {R : zR} {S : Nat → zSh} {mv : Nat → Int64} {D : Nat} (hw : wf D σ) (hS : wS S) {t : Int32} (k : Q (some (.int (sp_lays S σ F t).1)) (gh x (ec (sp_lays S σ F t).2.1, as, g, (sp_lays S σ F t).2.2, mq ks ot kp tp R S mv))) : SM mn_M_lays [.ref 43, .int t] (gh x (ec σ, as, g, F, mq ks ot kp tp R S mv)) Q := by
  unfold sp_lays at k
  refine zin hZ 21 99 rfl rfl rfl ?_
  refine m_wrongSheet hZ (fun h1 h2 => ?_) (fun h1 => ?_) (fun h1 h2 => ?_)
  · rw [if_pos h1, if_neg h2] at k
    refine ⟨fun _ => ?_, fun z => absurd rfl z⟩
    obtain ⟨a, ha, rfl⟩ := zIn4.mpr h1
    rw [ix_nI (by omega)] at k
    exact m_lays_l hZ hw hS ha k (min (sz S a) (nn σ)) 0 none (by omega)
  · rw [if_neg h1] at k
    refine ⟨fun z => absurd z (by decide), fun _ => ?_⟩
    exact t_finds hZ 0 (by decide) rfl k
  · rw [if_pos h1, if_pos h2] at k
    refine ⟨fun z => absurd z (by decide), fun _ => ?_⟩
    exact t_finds hZ 5 (by decide) rfl k
/-- the first j numbers as booked -/
def bkf (b : Int32) (f w : Nat → Int64) (j : Nat) : Nat → Int64 := fun l => if l < j then nrw b (w l) else f l
theorem bkf_s (b : Int32) (f w : Nat → Int64) (j : Nat) : vp_updL (bkf b f w j) j (nrw b (w j)) = bkf b f w (j + 1) := by
  funext l
  unfold vp_updL bkf
  by_cases h : l = j
  · subst h; rw [if_pos rfl, if_pos (by omega)]
  · rw [if_neg h]
    by_cases h2 : l < j
    · rw [if_pos h2, if_pos (by omega)]
    · rw [if_neg h2, if_neg (by omega)]
def bkS (S : Nat → zSh) (t : Nat) (w : Nat → Int64) (j : Nat) : Nat → zSh := shb S t ((S t).1, (S t).2.1, bkf (S t).1 (S t).2.2 w j)
theorem shb_shb (S : Nat → zSh) (t : Nat) (f f' : zSh) : shb (shb S t f) t f' = shb S t f' := by
  funext j
  unfold shb
  by_cases h : j = t
  · rw [if_pos h, if_pos h]
  · rw [if_neg h, if_neg h, if_neg h]
theorem shb_id (S : Nat → zSh) (t : Nat) : shb S t (S t) = S := by
  funext j
  unfold shb
  by_cases h : j = t
  · rw [if_pos h, h]
  · rw [if_neg h]
theorem bkS_0 (S : Nat → zSh) (t : Nat) (w : Nat → Int64) : bkS S t w 0 = S := by
  unfold bkS
  rw [show bkf (S t).1 (S t).2.2 w 0 = (S t).2.2 by funext l; unfold bkf; rw [if_neg (by omega)]]
  exact shb_id S t
theorem bkS_t (S : Nat → zSh) (t : Nat) (w : Nat → Int64) (j : Nat) : bkS S t w j t = ((S t).1, (S t).2.1, bkf (S t).1 (S t).2.2 w j) := shb_at S t _
theorem bkS_s (S : Nat → zSh) (t : Nat) (w : Nat → Int64) (j : Nat) : bkS S t w (j + 1) = shb (bkS S t w j) t ((bkS S t w j t).1, (bkS S t w j t).2.1, vp_updL (bkS S t w j t).2.2 j (nrw (bkS S t w j t).1 (w j))) := by
  rw [bkS_t]
  show bkS S t w (j + 1) = shb (bkS S t w j) t ((S t).1, (S t).2.1, vp_updL (bkf (S t).1 (S t).2.2 w j) j (nrw (S t).1 (w j)))
  rw [bkf_s]
  unfold bkS
  rw [shb_shb]
def sp_book (S : Nat → zSh) (σ : zS) (F : Nat → Int32) (s c : Int32) : zA4 :=
  if 0 ≤ s ∧ s < 4 then (if (S (ix s)).1 = 0 then (-1000000006, S, upd F 5 (F 5 + 1))
    else if inC σ c then ((S (ix s)).2.1, bkS S (ix s) (fun l => (sg σ l 6 (ix c)).toInt64) (sz S (ix s)), F) else (-1000000001, S, upd F 0 (F 0 + 1)))
  else (-1000000001, S, upd F 0 (F 0 + 1))
set_option maxRecDepth 100000 in
set_option maxHeartbeats 400000 in
theorem m_book_l {SM : zC} {SF : Nat → zQ → zP} (hZ : zZ SM SF) {Q : zQ} {x : zXs} {σ : zS} {g F ks ot : Nat → Int32} {kp : Int32} {tp : Nat → Int32} {R : zR} {S : Nat → zSh} {mv : Nat → Int64} {D : Nat} (hw : wf D σ) (hD : D ≤ 17000) (hS : wS S) {t c : Nat} (ht : t < 4) (hc : c < nc σ) {u : Int32} {w : Nat → Int64} (hwe : w = fun l => ((sus (σ, g, 0) l).1 6 c).toInt64)
    (k : ∀ g', Q (some (.int (S t).2.1)) (gh x (ec σ, ec σ, g', F, mq ks ot kp tp R (bkS S t w (sz S t)) mv))) :
    ∀ d j, j + d = sz S t → SF mn_M_book Q 38 [some (.ref 43), some (.int (nI t)), some (.int (nI c)), some (.int u), some (.int (nI j))] [] (0, 0) (gh x (ec (sus (σ, g, 0) j).1, ec σ, (sus (σ, g, 0) j).2.1, F, mq ks ot kp tp R (bkS S t w j) mv)) := by
  obtain ⟨hs1, hs2⟩ := hS t ht
  have h8 := hw.2.2.2.2.2
  have en : ∀ j, (bkS S t w j t).2.1 = nI (sz S t) := fun j => by rw [bkS_t]; exact hs1
  intro d
  induction d with
  | zero =>
    intro j hj
    have hj : j = sz S t := by omega
    subst hj
    refine zgo hZ 38 99 rfl ?_
    refine ⟨t, ht, rfl, fun hc => ?_, fun hc => ?_⟩
    · refine ⟨t, ht, rfl, ?_⟩
      refine t_takesBack (s := ec (sus (σ, g, 0) (sz S t)).1) (as := ec σ) (ks := ks) (ot := ot) (q := (mq ks ot kp tp R (bkS S t w (sz S t)) mv).2.2) (g := (sus (σ, g, 0) (sz S t)).2.1) (F := F) hZ ?_
      have k2 : ∀ g', Q (some (.int (bkS S t w (sz S t) t).2.1)) (gh x (ec σ, ec σ, g', F, mq ks ot kp tp R (bkS S t w (sz S t)) mv)) := by rw [en, ← hs1]; exact k
      exact k2 _
    · have hc : ¬ (bkS S t w (sz S t) t).2.1 ≤ nI (sz S t) := hc
      rw [ile (en _) rfl (by omega) (by omega)] at hc
      omega
  | succ d ih =>
    intro j hj
    refine zgo hZ 38 99 rfl ?_
    refine ⟨t, ht, rfl, fun hc => ?_, fun _ => ?_⟩
    · have hc : (bkS S t w j t).2.1 ≤ nI j := hc
      rw [ile (en _) rfl (by omega) (by omega)] at hc
      omega
    have hwj := (sus_wf (H := (σ, g, 0)) hw j (by omega)).1
    refine ⟨t, ht, rfl, ?_⟩
    refine t_theirs (σ := (sus (σ, g, 0) j).1) (r := (ec σ, (sus (σ, g, 0) j).2.1, F, mq ks ot kp tp R (bkS S t w j) mv)) hZ (w := 1) (by omega) (by decide) ?_
    refine m_narrowed hZ ?_
    refine ⟨40 * t + j, by omega, m40 t j, ?_⟩
    have h := ih (j + 1) (by omega)
    rw [← nI_1, bkS_s, mq_w ks ot kp tp R (bkS S t w j) mv t (j := j) (by omega), hwe] at h
    rw [hwe]
    refine t_sunday (H := sus (σ, g, 0) j) (as := ec σ) (F := F) (q := (ks, ot, kp, tp, R, fun s => ((bkS S t (fun l => ((sus (σ, g, 0) l).1 6 c).toInt64) j) s).1, fun s => ((bkS S t (fun l => ((sus (σ, g, 0) l).1 6 c).toInt64) j) s).2.1, vp_updL (nb (bkS S t (fun l => ((sus (σ, g, 0) l).1 6 c).toInt64) j)) (40 * t + j) (nrw ((bkS S t (fun l => ((sus (σ, g, 0) l).1 6 c).toInt64) j) t).1 ((sus (σ, g, 0) j).1 6 c).toInt64), mv)) (x := x) hZ hwj (by omega) ?_
    exact h
set_option maxRecDepth 100000 in
set_option maxHeartbeats 400000 in
theorem m_book {SM : zC} {SF : Nat → zQ → zP} (hZ : zZ SM SF) {Q : zQ} {x : zXs} {σ : zS} {as g F ks ot : Nat → Int32} {kp : Int32} {tp : Nat → Int32} {R : zR} {S : Nat → zSh} {mv : Nat → Int64} {D : Nat} (hw : wf D σ) (hD : D ≤ 17000) (hS : wS S) {t c : Int32} (k : ∀ as' g', Q (some (.int (sp_book S σ F t c).1)) (gh x (ec σ, as', g', (sp_book S σ F t c).2.2, mq ks ot kp tp R (sp_book S σ F t c).2.1 mv))) : SM mn_M_book [.ref 43, .int t, .int c] (gh x (ec σ, as, g, F, mq ks ot kp tp R S mv)) Q := by
  unfold sp_book at k
  refine zin hZ 38 99 rfl rfl rfl ?_
  refine m_wrongSheet hZ (fun h1 h2 => ?_) (fun h1 => ?_) (fun h1 h2 => ?_)
  · rw [if_pos h1, if_neg h2] at k
    refine ⟨fun _ => ?_, fun z => absurd rfl z⟩
    obtain ⟨a, ha, rfl⟩ := zIn4.mpr h1
    rw [ix_nI (by omega)] at k
    refine t_isCouple hZ hw.2.2.2.2.1 hw.2.2.2.2.2 (fun h3 => ⟨fun _ => ?_, nt⟩) (fun h3 => ⟨nf, fun _ => ?_⟩)
    · rw [if_pos ((inC_iff hw c).mpr h3)] at k
      obtain ⟨j, hj1, hj2, rfl, hj3⟩ := inC_get hw h3
      rw [hj3] at k
      have hwe : (fun l => (sg σ l 6 j).toInt64) = fun l => ((sus (σ, g, 0) l).1 6 j).toInt64 := by funext l; rw [sus_sg]
      rw [hwe] at k
      refine t_laysAside (s := ec σ) (as := as) (ks := ks) (ot := ot) (q := (mq ks ot kp tp R S mv).2.2) (g := g) (F := F) hZ ?_
      have h := m_book_l (g := g) (F := F) (ks := ks) (ot := ot) (kp := kp) (tp := tp) (R := R) (S := S) (mv := mv) (u := 0) hZ hw hD hS ha hj1 rfl (fun g' => k (ec σ) g') (sz S a) 0 (by omega)
      rw [bkS_0] at h
      exact h
    · rw [if_neg (fun z => h3 ((inC_iff hw c).mp z))] at k
      exact t_finds hZ 0 (by decide) rfl (k _ _)
  · rw [if_neg h1] at k
    refine ⟨fun z => absurd z (by decide), fun _ => ?_⟩
    exact t_finds hZ 0 (by decide) rfl (k _ _)
  · rw [if_pos h1, if_pos h2] at k
    refine ⟨fun z => absurd z (by decide), fun _ => ?_⟩
    exact t_finds hZ 5 (by decide) rfl (k _ _)
/-- is the sheet what the couple's WELL will be -/
abbrev isb (S : Nat → zSh) (t : Nat) (σ : zS) (c : Nat) : Prop := ∀ l, l < sz S t → (S t).2.2 l = (sg σ l 6 c).toInt64
set_option maxRecDepth 100000 in
set_option maxHeartbeats 400000 in
theorem t_isBook_l {SM : zC} {SF : Nat → zQ → zP} (hZ : zZ SM SF) {Q : zQ} {x : zXs} {σ : zS} {as g F ks ot : Nat → Int32} {kp : Int32} {tp : Nat → Int32} {R : zR} {S : Nat → zSh} {mv : Nat → Int64} {D : Nat} (hw : wf D σ) (hD : D ≤ 17000) (hS : wS S) {t c : Nat} (ht : t < 4) (hc : c < nc σ)
    (kt : isb S t σ c → ∀ s' g', Q (some (.int 1)) (gh x (s', as, g', F, mq ks ot kp tp R S mv))) (kf : ¬ isb S t σ c → ∀ s' g', Q (some (.int 0)) (gh x (s', as, g', F, mq ks ot kp tp R S mv))) :
    ∀ d j, j + d = sz S t → (∀ l, l < j → (S t).2.2 l = (sg σ l 6 c).toInt64) → SF mn_M_isBook Q 2 [some (.ref 43), some (.int (nI t)), some (.int (nI c)), some (.int (nI j))] [] (0, 0) (gh x (ec (sus (σ, g, 0) j).1, as, (sus (σ, g, 0) j).2.1, F, mq ks ot kp tp R S mv)) := by
  obtain ⟨hs1, hs2⟩ := hS t ht
  have h8 := hw.2.2.2.2.2
  intro d
  induction d with
  | zero =>
    intro j hj hl
    have hj : j = sz S t := by omega
    subst hj
    refine zgo hZ 2 99 rfl ?_
    refine ⟨t, ht, rfl, fun _ => ⟨Or.inr rfl, kt hl _ _⟩, fun hc => ?_⟩
    have hc : ¬ (S t).2.1 ≤ nI (sz S t) := hc
    rw [ile hs1 rfl (by omega) (by omega)] at hc
    omega
  | succ d ih =>
    intro j hj hl
    refine zgo hZ 2 99 rfl ?_
    refine ⟨t, ht, rfl, fun hc => ?_, fun _ => ?_⟩
    · have hc : (S t).2.1 ≤ nI j := hc
      rw [ile hs1 rfl (by omega) (by omega)] at hc
      omega
    have hwj := (sus_wf (H := (σ, g, 0)) hw j (by omega)).1
    refine ⟨40 * t + j, by omega, m40 t j, ?_⟩
    refine t_theirs (σ := (sus (σ, g, 0) j).1) (r := (as, (sus (σ, g, 0) j).2.1, F, mq ks ot kp tp R S mv)) hZ (w := 1) (by omega) (by decide) ?_
    have e1 : (sus (σ, g, 0) j).1 6 c = sg σ j 6 c := by rw [sus_sg]
    refine ⟨fun h1 => ?_, fun h1 => ?_⟩
    · have h1 : nb S (40 * t + j) = ((sus (σ, g, 0) j).1 6 c).toInt64 := (lcmp_eq _ _).mp h1
      rw [nb_at S t (by omega), e1] at h1
      have h := ih (j + 1) (by omega) (fun l hl2 => by
        rcases Nat.lt_or_ge l j with h3 | h3
        · exact hl l h3
        · rw [show l = j by omega]; exact h1)
      rw [← nI_1] at h
      exact t_sunday (H := sus (σ, g, 0) j) hZ hwj (by omega) h
    · have h1 : ¬ nb S (40 * t + j) = ((sus (σ, g, 0) j).1 6 c).toInt64 := fun z => h1 ((lcmp_eq _ _).mpr z)
      rw [nb_at S t (by omega), e1] at h1
      exact ⟨Or.inl rfl, kf (fun z => h1 (z j (by omega))) _ _⟩
theorem t_isBook {SM : zC} {SF : Nat → zQ → zP} (hZ : zZ SM SF) {Q : zQ} {x : zXs} {σ : zS} {as g F ks ot : Nat → Int32} {kp : Int32} {tp : Nat → Int32} {R : zR} {S : Nat → zSh} {mv : Nat → Int64} {D : Nat} (hw : wf D σ) (hD : D ≤ 17000) (hS : wS S) {t c : Nat} (ht : t < 4) (hc : c < nc σ)
    (kt : isb S t σ c → ∀ s' g', Q (some (.int 1)) (gh x (s', as, g', F, mq ks ot kp tp R S mv))) (kf : ¬ isb S t σ c → ∀ s' g', Q (some (.int 0)) (gh x (s', as, g', F, mq ks ot kp tp R S mv))) : SM mn_M_isBook [.ref 43, .int (nI t), .int (nI c)] (gh x (ec σ, as, g, F, mq ks ot kp tp R S mv)) Q := by
  refine zin hZ 2 99 rfl rfl rfl ?_
  exact t_isBook_l (g := g) hZ hw hD hS ht hc kt kf (sz S t) 0 (by omega) (fun l hl => by omega)
/-- kind and loudness, as a pair -/
def rdσ (σ : zS) (i c p : Nat) : zS := s2 (s2 σ 0 i (nI (p / 10))) 5 c (nI (p % 10))
def rdn (S : Nat → zSh) (t : Nat) (σ : zS) (i c : Nat) : Nat → Int32
  | 0 => 0
  | p + 1 => rdn S t σ i c p + (if isb S t (rdσ σ i c p) c then 1 else 0)
def sp_read (S : Nat → zSh) (σ : zS) (F : Nat → Int32) (s c i : Int32) : zA3 :=
  if 0 ≤ s ∧ s < 4 then (if (S (ix s)).1 = 0 then fnx (-1000000006) 5 σ F
    else if inC σ c ∧ inI σ i then (rdn S (ix s) σ (ix i) (ix c) 60, σ, F) else bey σ F)
  else bey σ F
theorem rd_wf {D : Nat} {σ : zS} (hw : wf D σ) {i c p : Nat} (hp : p < 60) : wf D (rdσ σ i c p) ∧ nc (rdσ σ i c p) = nc σ := by
  refine ⟨wf_s2 (wf_s2 hw (by decide) ?_) (by decide) ?_, ?_⟩
  · rw [nI_toInt (by omega)]
    show (0 : Int) ≤ _ ∧ _ ≤ (5 : Int)
    omega
  · rw [nI_toInt (by omega)]
    show (0 : Int) ≤ _ ∧ _ ≤ (9 : Int)
    omega
  · unfold nc rdσ
    rw [s2_n _ (by omega), s2_n _ (by omega)]
theorem d60 : ∀ p, p < 60 → nI p / 10 = nI (p / 10) ∧ nI p - nI p / 10 * 10 = nI (p % 10) := by decide
set_option maxRecDepth 100000 in
set_option maxHeartbeats 400000 in
theorem m_read_l {SM : zC} {SF : Nat → zQ → zP} (hZ : zZ SM SF) {Q : zQ} {x : zXs} {σ : zS} {F ks ot : Nat → Int32} {kp : Int32} {tp : Nat → Int32} {R : zR} {S : Nat → zSh} {mv : Nat → Int64} {D : Nat} (hw : wf D σ) (hD : D ≤ 17000) (hS : wS S) {t c i : Nat} (ht : t < 4) (hc : c < nc σ) (hi : i < 8) {u : Int32} (k : ∀ g', Q (some (.int (rdn S t σ i c 60))) (gh x (ec σ, ec σ, g', F, mq ks ot kp tp R S mv))) :
    ∀ d p g, p + d = 60 → SF mn_M_read Q 52 [some (.ref 43), some (.int (nI t)), some (.int (nI c)), some (.int (nI i)), some (.int u), some (.int (rdn S t σ i c p)), some (.int (nI p))] [] (0, 0) (gh x (ec σ, ec σ, g, F, mq ks ot kp tp R S mv)) := by
  have h8 := hw.2.2.2.2.2
  intro d
  induction d with
  | zero =>
    intro p g hp
    have hp : p = 60 := by omega
    subst hp
    refine zgo hZ 52 99 rfl ?_
    exact ⟨fun _ => k _, fun hc => absurd (show (60 : Int32) ≤ nI 60 by decide) hc⟩
  | succ d ih =>
    intro p g hp
    refine zgo hZ 52 99 rfl ?_
    refine ⟨fun hc => ?_, fun _ => ?_⟩
    · have := (ile (a := 60) (m := 60) rfl rfl (by omega) (by omega)).mp hc
      omega
    obtain ⟨e1, e2⟩ := d60 p (by omega)
    obtain ⟨w1, w2⟩ := rd_wf hw (i := i) (c := c) (p := p) (by omega)
    have ih2 := fun g => ih (p + 1) g (by omega)
    refine t_spot hZ (w := 0) ?_
    refine ⟨by decide, 4 + 5 * i + 0, by omega, rfl, ?_⟩
    refine t_cspot hZ (w := 0) ?_
    refine ⟨by decide, 44 + 3 * c + 0, by omega, rfl, ?_⟩
    have es : upd (upd (ec σ) (4 + 5 * i + 0) (nI p / 10)) (44 + 3 * c + 0) (nI p - nI p / 10 * 10) = ec (rdσ σ i c p) := by
      rw [e1, show nI p - nI (p / 10) * 10 = nI (p % 10) by rw [← e1]; exact e2, ec_ui σ hi (by decide), ec_up _ (by decide)]
      rfl
    have key : ∀ (T : zP), True := fun _ => trivial
    show SM mn_M_isBook [.ref 43, .int (nI t), .int (nI c)] (gh x (upd (upd (ec σ) (4 + 5 * i + 0) (nI p / 10)) (44 + 3 * c + 0) (nI p - nI p / 10 * 10), ec σ, g, F, mq ks ot kp tp R S mv)) _
    rw [es]
    refine t_isBook hZ w1 hD hS ht (by rw [w2]; exact hc) (fun hb s' g' => ⟨nt, fun _ => ?_⟩) (fun hb s' g' => ⟨fun _ => ?_, nf⟩)
    · refine t_takesBack (s := s') (as := ec σ) (ks := ks) (ot := ot) (q := (mq ks ot kp tp R S mv).2.2) (g := g') (F := F) hZ ?_
      have h := ih2 g'
      rw [← nI_1, show rdn S t σ i c (p + 1) = rdn S t σ i c p + (if isb S t (rdσ σ i c p) c then 1 else 0) from rfl, if_pos hb] at h
      exact h
    · refine t_takesBack (s := s') (as := ec σ) (ks := ks) (ot := ot) (q := (mq ks ot kp tp R S mv).2.2) (g := g') (F := F) hZ ?_
      have h := ih2 g'
      rw [← nI_1, show rdn S t σ i c (p + 1) = rdn S t σ i c p + (if isb S t (rdσ σ i c p) c then 1 else 0) from rfl, if_neg hb] at h
      exact h
set_option maxRecDepth 100000 in
set_option maxHeartbeats 400000 in
theorem m_read {SM : zC} {SF : Nat → zQ → zP} (hZ : zZ SM SF) {Q : zQ} {x : zXs} {σ : zS} {as g F ks ot : Nat → Int32} {kp : Int32} {tp : Nat → Int32} {R : zR} {S : Nat → zSh} {mv : Nat → Int64} {D : Nat} (hw : wf D σ) (hD : D ≤ 17000) (hS : wS S) {t c i : Int32} (k : ∀ as' g', Q (some (.int (sp_read S σ F t c i).1)) (gh x (ec (sp_read S σ F t c i).2.1, as', g', (sp_read S σ F t c i).2.2, mq ks ot kp tp R S mv))) : SM mn_M_read [.ref 43, .int t, .int c, .int i] (gh x (ec σ, as, g, F, mq ks ot kp tp R S mv)) Q := by
  unfold sp_read at k
  refine zin hZ 52 99 rfl rfl rfl ?_
  refine m_wrongSheet hZ (fun h1 h2 => ?_) (fun h1 => ?_) (fun h1 h2 => ?_)
  · rw [if_pos h1, if_neg h2] at k
    refine ⟨fun _ => ?_, fun z => absurd rfl z⟩
    obtain ⟨a, ha, rfl⟩ := zIn4.mpr h1
    rw [ix_nI (by omega)] at k
    refine t_isCouple hZ hw.2.2.2.2.1 hw.2.2.2.2.2 (fun h3 => ⟨nt, fun _ => ?_⟩) (fun h3 => ⟨fun _ => ?_, nf⟩)
    · refine t_isInlaw hZ hw.2.2.2.1.1 hw.2.2.2.1.2 (fun h4 => ⟨fun _ => ?_, nt⟩) (fun h4 => ⟨nf, fun _ => ?_⟩)
      · rw [if_pos ⟨(inC_iff hw c).mpr h3, (inI_iff hw i).mpr h4⟩] at k
        obtain ⟨j, hj1, hj2, rfl, hj3⟩ := inC_get hw h3
        obtain ⟨l, hl1, hl2, rfl, hl3⟩ := inI_get hw h4
        rw [hj3, hl3] at k
        refine t_laysAside (s := ec σ) (as := as) (ks := ks) (ot := ot) (q := (mq ks ot kp tp R S mv).2.2) (g := g) (F := F) hZ ?_
        exact m_read_l hZ hw hD hS ha hj1 hl2 (fun g' => k (ec σ) g') 60 0 g (by omega)
      · rw [if_neg (fun z => h4 ((inI_iff hw i).mp z.2))] at k
        exact t_finds hZ 0 (by decide) rfl (k _ _)
    · rw [if_neg (fun z => h3 ((inC_iff hw c).mp z.1))] at k
      exact t_finds hZ 0 (by decide) rfl (k _ _)
  · rw [if_neg h1] at k
    refine ⟨fun z => absurd z (by decide), fun _ => ?_⟩
    exact t_finds hZ 0 (by decide) rfl (k _ _)
  · rw [if_pos h1, if_pos h2] at k
    refine ⟨fun z => absurd z (by decide), fun _ => ?_⟩
    exact t_finds hZ 5 (by decide) rfl (k _ _)
