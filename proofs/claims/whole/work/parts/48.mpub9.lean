/-! THE REFERENCE'S CALLS, ninth part: sheets -/
def shb (S : Nat → zSh) (s : Nat) (f : zSh) : Nat → zSh := fun t => if t = s then f else S t
theorem shb_at (S : Nat → zSh) (s : Nat) (f : zSh) : shb S s f s = f := by simp [shb]
theorem shb_o (S : Nat → zSh) {s t : Nat} (f : zSh) (h : t ≠ s) : shb S s f t = S t := by simp [shb, h]
/-- what always holds of sheets: bits, and a size up to 40 -/
def sz (S : Nat → zSh) (s : Nat) : Nat := (S s).2.1.toNatClampNeg
def wS (S : Nat → zSh) : Prop := ∀ s, s < 4 → (S s).2.1 = nI (sz S s) ∧ sz S s ≤ 40
theorem m_isOne {SM : zC} {SF : Nat → zQ → zP} (hZ : zZ SM SF) {Q : zQ} {h : zH} {i : Int32} (kt : zIn i 4 → Q (some (.int 1)) h) (kf : ¬ zIn i 4 → Q (some (.int 0)) h) : SM mn_M_isOne [.int i] h Q := by
  refine zin hZ 999 50 rfl rfl rfl ?_
  exact t_inI hZ i 0 3 rfl (by decide) (by decide) (fun h1 h2 => ⟨Or.inr rfl, kt ((zIn_iff (by omega)).mpr ⟨h1, h2⟩)⟩) (fun h1 => ⟨Or.inl rfl, kf (fun z => h1 ((zIn_iff (n := 4) (by omega)).mp z))⟩)
/-- cut to so many bits -/
def nrw (b : Int32) (v : Int64) : Int64 := if b = 8 then v.toInt32.toInt8.toInt32.toInt64 else if b = 16 then v.toInt32.toInt16.toInt32.toInt64 else v
theorem m_narrowed {SM : zC} {SF : Nat → zQ → zP} (hZ : zZ SM SF) {Q : zQ} {h : zH} {b : Int32} {v : Int64} (k : Q (some (.long (nrw b v))) h) : SM mn_M_narrowed [.int b, .long v] h Q := by
  unfold nrw at k
  refine zin hZ 999 50 rfl rfl rfl ?_
  refine ⟨fun h1 => ⟨fun h2 => ?_, fun h2 => ?_⟩, fun h1 => ?_⟩
  · rw [if_neg (show ¬ b = 8 from h1), if_neg (show ¬ b = 16 from h2)] at k
    exact k
  · rw [if_neg (show ¬ b = 8 from h1), if_pos (show b = 16 from h2)] at k
    exact k
  · rw [if_pos (show b = 8 from h1)] at k
    exact k
/-- a sheet that isn't there, or is missing -/
def wsh (S : Nat → zSh) (s : Int32) : Int32 := if 0 ≤ s ∧ s < 4 then (if (S (ix s)).1 = 0 then -1000000006 else 0) else -1000000001
theorem zIn4 {i : Int32} : zIn i 4 ↔ 0 ≤ i ∧ i < 4 := zIn_lt (n := 4) (by omega)
set_option maxRecDepth 100000 in
set_option maxHeartbeats 400000 in
theorem m_wrongSheet {SM : zC} {SF : Nat → zQ → zP} (hZ : zZ SM SF) {Q : zQ} {x : zXs} {s as g F ks ot : Nat → Int32} {kp : Int32} {tp : Nat → Int32} {R : zR} {S : Nat → zSh} {mv : Nat → Int64} {t : Int32} (k1 : (0 ≤ t ∧ t < 4) → ¬ (S (ix t)).1 = 0 → Q (some (.int 0)) (gh x (s, as, g, F, mq ks ot kp tp R S mv))) (k2 : ¬ (0 ≤ t ∧ t < 4) → Q (some (.int (-1000000001))) (gh x (s, as, g, F, mq ks ot kp tp R S mv))) (k3 : (0 ≤ t ∧ t < 4) → (S (ix t)).1 = 0 → Q (some (.int (-1000000006))) (gh x (s, as, g, F, mq ks ot kp tp R S mv))) : SM mn_M_wrongSheet [.ref 43, .int t] (gh x (s, as, g, F, mq ks ot kp tp R S mv)) Q := by
  refine zin hZ 999 50 rfl rfl rfl ?_
  refine m_isOne hZ (fun h => ?_) (fun h => ?_)
  · obtain ⟨j, hj, rfl⟩ := h
    have h1 : (0 : Int32) ≤ nI j ∧ nI j < 4 := zIn4.mp ⟨j, hj, rfl⟩
    rw [ix_nI (by omega)] at k1 k3
    refine ⟨fun _ => ?_, nt⟩
    refine ⟨j, hj, rfl, ?_⟩
    exact ⟨fun h2 => k1 h1 h2, fun h2 => k3 h1 h2⟩
  · exact ⟨nf, fun _ => k2 (fun z => h (zIn4.mpr z))⟩
abbrev zA4 : Type := Int32 × (Nat → zSh) × (Nat → Int32)
def sp_sheet (S : Nat → zSh) (F : Nat → Int32) (s b m : Int32) : zA4 :=
  if (0 ≤ s ∧ s < 4) ∧ (b = 0 ∨ b = 8 ∨ b = 16 ∨ b = 64) then
    (if m < 0 then (-1000000007, S, upd F 6 (F 6 + 1)) else if 40 < m then (-1000000001, S, upd F 0 (F 0 + 1))
     else ((if b = 0 then 0 else m), shb S (ix s) (b, (if b = 0 then 0 else m), fun _ => 0), F))
  else (-1000000001, S, upd F 0 (F 0 + 1))
/-- places 40 s .. 40 s + k - 1 are 0 -/
def nz (N : Nat → Int64) (s k : Nat) : Nat → Int64 := fun j => if 40 * s ≤ j ∧ j < 40 * s + k then 0 else N j
theorem nz_0 (N : Nat → Int64) (s : Nat) : nz N s 0 = N := by funext j; unfold nz; rw [if_neg (by omega)]
theorem nz_s (N : Nat → Int64) (s k : Nat) : vp_updL (nz N s k) (40 * s + k) 0 = nz N s (k + 1) := by
  funext j
  unfold vp_updL nz
  by_cases h : j = 40 * s + k
  · subst h; rw [if_pos rfl, if_pos (by omega)]
  · rw [if_neg h]
    by_cases h2 : 40 * s ≤ j ∧ j < 40 * s + k
    · rw [if_pos h2, if_pos (by omega)]
    · rw [if_neg h2, if_neg (by omega)]
/-- the reference with its sheets laid open -/
theorem eH_N {x : zXs} {s as g F ks ot : Nat → Int32} {kp : Int32} {tp : Nat → Int32} {R : zR} {B B' Z Z' : Nat → Int32} {N N' mv mv' : Nat → Int64} (h1 : ∀ j, j < 4 → B j = B' j) (h2 : ∀ j, j < 4 → Z j = Z' j) (h3 : ∀ j, j < 160 → N j = N' j) (h4 : ∀ j, j < 40 → mv j = mv' j) : zm_eH (gh x (s, as, g, F, ks, ot, kp, tp, R, B, Z, N, mv)) (gh x (s, as, g, F, ks, ot, kp, tp, R, B', Z', N', mv')) :=
  eH_app (zm_eH_rfl _) ⟨zm_eA_rfl _, zm_eA_rfl _, zm_eA_rfl _, zm_eA_rfl _, zm_eA_rfl _, zm_eA_rfl _, zm_eA_rfl _, zm_eA_rfl _, eA_i h1, eA_i h2, eA_l h3, eA_l h4, trivial⟩
theorem m40 (s j : Nat) : (40 : Int32) * nI s + nI j = nI (40 * s + j) := by rw [show (40 : Int32) = nI 40 from rfl, pk_mul, nI_add]
theorem nz_nb (S : Nat → zSh) {t : Nat} (b v : Int32) {j : Nat} (hj : j < 160) : nz (nb S) t 40 j = nb (shb S t (b, v, fun _ => 0)) j := by
  unfold nz nb
  by_cases h : j / 40 = t
  · rw [if_pos (by omega), h, shb_at]
  · rw [if_neg (by omega), shb_o S _ h]
theorem shb_b (S : Nat → zSh) (t : Nat) (b v : Int32) (f : Nat → Int64) (j : Nat) : upd (fun s => (S s).1) t b j = (shb S t (b, v, f) j).1 := by
  unfold upd shb
  by_cases h : j = t
  · rw [if_pos h, if_pos h]
  · rw [if_neg h, if_neg h]
theorem shb_z (S : Nat → zSh) (t : Nat) (b v : Int32) (f : Nat → Int64) (j : Nat) : upd (fun s => (S s).2.1) t v j = (shb S t (b, v, f) j).2.1 := by
  unfold upd shb
  by_cases h : j = t
  · rw [if_pos h, if_pos h]
  · rw [if_neg h, if_neg h]
set_option maxRecDepth 100000 in
set_option maxHeartbeats 400000 in
theorem m_sheet_l {SM : zC} {SF : Nat → zQ → zP} (hZ : zZ SM SF) {Q : zQ} {x : zXs} {s as g F ks ot : Nat → Int32} {kp : Int32} {tp : Nat → Int32} {R : zR} {S : Nat → zSh} {mv : Nat → Int64} {t : Nat} {b m v : Int32} (ht : t < 4) (k : Q (some (.int v)) (gh x (s, as, g, F, mq ks ot kp tp R (shb S t (b, v, fun _ => 0)) mv))) : ∀ d j, j + d = 40 → SF mn_M_sheet Q 86 [some (.ref 43), some (.int (nI t)), some (.int b), some (.int m), some (.int (nI j))] [] (0, 0) (gh x (s, as, g, F, ks, ot, kp, tp, R, upd (fun s => (S s).1) t b, upd (fun s => (S s).2.1) t v, nz (nb S) t j, mv)) := by
  intro d
  induction d with
  | zero =>
    intro j hj
    have hj : j = 40 := by omega
    subst hj
    refine zsame hZ (gh x (s, as, g, F, mq ks ot kp tp R (shb S t (b, v, fun _ => 0)) mv)) (eH_N (fun j _ => shb_b S t b v _ j) (fun j _ => shb_z S t b v _ j) (fun j hj => nz_nb S b v hj) (fun j _ => rfl)) ?_
    refine zgo hZ 86 60 rfl ?_
    refine ⟨fun hc => ?_, fun hc => ?_⟩
    · refine ⟨t, ht, rfl, ?_⟩
      have e : (shb S t (b, v, fun _ => 0) t).2.1 = v := by rw [shb_at]
      have k2 : Q (some (.int (shb S t (b, v, fun _ => 0) t).2.1)) (gh x (s, as, g, F, mq ks ot kp tp R (shb S t (b, v, fun _ => 0)) mv)) := by rw [e]; exact k
      exact k2
    · exact absurd (show (40 : Int32) ≤ nI 40 by decide) hc
  | succ d ih =>
    intro j hj
    have h1 := ih (j + 1) (by omega)
    rw [← nz_s, ← nI_1] at h1
    refine zgo hZ 86 60 rfl ?_
    refine ⟨fun hc => ?_, fun hc => ?_⟩
    · have := (ile (a := 40) (m := 40) rfl rfl (by omega) (by omega)).mp hc
      omega
    · exact ⟨40 * t + j, by omega, m40 t j, h1⟩
set_option maxRecDepth 100000 in
set_option maxHeartbeats 400000 in
theorem m_sheet2 {SM : zC} {SF : Nat → zQ → zP} (hZ : zZ SM SF) {Q : zQ} {x : zXs} {s as g F ks ot : Nat → Int32} {kp : Int32} {tp : Nat → Int32} {R : zR} {S : Nat → zSh} {mv : Nat → Int64} {t : Int32} {b m : Int32} (h0 : (0 ≤ t ∧ t < 4) ∧ (b = 0 ∨ b = 8 ∨ b = 16 ∨ b = 64)) (k : Q (some (.int (sp_sheet S F t b m).1)) (gh x (s, as, g, (sp_sheet S F t b m).2.2, mq ks ot kp tp R (sp_sheet S F t b m).2.1 mv))) : SF mn_M_sheet Q 36 [some (.ref 43), some (.int t), some (.int b), some (.int m), none] [] (0, 0) (gh x (s, as, g, F, mq ks ot kp tp R S mv)) := by
  unfold sp_sheet at k
  rw [if_pos h0] at k
  refine zgo hZ 86 60 rfl ?_
  refine ⟨fun h1 => ?_, fun h1 => ?_⟩
  · rw [if_neg (fun z : m < 0 => by rw [zlt] at z; rw [zle] at h1; omega)] at k
    refine ⟨fun h2 => ?_, fun h2 => ?_⟩
    · rw [if_neg (fun z : 40 < m => by rw [zlt] at z; rw [zle] at h2; omega)] at k
      obtain ⟨j, hj, rfl⟩ := zIn4.mpr h0.1
      rw [ix_nI (by omega)] at k
      refine ⟨j, hj, rfl, ?_⟩
      refine ⟨fun h3 => ?_, fun h3 => ?_⟩
      · rw [if_neg (show ¬ b = 0 from h3)] at k
        refine ⟨j, hj, rfl, ?_⟩
        have h := m_sheet_l (s := s) (as := as) (g := g) (F := F) (ks := ks) (ot := ot) (kp := kp) (tp := tp) (R := R) (S := S) (mv := mv) (m := m) hZ hj k 40 0 (by omega)
        rw [nz_0] at h
        exact h
      · rw [if_pos (show b = 0 from h3)] at k
        refine ⟨j, hj, rfl, ?_⟩
        have h := m_sheet_l (s := s) (as := as) (g := g) (F := F) (ks := ks) (ot := ot) (kp := kp) (tp := tp) (R := R) (S := S) (mv := mv) (m := m) hZ hj k 40 0 (by omega)
        rw [nz_0] at h
        exact h
    · rw [if_pos (show (40 : Int32) < m by rw [zlt]; rw [zle] at h2; omega)] at k
      exact t_finds hZ 0 (by decide) rfl k
  · rw [if_pos (show m < 0 by rw [zlt]; rw [zle] at h1; omega)] at k
    exact t_finds hZ 6 (by decide) rfl k
theorem sp_sheet_n {S : Nat → zSh} {F : Nat → Int32} {t b m : Int32} (h0 : ¬ ((0 ≤ t ∧ t < 4) ∧ (b = 0 ∨ b = 8 ∨ b = 16 ∨ b = 64))) : sp_sheet S F t b m = (-1000000001, S, upd F 0 (F 0 + 1)) := by
  unfold sp_sheet
  rw [if_neg h0]
set_option maxRecDepth 100000 in
set_option maxHeartbeats 400000 in
theorem m_sheet {SM : zC} {SF : Nat → zQ → zP} (hZ : zZ SM SF) {Q : zQ} {x : zXs} {s as g F ks ot : Nat → Int32} {kp : Int32} {tp : Nat → Int32} {R : zR} {S : Nat → zSh} {mv : Nat → Int64} {t b m : Int32} (k : Q (some (.int (sp_sheet S F t b m).1)) (gh x (s, as, g, (sp_sheet S F t b m).2.2, mq ks ot kp tp R (sp_sheet S F t b m).2.1 mv))) : SM mn_M_sheet [.ref 43, .int t, .int b, .int m] (gh x (s, as, g, F, mq ks ot kp tp R S mv)) Q := by
  refine zin hZ 36 99 rfl rfl rfl ?_
  refine m_isOne hZ (fun h => ?_) (fun h => ?_)
  · have h' := zIn4.mp h
    refine ⟨fun z => nt z, fun _ => ?_⟩
    refine ⟨fun h1 => m_sheet2 hZ ⟨h', Or.inl h1⟩ k, fun h1 => ⟨fun h2 => m_sheet2 hZ ⟨h', Or.inr (Or.inl h2)⟩ k, fun h2 => ⟨fun h3 => m_sheet2 hZ ⟨h', Or.inr (Or.inr (Or.inl h3))⟩ k, fun h3 => ⟨fun h4 => m_sheet2 hZ ⟨h', Or.inr (Or.inr (Or.inr h4))⟩ k, fun h4 => ?_⟩⟩⟩⟩
    rw [sp_sheet_n (fun z => z.2.elim h1 (fun z => z.elim h2 (fun z => z.elim h3 h4)))] at k
    exact t_finds hZ 0 (by decide) rfl k
  · refine ⟨fun _ => ?_, fun z => nf z⟩
    rw [sp_sheet_n (fun z => h (zIn4.mpr z.1))] at k
    exact t_finds hZ 0 (by decide) rfl k
abbrev zA5 : Type := Int64 × (Nat → zSh) × (Nat → Int32)
def sp_write (S : Nat → zSh) (F : Nat → Int32) (s i : Int32) (v : Int64) : zA5 :=
  if 0 ≤ s ∧ s < 4 then (if (S (ix s)).1 = 0 then ((-1000000006 : Int32).toInt64, S, upd F 5 (F 5 + 1))
    else if 0 ≤ i ∧ i < (S (ix s)).2.1 then ((S (ix s)).2.2 (ix i), shb S (ix s) ((S (ix s)).1, (S (ix s)).2.1, vp_updL (S (ix s)).2.2 (ix i) (nrw (S (ix s)).1 v)), F)
    else ((-1000000001 : Int32).toInt64, S, upd F 0 (F 0 + 1)))
  else ((-1000000001 : Int32).toInt64, S, upd F 0 (F 0 + 1))
theorem nb_at (S : Nat → zSh) (t : Nat) {j : Nat} (hj : j < 40) : nb S (40 * t + j) = (S t).2.2 j := by
  unfold nb
  rw [show (40 * t + j) / 40 = t by omega, show (40 * t + j) % 40 = j by omega]
theorem nb_up (S : Nat → zSh) (t : Nat) {j : Nat} (hj : j < 40) (v : Int64) (b z : Int32) : vp_updL (nb S) (40 * t + j) v = nb (shb S t (b, z, vp_updL (S t).2.2 j v)) := by
  funext l
  unfold nb vp_updL
  by_cases h : l / 40 = t
  · rw [h, shb_at]
    by_cases h2 : l % 40 = j
    · rw [if_pos (by omega)]; simp [h2]
    · rw [if_neg (by omega)]; simp [h2, h]
  · rw [shb_o S _ h, if_neg (by omega)]
theorem shb_e1 (S : Nat → zSh) (t : Nat) (f : Nat → Int64) : (fun s => (shb S t ((S t).1, (S t).2.1, f) s).1) = fun s => (S s).1 := by
  funext j
  unfold shb
  by_cases h : j = t
  · rw [if_pos h, h]
  · rw [if_neg h]
theorem shb_e2 (S : Nat → zSh) (t : Nat) (f : Nat → Int64) : (fun s => (shb S t ((S t).1, (S t).2.1, f) s).2.1) = fun s => (S s).2.1 := by
  funext j
  unfold shb
  by_cases h : j = t
  · rw [if_pos h, h]
  · rw [if_neg h]
theorem mq_w (ks ot : Nat → Int32) (kp : Int32) (tp : Nat → Int32) (R : zR) (S : Nat → zSh) (mv : Nat → Int64) (t : Nat) {j : Nat} (hj : j < 40) (v : Int64) : mq ks ot kp tp R (shb S t ((S t).1, (S t).2.1, vp_updL (S t).2.2 j v)) mv = (ks, ot, kp, tp, R, fun s => (S s).1, fun s => (S s).2.1, vp_updL (nb S) (40 * t + j) v, mv) := by
  unfold mq
  rw [shb_e1, shb_e2, nb_up S t hj v (S t).1 (S t).2.1]
set_option maxRecDepth 100000 in
set_option maxHeartbeats 400000 in
theorem m_write {SM : zC} {SF : Nat → zQ → zP} (hZ : zZ SM SF) {Q : zQ} {x : zXs} {s as g F ks ot : Nat → Int32} {kp : Int32} {tp : Nat → Int32} {R : zR} {S : Nat → zSh} {mv : Nat → Int64} (hS : wS S) {t i : Int32} {v : Int64} (k : Q (some (.long (sp_write S F t i v).1)) (gh x (s, as, g, (sp_write S F t i v).2.2, mq ks ot kp tp R (sp_write S F t i v).2.1 mv))) : SM mn_M_write [.ref 43, .int t, .int i, .long v] (gh x (s, as, g, F, mq ks ot kp tp R S mv)) Q := by
  unfold sp_write at k
  refine zin hZ 999 99 rfl rfl rfl ?_
  refine m_wrongSheet hZ (fun h1 h2 => ?_) (fun h1 => ?_) (fun h1 h2 => ?_)
  · rw [if_pos h1, if_neg h2] at k
    refine ⟨fun _ => ?_, fun z => absurd rfl z⟩
    obtain ⟨a, ha, rfl⟩ := zIn4.mpr h1
    rw [ix_nI (by omega)] at k
    obtain ⟨hs1, hs2⟩ := hS a ha
    refine ⟨a, ha, rfl, ?_⟩
    refine t_inI hZ i 0 (nI (sz S a) - 1) rfl (by decide) (by rw [← hs1]; rfl) (fun h3 h4 => ⟨fun _ => ?_, nt⟩) (fun h3 => ⟨nf, fun _ => ?_⟩)
    · obtain ⟨j, hj, rfl⟩ := (zIn_iff (n := sz S a) (by omega)).mpr ⟨h3, h4⟩
      rw [ix_nI (by omega), if_pos (by rw [hs1]; exact (zIn_lt (by omega)).mp ⟨j, hj, rfl⟩), mq_w ks ot kp tp R S mv a (by omega)] at k
      rw [← nb_at S a (by omega)] at k
      refine ⟨40 * a + j, by omega, m40 a j, ?_⟩
      refine ⟨a, ha, rfl, ?_⟩
      refine m_narrowed hZ ?_
      exact ⟨40 * a + j, by omega, m40 a j, k⟩
    · rw [if_neg (fun z => h3 ((zIn_iff (n := sz S a) (by omega)).mp ((zIn_lt (by omega)).mpr (by rw [hs1] at z; exact z))))] at k
      exact t_finds hZ 0 (by decide) rfl k
  · rw [if_neg h1] at k
    refine ⟨fun z => absurd z (by decide), fun _ => ?_⟩
    exact t_finds hZ 0 (by decide) rfl k
  · rw [if_pos h1, if_pos h2] at k
    refine ⟨fun z => absurd z (by decide), fun _ => ?_⟩
    exact t_finds hZ 5 (by decide) rfl k
