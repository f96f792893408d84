/-! WORDS AND NUMBERS: as functions, and the reference's -/
theorem fst1_lt (p : Nat → Bool) : ∀ d a i, a ≤ i → i < fst1 p a d → p i = false
  | 0, a, i, h1, h2 => by rw [fst1_0] at h2; omega
  | d + 1, a, i, h1, h2 => by
    rw [fst1_s] at h2
    by_cases h : p a = true
    · rw [if_pos h] at h2; omega
    · rw [if_neg h] at h2
      by_cases hi : i = a
      · subst hi; simpa using h
      · exact fst1_lt p d (a + 1) i (by omega) h2
theorem nd_x {P : Prop} [Decidable P] (h : (!decide P) = false) : P := by
  by_cases hp : P
  · exact hp
  · rw [decide_eq_false hp] at h; exact absurd h (by decide)
theorem tok_lt {tp : Nat → Int32} {tl s : Nat} (h : lt (byt tp tl s)) : s < tl ∧ ∀ i, s ≤ i → i < tkE tp tl s → lt (tp i) := by
  have hs : s < tl := by
    by_cases hs : s < tl
    · exact hs
    · unfold byt at h; rw [if_neg hs] at h; exact absurd h lt_m1
  rw [byt_in hs] at h
  refine ⟨hs, fun i h1 h2 => ?_⟩
  unfold tkE at h2
  rw [if_pos hs, if_pos h] at h2
  by_cases hi : i = s
  · subst hi; exact h
  · exact nd_x (fst1_lt (fun l => !decide (lt (tp l))) _ _ i (by omega) h2)
theorem tok_dg {tp : Nat → Int32} {tl s : Nat} (h : dg (byt tp tl s)) : s < tl ∧ ∀ i, s ≤ i → i < tkE tp tl s → dg (tp i) := by
  have hs : s < tl := by
    by_cases hs : s < tl
    · exact hs
    · unfold byt at h; rw [if_neg hs] at h; exact absurd h dg_m1
  rw [byt_in hs] at h
  refine ⟨hs, fun i h1 h2 => ?_⟩
  unfold tkE at h2
  rw [if_pos hs, if_neg (fun z => lt_dg z h), if_pos h] at h2
  by_cases hi : i = s
  · subst hi; exact h
  · exact nd_x (fst1_lt (fun l => !decide (dg (tp l))) _ _ i (by omega) h2)
-- words
def wv (tp : Nat → Int32) (s : Nat) : Nat → Int64
  | 0 => 0
  | n + 1 => if 36028797018963967 < wv tp s n then wv tp s n else 32 * wv tp s n + (tp (s + n) - 96).toInt64
def wd (tp : Nat → Int32) (tl s : Nat) : Int64 := if lt (byt tp tl s) then wv tp s (tkE tp tl s - s) else 0
def hv (tp : Nat → Int32) (s : Nat) : Nat → Int
  | 0 => 0
  | n + 1 => if 36028797018963967 < hv tp s n then hv tp s n else 32 * hv tp s n + ((tp (s + n)).toInt - 96)
theorem lt_int {b : Int32} (h : lt b) : 97 ≤ b.toInt ∧ b.toInt ≤ 122 := by
  have h1 := h.1
  have h2 := h.2
  rw [zle] at h1 h2
  have e1 : (97 : Int32).toInt = 97 := by decide
  have e2 : (122 : Int32).toInt = 122 := by decide
  omega
theorem dg_int {b : Int32} (h : dg b) : 48 ≤ b.toInt ∧ b.toInt ≤ 57 := by
  have h1 := h.1
  have h2 := h.2
  rw [zle] at h1 h2
  have e1 : (48 : Int32).toInt = 48 := by decide
  have e2 : (57 : Int32).toInt = 57 := by decide
  omega
theorem wv_hv {tp : Nat → Int32} {s : Nat} : ∀ n, (∀ i, i < n → lt (tp (s + i))) → (wv tp s n).toInt = hv tp s n ∧ 0 ≤ hv tp s n ∧ hv tp s n ≤ 1152921504606846970
  | 0, _ => ⟨by unfold wv hv; decide, Int.le_refl 0, by unfold hv; decide⟩
  | n + 1, h => by
    obtain ⟨a1, a2, a3⟩ := wv_hv n (fun i hi => h i (by omega))
    have hd := lt_int (h n (by omega))
    have e1 : (36028797018963967 : Int64).toInt = 36028797018963967 := by decide
    have e2 : (32 : Int64).toInt = 32 := by decide
    have e3 : (96 : Int32).toInt = 96 := by decide
    unfold wv hv
    by_cases hc : (36028797018963967 : Int64) < wv tp s n
    · have hc2 := hc
      rw [Int64.lt_iff_toInt_lt, e1, a1] at hc2
      rw [if_pos hc, if_pos hc2]
      exact ⟨a1, a2, a3⟩
    · have hc2 := hc
      rw [Int64.lt_iff_toInt_lt, e1, a1] at hc2
      rw [if_neg hc, if_neg hc2]
      have m1 : (32 * wv tp s n).toInt = 32 * hv tp s n := by
        rw [Int64.toInt_mul, e2, a1]
        exact Int.bmod_eq_of_le (by omega) (by omega)
      have m2 : ((tp (s + n) - 96).toInt64).toInt = (tp (s + n)).toInt - 96 := by
        rw [Int32.toInt_toInt64, zsub (by omega) (by omega), e3]
      have m3 : (32 * wv tp s n + (tp (s + n) - 96).toInt64).toInt = 32 * hv tp s n + ((tp (s + n)).toInt - 96) := by
        rw [Int64.toInt_add, m1, m2]
        exact Int.bmod_eq_of_le (by omega) (by omega)
      refine ⟨m3, by omega, by omega⟩
/-- a word's letters, the last first, as one number -/
def tvr : List Int32 → Int
  | [] => 0
  | c :: r => 32 * tvr r + (c.toInt - 96)
def mt (tp : Nat → Int32) (s : Nat) : List Int32 → Nat → Prop
  | [], n => n = 0
  | c :: r, n => ∃ m, n = m + 1 ∧ tp (s + m) = c ∧ mt tp s r m
theorem tvr_nn : ∀ r : List Int32, (∀ c, c ∈ r → lt c) → 0 ≤ tvr r
  | [], _ => Int.le_refl 0
  | c :: r, h => by
    have h1 := tvr_nn r (fun c hc => h c (List.mem_cons_of_mem _ hc))
    have h2 := lt_int (h c List.mem_cons_self)
    unfold tvr
    omega
theorem hv_iff {tp : Nat → Int32} {s : Nat} : ∀ (r : List Int32), (∀ c, c ∈ r → lt c) → tvr r ≤ 36028797018963967 → ∀ n, (∀ i, i < n → lt (tp (s + i))) → (hv tp s n = tvr r ↔ mt tp s r n)
  | [], _, _, n, hn => by
    show hv tp s n = 0 ↔ n = 0
    constructor
    · intro h
      cases n with
      | zero => rfl
      | succ n =>
        have h1 := (wv_hv n (fun i hi => hn i (by omega))).2.1
        have h2 := lt_int (hn n (by omega))
        unfold hv at h
        by_cases hc : 36028797018963967 < hv tp s n
        · rw [if_pos hc] at h; omega
        · rw [if_neg hc] at h; omega
    · intro h
      subst h; rfl
  | c :: r, hr, hM, n, hn => by
    have hc1 := lt_int (hr c List.mem_cons_self)
    have hr0 := tvr_nn r (fun c hc => hr c (List.mem_cons_of_mem _ hc))
    have ht : tvr (c :: r) = 32 * tvr r + (c.toInt - 96) := rfl
    rw [ht] at hM ⊢
    show _ ↔ ∃ m, n = m + 1 ∧ tp (s + m) = c ∧ mt tp s r m
    cases n with
    | zero =>
      constructor
      · intro h
        have h : (0 : Int) = 32 * tvr r + (c.toInt - 96) := h
        omega
      · rintro ⟨m, h, -⟩
        omega
    | succ n =>
      have ih := hv_iff r (fun c hc => hr c (List.mem_cons_of_mem _ hc)) (by omega) n (fun i hi => hn i (by omega))
      have h1 := (wv_hv n (fun i hi => hn i (by omega))).2.1
      have h2 := lt_int (hn n (by omega))
      have hs : hv tp s (n + 1) = if 36028797018963967 < hv tp s n then hv tp s n else 32 * hv tp s n + ((tp (s + n)).toInt - 96) := rfl
      rw [hs]
      constructor
      · intro h
        by_cases hc : 36028797018963967 < hv tp s n
        · rw [if_pos hc] at h; omega
        · rw [if_neg hc] at h
          exact ⟨n, rfl, by rw [zeq]; omega, ih.mp (by omega)⟩
      · rintro ⟨m, e, h3, h4⟩
        have e : n = m := by omega
        subst e
        have h5 := ih.mpr h4
        rw [if_neg (by omega), h5, h3]
theorem mt_iff {tp : Nat → Int32} {s : Nat} : ∀ (r : List Int32) (n : Nat), mt tp s r n ↔ (n = r.length ∧ ∀ i, i < r.length → tp (s + i) = r.getD (r.length - 1 - i) 0)
  | [], n => by
    show n = 0 ↔ _
    constructor
    · intro h; exact ⟨h, fun i hi => by simp at hi⟩
    · intro h; exact h.1
  | c :: r, n => by
    show (∃ m, n = m + 1 ∧ tp (s + m) = c ∧ mt tp s r m) ↔ _
    have hl : (c :: r).length = r.length + 1 := rfl
    rw [hl]
    constructor
    · rintro ⟨m, e, h1, h2⟩
      obtain ⟨h3, h4⟩ := (mt_iff r m).mp h2
      refine ⟨by omega, fun i hi => ?_⟩
      by_cases he : i = r.length
      · subst he
        rw [show r.length + 1 - 1 - r.length = 0 by omega, ← h3, h1]
        rfl
      · rw [show r.length + 1 - 1 - i = (r.length - 1 - i) + 1 by omega]
        exact h4 i (by omega)
    · rintro ⟨h1, h2⟩
      refine ⟨r.length, h1, ?_, (mt_iff r _).mpr ⟨rfl, fun i hi => ?_⟩⟩
      · have := h2 r.length (by omega)
        rw [show r.length + 1 - 1 - r.length = 0 by omega] at this
        exact this
      · have := h2 i (by omega)
        rw [show r.length + 1 - 1 - i = (r.length - 1 - i) + 1 by omega] at this
        exact this
/-- does a word stand here -/
def isw (tp : Nat → Int32) (tl s : Nat) (l : List Int32) : Prop := lt (byt tp tl s) ∧ tkE tp tl s = s + l.length ∧ ∀ i, i < l.length → tp (s + i) = l.getD i 0
theorem wd_iff {tp : Nat → Int32} {tl s : Nat} {l r : List Int32} {T : Int64} (h1 : l.length = r.length) (h2 : ∀ i, i < l.length → l.getD i 0 = r.getD (r.length - 1 - i) 0) (h3 : ∀ c, c ∈ r → lt c) (hT : T.toInt = tvr r) (hM : tvr r ≤ 36028797018963967) (h0 : 0 < tvr r) (hs : s ≤ tl) : wd tp tl s = T ↔ isw tp tl s l := by
  unfold wd isw
  by_cases h : lt (byt tp tl s)
  · rw [if_pos h]
    obtain ⟨hl1, hl2⟩ := tok_lt h
    have hr := tkE_rng (tp := tp) hs
    have ha : ∀ i, i < tkE tp tl s - s → lt (tp (s + i)) := fun i hi => hl2 (s + i) (by omega) (by omega)
    obtain ⟨w1, w2, w3⟩ := wv_hv (tp := tp) (s := s) (tkE tp tl s - s) ha
    rw [← Int64.toInt_inj, w1, hT, hv_iff r h3 hM _ ha, mt_iff]
    constructor
    · rintro ⟨e1, e2⟩
      exact ⟨h, by omega, fun i hi => by rw [h2 i hi]; exact e2 i (by omega)⟩
    · rintro ⟨-, e1, e2⟩
      exact ⟨by omega, fun i hi => by rw [← h2 i (by omega)]; exact e2 i (by omega)⟩
  · rw [if_neg h]
    constructor
    · intro z
      rw [← z, show (0 : Int64).toInt = 0 by decide] at hT
      omega
    · intro z
      exact absurd z.1 h
theorem wd_0 {tp : Nat → Int32} {tl s : Nat} (hs : s ≤ tl) : wd tp tl s = 9908279 ↔ isw tp tl s (zm_tx.getD 0 []) := wd_iff (r := [119, 97, 108, 110, 105]) rfl (by decide) (by decide) (by decide) (by decide) (by decide) hs
theorem wd_1 {tp : Nat → Int32} {tl s : Nat} (hs : s ≤ tl) : wd tp tl s = 452599986 ↔ isw tp tl s (zm_tx.getD 1 []) := wd_iff (r := [114, 101, 104, 116, 111, 109]) rfl (by decide) (by decide) (by decide) (by decide) (by decide) hs
theorem wd_2 {tp : Nat → Int32} {tl s : Nat} (hs : s ≤ tl) : wd tp tl s = 203038898 ↔ isw tp tl s (zm_tx.getD 2 []) := wd_iff (r := [114, 101, 104, 116, 97, 102]) rfl (by decide) (by decide) (by decide) (by decide) (by decide) hs
theorem wd_3 {tp : Nat → Int32} {tl s : Nat} (hs : s ≤ tl) : wd tp tl s = 22482309 ↔ isw tp tl s (zm_tx.getD 3 []) := wd_iff (r := [101, 108, 99, 110, 117]) rfl (by decide) (by decide) (by decide) (by decide) (by decide) hs
theorem wd_4 {tp : Nat → Int32} {tl s : Nat} (hs : s ≤ tl) : wd tp tl s = 672747570 ↔ isw tp tl s (zm_tx.getD 4 []) := wd_iff (r := [114, 97, 116, 114, 97, 116]) rfl (by decide) (by decide) (by decide) (by decide) (by decide) hs
theorem wd_5 {tp : Nat → Int32} {tl s : Nat} (hs : s ≤ tl) : wd tp tl s = 2556021938 ↔ isw tp tl s (zm_tx.getD 5 []) := wd_iff (r := [114, 101, 115, 115, 101, 108, 98]) rfl (by decide) (by decide) (by decide) (by decide) (by decide) hs
theorem wd_6 {tp : Nat → Int32} {tl s : Nat} (hs : s ≤ tl) : wd tp tl s = 117096837 ↔ isw tp tl s (zm_tx.getD 6 []) := wd_iff (r := [101, 108, 112, 117, 111, 99]) rfl (by decide) (by decide) (by decide) (by decide) (by decide) hs
theorem wd_7 {tp : Nat → Int32} {tl s : Nat} (hs : s ≤ tl) : wd tp tl s = 206405 ↔ isw tp tl s (zm_tx.getD 7 []) := wd_iff (r := [101, 114, 105, 102]) rfl (by decide) (by decide) (by decide) (by decide) (by decide) hs
theorem wd_8 {tp : Nat → Int32} {tl s : Nat} (hs : s ≤ tl) : wd tp tl s = 19764 ↔ isw tp tl s (zm_tx.getD 8 []) := wd_iff (r := [116, 105, 115]) rfl (by decide) (by decide) (by decide) (by decide) (by decide) hs
theorem wd_9 {tp : Nat → Int32} {tl s : Nat} (hs : s ≤ tl) : wd tp tl s = 755277 ↔ isw tp tl s (zm_tx.getD 9 []) := wd_iff (r := [109, 114, 97, 119]) rfl (by decide) (by decide) (by decide) (by decide) (by decide) hs
theorem wd_10 {tp : Nat → Int32} {tl s : Nat} (hs : s ≤ tl) : wd tp tl s = 19508 ↔ isw tp tl s (zm_tx.getD 10 []) := wd_iff (r := [116, 97, 115]) rfl (by decide) (by decide) (by decide) (by decide) (by decide) hs
theorem wd_11 {tp : Nat → Int32} {tl s : Nat} (hs : s ≤ tl) : wd tp tl s = 8228 ↔ isw tp tl s (zm_tx.getD 11 []) := wd_iff (r := [100, 97, 104]) rfl (by decide) (by decide) (by decide) (by decide) (by decide) hs
-- numbers
def nv (tp : Nat → Int32) (s : Nat) : Nat → Int32
  | 0 => 0
  | n + 1 => if nv tp s n ≤ 999 then 10 * nv tp s n + tp (s + n) - 48 else nv tp s n
def cn (tp : Nat → Int32) (s : Nat) : Nat → Int32
  | 0 => 0
  | n + 1 => if 1000 < 10 * cn tp s n + tp (s + n) - 48 then 1000 else 10 * cn tp s n + tp (s + n) - 48
theorem ten {x b : Int32} (h1 : 0 ≤ x.toInt) (h2 : x.toInt ≤ 1000) (hb : dg b) : (10 * x + b - 48).toInt = 10 * x.toInt + (b.toInt - 48) := by
  have hb := dg_int hb
  have e1 : (10 : Int32).toInt = 10 := by decide
  have e2 : (48 : Int32).toInt = 48 := by decide
  have m1 : (10 * x).toInt = 10 * x.toInt := by
    rw [Int32.toInt_mul, e1]
    exact Int.bmod_eq_of_le (by omega) (by omega)
  have m2 : (10 * x + b).toInt = 10 * x.toInt + b.toInt := by rw [zadd (by omega) (by omega), m1]
  rw [zsub (by omega) (by omega), m2, e2]
  omega
theorem nv_cn {tp : Nat → Int32} {s : Nat} : ∀ n, (∀ i, i < n → dg (tp (s + i))) → (0 ≤ (cn tp s n).toInt ∧ (cn tp s n).toInt ≤ 1000) ∧ ((nv tp s n = cn tp s n ∧ (cn tp s n).toInt ≤ 999) ∨ (999 < (nv tp s n).toInt ∧ cn tp s n = 1000))
  | 0, _ => ⟨by unfold cn; decide, Or.inl ⟨rfl, by unfold cn; decide⟩⟩
  | n + 1, h => by
    obtain ⟨⟨a1, a2⟩, a3⟩ := nv_cn n (fun i hi => h i (by omega))
    have hd := h n (by omega)
    have hdi := dg_int hd
    have e1 : (1000 : Int32).toInt = 1000 := by decide
    have e2 : (999 : Int32).toInt = 999 := by decide
    have t1 := ten a1 a2 hd
    have hc : cn tp s (n + 1) = if 1000 < 10 * cn tp s n + tp (s + n) - 48 then 1000 else 10 * cn tp s n + tp (s + n) - 48 := rfl
    have hn : nv tp s (n + 1) = if nv tp s n ≤ 999 then 10 * nv tp s n + tp (s + n) - 48 else nv tp s n := rfl
    rw [hc, hn]
    rcases a3 with ⟨b1, b2⟩ | ⟨b1, b2⟩
    · rw [b1, if_pos (show cn tp s n ≤ 999 by rw [zle, e2]; exact b2)]
      by_cases hb : (1000 : Int32) < 10 * cn tp s n + tp (s + n) - 48
      · rw [if_pos hb]
        rw [zlt, e1, t1] at hb
        rw [t1, e1]
        exact ⟨⟨by omega, by omega⟩, Or.inr ⟨by omega, rfl⟩⟩
      · rw [if_neg hb]
        have hb2 := hb
        rw [zlt, e1, t1] at hb2
        rw [t1]
        refine ⟨⟨by omega, by omega⟩, ?_⟩
        by_cases h9 : 10 * (cn tp s n).toInt + ((tp (s + n)).toInt - 48) ≤ 999
        · exact Or.inl ⟨rfl, h9⟩
        · exact Or.inr ⟨by omega, by rw [zeq, t1, e1]; omega⟩
    · rw [if_neg (show ¬ nv tp s n ≤ 999 by rw [zle, e2]; omega)]
      have hb : (1000 : Int32) < 10 * cn tp s n + tp (s + n) - 48 := by
        rw [zlt, e1, t1, b2, e1]
        omega
      rw [if_pos hb, e1]
      exact ⟨⟨by omega, by omega⟩, Or.inr ⟨b1, rfl⟩⟩
def num (tp : Nat → Int32) (tl s : Nat) : Int32 := cn tp s (tkE tp tl s - s)
/-- does a number up to one stand here -/
def isn (tp : Nat → Int32) (tl s : Nat) (hi : Int32) : Prop := dg (byt tp tl s) ∧ num tp tl s ≤ hi
theorem num_rng {tp : Nat → Int32} {tl s : Nat} {hi : Int32} (h : isn tp tl s hi) : 0 ≤ (num tp tl s).toInt ∧ (num tp tl s).toInt ≤ hi.toInt := by
  obtain ⟨h1, h2⟩ := h
  obtain ⟨h3, h4⟩ := tok_dg h1
  rw [zle] at h2
  exact ⟨(nv_cn (tp := tp) (s := s) (tkE tp tl s - s) (fun i hi => h4 (s + i) (by omega) (by omega))).1.1, h2⟩
/-- the reference's number -/
theorem nv_isn {tp : Nat → Int32} {tl s : Nat} {hi : Int32} (h1 : dg (byt tp tl s)) (h9 : hi.toInt ≤ 999) : (isn tp tl s hi → (0 ≤ nv tp s (tkE tp tl s - s) ∧ nv tp s (tkE tp tl s - s) ≤ hi) ∧ nv tp s (tkE tp tl s - s) = num tp tl s) ∧ (¬ isn tp tl s hi → ¬ (0 ≤ nv tp s (tkE tp tl s - s) ∧ nv tp s (tkE tp tl s - s) ≤ hi)) := by
  obtain ⟨h3, h4⟩ := tok_dg h1
  obtain ⟨⟨a1, a2⟩, a3⟩ := nv_cn (tp := tp) (s := s) (tkE tp tl s - s) (fun i hi => h4 (s + i) (by omega) (by omega))
  have e0 : (0 : Int32).toInt = 0 := by decide
  have e1 : (1000 : Int32).toInt = 1000 := by decide
  unfold isn num
  rcases a3 with ⟨b1, b2⟩ | ⟨b1, b2⟩
  · rw [b1]
    exact ⟨fun z => ⟨⟨by rw [zle, e0]; exact a1, z.2⟩, rfl⟩, fun z y => z ⟨h1, y.2⟩⟩
  · refine ⟨fun z => ?_, fun _ y => ?_⟩
    · have z2 := z.2
      rw [b2, zle, e1] at z2
      omega
    · have y2 := y.2
      rw [zle] at y2
      omega
