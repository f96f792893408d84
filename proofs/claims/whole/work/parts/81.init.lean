/-! THE CONSTRUCTORS -/
/-- an institute as it is at first -/
def zs0 : zS := fun f => cond (Nat.beq f 8) (fun i => if i = 1 then 10 else 0) (fun _ => 0)
def hl0 : zHl := (zs0, fun _ => 0, 0)
def tp0 : zTp := (fun _ => 0, 0, 0, 0, 0, 0)
def sh0' : Nat → zSh := fun _ => (0, 0, fun _ => 0)
def x0 : zXs := (hl0, hl0, hl0, 0, tp0, sh0', fun _ => 0)
def m0 : zMs := (ec zs0, fun _ => 0, fun _ => 0, fun _ => 0, mq (fun _ => 0) (fun _ => 0) 0 (fun _ => 0) (0, 0, 0, 0, 0) sh0' (fun _ => 0))
def ih_0 : zH := [.inr (3, [.null, .null, .null, .int 0, .null, .null, .null])]
def ih_1 : zH := [.inr (3, [.null, .null, .null, .int 0, .null, .null, .null]), .inr (0, [.int 0, .int 0, .int 0, .null, .null, .null, .null, .null, .int 0, .null, .null, .null, .null, .int 0])]
def ih_2 : zH := [.inr (3, [.null, .null, .null, .int 0, .null, .null, .null]), .inr (0, [.int 0, .int 10, .int 0, .ref 2, .null, .null, .null, .null, .int 0, .null, .null, .null, .null, .int 0]), .inl (0, 8, .inl (fun _ => 0))]
def ih_3 : zH := [.inr (3, [.null, .null, .null, .int 0, .null, .null, .null]), .inr (0, [.int 0, .int 10, .int 0, .ref 2, .ref 3, .null, .null, .null, .int 0, .null, .null, .null, .null, .int 0]), .inl (0, 8, .inl (fun _ => 0)), .inl (0, 8, .inl (fun _ => 0))]
def ih_4 : zH := [.inr (3, [.null, .null, .null, .int 0, .null, .null, .null]), .inr (0, [.int 0, .int 10, .int 0, .ref 2, .ref 3, .ref 4, .null, .null, .int 0, .null, .null, .null, .null, .int 0]), .inl (0, 8, .inl (fun _ => 0)), .inl (0, 8, .inl (fun _ => 0)), .inl (0, 8, .inl (fun _ => 0))]
def ih_5 : zH := [.inr (3, [.null, .null, .null, .int 0, .null, .null, .null]), .inr (0, [.int 0, .int 10, .int 0, .ref 2, .ref 3, .ref 4, .ref 5, .null, .int 0, .null, .null, .null, .null, .int 0]), .inl (0, 8, .inl (fun _ => 0)), .inl (0, 8, .inl (fun _ => 0)), .inl (0, 8, .inl (fun _ => 0)), .inl (0, 8, .inl (fun _ => 0))]
def ih_6 : zH := [.inr (3, [.null, .null, .null, .int 0, .null, .null, .null]), .inr (0, [.int 0, .int 10, .int 0, .ref 2, .ref 3, .ref 4, .ref 5, .ref 6, .int 0, .null, .null, .null, .null, .int 0]), .inl (0, 8, .inl (fun _ => 0)), .inl (0, 8, .inl (fun _ => 0)), .inl (0, 8, .inl (fun _ => 0)), .inl (0, 8, .inl (fun _ => 0)), .inl (0, 8, .inl (fun _ => 0))]
def ih_7 : zH := [.inr (3, [.null, .null, .null, .int 0, .null, .null, .null]), .inr (0, [.int 0, .int 10, .int 0, .ref 2, .ref 3, .ref 4, .ref 5, .ref 6, .int 0, .ref 7, .null, .null, .null, .int 0]), .inl (0, 8, .inl (fun _ => 0)), .inl (0, 8, .inl (fun _ => 0)), .inl (0, 8, .inl (fun _ => 0)), .inl (0, 8, .inl (fun _ => 0)), .inl (0, 8, .inl (fun _ => 0)), .inl (0, 8, .inl (fun _ => 0))]
def ih_8 : zH := [.inr (3, [.null, .null, .null, .int 0, .null, .null, .null]), .inr (0, [.int 0, .int 10, .int 0, .ref 2, .ref 3, .ref 4, .ref 5, .ref 6, .int 0, .ref 7, .ref 8, .null, .null, .int 0]), .inl (0, 8, .inl (fun _ => 0)), .inl (0, 8, .inl (fun _ => 0)), .inl (0, 8, .inl (fun _ => 0)), .inl (0, 8, .inl (fun _ => 0)), .inl (0, 8, .inl (fun _ => 0)), .inl (0, 8, .inl (fun _ => 0)), .inl (0, 8, .inl (fun _ => 0))]
def ih_9 : zH := [.inr (3, [.null, .null, .null, .int 0, .null, .null, .null]), .inr (0, [.int 0, .int 10, .int 0, .ref 2, .ref 3, .ref 4, .ref 5, .ref 6, .int 0, .ref 7, .ref 8, .ref 9, .null, .int 0]), .inl (0, 8, .inl (fun _ => 0)), .inl (0, 8, .inl (fun _ => 0)), .inl (0, 8, .inl (fun _ => 0)), .inl (0, 8, .inl (fun _ => 0)), .inl (0, 8, .inl (fun _ => 0)), .inl (0, 8, .inl (fun _ => 0)), .inl (0, 8, .inl (fun _ => 0)), .inl (0, 8, .inl (fun _ => 0))]
def ih_10 : zH := [.inr (3, [.null, .null, .null, .int 0, .null, .null, .null]), .inr (0, [.int 0, .int 10, .int 0, .ref 2, .ref 3, .ref 4, .ref 5, .ref 6, .int 0, .ref 7, .ref 8, .ref 9, .ref 10, .int 0]), .inl (0, 8, .inl (fun _ => 0)), .inl (0, 8, .inl (fun _ => 0)), .inl (0, 8, .inl (fun _ => 0)), .inl (0, 8, .inl (fun _ => 0)), .inl (0, 8, .inl (fun _ => 0)), .inl (0, 8, .inl (fun _ => 0)), .inl (0, 8, .inl (fun _ => 0)), .inl (0, 8, .inl (fun _ => 0)), .inl (0, 8, .inl (fun _ => 0))]
set_option maxRecDepth 100000 in
set_option maxHeartbeats 1000000 in
theorem ci_H1_28 {SM : zC} {SF : Nat → zQ → zP} (hZ : zZ SM SF) {Q : zQ} (k : SF mn_H_init Q 36 [some (.ref 1)] [] (2, 16) ih_3) : SF mn_H_init Q 28 [some (.ref 1)] [] (1, 8) ih_2 := by
  refine zgo hZ 36 12 rfl ?_
  exact ⟨8, by decide, rfl, rfl, k⟩
set_option maxRecDepth 100000 in
set_option maxHeartbeats 1000000 in
theorem ci_H1_36 {SM : zC} {SF : Nat → zQ → zP} (hZ : zZ SM SF) {Q : zQ} (k : SF mn_H_init Q 44 [some (.ref 1)] [] (3, 24) ih_4) : SF mn_H_init Q 36 [some (.ref 1)] [] (2, 16) ih_3 := by
  refine zgo hZ 44 12 rfl ?_
  exact ⟨8, by decide, rfl, rfl, k⟩
set_option maxRecDepth 100000 in
set_option maxHeartbeats 1000000 in
theorem ci_H1_44 {SM : zC} {SF : Nat → zQ → zP} (hZ : zZ SM SF) {Q : zQ} (k : SF mn_H_init Q 52 [some (.ref 1)] [] (4, 32) ih_5) : SF mn_H_init Q 44 [some (.ref 1)] [] (3, 24) ih_4 := by
  refine zgo hZ 52 12 rfl ?_
  exact ⟨8, by decide, rfl, rfl, k⟩
set_option maxRecDepth 100000 in
set_option maxHeartbeats 1000000 in
theorem ci_H1_52 {SM : zC} {SF : Nat → zQ → zP} (hZ : zZ SM SF) {Q : zQ} (k : SF mn_H_init Q 60 [some (.ref 1)] [] (5, 40) ih_6) : SF mn_H_init Q 52 [some (.ref 1)] [] (4, 32) ih_5 := by
  refine zgo hZ 60 12 rfl ?_
  exact ⟨8, by decide, rfl, rfl, k⟩
set_option maxRecDepth 100000 in
set_option maxHeartbeats 1000000 in
theorem ci_H1_60 {SM : zC} {SF : Nat → zQ → zP} (hZ : zZ SM SF) {Q : zQ} (k : SF mn_H_init Q 73 [some (.ref 1)] [] (6, 48) ih_7) : SF mn_H_init Q 60 [some (.ref 1)] [] (5, 40) ih_6 := by
  refine zgo hZ 73 12 rfl ?_
  exact ⟨8, by decide, rfl, rfl, k⟩
set_option maxRecDepth 100000 in
set_option maxHeartbeats 1000000 in
theorem ci_H1_73 {SM : zC} {SF : Nat → zQ → zP} (hZ : zZ SM SF) {Q : zQ} (k : SF mn_H_init Q 81 [some (.ref 1)] [] (7, 56) ih_8) : SF mn_H_init Q 73 [some (.ref 1)] [] (6, 48) ih_7 := by
  refine zgo hZ 81 12 rfl ?_
  exact ⟨8, by decide, rfl, rfl, k⟩
set_option maxRecDepth 100000 in
set_option maxHeartbeats 1000000 in
theorem ci_H1_81 {SM : zC} {SF : Nat → zQ → zP} (hZ : zZ SM SF) {Q : zQ} (k : SF mn_H_init Q 89 [some (.ref 1)] [] (8, 64) ih_9) : SF mn_H_init Q 81 [some (.ref 1)] [] (7, 56) ih_8 := by
  refine zgo hZ 89 12 rfl ?_
  exact ⟨8, by decide, rfl, rfl, k⟩
set_option maxRecDepth 100000 in
set_option maxHeartbeats 1000000 in
theorem ci_H1_89 {SM : zC} {SF : Nat → zQ → zP} (hZ : zZ SM SF) {Q : zQ} (k : SF mn_H_init Q 97 [some (.ref 1)] [] (9, 72) ih_10) : SF mn_H_init Q 89 [some (.ref 1)] [] (8, 64) ih_9 := by
  refine zgo hZ 97 12 rfl ?_
  exact ⟨8, by decide, rfl, rfl, k⟩
set_option maxRecDepth 100000 in
set_option maxHeartbeats 1000000 in
theorem ci_H1 {SM : zC} {SF : Nat → zQ → zP} (hZ : zZ SM SF) {Q : zQ} (k : Q none ih_10) : SM mn_H_init [.ref 1] ih_1 Q := by
  have k97 : SF mn_H_init Q 97 [some (.ref 1)] [] (9, 72) ih_10 := by
    refine zgo hZ 999 8 rfl ?_
    exact k
  have k89 := ci_H1_89 hZ k97
  have k81 := ci_H1_81 hZ k89
  have k73 := ci_H1_73 hZ k81
  have k60 := ci_H1_60 hZ k73
  have k52 := ci_H1_52 hZ k60
  have k44 := ci_H1_44 hZ k52
  have k36 := ci_H1_36 hZ k44
  have k28 := ci_H1_28 hZ k36
  refine zin hZ 28 30 rfl rfl rfl ?_
  exact ⟨8, by decide, rfl, rfl, k28⟩
def ih_11 : zH := [.inr (3, [.ref 1, .null, .null, .int 0, .null, .null, .null]), .inr (0, [.int 0, .int 10, .int 0, .ref 2, .ref 3, .ref 4, .ref 5, .ref 6, .int 0, .ref 7, .ref 8, .ref 9, .ref 10, .int 0]), .inl (0, 8, .inl (fun _ => 0)), .inl (0, 8, .inl (fun _ => 0)), .inl (0, 8, .inl (fun _ => 0)), .inl (0, 8, .inl (fun _ => 0)), .inl (0, 8, .inl (fun _ => 0)), .inl (0, 8, .inl (fun _ => 0)), .inl (0, 8, .inl (fun _ => 0)), .inl (0, 8, .inl (fun _ => 0)), .inl (0, 8, .inl (fun _ => 0))]
set_option maxRecDepth 100000 in
set_option maxHeartbeats 1000000 in
theorem ci_X_0 {SM : zC} {SF : Nat → zQ → zP} (hZ : zZ SM SF) {Q : zQ} (k : SF mn_X_init Q 15 [some (.ref 0), none] [] (10, 86) ih_11) : SF mn_X_init Q 0 [some (.ref 0), none] [] (0, 0) ih_0 := by
  refine zgo hZ 15 14 rfl ?_
  refine ⟨rfl, rfl, ?_⟩
  refine ci_H1 hZ ?_
  exact k
def ih_12 : zH := [.inr (3, [.ref 1, .null, .null, .int 0, .null, .null, .null]), .inr (0, [.int 0, .int 10, .int 0, .ref 2, .ref 3, .ref 4, .ref 5, .ref 6, .int 0, .ref 7, .ref 8, .ref 9, .ref 10, .int 0]), .inl (0, 8, .inl (fun _ => 0)), .inl (0, 8, .inl (fun _ => 0)), .inl (0, 8, .inl (fun _ => 0)), .inl (0, 8, .inl (fun _ => 0)), .inl (0, 8, .inl (fun _ => 0)), .inl (0, 8, .inl (fun _ => 0)), .inl (0, 8, .inl (fun _ => 0)), .inl (0, 8, .inl (fun _ => 0)), .inl (0, 8, .inl (fun _ => 0)), .inr (0, [.int 0, .int 0, .int 0, .null, .null, .null, .null, .null, .int 0, .null, .null, .null, .null, .int 0])]
def ih_13 : zH := [.inr (3, [.ref 1, .null, .null, .int 0, .null, .null, .null]), .inr (0, [.int 0, .int 10, .int 0, .ref 2, .ref 3, .ref 4, .ref 5, .ref 6, .int 0, .ref 7, .ref 8, .ref 9, .ref 10, .int 0]), .inl (0, 8, .inl (fun _ => 0)), .inl (0, 8, .inl (fun _ => 0)), .inl (0, 8, .inl (fun _ => 0)), .inl (0, 8, .inl (fun _ => 0)), .inl (0, 8, .inl (fun _ => 0)), .inl (0, 8, .inl (fun _ => 0)), .inl (0, 8, .inl (fun _ => 0)), .inl (0, 8, .inl (fun _ => 0)), .inl (0, 8, .inl (fun _ => 0)), .inr (0, [.int 0, .int 10, .int 0, .ref 12, .null, .null, .null, .null, .int 0, .null, .null, .null, .null, .int 0]), .inl (0, 8, .inl (fun _ => 0))]
def ih_14 : zH := [.inr (3, [.ref 1, .null, .null, .int 0, .null, .null, .null]), .inr (0, [.int 0, .int 10, .int 0, .ref 2, .ref 3, .ref 4, .ref 5, .ref 6, .int 0, .ref 7, .ref 8, .ref 9, .ref 10, .int 0]), .inl (0, 8, .inl (fun _ => 0)), .inl (0, 8, .inl (fun _ => 0)), .inl (0, 8, .inl (fun _ => 0)), .inl (0, 8, .inl (fun _ => 0)), .inl (0, 8, .inl (fun _ => 0)), .inl (0, 8, .inl (fun _ => 0)), .inl (0, 8, .inl (fun _ => 0)), .inl (0, 8, .inl (fun _ => 0)), .inl (0, 8, .inl (fun _ => 0)), .inr (0, [.int 0, .int 10, .int 0, .ref 12, .ref 13, .null, .null, .null, .int 0, .null, .null, .null, .null, .int 0]), .inl (0, 8, .inl (fun _ => 0)), .inl (0, 8, .inl (fun _ => 0))]
def ih_15 : zH := [.inr (3, [.ref 1, .null, .null, .int 0, .null, .null, .null]), .inr (0, [.int 0, .int 10, .int 0, .ref 2, .ref 3, .ref 4, .ref 5, .ref 6, .int 0, .ref 7, .ref 8, .ref 9, .ref 10, .int 0]), .inl (0, 8, .inl (fun _ => 0)), .inl (0, 8, .inl (fun _ => 0)), .inl (0, 8, .inl (fun _ => 0)), .inl (0, 8, .inl (fun _ => 0)), .inl (0, 8, .inl (fun _ => 0)), .inl (0, 8, .inl (fun _ => 0)), .inl (0, 8, .inl (fun _ => 0)), .inl (0, 8, .inl (fun _ => 0)), .inl (0, 8, .inl (fun _ => 0)), .inr (0, [.int 0, .int 10, .int 0, .ref 12, .ref 13, .ref 14, .null, .null, .int 0, .null, .null, .null, .null, .int 0]), .inl (0, 8, .inl (fun _ => 0)), .inl (0, 8, .inl (fun _ => 0)), .inl (0, 8, .inl (fun _ => 0))]
def ih_16 : zH := [.inr (3, [.ref 1, .null, .null, .int 0, .null, .null, .null]), .inr (0, [.int 0, .int 10, .int 0, .ref 2, .ref 3, .ref 4, .ref 5, .ref 6, .int 0, .ref 7, .ref 8, .ref 9, .ref 10, .int 0]), .inl (0, 8, .inl (fun _ => 0)), .inl (0, 8, .inl (fun _ => 0)), .inl (0, 8, .inl (fun _ => 0)), .inl (0, 8, .inl (fun _ => 0)), .inl (0, 8, .inl (fun _ => 0)), .inl (0, 8, .inl (fun _ => 0)), .inl (0, 8, .inl (fun _ => 0)), .inl (0, 8, .inl (fun _ => 0)), .inl (0, 8, .inl (fun _ => 0)), .inr (0, [.int 0, .int 10, .int 0, .ref 12, .ref 13, .ref 14, .ref 15, .null, .int 0, .null, .null, .null, .null, .int 0]), .inl (0, 8, .inl (fun _ => 0)), .inl (0, 8, .inl (fun _ => 0)), .inl (0, 8, .inl (fun _ => 0)), .inl (0, 8, .inl (fun _ => 0))]
def ih_17 : zH := [.inr (3, [.ref 1, .null, .null, .int 0, .null, .null, .null]), .inr (0, [.int 0, .int 10, .int 0, .ref 2, .ref 3, .ref 4, .ref 5, .ref 6, .int 0, .ref 7, .ref 8, .ref 9, .ref 10, .int 0]), .inl (0, 8, .inl (fun _ => 0)), .inl (0, 8, .inl (fun _ => 0)), .inl (0, 8, .inl (fun _ => 0)), .inl (0, 8, .inl (fun _ => 0)), .inl (0, 8, .inl (fun _ => 0)), .inl (0, 8, .inl (fun _ => 0)), .inl (0, 8, .inl (fun _ => 0)), .inl (0, 8, .inl (fun _ => 0)), .inl (0, 8, .inl (fun _ => 0)), .inr (0, [.int 0, .int 10, .int 0, .ref 12, .ref 13, .ref 14, .ref 15, .ref 16, .int 0, .null, .null, .null, .null, .int 0]), .inl (0, 8, .inl (fun _ => 0)), .inl (0, 8, .inl (fun _ => 0)), .inl (0, 8, .inl (fun _ => 0)), .inl (0, 8, .inl (fun _ => 0)), .inl (0, 8, .inl (fun _ => 0))]
def ih_18 : zH := [.inr (3, [.ref 1, .null, .null, .int 0, .null, .null, .null]), .inr (0, [.int 0, .int 10, .int 0, .ref 2, .ref 3, .ref 4, .ref 5, .ref 6, .int 0, .ref 7, .ref 8, .ref 9, .ref 10, .int 0]), .inl (0, 8, .inl (fun _ => 0)), .inl (0, 8, .inl (fun _ => 0)), .inl (0, 8, .inl (fun _ => 0)), .inl (0, 8, .inl (fun _ => 0)), .inl (0, 8, .inl (fun _ => 0)), .inl (0, 8, .inl (fun _ => 0)), .inl (0, 8, .inl (fun _ => 0)), .inl (0, 8, .inl (fun _ => 0)), .inl (0, 8, .inl (fun _ => 0)), .inr (0, [.int 0, .int 10, .int 0, .ref 12, .ref 13, .ref 14, .ref 15, .ref 16, .int 0, .ref 17, .null, .null, .null, .int 0]), .inl (0, 8, .inl (fun _ => 0)), .inl (0, 8, .inl (fun _ => 0)), .inl (0, 8, .inl (fun _ => 0)), .inl (0, 8, .inl (fun _ => 0)), .inl (0, 8, .inl (fun _ => 0)), .inl (0, 8, .inl (fun _ => 0))]
def ih_19 : zH := [.inr (3, [.ref 1, .null, .null, .int 0, .null, .null, .null]), .inr (0, [.int 0, .int 10, .int 0, .ref 2, .ref 3, .ref 4, .ref 5, .ref 6, .int 0, .ref 7, .ref 8, .ref 9, .ref 10, .int 0]), .inl (0, 8, .inl (fun _ => 0)), .inl (0, 8, .inl (fun _ => 0)), .inl (0, 8, .inl (fun _ => 0)), .inl (0, 8, .inl (fun _ => 0)), .inl (0, 8, .inl (fun _ => 0)), .inl (0, 8, .inl (fun _ => 0)), .inl (0, 8, .inl (fun _ => 0)), .inl (0, 8, .inl (fun _ => 0)), .inl (0, 8, .inl (fun _ => 0)), .inr (0, [.int 0, .int 10, .int 0, .ref 12, .ref 13, .ref 14, .ref 15, .ref 16, .int 0, .ref 17, .ref 18, .null, .null, .int 0]), .inl (0, 8, .inl (fun _ => 0)), .inl (0, 8, .inl (fun _ => 0)), .inl (0, 8, .inl (fun _ => 0)), .inl (0, 8, .inl (fun _ => 0)), .inl (0, 8, .inl (fun _ => 0)), .inl (0, 8, .inl (fun _ => 0)), .inl (0, 8, .inl (fun _ => 0))]
def ih_20 : zH := [.inr (3, [.ref 1, .null, .null, .int 0, .null, .null, .null]), .inr (0, [.int 0, .int 10, .int 0, .ref 2, .ref 3, .ref 4, .ref 5, .ref 6, .int 0, .ref 7, .ref 8, .ref 9, .ref 10, .int 0]), .inl (0, 8, .inl (fun _ => 0)), .inl (0, 8, .inl (fun _ => 0)), .inl (0, 8, .inl (fun _ => 0)), .inl (0, 8, .inl (fun _ => 0)), .inl (0, 8, .inl (fun _ => 0)), .inl (0, 8, .inl (fun _ => 0)), .inl (0, 8, .inl (fun _ => 0)), .inl (0, 8, .inl (fun _ => 0)), .inl (0, 8, .inl (fun _ => 0)), .inr (0, [.int 0, .int 10, .int 0, .ref 12, .ref 13, .ref 14, .ref 15, .ref 16, .int 0, .ref 17, .ref 18, .ref 19, .null, .int 0]), .inl (0, 8, .inl (fun _ => 0)), .inl (0, 8, .inl (fun _ => 0)), .inl (0, 8, .inl (fun _ => 0)), .inl (0, 8, .inl (fun _ => 0)), .inl (0, 8, .inl (fun _ => 0)), .inl (0, 8, .inl (fun _ => 0)), .inl (0, 8, .inl (fun _ => 0)), .inl (0, 8, .inl (fun _ => 0))]
def ih_21 : zH := [.inr (3, [.ref 1, .null, .null, .int 0, .null, .null, .null]), .inr (0, [.int 0, .int 10, .int 0, .ref 2, .ref 3, .ref 4, .ref 5, .ref 6, .int 0, .ref 7, .ref 8, .ref 9, .ref 10, .int 0]), .inl (0, 8, .inl (fun _ => 0)), .inl (0, 8, .inl (fun _ => 0)), .inl (0, 8, .inl (fun _ => 0)), .inl (0, 8, .inl (fun _ => 0)), .inl (0, 8, .inl (fun _ => 0)), .inl (0, 8, .inl (fun _ => 0)), .inl (0, 8, .inl (fun _ => 0)), .inl (0, 8, .inl (fun _ => 0)), .inl (0, 8, .inl (fun _ => 0)), .inr (0, [.int 0, .int 10, .int 0, .ref 12, .ref 13, .ref 14, .ref 15, .ref 16, .int 0, .ref 17, .ref 18, .ref 19, .ref 20, .int 0]), .inl (0, 8, .inl (fun _ => 0)), .inl (0, 8, .inl (fun _ => 0)), .inl (0, 8, .inl (fun _ => 0)), .inl (0, 8, .inl (fun _ => 0)), .inl (0, 8, .inl (fun _ => 0)), .inl (0, 8, .inl (fun _ => 0)), .inl (0, 8, .inl (fun _ => 0)), .inl (0, 8, .inl (fun _ => 0)), .inl (0, 8, .inl (fun _ => 0))]
set_option maxRecDepth 100000 in
set_option maxHeartbeats 1000000 in
theorem ci_H11_28 {SM : zC} {SF : Nat → zQ → zP} (hZ : zZ SM SF) {Q : zQ} (k : SF mn_H_init Q 36 [some (.ref 11)] [] (2, 16) ih_14) : SF mn_H_init Q 28 [some (.ref 11)] [] (1, 8) ih_13 := by
  refine zgo hZ 36 12 rfl ?_
  exact ⟨8, by decide, rfl, rfl, k⟩
set_option maxRecDepth 100000 in
set_option maxHeartbeats 1000000 in
theorem ci_H11_36 {SM : zC} {SF : Nat → zQ → zP} (hZ : zZ SM SF) {Q : zQ} (k : SF mn_H_init Q 44 [some (.ref 11)] [] (3, 24) ih_15) : SF mn_H_init Q 36 [some (.ref 11)] [] (2, 16) ih_14 := by
  refine zgo hZ 44 12 rfl ?_
  exact ⟨8, by decide, rfl, rfl, k⟩
set_option maxRecDepth 100000 in
set_option maxHeartbeats 1000000 in
theorem ci_H11_44 {SM : zC} {SF : Nat → zQ → zP} (hZ : zZ SM SF) {Q : zQ} (k : SF mn_H_init Q 52 [some (.ref 11)] [] (4, 32) ih_16) : SF mn_H_init Q 44 [some (.ref 11)] [] (3, 24) ih_15 := by
  refine zgo hZ 52 12 rfl ?_
  exact ⟨8, by decide, rfl, rfl, k⟩
set_option maxRecDepth 100000 in
set_option maxHeartbeats 1000000 in
theorem ci_H11_52 {SM : zC} {SF : Nat → zQ → zP} (hZ : zZ SM SF) {Q : zQ} (k : SF mn_H_init Q 60 [some (.ref 11)] [] (5, 40) ih_17) : SF mn_H_init Q 52 [some (.ref 11)] [] (4, 32) ih_16 := by
  refine zgo hZ 60 12 rfl ?_
  exact ⟨8, by decide, rfl, rfl, k⟩
set_option maxRecDepth 100000 in
set_option maxHeartbeats 1000000 in
theorem ci_H11_60 {SM : zC} {SF : Nat → zQ → zP} (hZ : zZ SM SF) {Q : zQ} (k : SF mn_H_init Q 73 [some (.ref 11)] [] (6, 48) ih_18) : SF mn_H_init Q 60 [some (.ref 11)] [] (5, 40) ih_17 := by
  refine zgo hZ 73 12 rfl ?_
  exact ⟨8, by decide, rfl, rfl, k⟩
set_option maxRecDepth 100000 in
set_option maxHeartbeats 1000000 in
theorem ci_H11_73 {SM : zC} {SF : Nat → zQ → zP} (hZ : zZ SM SF) {Q : zQ} (k : SF mn_H_init Q 81 [some (.ref 11)] [] (7, 56) ih_19) : SF mn_H_init Q 73 [some (.ref 11)] [] (6, 48) ih_18 := by
  refine zgo hZ 81 12 rfl ?_
  exact ⟨8, by decide, rfl, rfl, k⟩
set_option maxRecDepth 100000 in
set_option maxHeartbeats 1000000 in
theorem ci_H11_81 {SM : zC} {SF : Nat → zQ → zP} (hZ : zZ SM SF) {Q : zQ} (k : SF mn_H_init Q 89 [some (.ref 11)] [] (8, 64) ih_20) : SF mn_H_init Q 81 [some (.ref 11)] [] (7, 56) ih_19 := by
  refine zgo hZ 89 12 rfl ?_
  exact ⟨8, by decide, rfl, rfl, k⟩
set_option maxRecDepth 100000 in
set_option maxHeartbeats 1000000 in
theorem ci_H11_89 {SM : zC} {SF : Nat → zQ → zP} (hZ : zZ SM SF) {Q : zQ} (k : SF mn_H_init Q 97 [some (.ref 11)] [] (9, 72) ih_21) : SF mn_H_init Q 89 [some (.ref 11)] [] (8, 64) ih_20 := by
  refine zgo hZ 97 12 rfl ?_
  exact ⟨8, by decide, rfl, rfl, k⟩
set_option maxRecDepth 100000 in
set_option maxHeartbeats 1000000 in
theorem ci_H11 {SM : zC} {SF : Nat → zQ → zP} (hZ : zZ SM SF) {Q : zQ} (k : Q none ih_21) : SM mn_H_init [.ref 11] ih_12 Q := by
  have k97 : SF mn_H_init Q 97 [some (.ref 11)] [] (9, 72) ih_21 := by
    refine zgo hZ 999 8 rfl ?_
    exact k
  have k89 := ci_H11_89 hZ k97
  have k81 := ci_H11_81 hZ k89
  have k73 := ci_H11_73 hZ k81
  have k60 := ci_H11_60 hZ k73
  have k52 := ci_H11_52 hZ k60
  have k44 := ci_H11_44 hZ k52
  have k36 := ci_H11_36 hZ k44
  have k28 := ci_H11_28 hZ k36
  refine zin hZ 28 30 rfl rfl rfl ?_
  exact ⟨8, by decide, rfl, rfl, k28⟩
def ih_22 : zH := [.inr (3, [.ref 1, .ref 11, .null, .int 0, .null, .null, .null]), .inr (0, [.int 0, .int 10, .int 0, .ref 2, .ref 3, .ref 4, .ref 5, .ref 6, .int 0, .ref 7, .ref 8, .ref 9, .ref 10, .int 0]), .inl (0, 8, .inl (fun _ => 0)), .inl (0, 8, .inl (fun _ => 0)), .inl (0, 8, .inl (fun _ => 0)), .inl (0, 8, .inl (fun _ => 0)), .inl (0, 8, .inl (fun _ => 0)), .inl (0, 8, .inl (fun _ => 0)), .inl (0, 8, .inl (fun _ => 0)), .inl (0, 8, .inl (fun _ => 0)), .inl (0, 8, .inl (fun _ => 0)), .inr (0, [.int 0, .int 10, .int 0, .ref 12, .ref 13, .ref 14, .ref 15, .ref 16, .int 0, .ref 17, .ref 18, .ref 19, .ref 20, .int 0]), .inl (0, 8, .inl (fun _ => 0)), .inl (0, 8, .inl (fun _ => 0)), .inl (0, 8, .inl (fun _ => 0)), .inl (0, 8, .inl (fun _ => 0)), .inl (0, 8, .inl (fun _ => 0)), .inl (0, 8, .inl (fun _ => 0)), .inl (0, 8, .inl (fun _ => 0)), .inl (0, 8, .inl (fun _ => 0)), .inl (0, 8, .inl (fun _ => 0))]
set_option maxRecDepth 100000 in
set_option maxHeartbeats 1000000 in
theorem ci_X_15 {SM : zC} {SF : Nat → zQ → zP} (hZ : zZ SM SF) {Q : zQ} (k : SF mn_X_init Q 26 [some (.ref 0), none] [] (20, 172) ih_22) : SF mn_X_init Q 15 [some (.ref 0), none] [] (10, 86) ih_11 := by
  refine zgo hZ 26 14 rfl ?_
  refine ⟨rfl, rfl, ?_⟩
  refine ci_H11 hZ ?_
  exact k
def ih_23 : zH := [.inr (3, [.ref 1, .ref 11, .null, .int 0, .null, .null, .null]), .inr (0, [.int 0, .int 10, .int 0, .ref 2, .ref 3, .ref 4, .ref 5, .ref 6, .int 0, .ref 7, .ref 8, .ref 9, .ref 10, .int 0]), .inl (0, 8, .inl (fun _ => 0)), .inl (0, 8, .inl (fun _ => 0)), .inl (0, 8, .inl (fun _ => 0)), .inl (0, 8, .inl (fun _ => 0)), .inl (0, 8, .inl (fun _ => 0)), .inl (0, 8, .inl (fun _ => 0)), .inl (0, 8, .inl (fun _ => 0)), .inl (0, 8, .inl (fun _ => 0)), .inl (0, 8, .inl (fun _ => 0)), .inr (0, [.int 0, .int 10, .int 0, .ref 12, .ref 13, .ref 14, .ref 15, .ref 16, .int 0, .ref 17, .ref 18, .ref 19, .ref 20, .int 0]), .inl (0, 8, .inl (fun _ => 0)), .inl (0, 8, .inl (fun _ => 0)), .inl (0, 8, .inl (fun _ => 0)), .inl (0, 8, .inl (fun _ => 0)), .inl (0, 8, .inl (fun _ => 0)), .inl (0, 8, .inl (fun _ => 0)), .inl (0, 8, .inl (fun _ => 0)), .inl (0, 8, .inl (fun _ => 0)), .inl (0, 8, .inl (fun _ => 0)), .inr (0, [.int 0, .int 0, .int 0, .null, .null, .null, .null, .null, .int 0, .null, .null, .null, .null, .int 0])]
def ih_24 : zH := [.inr (3, [.ref 1, .ref 11, .null, .int 0, .null, .null, .null]), .inr (0, [.int 0, .int 10, .int 0, .ref 2, .ref 3, .ref 4, .ref 5, .ref 6, .int 0, .ref 7, .ref 8, .ref 9, .ref 10, .int 0]), .inl (0, 8, .inl (fun _ => 0)), .inl (0, 8, .inl (fun _ => 0)), .inl (0, 8, .inl (fun _ => 0)), .inl (0, 8, .inl (fun _ => 0)), .inl (0, 8, .inl (fun _ => 0)), .inl (0, 8, .inl (fun _ => 0)), .inl (0, 8, .inl (fun _ => 0)), .inl (0, 8, .inl (fun _ => 0)), .inl (0, 8, .inl (fun _ => 0)), .inr (0, [.int 0, .int 10, .int 0, .ref 12, .ref 13, .ref 14, .ref 15, .ref 16, .int 0, .ref 17, .ref 18, .ref 19, .ref 20, .int 0]), .inl (0, 8, .inl (fun _ => 0)), .inl (0, 8, .inl (fun _ => 0)), .inl (0, 8, .inl (fun _ => 0)), .inl (0, 8, .inl (fun _ => 0)), .inl (0, 8, .inl (fun _ => 0)), .inl (0, 8, .inl (fun _ => 0)), .inl (0, 8, .inl (fun _ => 0)), .inl (0, 8, .inl (fun _ => 0)), .inl (0, 8, .inl (fun _ => 0)), .inr (0, [.int 0, .int 10, .int 0, .ref 22, .null, .null, .null, .null, .int 0, .null, .null, .null, .null, .int 0]), .inl (0, 8, .inl (fun _ => 0))]
def ih_25 : zH := [.inr (3, [.ref 1, .ref 11, .null, .int 0, .null, .null, .null]), .inr (0, [.int 0, .int 10, .int 0, .ref 2, .ref 3, .ref 4, .ref 5, .ref 6, .int 0, .ref 7, .ref 8, .ref 9, .ref 10, .int 0]), .inl (0, 8, .inl (fun _ => 0)), .inl (0, 8, .inl (fun _ => 0)), .inl (0, 8, .inl (fun _ => 0)), .inl (0, 8, .inl (fun _ => 0)), .inl (0, 8, .inl (fun _ => 0)), .inl (0, 8, .inl (fun _ => 0)), .inl (0, 8, .inl (fun _ => 0)), .inl (0, 8, .inl (fun _ => 0)), .inl (0, 8, .inl (fun _ => 0)), .inr (0, [.int 0, .int 10, .int 0, .ref 12, .ref 13, .ref 14, .ref 15, .ref 16, .int 0, .ref 17, .ref 18, .ref 19, .ref 20, .int 0]), .inl (0, 8, .inl (fun _ => 0)), .inl (0, 8, .inl (fun _ => 0)), .inl (0, 8, .inl (fun _ => 0)), .inl (0, 8, .inl (fun _ => 0)), .inl (0, 8, .inl (fun _ => 0)), .inl (0, 8, .inl (fun _ => 0)), .inl (0, 8, .inl (fun _ => 0)), .inl (0, 8, .inl (fun _ => 0)), .inl (0, 8, .inl (fun _ => 0)), .inr (0, [.int 0, .int 10, .int 0, .ref 22, .ref 23, .null, .null, .null, .int 0, .null, .null, .null, .null, .int 0]), .inl (0, 8, .inl (fun _ => 0)), .inl (0, 8, .inl (fun _ => 0))]
def ih_26 : zH := [.inr (3, [.ref 1, .ref 11, .null, .int 0, .null, .null, .null]), .inr (0, [.int 0, .int 10, .int 0, .ref 2, .ref 3, .ref 4, .ref 5, .ref 6, .int 0, .ref 7, .ref 8, .ref 9, .ref 10, .int 0]), .inl (0, 8, .inl (fun _ => 0)), .inl (0, 8, .inl (fun _ => 0)), .inl (0, 8, .inl (fun _ => 0)), .inl (0, 8, .inl (fun _ => 0)), .inl (0, 8, .inl (fun _ => 0)), .inl (0, 8, .inl (fun _ => 0)), .inl (0, 8, .inl (fun _ => 0)), .inl (0, 8, .inl (fun _ => 0)), .inl (0, 8, .inl (fun _ => 0)), .inr (0, [.int 0, .int 10, .int 0, .ref 12, .ref 13, .ref 14, .ref 15, .ref 16, .int 0, .ref 17, .ref 18, .ref 19, .ref 20, .int 0]), .inl (0, 8, .inl (fun _ => 0)), .inl (0, 8, .inl (fun _ => 0)), .inl (0, 8, .inl (fun _ => 0)), .inl (0, 8, .inl (fun _ => 0)), .inl (0, 8, .inl (fun _ => 0)), .inl (0, 8, .inl (fun _ => 0)), .inl (0, 8, .inl (fun _ => 0)), .inl (0, 8, .inl (fun _ => 0)), .inl (0, 8, .inl (fun _ => 0)), .inr (0, [.int 0, .int 10, .int 0, .ref 22, .ref 23, .ref 24, .null, .null, .int 0, .null, .null, .null, .null, .int 0]), .inl (0, 8, .inl (fun _ => 0)), .inl (0, 8, .inl (fun _ => 0)), .inl (0, 8, .inl (fun _ => 0))]
def ih_27 : zH := [.inr (3, [.ref 1, .ref 11, .null, .int 0, .null, .null, .null]), .inr (0, [.int 0, .int 10, .int 0, .ref 2, .ref 3, .ref 4, .ref 5, .ref 6, .int 0, .ref 7, .ref 8, .ref 9, .ref 10, .int 0]), .inl (0, 8, .inl (fun _ => 0)), .inl (0, 8, .inl (fun _ => 0)), .inl (0, 8, .inl (fun _ => 0)), .inl (0, 8, .inl (fun _ => 0)), .inl (0, 8, .inl (fun _ => 0)), .inl (0, 8, .inl (fun _ => 0)), .inl (0, 8, .inl (fun _ => 0)), .inl (0, 8, .inl (fun _ => 0)), .inl (0, 8, .inl (fun _ => 0)), .inr (0, [.int 0, .int 10, .int 0, .ref 12, .ref 13, .ref 14, .ref 15, .ref 16, .int 0, .ref 17, .ref 18, .ref 19, .ref 20, .int 0]), .inl (0, 8, .inl (fun _ => 0)), .inl (0, 8, .inl (fun _ => 0)), .inl (0, 8, .inl (fun _ => 0)), .inl (0, 8, .inl (fun _ => 0)), .inl (0, 8, .inl (fun _ => 0)), .inl (0, 8, .inl (fun _ => 0)), .inl (0, 8, .inl (fun _ => 0)), .inl (0, 8, .inl (fun _ => 0)), .inl (0, 8, .inl (fun _ => 0)), .inr (0, [.int 0, .int 10, .int 0, .ref 22, .ref 23, .ref 24, .ref 25, .null, .int 0, .null, .null, .null, .null, .int 0]), .inl (0, 8, .inl (fun _ => 0)), .inl (0, 8, .inl (fun _ => 0)), .inl (0, 8, .inl (fun _ => 0)), .inl (0, 8, .inl (fun _ => 0))]
def ih_28 : zH := [.inr (3, [.ref 1, .ref 11, .null, .int 0, .null, .null, .null]), .inr (0, [.int 0, .int 10, .int 0, .ref 2, .ref 3, .ref 4, .ref 5, .ref 6, .int 0, .ref 7, .ref 8, .ref 9, .ref 10, .int 0]), .inl (0, 8, .inl (fun _ => 0)), .inl (0, 8, .inl (fun _ => 0)), .inl (0, 8, .inl (fun _ => 0)), .inl (0, 8, .inl (fun _ => 0)), .inl (0, 8, .inl (fun _ => 0)), .inl (0, 8, .inl (fun _ => 0)), .inl (0, 8, .inl (fun _ => 0)), .inl (0, 8, .inl (fun _ => 0)), .inl (0, 8, .inl (fun _ => 0)), .inr (0, [.int 0, .int 10, .int 0, .ref 12, .ref 13, .ref 14, .ref 15, .ref 16, .int 0, .ref 17, .ref 18, .ref 19, .ref 20, .int 0]), .inl (0, 8, .inl (fun _ => 0)), .inl (0, 8, .inl (fun _ => 0)), .inl (0, 8, .inl (fun _ => 0)), .inl (0, 8, .inl (fun _ => 0)), .inl (0, 8, .inl (fun _ => 0)), .inl (0, 8, .inl (fun _ => 0)), .inl (0, 8, .inl (fun _ => 0)), .inl (0, 8, .inl (fun _ => 0)), .inl (0, 8, .inl (fun _ => 0)), .inr (0, [.int 0, .int 10, .int 0, .ref 22, .ref 23, .ref 24, .ref 25, .ref 26, .int 0, .null, .null, .null, .null, .int 0]), .inl (0, 8, .inl (fun _ => 0)), .inl (0, 8, .inl (fun _ => 0)), .inl (0, 8, .inl (fun _ => 0)), .inl (0, 8, .inl (fun _ => 0)), .inl (0, 8, .inl (fun _ => 0))]
def ih_29 : zH := [.inr (3, [.ref 1, .ref 11, .null, .int 0, .null, .null, .null]), .inr (0, [.int 0, .int 10, .int 0, .ref 2, .ref 3, .ref 4, .ref 5, .ref 6, .int 0, .ref 7, .ref 8, .ref 9, .ref 10, .int 0]), .inl (0, 8, .inl (fun _ => 0)), .inl (0, 8, .inl (fun _ => 0)), .inl (0, 8, .inl (fun _ => 0)), .inl (0, 8, .inl (fun _ => 0)), .inl (0, 8, .inl (fun _ => 0)), .inl (0, 8, .inl (fun _ => 0)), .inl (0, 8, .inl (fun _ => 0)), .inl (0, 8, .inl (fun _ => 0)), .inl (0, 8, .inl (fun _ => 0)), .inr (0, [.int 0, .int 10, .int 0, .ref 12, .ref 13, .ref 14, .ref 15, .ref 16, .int 0, .ref 17, .ref 18, .ref 19, .ref 20, .int 0]), .inl (0, 8, .inl (fun _ => 0)), .inl (0, 8, .inl (fun _ => 0)), .inl (0, 8, .inl (fun _ => 0)), .inl (0, 8, .inl (fun _ => 0)), .inl (0, 8, .inl (fun _ => 0)), .inl (0, 8, .inl (fun _ => 0)), .inl (0, 8, .inl (fun _ => 0)), .inl (0, 8, .inl (fun _ => 0)), .inl (0, 8, .inl (fun _ => 0)), .inr (0, [.int 0, .int 10, .int 0, .ref 22, .ref 23, .ref 24, .ref 25, .ref 26, .int 0, .ref 27, .null, .null, .null, .int 0]), .inl (0, 8, .inl (fun _ => 0)), .inl (0, 8, .inl (fun _ => 0)), .inl (0, 8, .inl (fun _ => 0)), .inl (0, 8, .inl (fun _ => 0)), .inl (0, 8, .inl (fun _ => 0)), .inl (0, 8, .inl (fun _ => 0))]
def ih_30 : zH := [.inr (3, [.ref 1, .ref 11, .null, .int 0, .null, .null, .null]), .inr (0, [.int 0, .int 10, .int 0, .ref 2, .ref 3, .ref 4, .ref 5, .ref 6, .int 0, .ref 7, .ref 8, .ref 9, .ref 10, .int 0]), .inl (0, 8, .inl (fun _ => 0)), .inl (0, 8, .inl (fun _ => 0)), .inl (0, 8, .inl (fun _ => 0)), .inl (0, 8, .inl (fun _ => 0)), .inl (0, 8, .inl (fun _ => 0)), .inl (0, 8, .inl (fun _ => 0)), .inl (0, 8, .inl (fun _ => 0)), .inl (0, 8, .inl (fun _ => 0)), .inl (0, 8, .inl (fun _ => 0)), .inr (0, [.int 0, .int 10, .int 0, .ref 12, .ref 13, .ref 14, .ref 15, .ref 16, .int 0, .ref 17, .ref 18, .ref 19, .ref 20, .int 0]), .inl (0, 8, .inl (fun _ => 0)), .inl (0, 8, .inl (fun _ => 0)), .inl (0, 8, .inl (fun _ => 0)), .inl (0, 8, .inl (fun _ => 0)), .inl (0, 8, .inl (fun _ => 0)), .inl (0, 8, .inl (fun _ => 0)), .inl (0, 8, .inl (fun _ => 0)), .inl (0, 8, .inl (fun _ => 0)), .inl (0, 8, .inl (fun _ => 0)), .inr (0, [.int 0, .int 10, .int 0, .ref 22, .ref 23, .ref 24, .ref 25, .ref 26, .int 0, .ref 27, .ref 28, .null, .null, .int 0]), .inl (0, 8, .inl (fun _ => 0)), .inl (0, 8, .inl (fun _ => 0)), .inl (0, 8, .inl (fun _ => 0)), .inl (0, 8, .inl (fun _ => 0)), .inl (0, 8, .inl (fun _ => 0)), .inl (0, 8, .inl (fun _ => 0)), .inl (0, 8, .inl (fun _ => 0))]
def ih_31 : zH := [.inr (3, [.ref 1, .ref 11, .null, .int 0, .null, .null, .null]), .inr (0, [.int 0, .int 10, .int 0, .ref 2, .ref 3, .ref 4, .ref 5, .ref 6, .int 0, .ref 7, .ref 8, .ref 9, .ref 10, .int 0]), .inl (0, 8, .inl (fun _ => 0)), .inl (0, 8, .inl (fun _ => 0)), .inl (0, 8, .inl (fun _ => 0)), .inl (0, 8, .inl (fun _ => 0)), .inl (0, 8, .inl (fun _ => 0)), .inl (0, 8, .inl (fun _ => 0)), .inl (0, 8, .inl (fun _ => 0)), .inl (0, 8, .inl (fun _ => 0)), .inl (0, 8, .inl (fun _ => 0)), .inr (0, [.int 0, .int 10, .int 0, .ref 12, .ref 13, .ref 14, .ref 15, .ref 16, .int 0, .ref 17, .ref 18, .ref 19, .ref 20, .int 0]), .inl (0, 8, .inl (fun _ => 0)), .inl (0, 8, .inl (fun _ => 0)), .inl (0, 8, .inl (fun _ => 0)), .inl (0, 8, .inl (fun _ => 0)), .inl (0, 8, .inl (fun _ => 0)), .inl (0, 8, .inl (fun _ => 0)), .inl (0, 8, .inl (fun _ => 0)), .inl (0, 8, .inl (fun _ => 0)), .inl (0, 8, .inl (fun _ => 0)), .inr (0, [.int 0, .int 10, .int 0, .ref 22, .ref 23, .ref 24, .ref 25, .ref 26, .int 0, .ref 27, .ref 28, .ref 29, .null, .int 0]), .inl (0, 8, .inl (fun _ => 0)), .inl (0, 8, .inl (fun _ => 0)), .inl (0, 8, .inl (fun _ => 0)), .inl (0, 8, .inl (fun _ => 0)), .inl (0, 8, .inl (fun _ => 0)), .inl (0, 8, .inl (fun _ => 0)), .inl (0, 8, .inl (fun _ => 0)), .inl (0, 8, .inl (fun _ => 0))]
def ih_32 : zH := [.inr (3, [.ref 1, .ref 11, .null, .int 0, .null, .null, .null]), .inr (0, [.int 0, .int 10, .int 0, .ref 2, .ref 3, .ref 4, .ref 5, .ref 6, .int 0, .ref 7, .ref 8, .ref 9, .ref 10, .int 0]), .inl (0, 8, .inl (fun _ => 0)), .inl (0, 8, .inl (fun _ => 0)), .inl (0, 8, .inl (fun _ => 0)), .inl (0, 8, .inl (fun _ => 0)), .inl (0, 8, .inl (fun _ => 0)), .inl (0, 8, .inl (fun _ => 0)), .inl (0, 8, .inl (fun _ => 0)), .inl (0, 8, .inl (fun _ => 0)), .inl (0, 8, .inl (fun _ => 0)), .inr (0, [.int 0, .int 10, .int 0, .ref 12, .ref 13, .ref 14, .ref 15, .ref 16, .int 0, .ref 17, .ref 18, .ref 19, .ref 20, .int 0]), .inl (0, 8, .inl (fun _ => 0)), .inl (0, 8, .inl (fun _ => 0)), .inl (0, 8, .inl (fun _ => 0)), .inl (0, 8, .inl (fun _ => 0)), .inl (0, 8, .inl (fun _ => 0)), .inl (0, 8, .inl (fun _ => 0)), .inl (0, 8, .inl (fun _ => 0)), .inl (0, 8, .inl (fun _ => 0)), .inl (0, 8, .inl (fun _ => 0)), .inr (0, [.int 0, .int 10, .int 0, .ref 22, .ref 23, .ref 24, .ref 25, .ref 26, .int 0, .ref 27, .ref 28, .ref 29, .ref 30, .int 0]), .inl (0, 8, .inl (fun _ => 0)), .inl (0, 8, .inl (fun _ => 0)), .inl (0, 8, .inl (fun _ => 0)), .inl (0, 8, .inl (fun _ => 0)), .inl (0, 8, .inl (fun _ => 0)), .inl (0, 8, .inl (fun _ => 0)), .inl (0, 8, .inl (fun _ => 0)), .inl (0, 8, .inl (fun _ => 0)), .inl (0, 8, .inl (fun _ => 0))]
set_option maxRecDepth 100000 in
set_option maxHeartbeats 1000000 in
theorem ci_H21_28 {SM : zC} {SF : Nat → zQ → zP} (hZ : zZ SM SF) {Q : zQ} (k : SF mn_H_init Q 36 [some (.ref 21)] [] (2, 16) ih_25) : SF mn_H_init Q 28 [some (.ref 21)] [] (1, 8) ih_24 := by
  refine zgo hZ 36 12 rfl ?_
  exact ⟨8, by decide, rfl, rfl, k⟩
set_option maxRecDepth 100000 in
set_option maxHeartbeats 1000000 in
theorem ci_H21_36 {SM : zC} {SF : Nat → zQ → zP} (hZ : zZ SM SF) {Q : zQ} (k : SF mn_H_init Q 44 [some (.ref 21)] [] (3, 24) ih_26) : SF mn_H_init Q 36 [some (.ref 21)] [] (2, 16) ih_25 := by
  refine zgo hZ 44 12 rfl ?_
  exact ⟨8, by decide, rfl, rfl, k⟩
set_option maxRecDepth 100000 in
set_option maxHeartbeats 1000000 in
theorem ci_H21_44 {SM : zC} {SF : Nat → zQ → zP} (hZ : zZ SM SF) {Q : zQ} (k : SF mn_H_init Q 52 [some (.ref 21)] [] (4, 32) ih_27) : SF mn_H_init Q 44 [some (.ref 21)] [] (3, 24) ih_26 := by
  refine zgo hZ 52 12 rfl ?_
  exact ⟨8, by decide, rfl, rfl, k⟩
set_option maxRecDepth 100000 in
set_option maxHeartbeats 1000000 in
theorem ci_H21_52 {SM : zC} {SF : Nat → zQ → zP} (hZ : zZ SM SF) {Q : zQ} (k : SF mn_H_init Q 60 [some (.ref 21)] [] (5, 40) ih_28) : SF mn_H_init Q 52 [some (.ref 21)] [] (4, 32) ih_27 := by
  refine zgo hZ 60 12 rfl ?_
  exact ⟨8, by decide, rfl, rfl, k⟩
set_option maxRecDepth 100000 in
set_option maxHeartbeats 1000000 in
theorem ci_H21_60 {SM : zC} {SF : Nat → zQ → zP} (hZ : zZ SM SF) {Q : zQ} (k : SF mn_H_init Q 73 [some (.ref 21)] [] (6, 48) ih_29) : SF mn_H_init Q 60 [some (.ref 21)] [] (5, 40) ih_28 := by
  refine zgo hZ 73 12 rfl ?_
  exact ⟨8, by decide, rfl, rfl, k⟩
set_option maxRecDepth 100000 in
set_option maxHeartbeats 1000000 in
theorem ci_H21_73 {SM : zC} {SF : Nat → zQ → zP} (hZ : zZ SM SF) {Q : zQ} (k : SF mn_H_init Q 81 [some (.ref 21)] [] (7, 56) ih_30) : SF mn_H_init Q 73 [some (.ref 21)] [] (6, 48) ih_29 := by
  refine zgo hZ 81 12 rfl ?_
  exact ⟨8, by decide, rfl, rfl, k⟩
set_option maxRecDepth 100000 in
set_option maxHeartbeats 1000000 in
theorem ci_H21_81 {SM : zC} {SF : Nat → zQ → zP} (hZ : zZ SM SF) {Q : zQ} (k : SF mn_H_init Q 89 [some (.ref 21)] [] (8, 64) ih_31) : SF mn_H_init Q 81 [some (.ref 21)] [] (7, 56) ih_30 := by
  refine zgo hZ 89 12 rfl ?_
  exact ⟨8, by decide, rfl, rfl, k⟩
set_option maxRecDepth 100000 in
set_option maxHeartbeats 1000000 in
theorem ci_H21_89 {SM : zC} {SF : Nat → zQ → zP} (hZ : zZ SM SF) {Q : zQ} (k : SF mn_H_init Q 97 [some (.ref 21)] [] (9, 72) ih_32) : SF mn_H_init Q 89 [some (.ref 21)] [] (8, 64) ih_31 := by
  refine zgo hZ 97 12 rfl ?_
  exact ⟨8, by decide, rfl, rfl, k⟩
set_option maxRecDepth 100000 in
set_option maxHeartbeats 1000000 in
theorem ci_H21 {SM : zC} {SF : Nat → zQ → zP} (hZ : zZ SM SF) {Q : zQ} (k : Q none ih_32) : SM mn_H_init [.ref 21] ih_23 Q := by
  have k97 : SF mn_H_init Q 97 [some (.ref 21)] [] (9, 72) ih_32 := by
    refine zgo hZ 999 8 rfl ?_
    exact k
  have k89 := ci_H21_89 hZ k97
  have k81 := ci_H21_81 hZ k89
  have k73 := ci_H21_73 hZ k81
  have k60 := ci_H21_60 hZ k73
  have k52 := ci_H21_52 hZ k60
  have k44 := ci_H21_44 hZ k52
  have k36 := ci_H21_36 hZ k44
  have k28 := ci_H21_28 hZ k36
  refine zin hZ 28 30 rfl rfl rfl ?_
  exact ⟨8, by decide, rfl, rfl, k28⟩
def ih_33 : zH := [.inr (3, [.ref 1, .ref 11, .ref 21, .int 0, .null, .null, .null]), .inr (0, [.int 0, .int 10, .int 0, .ref 2, .ref 3, .ref 4, .ref 5, .ref 6, .int 0, .ref 7, .ref 8, .ref 9, .ref 10, .int 0]), .inl (0, 8, .inl (fun _ => 0)), .inl (0, 8, .inl (fun _ => 0)), .inl (0, 8, .inl (fun _ => 0)), .inl (0, 8, .inl (fun _ => 0)), .inl (0, 8, .inl (fun _ => 0)), .inl (0, 8, .inl (fun _ => 0)), .inl (0, 8, .inl (fun _ => 0)), .inl (0, 8, .inl (fun _ => 0)), .inl (0, 8, .inl (fun _ => 0)), .inr (0, [.int 0, .int 10, .int 0, .ref 12, .ref 13, .ref 14, .ref 15, .ref 16, .int 0, .ref 17, .ref 18, .ref 19, .ref 20, .int 0]), .inl (0, 8, .inl (fun _ => 0)), .inl (0, 8, .inl (fun _ => 0)), .inl (0, 8, .inl (fun _ => 0)), .inl (0, 8, .inl (fun _ => 0)), .inl (0, 8, .inl (fun _ => 0)), .inl (0, 8, .inl (fun _ => 0)), .inl (0, 8, .inl (fun _ => 0)), .inl (0, 8, .inl (fun _ => 0)), .inl (0, 8, .inl (fun _ => 0)), .inr (0, [.int 0, .int 10, .int 0, .ref 22, .ref 23, .ref 24, .ref 25, .ref 26, .int 0, .ref 27, .ref 28, .ref 29, .ref 30, .int 0]), .inl (0, 8, .inl (fun _ => 0)), .inl (0, 8, .inl (fun _ => 0)), .inl (0, 8, .inl (fun _ => 0)), .inl (0, 8, .inl (fun _ => 0)), .inl (0, 8, .inl (fun _ => 0)), .inl (0, 8, .inl (fun _ => 0)), .inl (0, 8, .inl (fun _ => 0)), .inl (0, 8, .inl (fun _ => 0)), .inl (0, 8, .inl (fun _ => 0))]
set_option maxRecDepth 100000 in
set_option maxHeartbeats 1000000 in
theorem ci_X_26 {SM : zC} {SF : Nat → zQ → zP} (hZ : zZ SM SF) {Q : zQ} (k : SF mn_X_init Q 37 [some (.ref 0), none] [] (30, 258) ih_33) : SF mn_X_init Q 26 [some (.ref 0), none] [] (20, 172) ih_22 := by
  refine zgo hZ 37 14 rfl ?_
  refine ⟨rfl, rfl, ?_⟩
  refine ci_H21 hZ ?_
  exact k
def ih_34 : zH := [.inr (3, [.ref 1, .ref 11, .ref 21, .int 0, .null, .null, .null]), .inr (0, [.int 0, .int 10, .int 0, .ref 2, .ref 3, .ref 4, .ref 5, .ref 6, .int 0, .ref 7, .ref 8, .ref 9, .ref 10, .int 0]), .inl (0, 8, .inl (fun _ => 0)), .inl (0, 8, .inl (fun _ => 0)), .inl (0, 8, .inl (fun _ => 0)), .inl (0, 8, .inl (fun _ => 0)), .inl (0, 8, .inl (fun _ => 0)), .inl (0, 8, .inl (fun _ => 0)), .inl (0, 8, .inl (fun _ => 0)), .inl (0, 8, .inl (fun _ => 0)), .inl (0, 8, .inl (fun _ => 0)), .inr (0, [.int 0, .int 10, .int 0, .ref 12, .ref 13, .ref 14, .ref 15, .ref 16, .int 0, .ref 17, .ref 18, .ref 19, .ref 20, .int 0]), .inl (0, 8, .inl (fun _ => 0)), .inl (0, 8, .inl (fun _ => 0)), .inl (0, 8, .inl (fun _ => 0)), .inl (0, 8, .inl (fun _ => 0)), .inl (0, 8, .inl (fun _ => 0)), .inl (0, 8, .inl (fun _ => 0)), .inl (0, 8, .inl (fun _ => 0)), .inl (0, 8, .inl (fun _ => 0)), .inl (0, 8, .inl (fun _ => 0)), .inr (0, [.int 0, .int 10, .int 0, .ref 22, .ref 23, .ref 24, .ref 25, .ref 26, .int 0, .ref 27, .ref 28, .ref 29, .ref 30, .int 0]), .inl (0, 8, .inl (fun _ => 0)), .inl (0, 8, .inl (fun _ => 0)), .inl (0, 8, .inl (fun _ => 0)), .inl (0, 8, .inl (fun _ => 0)), .inl (0, 8, .inl (fun _ => 0)), .inl (0, 8, .inl (fun _ => 0)), .inl (0, 8, .inl (fun _ => 0)), .inl (0, 8, .inl (fun _ => 0)), .inl (0, 8, .inl (fun _ => 0)), .inr (2, [.null, .int 0, .int 0, .int 0, .int 0, .int 0])]
def ih_35 : zH := [.inr (3, [.ref 1, .ref 11, .ref 21, .int 0, .null, .null, .null]), .inr (0, [.int 0, .int 10, .int 0, .ref 2, .ref 3, .ref 4, .ref 5, .ref 6, .int 0, .ref 7, .ref 8, .ref 9, .ref 10, .int 0]), .inl (0, 8, .inl (fun _ => 0)), .inl (0, 8, .inl (fun _ => 0)), .inl (0, 8, .inl (fun _ => 0)), .inl (0, 8, .inl (fun _ => 0)), .inl (0, 8, .inl (fun _ => 0)), .inl (0, 8, .inl (fun _ => 0)), .inl (0, 8, .inl (fun _ => 0)), .inl (0, 8, .inl (fun _ => 0)), .inl (0, 8, .inl (fun _ => 0)), .inr (0, [.int 0, .int 10, .int 0, .ref 12, .ref 13, .ref 14, .ref 15, .ref 16, .int 0, .ref 17, .ref 18, .ref 19, .ref 20, .int 0]), .inl (0, 8, .inl (fun _ => 0)), .inl (0, 8, .inl (fun _ => 0)), .inl (0, 8, .inl (fun _ => 0)), .inl (0, 8, .inl (fun _ => 0)), .inl (0, 8, .inl (fun _ => 0)), .inl (0, 8, .inl (fun _ => 0)), .inl (0, 8, .inl (fun _ => 0)), .inl (0, 8, .inl (fun _ => 0)), .inl (0, 8, .inl (fun _ => 0)), .inr (0, [.int 0, .int 10, .int 0, .ref 22, .ref 23, .ref 24, .ref 25, .ref 26, .int 0, .ref 27, .ref 28, .ref 29, .ref 30, .int 0]), .inl (0, 8, .inl (fun _ => 0)), .inl (0, 8, .inl (fun _ => 0)), .inl (0, 8, .inl (fun _ => 0)), .inl (0, 8, .inl (fun _ => 0)), .inl (0, 8, .inl (fun _ => 0)), .inl (0, 8, .inl (fun _ => 0)), .inl (0, 8, .inl (fun _ => 0)), .inl (0, 8, .inl (fun _ => 0)), .inl (0, 8, .inl (fun _ => 0)), .inr (2, [.ref 32, .int 0, .int 0, .int 0, .int 0, .int 0]), .inl (0, 120, .inl (fun _ => 0))]
set_option maxRecDepth 100000 in
set_option maxHeartbeats 1000000 in
theorem ci_T {SM : zC} {SF : Nat → zQ → zP} (hZ : zZ SM SF) {Q : zQ} (k : Q none ih_35) : SM mn_T_init [.ref 31] ih_34 Q := by
  refine zin hZ 999 40 rfl rfl rfl ?_
  exact ⟨120, by decide, rfl, rfl, k⟩
def ih_36 : zH := [.inr (3, [.ref 1, .ref 11, .ref 21, .int 0, .ref 31, .null, .null]), .inr (0, [.int 0, .int 10, .int 0, .ref 2, .ref 3, .ref 4, .ref 5, .ref 6, .int 0, .ref 7, .ref 8, .ref 9, .ref 10, .int 0]), .inl (0, 8, .inl (fun _ => 0)), .inl (0, 8, .inl (fun _ => 0)), .inl (0, 8, .inl (fun _ => 0)), .inl (0, 8, .inl (fun _ => 0)), .inl (0, 8, .inl (fun _ => 0)), .inl (0, 8, .inl (fun _ => 0)), .inl (0, 8, .inl (fun _ => 0)), .inl (0, 8, .inl (fun _ => 0)), .inl (0, 8, .inl (fun _ => 0)), .inr (0, [.int 0, .int 10, .int 0, .ref 12, .ref 13, .ref 14, .ref 15, .ref 16, .int 0, .ref 17, .ref 18, .ref 19, .ref 20, .int 0]), .inl (0, 8, .inl (fun _ => 0)), .inl (0, 8, .inl (fun _ => 0)), .inl (0, 8, .inl (fun _ => 0)), .inl (0, 8, .inl (fun _ => 0)), .inl (0, 8, .inl (fun _ => 0)), .inl (0, 8, .inl (fun _ => 0)), .inl (0, 8, .inl (fun _ => 0)), .inl (0, 8, .inl (fun _ => 0)), .inl (0, 8, .inl (fun _ => 0)), .inr (0, [.int 0, .int 10, .int 0, .ref 22, .ref 23, .ref 24, .ref 25, .ref 26, .int 0, .ref 27, .ref 28, .ref 29, .ref 30, .int 0]), .inl (0, 8, .inl (fun _ => 0)), .inl (0, 8, .inl (fun _ => 0)), .inl (0, 8, .inl (fun _ => 0)), .inl (0, 8, .inl (fun _ => 0)), .inl (0, 8, .inl (fun _ => 0)), .inl (0, 8, .inl (fun _ => 0)), .inl (0, 8, .inl (fun _ => 0)), .inl (0, 8, .inl (fun _ => 0)), .inl (0, 8, .inl (fun _ => 0)), .inr (2, [.ref 32, .int 0, .int 0, .int 0, .int 0, .int 0]), .inl (0, 120, .inl (fun _ => 0))]
set_option maxRecDepth 100000 in
set_option maxHeartbeats 1000000 in
theorem ci_X_37 {SM : zC} {SF : Nat → zQ → zP} (hZ : zZ SM SF) {Q : zQ} (k : SF mn_X_init Q 53 [some (.ref 0), none] [] (32, 384) ih_36) : SF mn_X_init Q 37 [some (.ref 0), none] [] (30, 258) ih_33 := by
  refine zgo hZ 53 14 rfl ?_
  refine ⟨Or.inl rfl, rfl, rfl, ?_⟩
  refine ci_T hZ ?_
  exact k
def ih_37 : zH := [.inr (3, [.ref 1, .ref 11, .ref 21, .int 0, .ref 31, .ref 33, .null]), .inr (0, [.int 0, .int 10, .int 0, .ref 2, .ref 3, .ref 4, .ref 5, .ref 6, .int 0, .ref 7, .ref 8, .ref 9, .ref 10, .int 0]), .inl (0, 8, .inl (fun _ => 0)), .inl (0, 8, .inl (fun _ => 0)), .inl (0, 8, .inl (fun _ => 0)), .inl (0, 8, .inl (fun _ => 0)), .inl (0, 8, .inl (fun _ => 0)), .inl (0, 8, .inl (fun _ => 0)), .inl (0, 8, .inl (fun _ => 0)), .inl (0, 8, .inl (fun _ => 0)), .inl (0, 8, .inl (fun _ => 0)), .inr (0, [.int 0, .int 10, .int 0, .ref 12, .ref 13, .ref 14, .ref 15, .ref 16, .int 0, .ref 17, .ref 18, .ref 19, .ref 20, .int 0]), .inl (0, 8, .inl (fun _ => 0)), .inl (0, 8, .inl (fun _ => 0)), .inl (0, 8, .inl (fun _ => 0)), .inl (0, 8, .inl (fun _ => 0)), .inl (0, 8, .inl (fun _ => 0)), .inl (0, 8, .inl (fun _ => 0)), .inl (0, 8, .inl (fun _ => 0)), .inl (0, 8, .inl (fun _ => 0)), .inl (0, 8, .inl (fun _ => 0)), .inr (0, [.int 0, .int 10, .int 0, .ref 22, .ref 23, .ref 24, .ref 25, .ref 26, .int 0, .ref 27, .ref 28, .ref 29, .ref 30, .int 0]), .inl (0, 8, .inl (fun _ => 0)), .inl (0, 8, .inl (fun _ => 0)), .inl (0, 8, .inl (fun _ => 0)), .inl (0, 8, .inl (fun _ => 0)), .inl (0, 8, .inl (fun _ => 0)), .inl (0, 8, .inl (fun _ => 0)), .inl (0, 8, .inl (fun _ => 0)), .inl (0, 8, .inl (fun _ => 0)), .inl (0, 8, .inl (fun _ => 0)), .inr (2, [.ref 32, .int 0, .int 0, .int 0, .int 0, .int 0]), .inl (0, 120, .inl (fun _ => 0)), .inl (2, 4, .inr (.inr (.inr (.inr (fun _ => none)))))]
set_option maxRecDepth 100000 in
set_option maxHeartbeats 1000000 in
theorem ci_X_53 {SM : zC} {SF : Nat → zQ → zP} (hZ : zZ SM SF) {Q : zQ} (k : SF mn_X_init Q 63 [some (.ref 0), some (.int (nI 0))] [] (33, 388) ih_37) : SF mn_X_init Q 53 [some (.ref 0), none] [] (32, 384) ih_36 := by
  refine zgo hZ 63 14 rfl ?_
  exact ⟨4, by decide, rfl, rfl, k⟩
def ih_38 : zH := [.inr (3, [.ref 1, .ref 11, .ref 21, .int 0, .ref 31, .ref 33, .null]), .inr (0, [.int 0, .int 10, .int 0, .ref 2, .ref 3, .ref 4, .ref 5, .ref 6, .int 0, .ref 7, .ref 8, .ref 9, .ref 10, .int 0]), .inl (0, 8, .inl (fun _ => 0)), .inl (0, 8, .inl (fun _ => 0)), .inl (0, 8, .inl (fun _ => 0)), .inl (0, 8, .inl (fun _ => 0)), .inl (0, 8, .inl (fun _ => 0)), .inl (0, 8, .inl (fun _ => 0)), .inl (0, 8, .inl (fun _ => 0)), .inl (0, 8, .inl (fun _ => 0)), .inl (0, 8, .inl (fun _ => 0)), .inr (0, [.int 0, .int 10, .int 0, .ref 12, .ref 13, .ref 14, .ref 15, .ref 16, .int 0, .ref 17, .ref 18, .ref 19, .ref 20, .int 0]), .inl (0, 8, .inl (fun _ => 0)), .inl (0, 8, .inl (fun _ => 0)), .inl (0, 8, .inl (fun _ => 0)), .inl (0, 8, .inl (fun _ => 0)), .inl (0, 8, .inl (fun _ => 0)), .inl (0, 8, .inl (fun _ => 0)), .inl (0, 8, .inl (fun _ => 0)), .inl (0, 8, .inl (fun _ => 0)), .inl (0, 8, .inl (fun _ => 0)), .inr (0, [.int 0, .int 10, .int 0, .ref 22, .ref 23, .ref 24, .ref 25, .ref 26, .int 0, .ref 27, .ref 28, .ref 29, .ref 30, .int 0]), .inl (0, 8, .inl (fun _ => 0)), .inl (0, 8, .inl (fun _ => 0)), .inl (0, 8, .inl (fun _ => 0)), .inl (0, 8, .inl (fun _ => 0)), .inl (0, 8, .inl (fun _ => 0)), .inl (0, 8, .inl (fun _ => 0)), .inl (0, 8, .inl (fun _ => 0)), .inl (0, 8, .inl (fun _ => 0)), .inl (0, 8, .inl (fun _ => 0)), .inr (2, [.ref 32, .int 0, .int 0, .int 0, .int 0, .int 0]), .inl (0, 120, .inl (fun _ => 0)), .inl (2, 4, .inr (.inr (.inr (.inr (fun _ => none))))), .inr (1, [.int 0, .int 0, .null])]
def ih_39 : zH := [.inr (3, [.ref 1, .ref 11, .ref 21, .int 0, .ref 31, .ref 33, .null]), .inr (0, [.int 0, .int 10, .int 0, .ref 2, .ref 3, .ref 4, .ref 5, .ref 6, .int 0, .ref 7, .ref 8, .ref 9, .ref 10, .int 0]), .inl (0, 8, .inl (fun _ => 0)), .inl (0, 8, .inl (fun _ => 0)), .inl (0, 8, .inl (fun _ => 0)), .inl (0, 8, .inl (fun _ => 0)), .inl (0, 8, .inl (fun _ => 0)), .inl (0, 8, .inl (fun _ => 0)), .inl (0, 8, .inl (fun _ => 0)), .inl (0, 8, .inl (fun _ => 0)), .inl (0, 8, .inl (fun _ => 0)), .inr (0, [.int 0, .int 10, .int 0, .ref 12, .ref 13, .ref 14, .ref 15, .ref 16, .int 0, .ref 17, .ref 18, .ref 19, .ref 20, .int 0]), .inl (0, 8, .inl (fun _ => 0)), .inl (0, 8, .inl (fun _ => 0)), .inl (0, 8, .inl (fun _ => 0)), .inl (0, 8, .inl (fun _ => 0)), .inl (0, 8, .inl (fun _ => 0)), .inl (0, 8, .inl (fun _ => 0)), .inl (0, 8, .inl (fun _ => 0)), .inl (0, 8, .inl (fun _ => 0)), .inl (0, 8, .inl (fun _ => 0)), .inr (0, [.int 0, .int 10, .int 0, .ref 22, .ref 23, .ref 24, .ref 25, .ref 26, .int 0, .ref 27, .ref 28, .ref 29, .ref 30, .int 0]), .inl (0, 8, .inl (fun _ => 0)), .inl (0, 8, .inl (fun _ => 0)), .inl (0, 8, .inl (fun _ => 0)), .inl (0, 8, .inl (fun _ => 0)), .inl (0, 8, .inl (fun _ => 0)), .inl (0, 8, .inl (fun _ => 0)), .inl (0, 8, .inl (fun _ => 0)), .inl (0, 8, .inl (fun _ => 0)), .inl (0, 8, .inl (fun _ => 0)), .inr (2, [.ref 32, .int 0, .int 0, .int 0, .int 0, .int 0]), .inl (0, 120, .inl (fun _ => 0)), .inl (2, 4, .inr (.inr (.inr (.inr (fun _ => none))))), .inr (1, [.int 0, .int 0, .ref 35]), .inl (1, 40, .inr (.inl (fun _ => 0)))]
set_option maxRecDepth 100000 in
set_option maxHeartbeats 1000000 in
theorem ci_S0 {SM : zC} {SF : Nat → zQ → zP} (hZ : zZ SM SF) {Q : zQ} (k : Q none ih_39) : SM mn_S_init [.ref 34] ih_38 Q := by
  refine zin hZ 999 30 rfl rfl rfl ?_
  exact ⟨40, by decide, rfl, rfl, k⟩
def ih_40 : zH := [.inr (3, [.ref 1, .ref 11, .ref 21, .int 0, .ref 31, .ref 33, .null]), .inr (0, [.int 0, .int 10, .int 0, .ref 2, .ref 3, .ref 4, .ref 5, .ref 6, .int 0, .ref 7, .ref 8, .ref 9, .ref 10, .int 0]), .inl (0, 8, .inl (fun _ => 0)), .inl (0, 8, .inl (fun _ => 0)), .inl (0, 8, .inl (fun _ => 0)), .inl (0, 8, .inl (fun _ => 0)), .inl (0, 8, .inl (fun _ => 0)), .inl (0, 8, .inl (fun _ => 0)), .inl (0, 8, .inl (fun _ => 0)), .inl (0, 8, .inl (fun _ => 0)), .inl (0, 8, .inl (fun _ => 0)), .inr (0, [.int 0, .int 10, .int 0, .ref 12, .ref 13, .ref 14, .ref 15, .ref 16, .int 0, .ref 17, .ref 18, .ref 19, .ref 20, .int 0]), .inl (0, 8, .inl (fun _ => 0)), .inl (0, 8, .inl (fun _ => 0)), .inl (0, 8, .inl (fun _ => 0)), .inl (0, 8, .inl (fun _ => 0)), .inl (0, 8, .inl (fun _ => 0)), .inl (0, 8, .inl (fun _ => 0)), .inl (0, 8, .inl (fun _ => 0)), .inl (0, 8, .inl (fun _ => 0)), .inl (0, 8, .inl (fun _ => 0)), .inr (0, [.int 0, .int 10, .int 0, .ref 22, .ref 23, .ref 24, .ref 25, .ref 26, .int 0, .ref 27, .ref 28, .ref 29, .ref 30, .int 0]), .inl (0, 8, .inl (fun _ => 0)), .inl (0, 8, .inl (fun _ => 0)), .inl (0, 8, .inl (fun _ => 0)), .inl (0, 8, .inl (fun _ => 0)), .inl (0, 8, .inl (fun _ => 0)), .inl (0, 8, .inl (fun _ => 0)), .inl (0, 8, .inl (fun _ => 0)), .inl (0, 8, .inl (fun _ => 0)), .inl (0, 8, .inl (fun _ => 0)), .inr (2, [.ref 32, .int 0, .int 0, .int 0, .int 0, .int 0]), .inl (0, 120, .inl (fun _ => 0)), .inl (2, 4, .inr (.inr (.inr (.inr (va_up (fun _ => none) 0 (some 34)))))), .inr (1, [.int 0, .int 0, .ref 35]), .inl (1, 40, .inr (.inl (fun _ => 0)))]
set_option maxRecDepth 100000 in
set_option maxHeartbeats 1000000 in
theorem ci_X_63_0 {SM : zC} {SF : Nat → zQ → zP} (hZ : zZ SM SF) {Q : zQ} (k : SF mn_X_init Q 63 [some (.ref 0), some (.int (nI 1))] [] (35, 431) ih_40) : SF mn_X_init Q 63 [some (.ref 0), some (.int (nI 0))] [] (33, 388) ih_37 := by
  rw [← nI_1] at k
  refine zgo hZ 63 20 rfl ?_
  refine ⟨fun h => absurd h (by decide), fun _ => ?_⟩
  refine ⟨rfl, rfl, ?_⟩
  refine ci_S0 hZ ?_
  exact ⟨0, by decide, rfl, k⟩
def ih_41 : zH := [.inr (3, [.ref 1, .ref 11, .ref 21, .int 0, .ref 31, .ref 33, .null]), .inr (0, [.int 0, .int 10, .int 0, .ref 2, .ref 3, .ref 4, .ref 5, .ref 6, .int 0, .ref 7, .ref 8, .ref 9, .ref 10, .int 0]), .inl (0, 8, .inl (fun _ => 0)), .inl (0, 8, .inl (fun _ => 0)), .inl (0, 8, .inl (fun _ => 0)), .inl (0, 8, .inl (fun _ => 0)), .inl (0, 8, .inl (fun _ => 0)), .inl (0, 8, .inl (fun _ => 0)), .inl (0, 8, .inl (fun _ => 0)), .inl (0, 8, .inl (fun _ => 0)), .inl (0, 8, .inl (fun _ => 0)), .inr (0, [.int 0, .int 10, .int 0, .ref 12, .ref 13, .ref 14, .ref 15, .ref 16, .int 0, .ref 17, .ref 18, .ref 19, .ref 20, .int 0]), .inl (0, 8, .inl (fun _ => 0)), .inl (0, 8, .inl (fun _ => 0)), .inl (0, 8, .inl (fun _ => 0)), .inl (0, 8, .inl (fun _ => 0)), .inl (0, 8, .inl (fun _ => 0)), .inl (0, 8, .inl (fun _ => 0)), .inl (0, 8, .inl (fun _ => 0)), .inl (0, 8, .inl (fun _ => 0)), .inl (0, 8, .inl (fun _ => 0)), .inr (0, [.int 0, .int 10, .int 0, .ref 22, .ref 23, .ref 24, .ref 25, .ref 26, .int 0, .ref 27, .ref 28, .ref 29, .ref 30, .int 0]), .inl (0, 8, .inl (fun _ => 0)), .inl (0, 8, .inl (fun _ => 0)), .inl (0, 8, .inl (fun _ => 0)), .inl (0, 8, .inl (fun _ => 0)), .inl (0, 8, .inl (fun _ => 0)), .inl (0, 8, .inl (fun _ => 0)), .inl (0, 8, .inl (fun _ => 0)), .inl (0, 8, .inl (fun _ => 0)), .inl (0, 8, .inl (fun _ => 0)), .inr (2, [.ref 32, .int 0, .int 0, .int 0, .int 0, .int 0]), .inl (0, 120, .inl (fun _ => 0)), .inl (2, 4, .inr (.inr (.inr (.inr (va_up (fun _ => none) 0 (some 34)))))), .inr (1, [.int 0, .int 0, .ref 35]), .inl (1, 40, .inr (.inl (fun _ => 0))), .inr (1, [.int 0, .int 0, .null])]
def ih_42 : zH := [.inr (3, [.ref 1, .ref 11, .ref 21, .int 0, .ref 31, .ref 33, .null]), .inr (0, [.int 0, .int 10, .int 0, .ref 2, .ref 3, .ref 4, .ref 5, .ref 6, .int 0, .ref 7, .ref 8, .ref 9, .ref 10, .int 0]), .inl (0, 8, .inl (fun _ => 0)), .inl (0, 8, .inl (fun _ => 0)), .inl (0, 8, .inl (fun _ => 0)), .inl (0, 8, .inl (fun _ => 0)), .inl (0, 8, .inl (fun _ => 0)), .inl (0, 8, .inl (fun _ => 0)), .inl (0, 8, .inl (fun _ => 0)), .inl (0, 8, .inl (fun _ => 0)), .inl (0, 8, .inl (fun _ => 0)), .inr (0, [.int 0, .int 10, .int 0, .ref 12, .ref 13, .ref 14, .ref 15, .ref 16, .int 0, .ref 17, .ref 18, .ref 19, .ref 20, .int 0]), .inl (0, 8, .inl (fun _ => 0)), .inl (0, 8, .inl (fun _ => 0)), .inl (0, 8, .inl (fun _ => 0)), .inl (0, 8, .inl (fun _ => 0)), .inl (0, 8, .inl (fun _ => 0)), .inl (0, 8, .inl (fun _ => 0)), .inl (0, 8, .inl (fun _ => 0)), .inl (0, 8, .inl (fun _ => 0)), .inl (0, 8, .inl (fun _ => 0)), .inr (0, [.int 0, .int 10, .int 0, .ref 22, .ref 23, .ref 24, .ref 25, .ref 26, .int 0, .ref 27, .ref 28, .ref 29, .ref 30, .int 0]), .inl (0, 8, .inl (fun _ => 0)), .inl (0, 8, .inl (fun _ => 0)), .inl (0, 8, .inl (fun _ => 0)), .inl (0, 8, .inl (fun _ => 0)), .inl (0, 8, .inl (fun _ => 0)), .inl (0, 8, .inl (fun _ => 0)), .inl (0, 8, .inl (fun _ => 0)), .inl (0, 8, .inl (fun _ => 0)), .inl (0, 8, .inl (fun _ => 0)), .inr (2, [.ref 32, .int 0, .int 0, .int 0, .int 0, .int 0]), .inl (0, 120, .inl (fun _ => 0)), .inl (2, 4, .inr (.inr (.inr (.inr (va_up (fun _ => none) 0 (some 34)))))), .inr (1, [.int 0, .int 0, .ref 35]), .inl (1, 40, .inr (.inl (fun _ => 0))), .inr (1, [.int 0, .int 0, .ref 37]), .inl (1, 40, .inr (.inl (fun _ => 0)))]
set_option maxRecDepth 100000 in
set_option maxHeartbeats 1000000 in
theorem ci_S1 {SM : zC} {SF : Nat → zQ → zP} (hZ : zZ SM SF) {Q : zQ} (k : Q none ih_42) : SM mn_S_init [.ref 36] ih_41 Q := by
  refine zin hZ 999 30 rfl rfl rfl ?_
  exact ⟨40, by decide, rfl, rfl, k⟩
def ih_43 : zH := [.inr (3, [.ref 1, .ref 11, .ref 21, .int 0, .ref 31, .ref 33, .null]), .inr (0, [.int 0, .int 10, .int 0, .ref 2, .ref 3, .ref 4, .ref 5, .ref 6, .int 0, .ref 7, .ref 8, .ref 9, .ref 10, .int 0]), .inl (0, 8, .inl (fun _ => 0)), .inl (0, 8, .inl (fun _ => 0)), .inl (0, 8, .inl (fun _ => 0)), .inl (0, 8, .inl (fun _ => 0)), .inl (0, 8, .inl (fun _ => 0)), .inl (0, 8, .inl (fun _ => 0)), .inl (0, 8, .inl (fun _ => 0)), .inl (0, 8, .inl (fun _ => 0)), .inl (0, 8, .inl (fun _ => 0)), .inr (0, [.int 0, .int 10, .int 0, .ref 12, .ref 13, .ref 14, .ref 15, .ref 16, .int 0, .ref 17, .ref 18, .ref 19, .ref 20, .int 0]), .inl (0, 8, .inl (fun _ => 0)), .inl (0, 8, .inl (fun _ => 0)), .inl (0, 8, .inl (fun _ => 0)), .inl (0, 8, .inl (fun _ => 0)), .inl (0, 8, .inl (fun _ => 0)), .inl (0, 8, .inl (fun _ => 0)), .inl (0, 8, .inl (fun _ => 0)), .inl (0, 8, .inl (fun _ => 0)), .inl (0, 8, .inl (fun _ => 0)), .inr (0, [.int 0, .int 10, .int 0, .ref 22, .ref 23, .ref 24, .ref 25, .ref 26, .int 0, .ref 27, .ref 28, .ref 29, .ref 30, .int 0]), .inl (0, 8, .inl (fun _ => 0)), .inl (0, 8, .inl (fun _ => 0)), .inl (0, 8, .inl (fun _ => 0)), .inl (0, 8, .inl (fun _ => 0)), .inl (0, 8, .inl (fun _ => 0)), .inl (0, 8, .inl (fun _ => 0)), .inl (0, 8, .inl (fun _ => 0)), .inl (0, 8, .inl (fun _ => 0)), .inl (0, 8, .inl (fun _ => 0)), .inr (2, [.ref 32, .int 0, .int 0, .int 0, .int 0, .int 0]), .inl (0, 120, .inl (fun _ => 0)), .inl (2, 4, .inr (.inr (.inr (.inr (va_up (va_up (fun _ => none) 0 (some 34)) 1 (some 36)))))), .inr (1, [.int 0, .int 0, .ref 35]), .inl (1, 40, .inr (.inl (fun _ => 0))), .inr (1, [.int 0, .int 0, .ref 37]), .inl (1, 40, .inr (.inl (fun _ => 0)))]
set_option maxRecDepth 100000 in
set_option maxHeartbeats 1000000 in
theorem ci_X_63_1 {SM : zC} {SF : Nat → zQ → zP} (hZ : zZ SM SF) {Q : zQ} (k : SF mn_X_init Q 63 [some (.ref 0), some (.int (nI 2))] [] (37, 474) ih_43) : SF mn_X_init Q 63 [some (.ref 0), some (.int (nI 1))] [] (35, 431) ih_40 := by
  rw [← nI_1] at k
  refine zgo hZ 63 20 rfl ?_
  refine ⟨fun h => absurd h (by decide), fun _ => ?_⟩
  refine ⟨rfl, rfl, ?_⟩
  refine ci_S1 hZ ?_
  exact ⟨1, by decide, rfl, k⟩
def ih_44 : zH := [.inr (3, [.ref 1, .ref 11, .ref 21, .int 0, .ref 31, .ref 33, .null]), .inr (0, [.int 0, .int 10, .int 0, .ref 2, .ref 3, .ref 4, .ref 5, .ref 6, .int 0, .ref 7, .ref 8, .ref 9, .ref 10, .int 0]), .inl (0, 8, .inl (fun _ => 0)), .inl (0, 8, .inl (fun _ => 0)), .inl (0, 8, .inl (fun _ => 0)), .inl (0, 8, .inl (fun _ => 0)), .inl (0, 8, .inl (fun _ => 0)), .inl (0, 8, .inl (fun _ => 0)), .inl (0, 8, .inl (fun _ => 0)), .inl (0, 8, .inl (fun _ => 0)), .inl (0, 8, .inl (fun _ => 0)), .inr (0, [.int 0, .int 10, .int 0, .ref 12, .ref 13, .ref 14, .ref 15, .ref 16, .int 0, .ref 17, .ref 18, .ref 19, .ref 20, .int 0]), .inl (0, 8, .inl (fun _ => 0)), .inl (0, 8, .inl (fun _ => 0)), .inl (0, 8, .inl (fun _ => 0)), .inl (0, 8, .inl (fun _ => 0)), .inl (0, 8, .inl (fun _ => 0)), .inl (0, 8, .inl (fun _ => 0)), .inl (0, 8, .inl (fun _ => 0)), .inl (0, 8, .inl (fun _ => 0)), .inl (0, 8, .inl (fun _ => 0)), .inr (0, [.int 0, .int 10, .int 0, .ref 22, .ref 23, .ref 24, .ref 25, .ref 26, .int 0, .ref 27, .ref 28, .ref 29, .ref 30, .int 0]), .inl (0, 8, .inl (fun _ => 0)), .inl (0, 8, .inl (fun _ => 0)), .inl (0, 8, .inl (fun _ => 0)), .inl (0, 8, .inl (fun _ => 0)), .inl (0, 8, .inl (fun _ => 0)), .inl (0, 8, .inl (fun _ => 0)), .inl (0, 8, .inl (fun _ => 0)), .inl (0, 8, .inl (fun _ => 0)), .inl (0, 8, .inl (fun _ => 0)), .inr (2, [.ref 32, .int 0, .int 0, .int 0, .int 0, .int 0]), .inl (0, 120, .inl (fun _ => 0)), .inl (2, 4, .inr (.inr (.inr (.inr (va_up (va_up (fun _ => none) 0 (some 34)) 1 (some 36)))))), .inr (1, [.int 0, .int 0, .ref 35]), .inl (1, 40, .inr (.inl (fun _ => 0))), .inr (1, [.int 0, .int 0, .ref 37]), .inl (1, 40, .inr (.inl (fun _ => 0))), .inr (1, [.int 0, .int 0, .null])]
def ih_45 : zH := [.inr (3, [.ref 1, .ref 11, .ref 21, .int 0, .ref 31, .ref 33, .null]), .inr (0, [.int 0, .int 10, .int 0, .ref 2, .ref 3, .ref 4, .ref 5, .ref 6, .int 0, .ref 7, .ref 8, .ref 9, .ref 10, .int 0]), .inl (0, 8, .inl (fun _ => 0)), .inl (0, 8, .inl (fun _ => 0)), .inl (0, 8, .inl (fun _ => 0)), .inl (0, 8, .inl (fun _ => 0)), .inl (0, 8, .inl (fun _ => 0)), .inl (0, 8, .inl (fun _ => 0)), .inl (0, 8, .inl (fun _ => 0)), .inl (0, 8, .inl (fun _ => 0)), .inl (0, 8, .inl (fun _ => 0)), .inr (0, [.int 0, .int 10, .int 0, .ref 12, .ref 13, .ref 14, .ref 15, .ref 16, .int 0, .ref 17, .ref 18, .ref 19, .ref 20, .int 0]), .inl (0, 8, .inl (fun _ => 0)), .inl (0, 8, .inl (fun _ => 0)), .inl (0, 8, .inl (fun _ => 0)), .inl (0, 8, .inl (fun _ => 0)), .inl (0, 8, .inl (fun _ => 0)), .inl (0, 8, .inl (fun _ => 0)), .inl (0, 8, .inl (fun _ => 0)), .inl (0, 8, .inl (fun _ => 0)), .inl (0, 8, .inl (fun _ => 0)), .inr (0, [.int 0, .int 10, .int 0, .ref 22, .ref 23, .ref 24, .ref 25, .ref 26, .int 0, .ref 27, .ref 28, .ref 29, .ref 30, .int 0]), .inl (0, 8, .inl (fun _ => 0)), .inl (0, 8, .inl (fun _ => 0)), .inl (0, 8, .inl (fun _ => 0)), .inl (0, 8, .inl (fun _ => 0)), .inl (0, 8, .inl (fun _ => 0)), .inl (0, 8, .inl (fun _ => 0)), .inl (0, 8, .inl (fun _ => 0)), .inl (0, 8, .inl (fun _ => 0)), .inl (0, 8, .inl (fun _ => 0)), .inr (2, [.ref 32, .int 0, .int 0, .int 0, .int 0, .int 0]), .inl (0, 120, .inl (fun _ => 0)), .inl (2, 4, .inr (.inr (.inr (.inr (va_up (va_up (fun _ => none) 0 (some 34)) 1 (some 36)))))), .inr (1, [.int 0, .int 0, .ref 35]), .inl (1, 40, .inr (.inl (fun _ => 0))), .inr (1, [.int 0, .int 0, .ref 37]), .inl (1, 40, .inr (.inl (fun _ => 0))), .inr (1, [.int 0, .int 0, .ref 39]), .inl (1, 40, .inr (.inl (fun _ => 0)))]
set_option maxRecDepth 100000 in
set_option maxHeartbeats 1000000 in
theorem ci_S2 {SM : zC} {SF : Nat → zQ → zP} (hZ : zZ SM SF) {Q : zQ} (k : Q none ih_45) : SM mn_S_init [.ref 38] ih_44 Q := by
  refine zin hZ 999 30 rfl rfl rfl ?_
  exact ⟨40, by decide, rfl, rfl, k⟩
def ih_46 : zH := [.inr (3, [.ref 1, .ref 11, .ref 21, .int 0, .ref 31, .ref 33, .null]), .inr (0, [.int 0, .int 10, .int 0, .ref 2, .ref 3, .ref 4, .ref 5, .ref 6, .int 0, .ref 7, .ref 8, .ref 9, .ref 10, .int 0]), .inl (0, 8, .inl (fun _ => 0)), .inl (0, 8, .inl (fun _ => 0)), .inl (0, 8, .inl (fun _ => 0)), .inl (0, 8, .inl (fun _ => 0)), .inl (0, 8, .inl (fun _ => 0)), .inl (0, 8, .inl (fun _ => 0)), .inl (0, 8, .inl (fun _ => 0)), .inl (0, 8, .inl (fun _ => 0)), .inl (0, 8, .inl (fun _ => 0)), .inr (0, [.int 0, .int 10, .int 0, .ref 12, .ref 13, .ref 14, .ref 15, .ref 16, .int 0, .ref 17, .ref 18, .ref 19, .ref 20, .int 0]), .inl (0, 8, .inl (fun _ => 0)), .inl (0, 8, .inl (fun _ => 0)), .inl (0, 8, .inl (fun _ => 0)), .inl (0, 8, .inl (fun _ => 0)), .inl (0, 8, .inl (fun _ => 0)), .inl (0, 8, .inl (fun _ => 0)), .inl (0, 8, .inl (fun _ => 0)), .inl (0, 8, .inl (fun _ => 0)), .inl (0, 8, .inl (fun _ => 0)), .inr (0, [.int 0, .int 10, .int 0, .ref 22, .ref 23, .ref 24, .ref 25, .ref 26, .int 0, .ref 27, .ref 28, .ref 29, .ref 30, .int 0]), .inl (0, 8, .inl (fun _ => 0)), .inl (0, 8, .inl (fun _ => 0)), .inl (0, 8, .inl (fun _ => 0)), .inl (0, 8, .inl (fun _ => 0)), .inl (0, 8, .inl (fun _ => 0)), .inl (0, 8, .inl (fun _ => 0)), .inl (0, 8, .inl (fun _ => 0)), .inl (0, 8, .inl (fun _ => 0)), .inl (0, 8, .inl (fun _ => 0)), .inr (2, [.ref 32, .int 0, .int 0, .int 0, .int 0, .int 0]), .inl (0, 120, .inl (fun _ => 0)), .inl (2, 4, .inr (.inr (.inr (.inr (va_up (va_up (va_up (fun _ => none) 0 (some 34)) 1 (some 36)) 2 (some 38)))))), .inr (1, [.int 0, .int 0, .ref 35]), .inl (1, 40, .inr (.inl (fun _ => 0))), .inr (1, [.int 0, .int 0, .ref 37]), .inl (1, 40, .inr (.inl (fun _ => 0))), .inr (1, [.int 0, .int 0, .ref 39]), .inl (1, 40, .inr (.inl (fun _ => 0)))]
set_option maxRecDepth 100000 in
set_option maxHeartbeats 1000000 in
theorem ci_X_63_2 {SM : zC} {SF : Nat → zQ → zP} (hZ : zZ SM SF) {Q : zQ} (k : SF mn_X_init Q 63 [some (.ref 0), some (.int (nI 3))] [] (39, 517) ih_46) : SF mn_X_init Q 63 [some (.ref 0), some (.int (nI 2))] [] (37, 474) ih_43 := by
  rw [← nI_1] at k
  refine zgo hZ 63 20 rfl ?_
  refine ⟨fun h => absurd h (by decide), fun _ => ?_⟩
  refine ⟨rfl, rfl, ?_⟩
  refine ci_S2 hZ ?_
  exact ⟨2, by decide, rfl, k⟩
def ih_47 : zH := [.inr (3, [.ref 1, .ref 11, .ref 21, .int 0, .ref 31, .ref 33, .null]), .inr (0, [.int 0, .int 10, .int 0, .ref 2, .ref 3, .ref 4, .ref 5, .ref 6, .int 0, .ref 7, .ref 8, .ref 9, .ref 10, .int 0]), .inl (0, 8, .inl (fun _ => 0)), .inl (0, 8, .inl (fun _ => 0)), .inl (0, 8, .inl (fun _ => 0)), .inl (0, 8, .inl (fun _ => 0)), .inl (0, 8, .inl (fun _ => 0)), .inl (0, 8, .inl (fun _ => 0)), .inl (0, 8, .inl (fun _ => 0)), .inl (0, 8, .inl (fun _ => 0)), .inl (0, 8, .inl (fun _ => 0)), .inr (0, [.int 0, .int 10, .int 0, .ref 12, .ref 13, .ref 14, .ref 15, .ref 16, .int 0, .ref 17, .ref 18, .ref 19, .ref 20, .int 0]), .inl (0, 8, .inl (fun _ => 0)), .inl (0, 8, .inl (fun _ => 0)), .inl (0, 8, .inl (fun _ => 0)), .inl (0, 8, .inl (fun _ => 0)), .inl (0, 8, .inl (fun _ => 0)), .inl (0, 8, .inl (fun _ => 0)), .inl (0, 8, .inl (fun _ => 0)), .inl (0, 8, .inl (fun _ => 0)), .inl (0, 8, .inl (fun _ => 0)), .inr (0, [.int 0, .int 10, .int 0, .ref 22, .ref 23, .ref 24, .ref 25, .ref 26, .int 0, .ref 27, .ref 28, .ref 29, .ref 30, .int 0]), .inl (0, 8, .inl (fun _ => 0)), .inl (0, 8, .inl (fun _ => 0)), .inl (0, 8, .inl (fun _ => 0)), .inl (0, 8, .inl (fun _ => 0)), .inl (0, 8, .inl (fun _ => 0)), .inl (0, 8, .inl (fun _ => 0)), .inl (0, 8, .inl (fun _ => 0)), .inl (0, 8, .inl (fun _ => 0)), .inl (0, 8, .inl (fun _ => 0)), .inr (2, [.ref 32, .int 0, .int 0, .int 0, .int 0, .int 0]), .inl (0, 120, .inl (fun _ => 0)), .inl (2, 4, .inr (.inr (.inr (.inr (va_up (va_up (va_up (fun _ => none) 0 (some 34)) 1 (some 36)) 2 (some 38)))))), .inr (1, [.int 0, .int 0, .ref 35]), .inl (1, 40, .inr (.inl (fun _ => 0))), .inr (1, [.int 0, .int 0, .ref 37]), .inl (1, 40, .inr (.inl (fun _ => 0))), .inr (1, [.int 0, .int 0, .ref 39]), .inl (1, 40, .inr (.inl (fun _ => 0))), .inr (1, [.int 0, .int 0, .null])]
def ih_48 : zH := [.inr (3, [.ref 1, .ref 11, .ref 21, .int 0, .ref 31, .ref 33, .null]), .inr (0, [.int 0, .int 10, .int 0, .ref 2, .ref 3, .ref 4, .ref 5, .ref 6, .int 0, .ref 7, .ref 8, .ref 9, .ref 10, .int 0]), .inl (0, 8, .inl (fun _ => 0)), .inl (0, 8, .inl (fun _ => 0)), .inl (0, 8, .inl (fun _ => 0)), .inl (0, 8, .inl (fun _ => 0)), .inl (0, 8, .inl (fun _ => 0)), .inl (0, 8, .inl (fun _ => 0)), .inl (0, 8, .inl (fun _ => 0)), .inl (0, 8, .inl (fun _ => 0)), .inl (0, 8, .inl (fun _ => 0)), .inr (0, [.int 0, .int 10, .int 0, .ref 12, .ref 13, .ref 14, .ref 15, .ref 16, .int 0, .ref 17, .ref 18, .ref 19, .ref 20, .int 0]), .inl (0, 8, .inl (fun _ => 0)), .inl (0, 8, .inl (fun _ => 0)), .inl (0, 8, .inl (fun _ => 0)), .inl (0, 8, .inl (fun _ => 0)), .inl (0, 8, .inl (fun _ => 0)), .inl (0, 8, .inl (fun _ => 0)), .inl (0, 8, .inl (fun _ => 0)), .inl (0, 8, .inl (fun _ => 0)), .inl (0, 8, .inl (fun _ => 0)), .inr (0, [.int 0, .int 10, .int 0, .ref 22, .ref 23, .ref 24, .ref 25, .ref 26, .int 0, .ref 27, .ref 28, .ref 29, .ref 30, .int 0]), .inl (0, 8, .inl (fun _ => 0)), .inl (0, 8, .inl (fun _ => 0)), .inl (0, 8, .inl (fun _ => 0)), .inl (0, 8, .inl (fun _ => 0)), .inl (0, 8, .inl (fun _ => 0)), .inl (0, 8, .inl (fun _ => 0)), .inl (0, 8, .inl (fun _ => 0)), .inl (0, 8, .inl (fun _ => 0)), .inl (0, 8, .inl (fun _ => 0)), .inr (2, [.ref 32, .int 0, .int 0, .int 0, .int 0, .int 0]), .inl (0, 120, .inl (fun _ => 0)), .inl (2, 4, .inr (.inr (.inr (.inr (va_up (va_up (va_up (fun _ => none) 0 (some 34)) 1 (some 36)) 2 (some 38)))))), .inr (1, [.int 0, .int 0, .ref 35]), .inl (1, 40, .inr (.inl (fun _ => 0))), .inr (1, [.int 0, .int 0, .ref 37]), .inl (1, 40, .inr (.inl (fun _ => 0))), .inr (1, [.int 0, .int 0, .ref 39]), .inl (1, 40, .inr (.inl (fun _ => 0))), .inr (1, [.int 0, .int 0, .ref 41]), .inl (1, 40, .inr (.inl (fun _ => 0)))]
set_option maxRecDepth 100000 in
set_option maxHeartbeats 1000000 in
theorem ci_S3 {SM : zC} {SF : Nat → zQ → zP} (hZ : zZ SM SF) {Q : zQ} (k : Q none ih_48) : SM mn_S_init [.ref 40] ih_47 Q := by
  refine zin hZ 999 30 rfl rfl rfl ?_
  exact ⟨40, by decide, rfl, rfl, k⟩
def ih_49 : zH := [.inr (3, [.ref 1, .ref 11, .ref 21, .int 0, .ref 31, .ref 33, .null]), .inr (0, [.int 0, .int 10, .int 0, .ref 2, .ref 3, .ref 4, .ref 5, .ref 6, .int 0, .ref 7, .ref 8, .ref 9, .ref 10, .int 0]), .inl (0, 8, .inl (fun _ => 0)), .inl (0, 8, .inl (fun _ => 0)), .inl (0, 8, .inl (fun _ => 0)), .inl (0, 8, .inl (fun _ => 0)), .inl (0, 8, .inl (fun _ => 0)), .inl (0, 8, .inl (fun _ => 0)), .inl (0, 8, .inl (fun _ => 0)), .inl (0, 8, .inl (fun _ => 0)), .inl (0, 8, .inl (fun _ => 0)), .inr (0, [.int 0, .int 10, .int 0, .ref 12, .ref 13, .ref 14, .ref 15, .ref 16, .int 0, .ref 17, .ref 18, .ref 19, .ref 20, .int 0]), .inl (0, 8, .inl (fun _ => 0)), .inl (0, 8, .inl (fun _ => 0)), .inl (0, 8, .inl (fun _ => 0)), .inl (0, 8, .inl (fun _ => 0)), .inl (0, 8, .inl (fun _ => 0)), .inl (0, 8, .inl (fun _ => 0)), .inl (0, 8, .inl (fun _ => 0)), .inl (0, 8, .inl (fun _ => 0)), .inl (0, 8, .inl (fun _ => 0)), .inr (0, [.int 0, .int 10, .int 0, .ref 22, .ref 23, .ref 24, .ref 25, .ref 26, .int 0, .ref 27, .ref 28, .ref 29, .ref 30, .int 0]), .inl (0, 8, .inl (fun _ => 0)), .inl (0, 8, .inl (fun _ => 0)), .inl (0, 8, .inl (fun _ => 0)), .inl (0, 8, .inl (fun _ => 0)), .inl (0, 8, .inl (fun _ => 0)), .inl (0, 8, .inl (fun _ => 0)), .inl (0, 8, .inl (fun _ => 0)), .inl (0, 8, .inl (fun _ => 0)), .inl (0, 8, .inl (fun _ => 0)), .inr (2, [.ref 32, .int 0, .int 0, .int 0, .int 0, .int 0]), .inl (0, 120, .inl (fun _ => 0)), .inl (2, 4, .inr (.inr (.inr (.inr (va_up (va_up (va_up (va_up (fun _ => none) 0 (some 34)) 1 (some 36)) 2 (some 38)) 3 (some 40)))))), .inr (1, [.int 0, .int 0, .ref 35]), .inl (1, 40, .inr (.inl (fun _ => 0))), .inr (1, [.int 0, .int 0, .ref 37]), .inl (1, 40, .inr (.inl (fun _ => 0))), .inr (1, [.int 0, .int 0, .ref 39]), .inl (1, 40, .inr (.inl (fun _ => 0))), .inr (1, [.int 0, .int 0, .ref 41]), .inl (1, 40, .inr (.inl (fun _ => 0)))]
set_option maxRecDepth 100000 in
set_option maxHeartbeats 1000000 in
theorem ci_X_63_3 {SM : zC} {SF : Nat → zQ → zP} (hZ : zZ SM SF) {Q : zQ} (k : SF mn_X_init Q 63 [some (.ref 0), some (.int (nI 4))] [] (41, 560) ih_49) : SF mn_X_init Q 63 [some (.ref 0), some (.int (nI 3))] [] (39, 517) ih_46 := by
  rw [← nI_1] at k
  refine zgo hZ 63 20 rfl ?_
  refine ⟨fun h => absurd h (by decide), fun _ => ?_⟩
  refine ⟨rfl, rfl, ?_⟩
  refine ci_S3 hZ ?_
  exact ⟨3, by decide, rfl, k⟩
def ih_50 : zH := [.inr (3, [.ref 1, .ref 11, .ref 21, .int 0, .ref 31, .ref 33, .ref 42]), .inr (0, [.int 0, .int 10, .int 0, .ref 2, .ref 3, .ref 4, .ref 5, .ref 6, .int 0, .ref 7, .ref 8, .ref 9, .ref 10, .int 0]), .inl (0, 8, .inl (fun _ => 0)), .inl (0, 8, .inl (fun _ => 0)), .inl (0, 8, .inl (fun _ => 0)), .inl (0, 8, .inl (fun _ => 0)), .inl (0, 8, .inl (fun _ => 0)), .inl (0, 8, .inl (fun _ => 0)), .inl (0, 8, .inl (fun _ => 0)), .inl (0, 8, .inl (fun _ => 0)), .inl (0, 8, .inl (fun _ => 0)), .inr (0, [.int 0, .int 10, .int 0, .ref 12, .ref 13, .ref 14, .ref 15, .ref 16, .int 0, .ref 17, .ref 18, .ref 19, .ref 20, .int 0]), .inl (0, 8, .inl (fun _ => 0)), .inl (0, 8, .inl (fun _ => 0)), .inl (0, 8, .inl (fun _ => 0)), .inl (0, 8, .inl (fun _ => 0)), .inl (0, 8, .inl (fun _ => 0)), .inl (0, 8, .inl (fun _ => 0)), .inl (0, 8, .inl (fun _ => 0)), .inl (0, 8, .inl (fun _ => 0)), .inl (0, 8, .inl (fun _ => 0)), .inr (0, [.int 0, .int 10, .int 0, .ref 22, .ref 23, .ref 24, .ref 25, .ref 26, .int 0, .ref 27, .ref 28, .ref 29, .ref 30, .int 0]), .inl (0, 8, .inl (fun _ => 0)), .inl (0, 8, .inl (fun _ => 0)), .inl (0, 8, .inl (fun _ => 0)), .inl (0, 8, .inl (fun _ => 0)), .inl (0, 8, .inl (fun _ => 0)), .inl (0, 8, .inl (fun _ => 0)), .inl (0, 8, .inl (fun _ => 0)), .inl (0, 8, .inl (fun _ => 0)), .inl (0, 8, .inl (fun _ => 0)), .inr (2, [.ref 32, .int 0, .int 0, .int 0, .int 0, .int 0]), .inl (0, 120, .inl (fun _ => 0)), .inl (2, 4, .inr (.inr (.inr (.inr (va_up (va_up (va_up (va_up (fun _ => none) 0 (some 34)) 1 (some 36)) 2 (some 38)) 3 (some 40)))))), .inr (1, [.int 0, .int 0, .ref 35]), .inl (1, 40, .inr (.inl (fun _ => 0))), .inr (1, [.int 0, .int 0, .ref 37]), .inl (1, 40, .inr (.inl (fun _ => 0))), .inr (1, [.int 0, .int 0, .ref 39]), .inl (1, 40, .inr (.inl (fun _ => 0))), .inr (1, [.int 0, .int 0, .ref 41]), .inl (1, 40, .inr (.inl (fun _ => 0))), .inl (0, 7, .inl (fun _ => 0))]
theorem up_sh : ∀ j, va_up (va_up (va_up (va_up (fun _ => none) 0 (some 34)) 1 (some 36)) 2 (some 38)) 3 (some 40) j = zm_sh j := by
  intro j
  unfold va_up zm_sh
  by_cases h0 : j = 0
  · subst h0; rfl
  · by_cases h1 : j = 1
    · subst h1; rfl
    · by_cases h2 : j = 2
      · subst h2; rfl
      · by_cases h3 : j = 3
        · subst h3; rfl
        · simp [h0, h1, h2, h3]
set_option maxRecDepth 100000 in
set_option maxHeartbeats 1000000 in
theorem hE_eq : ih_50 = gX x0 := by
  have e : va_up (va_up (va_up (va_up (fun _ => none) 0 (some 34)) 1 (some 36)) 2 (some 38)) 3 (some 40) = zm_sh := funext up_sh
  unfold ih_50
  rw [e]
  rfl
set_option maxRecDepth 100000 in
set_option maxHeartbeats 1000000 in
theorem ci_X_e {SM : zC} {SF : Nat → zQ → zP} (hZ : zZ SM SF) {Q : zQ} (k : Q none (gX x0)) : SF mn_X_init Q 63 [some (.ref 0), some (.int (nI 4))] [] (41, 560) ih_49 := by
  rw [← hE_eq] at k
  refine zgo hZ 999 20 rfl ?_
  refine ⟨fun _ => ⟨7, by decide, rfl, rfl, ?_⟩, fun h => absurd (show (4 : Int32) ≤ nI 4 by decide) h⟩
  exact k
set_option maxRecDepth 100000 in
set_option maxHeartbeats 1000000 in
theorem ci_X {SM : zC} {SF : Nat → zQ → zP} (hZ : zZ SM SF) {Q : zQ} (k : Q none (gX x0)) : SM mn_X_init [.ref 0] ih_0 Q := by
  have k := ci_X_e hZ k
  have k := ci_X_63_3 hZ k
  have k := ci_X_63_2 hZ k
  have k := ci_X_63_1 hZ k
  have k := ci_X_63_0 hZ k
  have k := ci_X_53 hZ k
  have k := ci_X_37 hZ k
  have k := ci_X_26 hZ k
  have k := ci_X_15 hZ k
  have k := ci_X_0 hZ k
  exact hZ.2.1 mn_X_init _ _ Q rfl k
set_option maxRecDepth 100000 in
set_option maxHeartbeats 1000000 in
theorem ci_M_12 {SM : zC} {SF : Nat → zQ → zP} (hZ : zZ SM SF) {Q : zQ} (k : SF mn_M_init Q 20 [some (.ref 43)] [] (2, 136) (gX x0 ++ [.inr (4, [.ref 44, .ref 45, .null, .null, .null, .null, .int 0, .null, .int 0, .int 0, .int 0, .int 0, .int 0, .null, .null, .null, .null]), .inl (0, 68, .inl (fun _ => 0)), .inl (0, 68, .inl (fun _ => 0))])) : SF mn_M_init Q 12 [some (.ref 43)] [] (1, 68) (gX x0 ++ [.inr (4, [.ref 44, .null, .null, .null, .null, .null, .int 0, .null, .int 0, .int 0, .int 0, .int 0, .int 0, .null, .null, .null, .null]), .inl (0, 68, .inl (fun _ => 0))]) := by
  refine zgo hZ 20 12 rfl ?_
  exact ⟨68, by decide, rfl, rfl, k⟩
set_option maxRecDepth 100000 in
set_option maxHeartbeats 1000000 in
theorem ci_M_20 {SM : zC} {SF : Nat → zQ → zP} (hZ : zZ SM SF) {Q : zQ} (k : SF mn_M_init Q 28 [some (.ref 43)] [] (3, 204) (gX x0 ++ [.inr (4, [.ref 44, .ref 45, .ref 46, .null, .null, .null, .int 0, .null, .int 0, .int 0, .int 0, .int 0, .int 0, .null, .null, .null, .null]), .inl (0, 68, .inl (fun _ => 0)), .inl (0, 68, .inl (fun _ => 0)), .inl (0, 68, .inl (fun _ => 0))])) : SF mn_M_init Q 20 [some (.ref 43)] [] (2, 136) (gX x0 ++ [.inr (4, [.ref 44, .ref 45, .null, .null, .null, .null, .int 0, .null, .int 0, .int 0, .int 0, .int 0, .int 0, .null, .null, .null, .null]), .inl (0, 68, .inl (fun _ => 0)), .inl (0, 68, .inl (fun _ => 0))]) := by
  refine zgo hZ 28 12 rfl ?_
  exact ⟨68, by decide, rfl, rfl, k⟩
set_option maxRecDepth 100000 in
set_option maxHeartbeats 1000000 in
theorem ci_M_28 {SM : zC} {SF : Nat → zQ → zP} (hZ : zZ SM SF) {Q : zQ} (k : SF mn_M_init Q 36 [some (.ref 43)] [] (4, 272) (gX x0 ++ [.inr (4, [.ref 44, .ref 45, .ref 46, .ref 47, .null, .null, .int 0, .null, .int 0, .int 0, .int 0, .int 0, .int 0, .null, .null, .null, .null]), .inl (0, 68, .inl (fun _ => 0)), .inl (0, 68, .inl (fun _ => 0)), .inl (0, 68, .inl (fun _ => 0)), .inl (0, 68, .inl (fun _ => 0))])) : SF mn_M_init Q 28 [some (.ref 43)] [] (3, 204) (gX x0 ++ [.inr (4, [.ref 44, .ref 45, .ref 46, .null, .null, .null, .int 0, .null, .int 0, .int 0, .int 0, .int 0, .int 0, .null, .null, .null, .null]), .inl (0, 68, .inl (fun _ => 0)), .inl (0, 68, .inl (fun _ => 0)), .inl (0, 68, .inl (fun _ => 0))]) := by
  refine zgo hZ 36 12 rfl ?_
  exact ⟨68, by decide, rfl, rfl, k⟩
set_option maxRecDepth 100000 in
set_option maxHeartbeats 1000000 in
theorem ci_M_36 {SM : zC} {SF : Nat → zQ → zP} (hZ : zZ SM SF) {Q : zQ} (k : SF mn_M_init Q 44 [some (.ref 43)] [] (5, 279) (gX x0 ++ [.inr (4, [.ref 44, .ref 45, .ref 46, .ref 47, .ref 48, .null, .int 0, .null, .int 0, .int 0, .int 0, .int 0, .int 0, .null, .null, .null, .null]), .inl (0, 68, .inl (fun _ => 0)), .inl (0, 68, .inl (fun _ => 0)), .inl (0, 68, .inl (fun _ => 0)), .inl (0, 68, .inl (fun _ => 0)), .inl (0, 7, .inl (fun _ => 0))])) : SF mn_M_init Q 36 [some (.ref 43)] [] (4, 272) (gX x0 ++ [.inr (4, [.ref 44, .ref 45, .ref 46, .ref 47, .null, .null, .int 0, .null, .int 0, .int 0, .int 0, .int 0, .int 0, .null, .null, .null, .null]), .inl (0, 68, .inl (fun _ => 0)), .inl (0, 68, .inl (fun _ => 0)), .inl (0, 68, .inl (fun _ => 0)), .inl (0, 68, .inl (fun _ => 0))]) := by
  refine zgo hZ 44 12 rfl ?_
  exact ⟨7, by decide, rfl, rfl, k⟩
set_option maxRecDepth 100000 in
set_option maxHeartbeats 1000000 in
theorem ci_M_44 {SM : zC} {SF : Nat → zQ → zP} (hZ : zZ SM SF) {Q : zQ} (k : SF mn_M_init Q 52 [some (.ref 43)] [] (6, 287) (gX x0 ++ [.inr (4, [.ref 44, .ref 45, .ref 46, .ref 47, .ref 48, .ref 49, .int 0, .null, .int 0, .int 0, .int 0, .int 0, .int 0, .null, .null, .null, .null]), .inl (0, 68, .inl (fun _ => 0)), .inl (0, 68, .inl (fun _ => 0)), .inl (0, 68, .inl (fun _ => 0)), .inl (0, 68, .inl (fun _ => 0)), .inl (0, 7, .inl (fun _ => 0)), .inl (0, 8, .inl (fun _ => 0))])) : SF mn_M_init Q 44 [some (.ref 43)] [] (5, 279) (gX x0 ++ [.inr (4, [.ref 44, .ref 45, .ref 46, .ref 47, .ref 48, .null, .int 0, .null, .int 0, .int 0, .int 0, .int 0, .int 0, .null, .null, .null, .null]), .inl (0, 68, .inl (fun _ => 0)), .inl (0, 68, .inl (fun _ => 0)), .inl (0, 68, .inl (fun _ => 0)), .inl (0, 68, .inl (fun _ => 0)), .inl (0, 7, .inl (fun _ => 0))]) := by
  refine zgo hZ 52 12 rfl ?_
  exact ⟨8, by decide, rfl, rfl, k⟩
set_option maxRecDepth 100000 in
set_option maxHeartbeats 1000000 in
theorem ci_M_52 {SM : zC} {SF : Nat → zQ → zP} (hZ : zZ SM SF) {Q : zQ} (k : SF mn_M_init Q 60 [some (.ref 43)] [] (7, 407) (gX x0 ++ [.inr (4, [.ref 44, .ref 45, .ref 46, .ref 47, .ref 48, .ref 49, .int 0, .ref 50, .int 0, .int 0, .int 0, .int 0, .int 0, .null, .null, .null, .null]), .inl (0, 68, .inl (fun _ => 0)), .inl (0, 68, .inl (fun _ => 0)), .inl (0, 68, .inl (fun _ => 0)), .inl (0, 68, .inl (fun _ => 0)), .inl (0, 7, .inl (fun _ => 0)), .inl (0, 8, .inl (fun _ => 0)), .inl (0, 120, .inl (fun _ => 0))])) : SF mn_M_init Q 52 [some (.ref 43)] [] (6, 287) (gX x0 ++ [.inr (4, [.ref 44, .ref 45, .ref 46, .ref 47, .ref 48, .ref 49, .int 0, .null, .int 0, .int 0, .int 0, .int 0, .int 0, .null, .null, .null, .null]), .inl (0, 68, .inl (fun _ => 0)), .inl (0, 68, .inl (fun _ => 0)), .inl (0, 68, .inl (fun _ => 0)), .inl (0, 68, .inl (fun _ => 0)), .inl (0, 7, .inl (fun _ => 0)), .inl (0, 8, .inl (fun _ => 0))]) := by
  refine zgo hZ 60 12 rfl ?_
  exact ⟨120, by decide, rfl, rfl, k⟩
set_option maxRecDepth 100000 in
set_option maxHeartbeats 1000000 in
theorem ci_M_60 {SM : zC} {SF : Nat → zQ → zP} (hZ : zZ SM SF) {Q : zQ} (k : SF mn_M_init Q 67 [some (.ref 43)] [] (8, 411) (gX x0 ++ [.inr (4, [.ref 44, .ref 45, .ref 46, .ref 47, .ref 48, .ref 49, .int 0, .ref 50, .int 0, .int 0, .int 0, .int 0, .int 0, .ref 51, .null, .null, .null]), .inl (0, 68, .inl (fun _ => 0)), .inl (0, 68, .inl (fun _ => 0)), .inl (0, 68, .inl (fun _ => 0)), .inl (0, 68, .inl (fun _ => 0)), .inl (0, 7, .inl (fun _ => 0)), .inl (0, 8, .inl (fun _ => 0)), .inl (0, 120, .inl (fun _ => 0)), .inl (0, 4, .inl (fun _ => 0))])) : SF mn_M_init Q 60 [some (.ref 43)] [] (7, 407) (gX x0 ++ [.inr (4, [.ref 44, .ref 45, .ref 46, .ref 47, .ref 48, .ref 49, .int 0, .ref 50, .int 0, .int 0, .int 0, .int 0, .int 0, .null, .null, .null, .null]), .inl (0, 68, .inl (fun _ => 0)), .inl (0, 68, .inl (fun _ => 0)), .inl (0, 68, .inl (fun _ => 0)), .inl (0, 68, .inl (fun _ => 0)), .inl (0, 7, .inl (fun _ => 0)), .inl (0, 8, .inl (fun _ => 0)), .inl (0, 120, .inl (fun _ => 0))]) := by
  refine zgo hZ 67 12 rfl ?_
  exact ⟨4, by decide, rfl, rfl, k⟩
set_option maxRecDepth 100000 in
set_option maxHeartbeats 1000000 in
theorem ci_M_67 {SM : zC} {SF : Nat → zQ → zP} (hZ : zZ SM SF) {Q : zQ} (k : SF mn_M_init Q 74 [some (.ref 43)] [] (9, 415) (gX x0 ++ [.inr (4, [.ref 44, .ref 45, .ref 46, .ref 47, .ref 48, .ref 49, .int 0, .ref 50, .int 0, .int 0, .int 0, .int 0, .int 0, .ref 51, .ref 52, .null, .null]), .inl (0, 68, .inl (fun _ => 0)), .inl (0, 68, .inl (fun _ => 0)), .inl (0, 68, .inl (fun _ => 0)), .inl (0, 68, .inl (fun _ => 0)), .inl (0, 7, .inl (fun _ => 0)), .inl (0, 8, .inl (fun _ => 0)), .inl (0, 120, .inl (fun _ => 0)), .inl (0, 4, .inl (fun _ => 0)), .inl (0, 4, .inl (fun _ => 0))])) : SF mn_M_init Q 67 [some (.ref 43)] [] (8, 411) (gX x0 ++ [.inr (4, [.ref 44, .ref 45, .ref 46, .ref 47, .ref 48, .ref 49, .int 0, .ref 50, .int 0, .int 0, .int 0, .int 0, .int 0, .ref 51, .null, .null, .null]), .inl (0, 68, .inl (fun _ => 0)), .inl (0, 68, .inl (fun _ => 0)), .inl (0, 68, .inl (fun _ => 0)), .inl (0, 68, .inl (fun _ => 0)), .inl (0, 7, .inl (fun _ => 0)), .inl (0, 8, .inl (fun _ => 0)), .inl (0, 120, .inl (fun _ => 0)), .inl (0, 4, .inl (fun _ => 0))]) := by
  refine zgo hZ 74 12 rfl ?_
  exact ⟨4, by decide, rfl, rfl, k⟩
set_option maxRecDepth 100000 in
set_option maxHeartbeats 1000000 in
theorem ci_M_74 {SM : zC} {SF : Nat → zQ → zP} (hZ : zZ SM SF) {Q : zQ} (k : SF mn_M_init Q 83 [some (.ref 43)] [] (10, 575) (gX x0 ++ [.inr (4, [.ref 44, .ref 45, .ref 46, .ref 47, .ref 48, .ref 49, .int 0, .ref 50, .int 0, .int 0, .int 0, .int 0, .int 0, .ref 51, .ref 52, .ref 53, .null]), .inl (0, 68, .inl (fun _ => 0)), .inl (0, 68, .inl (fun _ => 0)), .inl (0, 68, .inl (fun _ => 0)), .inl (0, 68, .inl (fun _ => 0)), .inl (0, 7, .inl (fun _ => 0)), .inl (0, 8, .inl (fun _ => 0)), .inl (0, 120, .inl (fun _ => 0)), .inl (0, 4, .inl (fun _ => 0)), .inl (0, 4, .inl (fun _ => 0)), .inl (1, 160, .inr (.inl (fun _ => 0)))])) : SF mn_M_init Q 74 [some (.ref 43)] [] (9, 415) (gX x0 ++ [.inr (4, [.ref 44, .ref 45, .ref 46, .ref 47, .ref 48, .ref 49, .int 0, .ref 50, .int 0, .int 0, .int 0, .int 0, .int 0, .ref 51, .ref 52, .null, .null]), .inl (0, 68, .inl (fun _ => 0)), .inl (0, 68, .inl (fun _ => 0)), .inl (0, 68, .inl (fun _ => 0)), .inl (0, 68, .inl (fun _ => 0)), .inl (0, 7, .inl (fun _ => 0)), .inl (0, 8, .inl (fun _ => 0)), .inl (0, 120, .inl (fun _ => 0)), .inl (0, 4, .inl (fun _ => 0)), .inl (0, 4, .inl (fun _ => 0))]) := by
  refine zgo hZ 83 12 rfl ?_
  exact ⟨160, by decide, rfl, rfl, k⟩
set_option maxRecDepth 100000 in
set_option maxHeartbeats 1000000 in
theorem ci_M_83 {SM : zC} {SF : Nat → zQ → zP} (hZ : zZ SM SF) {Q : zQ} (k : SF mn_M_init Q 91 [some (.ref 43)] [] (11, 615) (gX x0 ++ [.inr (4, [.ref 44, .ref 45, .ref 46, .ref 47, .ref 48, .ref 49, .int 0, .ref 50, .int 0, .int 0, .int 0, .int 0, .int 0, .ref 51, .ref 52, .ref 53, .ref 54]), .inl (0, 68, .inl (fun _ => 0)), .inl (0, 68, .inl (fun _ => 0)), .inl (0, 68, .inl (fun _ => 0)), .inl (0, 68, .inl (fun _ => 0)), .inl (0, 7, .inl (fun _ => 0)), .inl (0, 8, .inl (fun _ => 0)), .inl (0, 120, .inl (fun _ => 0)), .inl (0, 4, .inl (fun _ => 0)), .inl (0, 4, .inl (fun _ => 0)), .inl (1, 160, .inr (.inl (fun _ => 0))), .inl (1, 40, .inr (.inl (fun _ => 0)))])) : SF mn_M_init Q 83 [some (.ref 43)] [] (10, 575) (gX x0 ++ [.inr (4, [.ref 44, .ref 45, .ref 46, .ref 47, .ref 48, .ref 49, .int 0, .ref 50, .int 0, .int 0, .int 0, .int 0, .int 0, .ref 51, .ref 52, .ref 53, .null]), .inl (0, 68, .inl (fun _ => 0)), .inl (0, 68, .inl (fun _ => 0)), .inl (0, 68, .inl (fun _ => 0)), .inl (0, 68, .inl (fun _ => 0)), .inl (0, 7, .inl (fun _ => 0)), .inl (0, 8, .inl (fun _ => 0)), .inl (0, 120, .inl (fun _ => 0)), .inl (0, 4, .inl (fun _ => 0)), .inl (0, 4, .inl (fun _ => 0)), .inl (1, 160, .inr (.inl (fun _ => 0)))]) := by
  refine zgo hZ 91 12 rfl ?_
  exact ⟨40, by decide, rfl, rfl, k⟩
theorem s0_eq : ∀ j, j < 68 → upd (fun _ => 0) 1 10 j = ec zs0 j := by decide +kernel
set_option maxRecDepth 100000 in
set_option maxHeartbeats 1000000 in
theorem hM_eq : zm_eH (gX x0 ++ [.inr (4, [.ref 44, .ref 45, .ref 46, .ref 47, .ref 48, .ref 49, .int 0, .ref 50, .int 0, .int 0, .int 0, .int 0, .int 0, .ref 51, .ref 52, .ref 53, .ref 54]), .inl (0, 68, .inl (upd (fun _ => 0) 1 10)), .inl (0, 68, .inl (fun _ => 0)), .inl (0, 68, .inl (fun _ => 0)), .inl (0, 68, .inl (fun _ => 0)), .inl (0, 7, .inl (fun _ => 0)), .inl (0, 8, .inl (fun _ => 0)), .inl (0, 120, .inl (fun _ => 0)), .inl (0, 4, .inl (fun _ => 0)), .inl (0, 4, .inl (fun _ => 0)), .inl (1, 160, .inr (.inl (fun _ => 0))), .inl (1, 40, .inr (.inl (fun _ => 0)))]) (gh x0 m0) := eH_app (zm_eH_rfl _) ⟨zm_eA_rfl _, eA_i s0_eq, zm_eA_rfl _, zm_eA_rfl _, zm_eA_rfl _, zm_eA_rfl _, zm_eA_rfl _, zm_eA_rfl _, zm_eA_rfl _, zm_eA_rfl _, zm_eA_rfl _, zm_eA_rfl _, trivial⟩
set_option maxRecDepth 100000 in
set_option maxHeartbeats 1000000 in
theorem ci_M_99 {SM : zC} {SF : Nat → zQ → zP} (hZ : zZ SM SF) {Q : zQ} (k : Q none (gh x0 m0)) : SF mn_M_init Q 99 [some (.ref 43)] [] (11, 615) (gX x0 ++ [.inr (4, [.ref 44, .ref 45, .ref 46, .ref 47, .ref 48, .ref 49, .int 0, .ref 50, .int 0, .int 0, .int 0, .int 0, .int 0, .ref 51, .ref 52, .ref 53, .ref 54]), .inl (0, 68, .inl (upd (fun _ => 0) 1 10)), .inl (0, 68, .inl (fun _ => 0)), .inl (0, 68, .inl (fun _ => 0)), .inl (0, 68, .inl (fun _ => 0)), .inl (0, 7, .inl (fun _ => 0)), .inl (0, 8, .inl (fun _ => 0)), .inl (0, 120, .inl (fun _ => 0)), .inl (0, 4, .inl (fun _ => 0)), .inl (0, 4, .inl (fun _ => 0)), .inl (1, 160, .inr (.inl (fun _ => 0))), .inl (1, 40, .inr (.inl (fun _ => 0)))]) := by
  refine zsame hZ _ hM_eq ?_
  refine zgo hZ 999 3 rfl ?_
  exact k
set_option maxRecDepth 100000 in
set_option maxHeartbeats 1000000 in
theorem ci_M_91 {SM : zC} {SF : Nat → zQ → zP} (hZ : zZ SM SF) {Q : zQ} (k : SF mn_M_init Q 99 [some (.ref 43)] [] (11, 615) (gX x0 ++ [.inr (4, [.ref 44, .ref 45, .ref 46, .ref 47, .ref 48, .ref 49, .int 0, .ref 50, .int 0, .int 0, .int 0, .int 0, .int 0, .ref 51, .ref 52, .ref 53, .ref 54]), .inl (0, 68, .inl (upd (fun _ => 0) 1 10)), .inl (0, 68, .inl (fun _ => 0)), .inl (0, 68, .inl (fun _ => 0)), .inl (0, 68, .inl (fun _ => 0)), .inl (0, 7, .inl (fun _ => 0)), .inl (0, 8, .inl (fun _ => 0)), .inl (0, 120, .inl (fun _ => 0)), .inl (0, 4, .inl (fun _ => 0)), .inl (0, 4, .inl (fun _ => 0)), .inl (1, 160, .inr (.inl (fun _ => 0))), .inl (1, 40, .inr (.inl (fun _ => 0)))])) : SF mn_M_init Q 91 [some (.ref 43)] [] (11, 615) (gX x0 ++ [.inr (4, [.ref 44, .ref 45, .ref 46, .ref 47, .ref 48, .ref 49, .int 0, .ref 50, .int 0, .int 0, .int 0, .int 0, .int 0, .ref 51, .ref 52, .ref 53, .ref 54]), .inl (0, 68, .inl (fun _ => 0)), .inl (0, 68, .inl (fun _ => 0)), .inl (0, 68, .inl (fun _ => 0)), .inl (0, 68, .inl (fun _ => 0)), .inl (0, 7, .inl (fun _ => 0)), .inl (0, 8, .inl (fun _ => 0)), .inl (0, 120, .inl (fun _ => 0)), .inl (0, 4, .inl (fun _ => 0)), .inl (0, 4, .inl (fun _ => 0)), .inl (1, 160, .inr (.inl (fun _ => 0))), .inl (1, 40, .inr (.inl (fun _ => 0)))]) := by
  refine zgo hZ 99 10 rfl ?_
  exact ⟨1, by decide, rfl, k⟩
set_option maxRecDepth 100000 in
set_option maxHeartbeats 1000000 in
theorem ci_M {SM : zC} {SF : Nat → zQ → zP} (hZ : zZ SM SF) {Q : zQ} (k : Q none (gh x0 m0)) : SM mn_M_init [.ref 43] (gX x0 ++ [.inr (4, [.null, .null, .null, .null, .null, .null, .int 0, .null, .int 0, .int 0, .int 0, .int 0, .int 0, .null, .null, .null, .null])]) Q := by
  have k := ci_M_91 hZ (ci_M_99 hZ k)
  have k := ci_M_83 hZ k
  have k := ci_M_74 hZ k
  have k := ci_M_67 hZ k
  have k := ci_M_60 hZ k
  have k := ci_M_52 hZ k
  have k := ci_M_44 hZ k
  have k := ci_M_36 hZ k
  have k := ci_M_28 hZ k
  have k := ci_M_20 hZ k
  have k := ci_M_12 hZ k
  refine zin hZ 12 16 rfl rfl rfl ?_
  exact ⟨68, by decide, rfl, rfl, k⟩
