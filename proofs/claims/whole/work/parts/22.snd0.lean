/-! EACH METHOD'S TABLE IS SOUND (by program) -/
set_option maxRecDepth 100000 in
set_option maxHeartbeats 4000000 in
theorem sn_K_isUnder (l : Launch) : zAl l 0 tb_K_isUnder :=
  zal_c (zi_iln (j := 0) (by decide +kernel) rfl rfl) <|
  zal_c (zi_isn (j := 2) (by decide +kernel) rfl rfl (Nat.le_of_ble_eq_true rfl)) <|
  zal_c (zi_iconst (n := 0) (by decide +kernel) rfl rfl) <|
  zal_c (zi_isn (j := 3) (by decide +kernel) rfl rfl (Nat.le_of_ble_eq_true rfl)) <|
  zal_c (zi_iln (j := 3) (by decide +kernel) rfl rfl) <|
  zal_c (zi_bipush (n := 6) (by decide +kernel) rfl rfl) <|
  zal_c (zi_cge (off := 32) (by decide +kernel) rfl rfl) <|
  zal_c (zi_iln (j := 2) (by decide +kernel) rfl rfl) <|
  zal_c (zi_iflt (off := 28) (by decide +kernel) rfl rfl) <|
  zal_c (zi_iln (j := 2) (by decide +kernel) rfl rfl) <|
  zal_c (zi_bipush (n := 6) (by decide +kernel) rfl rfl) <|
  zal_c (zi_cge (off := 22) (by decide +kernel) rfl rfl) <|
  zal_c (zi_iln (j := 2) (by decide +kernel) rfl rfl) <|
  zal_c (zi_iln (j := 1) (by decide +kernel) rfl rfl) <|
  zal_c (zi_cne (off := 5) (by decide +kernel) rfl rfl) <|
  zal_c (zi_iconst (n := 1) (by decide +kernel) rfl rfl) <|
  zal_c (zi_zr (by decide +kernel) rfl) <|
  zal_c (zi_gsab (index := 9) (by decide +kernel) rfl wf_K_9) <|
  zal_c (zi_iln (j := 2) (by decide +kernel) rfl rfl) <|
  zal_c (zi_tld (by decide +kernel) rfl) <|
  zal_c (zi_isn (j := 2) (by decide +kernel) rfl rfl (Nat.le_of_ble_eq_true rfl)) <|
  zal_c (zi_inc (n := 1) (by decide +kernel) rfl rfl) <|
  zal_c (zi_goto (off := -32) (by decide +kernel) rfl) <|
  zal_c (zi_iconst (n := 0) (by decide +kernel) rfl rfl) <|
  zal_c (zi_zr (by decide +kernel) rfl) <|
  zal_n
set_option maxRecDepth 100000 in
set_option maxHeartbeats 4000000 in
theorem sn_K_nameOf (l : Launch) : zAl l 1 tb_K_nameOf :=
  zal_c (zi_iln (j := 0) (by decide +kernel) rfl rfl) <|
  zal_c (zi_sw (dflt := 50) (lo := 1) (hi := 5) (offs := #[35, 38, 41, 44, 47]) (len := 35) 1 (by decide +kernel) rfl rfl (by decide) rfl (zsw_of (by decide +kernel))) <|
  zal_c (zi_ldcs (i := 1) (by decide +kernel) rfl (by decide) rfl) <|
  zal_c (zi_ar (by decide +kernel) rfl) <|
  zal_c (zi_ldcs (i := 2) (by decide +kernel) rfl (by decide) rfl) <|
  zal_c (zi_ar (by decide +kernel) rfl) <|
  zal_c (zi_ldcs (i := 3) (by decide +kernel) rfl (by decide) rfl) <|
  zal_c (zi_ar (by decide +kernel) rfl) <|
  zal_c (zi_ldcs (i := 4) (by decide +kernel) rfl (by decide) rfl) <|
  zal_c (zi_ar (by decide +kernel) rfl) <|
  zal_c (zi_ldcs (i := 5) (by decide +kernel) rfl (by decide) rfl) <|
  zal_c (zi_ar (by decide +kernel) rfl) <|
  zal_c (zi_ldcs (i := 0) (by decide +kernel) rfl (by decide) rfl) <|
  zal_c (zi_ar (by decide +kernel) rfl) <|
  zal_n
set_option maxRecDepth 100000 in
set_option maxHeartbeats 4000000 in
theorem sn_K_charms (l : Launch) : zAl l 2 tb_K_charms :=
  zal_c (zi_iln (j := 1) (by decide +kernel) rfl rfl) <|
  zal_c (zi_bipush (n := 10) (by decide +kernel) rfl rfl) <|
  zal_c (zi_idiv (by decide +kernel) rfl) <|
  zal_c (zi_is (by decide +kernel) rfl (Nat.le_of_ble_eq_true rfl)) <|
  zal_c (zi_il (by decide +kernel) rfl) <|
  zal_c (zi_iln (j := 2) (by decide +kernel) rfl rfl) <|
  zal_c (zi_iconst (n := 4) (by decide +kernel) rfl rfl) <|
  zal_c (zi_cge (off := 7) (by decide +kernel) rfl rfl) <|
  zal_c (zi_iconst (n := 3) (by decide +kernel) rfl rfl) <|
  zal_c (zi_goto (off := 4) (by decide +kernel) rfl) <|
  zal_c (zi_iconst (n := 0) (by decide +kernel) rfl rfl) <|
  zal_c (zi_iadd (by decide +kernel) rfl) <|
  zal_c (zi_is (by decide +kernel) rfl (Nat.le_of_ble_eq_true rfl)) <|
  zal_c (zi_il (by decide +kernel) rfl) <|
  zal_c (zi_iln (j := 2) (by decide +kernel) rfl rfl) <|
  zal_c (zi_iconst (n := 2) (by decide +kernel) rfl rfl) <|
  zal_c (zi_idiv (by decide +kernel) rfl) <|
  zal_c (zi_iadd (by decide +kernel) rfl) <|
  zal_c (zi_is (by decide +kernel) rfl (Nat.le_of_ble_eq_true rfl)) <|
  zal_c (zi_iln (j := 0) (by decide +kernel) rfl rfl) <|
  zal_c (zi_sw (dflt := 66) (lo := 1) (hi := 5) (offs := #[34, 37, 40, 42, 58]) (len := 34) 1 (by decide +kernel) rfl rfl (by decide) rfl (zsw_of (by decide +kernel))) <|
  zal_c (zi_il (by decide +kernel) rfl) <|
  zal_c (zi_ir (by decide +kernel) rfl) <|
  zal_c (zi_il (by decide +kernel) rfl) <|
  zal_c (zi_ir (by decide +kernel) rfl) <|
  zal_c (zi_iconst (n := 4) (by decide +kernel) rfl rfl) <|
  zal_c (zi_ir (by decide +kernel) rfl) <|
  zal_c (zi_il (by decide +kernel) rfl) <|
  zal_c (zi_iconst (n := 2) (by decide +kernel) rfl rfl) <|
  zal_c (zi_isub (by decide +kernel) rfl) <|
  zal_c (zi_iln (j := 3) (by decide +kernel) rfl rfl) <|
  zal_c (zi_ifeq (off := 8) (by decide +kernel) rfl rfl) <|
  zal_c (zi_bipush (n := 9) (by decide +kernel) rfl rfl) <|
  zal_c (zi_goto (off := 4) (by decide +kernel) rfl) <|
  zal_c (zi_iconst (n := 0) (by decide +kernel) rfl rfl) <|
  zal_c (zi_iadd (by decide +kernel) rfl) <|
  zal_c (zi_ir (by decide +kernel) rfl) <|
  zal_c (zi_il (by decide +kernel) rfl) <|
  zal_c (zi_il (by decide +kernel) rfl) <|
  zal_c (zi_iconst (n := 5) (by decide +kernel) rfl rfl) <|
  zal_c (zi_idiv (by decide +kernel) rfl) <|
  zal_c (zi_iadd (by decide +kernel) rfl) <|
  zal_c (zi_ir (by decide +kernel) rfl) <|
  zal_c (zi_il (by decide +kernel) rfl) <|
  zal_c (zi_ir (by decide +kernel) rfl) <|
  zal_n
set_option maxRecDepth 100000 in
set_option maxHeartbeats 4000000 in
theorem sn_K_does (l : Launch) : zAl l 3 tb_K_does :=
  zal_c (zi_iconst (n := 2) (by decide +kernel) rfl rfl) <|
  zal_c (zi_is (by decide +kernel) rfl (Nat.le_of_ble_eq_true rfl)) <|
  zal_c (zi_il (by decide +kernel) rfl) <|
  zal_c (zi_iln (j := 3) (by decide +kernel) rfl rfl) <|
  zal_c (zi_bipush (n := 10) (by decide +kernel) rfl rfl) <|
  zal_c (zi_clt (off := 7) (by decide +kernel) rfl rfl) <|
  zal_c (zi_iconst (n := 1) (by decide +kernel) rfl rfl) <|
  zal_c (zi_goto (off := 4) (by decide +kernel) rfl) <|
  zal_c (zi_iconst (n := 0) (by decide +kernel) rfl rfl) <|
  zal_c (zi_iadd (by decide +kernel) rfl) <|
  zal_c (zi_is (by decide +kernel) rfl (Nat.le_of_ble_eq_true rfl)) <|
  zal_c (zi_iln (j := 0) (by decide +kernel) rfl rfl) <|
  zal_c (zi_sw (dflt := 75) (lo := 1) (hi := 5) (offs := #[36, 51, 54, 56, 70]) (len := 36) 1 (by decide +kernel) rfl rfl (by decide) rfl (zsw_of (by decide +kernel))) <|
  zal_c (zi_il (by decide +kernel) rfl) <|
  zal_c (zi_iln (j := 2) (by decide +kernel) rfl rfl) <|
  zal_c (zi_bipush (n := 7) (by decide +kernel) rfl rfl) <|
  zal_c (zi_clt (off := 7) (by decide +kernel) rfl rfl) <|
  zal_c (zi_iconst (n := 1) (by decide +kernel) rfl rfl) <|
  zal_c (zi_goto (off := 4) (by decide +kernel) rfl) <|
  zal_c (zi_iconst (n := 0) (by decide +kernel) rfl rfl) <|
  zal_c (zi_isub (by decide +kernel) rfl) <|
  zal_c (zi_ir (by decide +kernel) rfl) <|
  zal_c (zi_il (by decide +kernel) rfl) <|
  zal_c (zi_ir (by decide +kernel) rfl) <|
  zal_c (zi_iconst (n := 0) (by decide +kernel) rfl rfl) <|
  zal_c (zi_ir (by decide +kernel) rfl) <|
  zal_c (zi_iln (j := 1) (by decide +kernel) rfl rfl) <|
  zal_c (zi_bipush (n := 60) (by decide +kernel) rfl rfl) <|
  zal_c (zi_clt (off := 8) (by decide +kernel) rfl rfl) <|
  zal_c (zi_bipush (n := 12) (by decide +kernel) rfl rfl) <|
  zal_c (zi_goto (off := 5) (by decide +kernel) rfl) <|
  zal_c (zi_bipush (n := -4) (by decide +kernel) rfl rfl) <|
  zal_c (zi_ir (by decide +kernel) rfl) <|
  zal_c (zi_il (by decide +kernel) rfl) <|
  zal_c (zi_iconst (n := 2) (by decide +kernel) rfl rfl) <|
  zal_c (zi_iadd (by decide +kernel) rfl) <|
  zal_c (zi_ir (by decide +kernel) rfl) <|
  zal_c (zi_il (by decide +kernel) rfl) <|
  zal_c (zi_ir (by decide +kernel) rfl) <|
  zal_n
set_option maxRecDepth 100000 in
set_option maxHeartbeats 4000000 in
theorem sn_K_thaws (l : Launch) : zAl l 4 tb_K_thaws :=
  zal_c (zi_iconst (n := 3) (by decide +kernel) rfl rfl) <|
  zal_c (zi_isn (j := 2) (by decide +kernel) rfl rfl (Nat.le_of_ble_eq_true rfl)) <|
  zal_c (zi_iln (j := 2) (by decide +kernel) rfl rfl) <|
  zal_c (zi_iln (j := 1) (by decide +kernel) rfl rfl) <|
  zal_c (zi_iconst (n := 3) (by decide +kernel) rfl rfl) <|
  zal_c (zi_idiv (by decide +kernel) rfl) <|
  zal_c (zi_isub (by decide +kernel) rfl) <|
  zal_c (zi_isn (j := 3) (by decide +kernel) rfl rfl (Nat.le_of_ble_eq_true rfl)) <|
  zal_c (zi_iln (j := 0) (by decide +kernel) rfl rfl) <|
  zal_c (zi_sw (dflt := 47) (lo := 1) (hi := 5) (offs := #[35, 47, 37, 39, 43]) (len := 35) 1 (by decide +kernel) rfl rfl (by decide) rfl (zsw_of (by decide +kernel))) <|
  zal_c (zi_iln (j := 3) (by decide +kernel) rfl rfl) <|
  zal_c (zi_ir (by decide +kernel) rfl) <|
  zal_c (zi_iconst (n := 1) (by decide +kernel) rfl rfl) <|
  zal_c (zi_ir (by decide +kernel) rfl) <|
  zal_c (zi_iln (j := 3) (by decide +kernel) rfl rfl) <|
  zal_c (zi_iconst (n := 2) (by decide +kernel) rfl rfl) <|
  zal_c (zi_isub (by decide +kernel) rfl) <|
  zal_c (zi_ir (by decide +kernel) rfl) <|
  zal_c (zi_iconst (n := 2) (by decide +kernel) rfl rfl) <|
  zal_c (zi_iln (j := 2) (by decide +kernel) rfl rfl) <|
  zal_c (zi_imul (by decide +kernel) rfl) <|
  zal_c (zi_ir (by decide +kernel) rfl) <|
  zal_c (zi_iln (j := 2) (by decide +kernel) rfl rfl) <|
  zal_c (zi_ir (by decide +kernel) rfl) <|
  zal_n
set_option maxRecDepth 100000 in
set_option maxHeartbeats 4000000 in
theorem sn_K_chills (l : Launch) : zAl l 5 tb_K_chills :=
  zal_c (zi_iconst (n := 2) (by decide +kernel) rfl rfl) <|
  zal_c (zi_isn (j := 2) (by decide +kernel) rfl rfl (Nat.le_of_ble_eq_true rfl)) <|
  zal_c (zi_iln (j := 2) (by decide +kernel) rfl rfl) <|
  zal_c (zi_iln (j := 1) (by decide +kernel) rfl rfl) <|
  zal_c (zi_bipush (n := 10) (by decide +kernel) rfl rfl) <|
  zal_c (zi_idiv (by decide +kernel) rfl) <|
  zal_c (zi_isub (by decide +kernel) rfl) <|
  zal_c (zi_isn (j := 3) (by decide +kernel) rfl rfl (Nat.le_of_ble_eq_true rfl)) <|
  zal_c (zi_iln (j := 0) (by decide +kernel) rfl rfl) <|
  zal_c (zi_sw (dflt := 50) (lo := 1) (hi := 5) (offs := #[34, 38, 40, 34, 42]) (len := 34) 1 (by decide +kernel) rfl rfl (by decide) rfl (zsw_of (by decide +kernel))) <|
  zal_c (zi_iln (j := 2) (by decide +kernel) rfl rfl) <|
  zal_c (zi_iconst (n := 2) (by decide +kernel) rfl rfl) <|
  zal_c (zi_iadd (by decide +kernel) rfl) <|
  zal_c (zi_ir (by decide +kernel) rfl) <|
  zal_c (zi_iln (j := 3) (by decide +kernel) rfl rfl) <|
  zal_c (zi_ir (by decide +kernel) rfl) <|
  zal_c (zi_iconst (n := 0) (by decide +kernel) rfl rfl) <|
  zal_c (zi_ir (by decide +kernel) rfl) <|
  zal_c (zi_iln (j := 3) (by decide +kernel) rfl rfl) <|
  zal_c (zi_iconst (n := 1) (by decide +kernel) rfl rfl) <|
  zal_c (zi_isub (by decide +kernel) rfl) <|
  zal_c (zi_iconst (n := 0) (by decide +kernel) rfl rfl) <|
  zal_c (zi_max (index := 25) (by decide +kernel) rfl wm_K_25 wt_max_s wt_i wt_max_c ⟨Nat.le_of_ble_eq_true rfl, Nat.le_of_ble_eq_true rfl⟩) <|
  zal_c (zi_ir (by decide +kernel) rfl) <|
  zal_c (zi_iln (j := 2) (by decide +kernel) rfl rfl) <|
  zal_c (zi_ir (by decide +kernel) rfl) <|
  zal_n
set_option maxRecDepth 100000 in
set_option maxHeartbeats 4000000 in
theorem sn_J_fill (l : Launch) : zAl l 6 tb_J_fill :=
  zal_c (zi_iconst (n := 0) (by decide +kernel) rfl rfl) <|
  zal_c (zi_isn (j := 3) (by decide +kernel) rfl rfl (Nat.le_of_ble_eq_true rfl)) <|
  zal_c (zi_aln (j := 0) (by decide +kernel) rfl rfl) <|
  zal_c (zi_alen (by decide +kernel) rfl) <|
  zal_c (zi_is (by decide +kernel) rfl (Nat.le_of_ble_eq_true rfl)) <|
  zal_c (zi_iln (j := 3) (by decide +kernel) rfl rfl) <|
  zal_c (zi_il (by decide +kernel) rfl) <|
  zal_c (zi_cge (off := 13) (by decide +kernel) rfl rfl) <|
  zal_c (zi_aln (j := 0) (by decide +kernel) rfl rfl) <|
  zal_c (zi_iln (j := 3) (by decide +kernel) rfl rfl) <|
  zal_c (zi_lln (j := 1) (by decide +kernel) rfl rfl) <|
  zal_c (zi_last (by decide +kernel) rfl) <|
  zal_c (zi_inc (n := 1) (by decide +kernel) rfl rfl) <|
  zal_c (zi_goto (off := -13) (by decide +kernel) rfl) <|
  zal_c (zi_vr (by decide +kernel) rfl) <|
  zal_n
set_option maxRecDepth 100000 in
set_option maxHeartbeats 4000000 in
theorem sn_S_init (l : Launch) : zAl l 7 tb_S_init :=
  zal_c (zi_aln (j := 0) (by decide +kernel) rfl rfl) <|
  zal_c (zi_obj (index := 3) (by decide +kernel) rfl wm_S_3 wo_i wo_c ⟨Nat.le_of_ble_eq_true rfl, Nat.le_of_ble_eq_true rfl⟩) <|
  zal_c (zi_aln (j := 0) (by decide +kernel) rfl rfl) <|
  zal_c (zi_iconst (n := 0) (by decide +kernel) rfl rfl) <|
  zal_c (zi_puti (CN := RX2) (T := TX2) (N := 3) (index := 9) (ty0 := tyX2) (by decide +kernel) rfl rfl (by decide) uw_X2 wf_S_9 tyX2_ok nmX2 rfl (by decide +kernel)) <|
  zal_c (zi_aln (j := 0) (by decide +kernel) rfl rfl) <|
  zal_c (zi_iconst (n := 0) (by decide +kernel) rfl rfl) <|
  zal_c (zi_puti (CN := RX2) (T := TX2) (N := 3) (index := 15) (ty0 := tyX2) (by decide +kernel) rfl rfl (by decide) uw_X2 wf_S_15 tyX2_ok nmX2 rfl (by decide +kernel)) <|
  zal_c (zi_aln (j := 0) (by decide +kernel) rfl rfl) <|
  zal_c (zi_bipush (n := 40) (by decide +kernel) rfl rfl) <|
  zal_c (zi_newl (by decide +kernel) rfl wa_long ⟨Nat.le_of_ble_eq_true rfl, Nat.le_of_ble_eq_true rfl⟩) <|
  zal_c (zi_puta (CN := RX2) (T := TX2) (N := 3) (index := 18) (ty0 := tyX2) (by decide +kernel) rfl rfl (by decide) uw_X2 wf_S_18 tyX2_ok nmX2 rfl rfl (ty := .array .long) (by decide +kernel) (fun _ => rfl) (fun _ => rfl) rfl) <|
  zal_c (zi_vr (by decide +kernel) rfl) <|
  zal_n
set_option maxRecDepth 100000 in
set_option maxHeartbeats 4000000 in
theorem sn_S_isMissing (l : Launch) : zAl l 8 tb_S_isMissing :=
  zal_c (zi_aln (j := 0) (by decide +kernel) rfl rfl) <|
  zal_c (zi_get (CN := RX2) (T := TX2) (N := 3) (index := 9) (by decide +kernel) rfl rfl (by decide) uw_X2 wf_S_9) <|
  zal_c (zi_ifne (off := 7) (by decide +kernel) rfl rfl) <|
  zal_c (zi_iconst (n := 1) (by decide +kernel) rfl rfl) <|
  zal_c (zi_goto (off := 4) (by decide +kernel) rfl) <|
  zal_c (zi_iconst (n := 0) (by decide +kernel) rfl rfl) <|
  zal_c (zi_zr (by decide +kernel) rfl) <|
  zal_n
set_option maxRecDepth 100000 in
set_option maxHeartbeats 4000000 in
theorem sn_S_lay (l : Launch) : zAl l 9 tb_S_lay :=
  zal_c (zi_aln (j := 0) (by decide +kernel) rfl rfl) <|
  zal_c (zi_iln (j := 1) (by decide +kernel) rfl rfl) <|
  zal_c (zi_puti (CN := RX2) (T := TX2) (N := 3) (index := 9) (ty0 := tyX2) (by decide +kernel) rfl rfl (by decide) uw_X2 wf_S_9 tyX2_ok nmX2 rfl (by decide +kernel)) <|
  zal_c (zi_aln (j := 0) (by decide +kernel) rfl rfl) <|
  zal_c (zi_iln (j := 1) (by decide +kernel) rfl rfl) <|
  zal_c (zi_ifne (off := 7) (by decide +kernel) rfl rfl) <|
  zal_c (zi_iconst (n := 0) (by decide +kernel) rfl rfl) <|
  zal_c (zi_goto (off := 4) (by decide +kernel) rfl) <|
  zal_c (zi_iln (j := 2) (by decide +kernel) rfl rfl) <|
  zal_c (zi_puti (CN := RX2) (T := TX2) (N := 3) (index := 15) (ty0 := tyX2) (by decide +kernel) rfl rfl (by decide) uw_X2 wf_S_15 tyX2_ok nmX2 rfl (by decide +kernel)) <|
  zal_c (zi_aln (j := 0) (by decide +kernel) rfl rfl) <|
  zal_c (zi_get (CN := RX2) (T := TX2) (N := 3) (index := 18) (by decide +kernel) rfl rfl (by decide) uw_X2 wf_S_18) <|
  zal_c (zi_lconst (n := 0) (by decide +kernel) rfl rfl) <|
  zal_c (zi_cs (index := 22) (by decide +kernel) rfl mk_J_fill wm_S_22 wq_J_fill ⟨rfl, rfl⟩ ⟨Nat.le_of_ble_eq_true rfl, Nat.le_of_ble_eq_true rfl⟩) <|
  zal_c (zi_vr (by decide +kernel) rfl) <|
  zal_n
set_option maxRecDepth 100000 in
set_option maxHeartbeats 4000000 in
theorem sn_S_put (l : Launch) : zAl l 10 tb_S_put :=
  zal_c (zi_aln (j := 0) (by decide +kernel) rfl rfl) <|
  zal_c (zi_get (CN := RX2) (T := TX2) (N := 3) (index := 9) (by decide +kernel) rfl rfl (by decide) uw_X2 wf_S_9) <|
  zal_c (zi_bipush (n := 8) (by decide +kernel) rfl rfl) <|
  zal_c (zi_cne (off := 16) (by decide +kernel) rfl rfl) <|
  zal_c (zi_aln (j := 0) (by decide +kernel) rfl rfl) <|
  zal_c (zi_get (CN := RX2) (T := TX2) (N := 3) (index := 18) (by decide +kernel) rfl rfl (by decide) uw_X2 wf_S_18) <|
  zal_c (zi_iln (j := 1) (by decide +kernel) rfl rfl) <|
  zal_c (zi_lln (j := 2) (by decide +kernel) rfl rfl) <|
  zal_c (zi_l2i (by decide +kernel) rfl) <|
  zal_c (zi_i2b (by decide +kernel) rfl) <|
  zal_c (zi_i2l (by decide +kernel) rfl) <|
  zal_c (zi_last (by decide +kernel) rfl) <|
  zal_c (zi_goto (off := 32) (by decide +kernel) rfl) <|
  zal_c (zi_aln (j := 0) (by decide +kernel) rfl rfl) <|
  zal_c (zi_get (CN := RX2) (T := TX2) (N := 3) (index := 9) (by decide +kernel) rfl rfl (by decide) uw_X2 wf_S_9) <|
  zal_c (zi_bipush (n := 16) (by decide +kernel) rfl rfl) <|
  zal_c (zi_cne (off := 16) (by decide +kernel) rfl rfl) <|
  zal_c (zi_aln (j := 0) (by decide +kernel) rfl rfl) <|
  zal_c (zi_get (CN := RX2) (T := TX2) (N := 3) (index := 18) (by decide +kernel) rfl rfl (by decide) uw_X2 wf_S_18) <|
  zal_c (zi_iln (j := 1) (by decide +kernel) rfl rfl) <|
  zal_c (zi_lln (j := 2) (by decide +kernel) rfl rfl) <|
  zal_c (zi_l2i (by decide +kernel) rfl) <|
  zal_c (zi_i2s (by decide +kernel) rfl) <|
  zal_c (zi_i2l (by decide +kernel) rfl) <|
  zal_c (zi_last (by decide +kernel) rfl) <|
  zal_c (zi_goto (off := 10) (by decide +kernel) rfl) <|
  zal_c (zi_aln (j := 0) (by decide +kernel) rfl rfl) <|
  zal_c (zi_get (CN := RX2) (T := TX2) (N := 3) (index := 18) (by decide +kernel) rfl rfl (by decide) uw_X2 wf_S_18) <|
  zal_c (zi_iln (j := 1) (by decide +kernel) rfl rfl) <|
  zal_c (zi_lln (j := 2) (by decide +kernel) rfl rfl) <|
  zal_c (zi_last (by decide +kernel) rfl) <|
  zal_c (zi_vr (by decide +kernel) rfl) <|
  zal_n
set_option maxRecDepth 100000 in
set_option maxHeartbeats 4000000 in
theorem sn_S_hasRun (l : Launch) : zAl l 11 tb_S_hasRun :=
  zal_c (zi_iln (j := 1) (by decide +kernel) rfl rfl) <|
  zal_c (zi_iflt (off := 29) (by decide +kernel) rfl rfl) <|
  zal_c (zi_iln (j := 2) (by decide +kernel) rfl rfl) <|
  zal_c (zi_iflt (off := 25) (by decide +kernel) rfl rfl) <|
  zal_c (zi_iln (j := 2) (by decide +kernel) rfl rfl) <|
  zal_c (zi_aln (j := 0) (by decide +kernel) rfl rfl) <|
  zal_c (zi_get (CN := RX2) (T := TX2) (N := 3) (index := 15) (by decide +kernel) rfl rfl (by decide) uw_X2 wf_S_15) <|
  zal_c (zi_cgt (off := 17) (by decide +kernel) rfl rfl) <|
  zal_c (zi_iln (j := 1) (by decide +kernel) rfl rfl) <|
  zal_c (zi_aln (j := 0) (by decide +kernel) rfl rfl) <|
  zal_c (zi_get (CN := RX2) (T := TX2) (N := 3) (index := 15) (by decide +kernel) rfl rfl (by decide) uw_X2 wf_S_15) <|
  zal_c (zi_iln (j := 2) (by decide +kernel) rfl rfl) <|
  zal_c (zi_isub (by decide +kernel) rfl) <|
  zal_c (zi_cgt (off := 7) (by decide +kernel) rfl rfl) <|
  zal_c (zi_iconst (n := 1) (by decide +kernel) rfl rfl) <|
  zal_c (zi_goto (off := 4) (by decide +kernel) rfl) <|
  zal_c (zi_iconst (n := 0) (by decide +kernel) rfl rfl) <|
  zal_c (zi_zr (by decide +kernel) rfl) <|
  zal_n
set_option maxRecDepth 100000 in
set_option maxHeartbeats 4000000 in
theorem sn_H_init (l : Launch) : zAl l 12 tb_H_init :=
  zal_c (zi_aln (j := 0) (by decide +kernel) rfl rfl) <|
  zal_c (zi_obj (index := 3) (by decide +kernel) rfl wm_H_3 wo_i wo_c ⟨Nat.le_of_ble_eq_true rfl, Nat.le_of_ble_eq_true rfl⟩) <|
  zal_c (zi_aln (j := 0) (by decide +kernel) rfl rfl) <|
  zal_c (zi_iconst (n := 0) (by decide +kernel) rfl rfl) <|
  zal_c (zi_puti (CN := RX0) (T := TX0) (N := 14) (index := 9) (ty0 := tyX0) (by decide +kernel) rfl rfl (by decide) uw_X0 wf_H_9 tyX0_ok nmX0 rfl (by decide +kernel)) <|
  zal_c (zi_aln (j := 0) (by decide +kernel) rfl rfl) <|
  zal_c (zi_bipush (n := 10) (by decide +kernel) rfl rfl) <|
  zal_c (zi_puti (CN := RX0) (T := TX0) (N := 14) (index := 15) (ty0 := tyX0) (by decide +kernel) rfl rfl (by decide) uw_X0 wf_H_15 tyX0_ok nmX0 rfl (by decide +kernel)) <|
  zal_c (zi_aln (j := 0) (by decide +kernel) rfl rfl) <|
  zal_c (zi_iconst (n := 0) (by decide +kernel) rfl rfl) <|
  zal_c (zi_puti (CN := RX0) (T := TX0) (N := 14) (index := 18) (ty0 := tyX0) (by decide +kernel) rfl rfl (by decide) uw_X0 wf_H_18 tyX0_ok nmX0 rfl (by decide +kernel)) <|
  zal_c (zi_aln (j := 0) (by decide +kernel) rfl rfl) <|
  zal_c (zi_bipush (n := 8) (by decide +kernel) rfl rfl) <|
  zal_c (zi_newi (by decide +kernel) rfl wa_int ⟨Nat.le_of_ble_eq_true rfl, Nat.le_of_ble_eq_true rfl⟩) <|
  zal_c (zi_puta (CN := RX0) (T := TX0) (N := 14) (index := 21) (ty0 := tyX0) (by decide +kernel) rfl rfl (by decide) uw_X0 wf_H_21 tyX0_ok nmX0 rfl rfl (ty := .array .int) (by decide +kernel) (fun _ => rfl) (fun _ => rfl) rfl) <|
  zal_c (zi_aln (j := 0) (by decide +kernel) rfl rfl) <|
  zal_c (zi_bipush (n := 8) (by decide +kernel) rfl rfl) <|
  zal_c (zi_newi (by decide +kernel) rfl wa_int ⟨Nat.le_of_ble_eq_true rfl, Nat.le_of_ble_eq_true rfl⟩) <|
  zal_c (zi_puta (CN := RX0) (T := TX0) (N := 14) (index := 25) (ty0 := tyX0) (by decide +kernel) rfl rfl (by decide) uw_X0 wf_H_25 tyX0_ok nmX0 rfl rfl (ty := .array .int) (by decide +kernel) (fun _ => rfl) (fun _ => rfl) rfl) <|
  zal_c (zi_aln (j := 0) (by decide +kernel) rfl rfl) <|
  zal_c (zi_bipush (n := 8) (by decide +kernel) rfl rfl) <|
  zal_c (zi_newi (by decide +kernel) rfl wa_int ⟨Nat.le_of_ble_eq_true rfl, Nat.le_of_ble_eq_true rfl⟩) <|
  zal_c (zi_puta (CN := RX0) (T := TX0) (N := 14) (index := 28) (ty0 := tyX0) (by decide +kernel) rfl rfl (by decide) uw_X0 wf_H_28 tyX0_ok nmX0 rfl rfl (ty := .array .int) (by decide +kernel) (fun _ => rfl) (fun _ => rfl) rfl) <|
  zal_c (zi_aln (j := 0) (by decide +kernel) rfl rfl) <|
  zal_c (zi_bipush (n := 8) (by decide +kernel) rfl rfl) <|
  zal_c (zi_newi (by decide +kernel) rfl wa_int ⟨Nat.le_of_ble_eq_true rfl, Nat.le_of_ble_eq_true rfl⟩) <|
  zal_c (zi_puta (CN := RX0) (T := TX0) (N := 14) (index := 31) (ty0 := tyX0) (by decide +kernel) rfl rfl (by decide) uw_X0 wf_H_31 tyX0_ok nmX0 rfl rfl (ty := .array .int) (by decide +kernel) (fun _ => rfl) (fun _ => rfl) rfl) <|
  zal_c (zi_aln (j := 0) (by decide +kernel) rfl rfl) <|
  zal_c (zi_bipush (n := 8) (by decide +kernel) rfl rfl) <|
  zal_c (zi_newi (by decide +kernel) rfl wa_int ⟨Nat.le_of_ble_eq_true rfl, Nat.le_of_ble_eq_true rfl⟩) <|
  zal_c (zi_puta (CN := RX0) (T := TX0) (N := 14) (index := 34) (ty0 := tyX0) (by decide +kernel) rfl rfl (by decide) uw_X0 wf_H_34 tyX0_ok nmX0 rfl rfl (ty := .array .int) (by decide +kernel) (fun _ => rfl) (fun _ => rfl) rfl) <|
  zal_c (zi_aln (j := 0) (by decide +kernel) rfl rfl) <|
  zal_c (zi_iconst (n := 0) (by decide +kernel) rfl rfl) <|
  zal_c (zi_puti (CN := RX0) (T := TX0) (N := 14) (index := 37) (ty0 := tyX0) (by decide +kernel) rfl rfl (by decide) uw_X0 wf_H_37 tyX0_ok nmX0 rfl (by decide +kernel)) <|
  zal_c (zi_aln (j := 0) (by decide +kernel) rfl rfl) <|
  zal_c (zi_bipush (n := 8) (by decide +kernel) rfl rfl) <|
  zal_c (zi_newi (by decide +kernel) rfl wa_int ⟨Nat.le_of_ble_eq_true rfl, Nat.le_of_ble_eq_true rfl⟩) <|
  zal_c (zi_puta (CN := RX0) (T := TX0) (N := 14) (index := 40) (ty0 := tyX0) (by decide +kernel) rfl rfl (by decide) uw_X0 wf_H_40 tyX0_ok nmX0 rfl rfl (ty := .array .int) (by decide +kernel) (fun _ => rfl) (fun _ => rfl) rfl) <|
  zal_c (zi_aln (j := 0) (by decide +kernel) rfl rfl) <|
  zal_c (zi_bipush (n := 8) (by decide +kernel) rfl rfl) <|
  zal_c (zi_newi (by decide +kernel) rfl wa_int ⟨Nat.le_of_ble_eq_true rfl, Nat.le_of_ble_eq_true rfl⟩) <|
  zal_c (zi_puta (CN := RX0) (T := TX0) (N := 14) (index := 43) (ty0 := tyX0) (by decide +kernel) rfl rfl (by decide) uw_X0 wf_H_43 tyX0_ok nmX0 rfl rfl (ty := .array .int) (by decide +kernel) (fun _ => rfl) (fun _ => rfl) rfl) <|
  zal_c (zi_aln (j := 0) (by decide +kernel) rfl rfl) <|
  zal_c (zi_bipush (n := 8) (by decide +kernel) rfl rfl) <|
  zal_c (zi_newi (by decide +kernel) rfl wa_int ⟨Nat.le_of_ble_eq_true rfl, Nat.le_of_ble_eq_true rfl⟩) <|
  zal_c (zi_puta (CN := RX0) (T := TX0) (N := 14) (index := 46) (ty0 := tyX0) (by decide +kernel) rfl rfl (by decide) uw_X0 wf_H_46 tyX0_ok nmX0 rfl rfl (ty := .array .int) (by decide +kernel) (fun _ => rfl) (fun _ => rfl) rfl) <|
  zal_c (zi_aln (j := 0) (by decide +kernel) rfl rfl) <|
  zal_c (zi_bipush (n := 8) (by decide +kernel) rfl rfl) <|
  zal_c (zi_newi (by decide +kernel) rfl wa_int ⟨Nat.le_of_ble_eq_true rfl, Nat.le_of_ble_eq_true rfl⟩) <|
  zal_c (zi_puta (CN := RX0) (T := TX0) (N := 14) (index := 49) (ty0 := tyX0) (by decide +kernel) rfl rfl (by decide) uw_X0 wf_H_49 tyX0_ok nmX0 rfl rfl (ty := .array .int) (by decide +kernel) (fun _ => rfl) (fun _ => rfl) rfl) <|
  zal_c (zi_aln (j := 0) (by decide +kernel) rfl rfl) <|
  zal_c (zi_iconst (n := 0) (by decide +kernel) rfl rfl) <|
  zal_c (zi_puti (CN := RX0) (T := TX0) (N := 14) (index := 52) (ty0 := tyX0) (by decide +kernel) rfl rfl (by decide) uw_X0 wf_H_52 tyX0_ok nmX0 rfl (by decide +kernel)) <|
  zal_c (zi_vr (by decide +kernel) rfl) <|
  zal_n
set_option maxRecDepth 100000 in
set_option maxHeartbeats 4000000 in
theorem sn_H_become (l : Launch) : zAl l 13 tb_H_become :=
  zal_c (zi_aln (j := 0) (by decide +kernel) rfl rfl) <|
  zal_c (zi_aln (j := 1) (by decide +kernel) rfl rfl) <|
  zal_c (zi_get (CN := RX0) (T := TX0) (N := 14) (index := 9) (by decide +kernel) rfl rfl (by decide) uw_X0 wf_H_9) <|
  zal_c (zi_puti (CN := RX0) (T := TX0) (N := 14) (index := 9) (ty0 := tyX0) (by decide +kernel) rfl rfl (by decide) uw_X0 wf_H_9 tyX0_ok nmX0 rfl (by decide +kernel)) <|
  zal_c (zi_aln (j := 0) (by decide +kernel) rfl rfl) <|
  zal_c (zi_aln (j := 1) (by decide +kernel) rfl rfl) <|
  zal_c (zi_get (CN := RX0) (T := TX0) (N := 14) (index := 15) (by decide +kernel) rfl rfl (by decide) uw_X0 wf_H_15) <|
  zal_c (zi_puti (CN := RX0) (T := TX0) (N := 14) (index := 15) (ty0 := tyX0) (by decide +kernel) rfl rfl (by decide) uw_X0 wf_H_15 tyX0_ok nmX0 rfl (by decide +kernel)) <|
  zal_c (zi_aln (j := 0) (by decide +kernel) rfl rfl) <|
  zal_c (zi_aln (j := 1) (by decide +kernel) rfl rfl) <|
  zal_c (zi_get (CN := RX0) (T := TX0) (N := 14) (index := 18) (by decide +kernel) rfl rfl (by decide) uw_X0 wf_H_18) <|
  zal_c (zi_puti (CN := RX0) (T := TX0) (N := 14) (index := 18) (ty0 := tyX0) (by decide +kernel) rfl rfl (by decide) uw_X0 wf_H_18 tyX0_ok nmX0 rfl (by decide +kernel)) <|
  zal_c (zi_aln (j := 1) (by decide +kernel) rfl rfl) <|
  zal_c (zi_get (CN := RX0) (T := TX0) (N := 14) (index := 21) (by decide +kernel) rfl rfl (by decide) uw_X0 wf_H_21) <|
  zal_c (zi_iconst (n := 0) (by decide +kernel) rfl rfl) <|
  zal_c (zi_aln (j := 0) (by decide +kernel) rfl rfl) <|
  zal_c (zi_get (CN := RX0) (T := TX0) (N := 14) (index := 21) (by decide +kernel) rfl rfl (by decide) uw_X0 wf_H_21) <|
  zal_c (zi_iconst (n := 0) (by decide +kernel) rfl rfl) <|
  zal_c (zi_bipush (n := 8) (by decide +kernel) rfl rfl) <|
  zal_c (zi_cpi (index := 55) (by decide +kernel) rfl wm_H_55 wy_n wy_s wy_i ⟨Nat.le_of_ble_eq_true rfl, Nat.le_of_ble_eq_true rfl⟩) <|
  zal_c (zi_aln (j := 1) (by decide +kernel) rfl rfl) <|
  zal_c (zi_get (CN := RX0) (T := TX0) (N := 14) (index := 25) (by decide +kernel) rfl rfl (by decide) uw_X0 wf_H_25) <|
  zal_c (zi_iconst (n := 0) (by decide +kernel) rfl rfl) <|
  zal_c (zi_aln (j := 0) (by decide +kernel) rfl rfl) <|
  zal_c (zi_get (CN := RX0) (T := TX0) (N := 14) (index := 25) (by decide +kernel) rfl rfl (by decide) uw_X0 wf_H_25) <|
  zal_c (zi_iconst (n := 0) (by decide +kernel) rfl rfl) <|
  zal_c (zi_bipush (n := 8) (by decide +kernel) rfl rfl) <|
  zal_c (zi_cpi (index := 55) (by decide +kernel) rfl wm_H_55 wy_n wy_s wy_i ⟨Nat.le_of_ble_eq_true rfl, Nat.le_of_ble_eq_true rfl⟩) <|
  zal_c (zi_aln (j := 1) (by decide +kernel) rfl rfl) <|
  zal_c (zi_get (CN := RX0) (T := TX0) (N := 14) (index := 28) (by decide +kernel) rfl rfl (by decide) uw_X0 wf_H_28) <|
  zal_c (zi_iconst (n := 0) (by decide +kernel) rfl rfl) <|
  zal_c (zi_aln (j := 0) (by decide +kernel) rfl rfl) <|
  zal_c (zi_get (CN := RX0) (T := TX0) (N := 14) (index := 28) (by decide +kernel) rfl rfl (by decide) uw_X0 wf_H_28) <|
  zal_c (zi_iconst (n := 0) (by decide +kernel) rfl rfl) <|
  zal_c (zi_bipush (n := 8) (by decide +kernel) rfl rfl) <|
  zal_c (zi_cpi (index := 55) (by decide +kernel) rfl wm_H_55 wy_n wy_s wy_i ⟨Nat.le_of_ble_eq_true rfl, Nat.le_of_ble_eq_true rfl⟩) <|
  zal_c (zi_aln (j := 1) (by decide +kernel) rfl rfl) <|
  zal_c (zi_get (CN := RX0) (T := TX0) (N := 14) (index := 31) (by decide +kernel) rfl rfl (by decide) uw_X0 wf_H_31) <|
  zal_c (zi_iconst (n := 0) (by decide +kernel) rfl rfl) <|
  zal_c (zi_aln (j := 0) (by decide +kernel) rfl rfl) <|
  zal_c (zi_get (CN := RX0) (T := TX0) (N := 14) (index := 31) (by decide +kernel) rfl rfl (by decide) uw_X0 wf_H_31) <|
  zal_c (zi_iconst (n := 0) (by decide +kernel) rfl rfl) <|
  zal_c (zi_bipush (n := 8) (by decide +kernel) rfl rfl) <|
  zal_c (zi_cpi (index := 55) (by decide +kernel) rfl wm_H_55 wy_n wy_s wy_i ⟨Nat.le_of_ble_eq_true rfl, Nat.le_of_ble_eq_true rfl⟩) <|
  zal_c (zi_aln (j := 1) (by decide +kernel) rfl rfl) <|
  zal_c (zi_get (CN := RX0) (T := TX0) (N := 14) (index := 34) (by decide +kernel) rfl rfl (by decide) uw_X0 wf_H_34) <|
  zal_c (zi_iconst (n := 0) (by decide +kernel) rfl rfl) <|
  zal_c (zi_aln (j := 0) (by decide +kernel) rfl rfl) <|
  zal_c (zi_get (CN := RX0) (T := TX0) (N := 14) (index := 34) (by decide +kernel) rfl rfl (by decide) uw_X0 wf_H_34) <|
  zal_c (zi_iconst (n := 0) (by decide +kernel) rfl rfl) <|
  zal_c (zi_bipush (n := 8) (by decide +kernel) rfl rfl) <|
  zal_c (zi_cpi (index := 55) (by decide +kernel) rfl wm_H_55 wy_n wy_s wy_i ⟨Nat.le_of_ble_eq_true rfl, Nat.le_of_ble_eq_true rfl⟩) <|
  zal_c (zi_aln (j := 0) (by decide +kernel) rfl rfl) <|
  zal_c (zi_aln (j := 1) (by decide +kernel) rfl rfl) <|
  zal_c (zi_get (CN := RX0) (T := TX0) (N := 14) (index := 37) (by decide +kernel) rfl rfl (by decide) uw_X0 wf_H_37) <|
  zal_c (zi_puti (CN := RX0) (T := TX0) (N := 14) (index := 37) (ty0 := tyX0) (by decide +kernel) rfl rfl (by decide) uw_X0 wf_H_37 tyX0_ok nmX0 rfl (by decide +kernel)) <|
  zal_c (zi_aln (j := 1) (by decide +kernel) rfl rfl) <|
  zal_c (zi_get (CN := RX0) (T := TX0) (N := 14) (index := 40) (by decide +kernel) rfl rfl (by decide) uw_X0 wf_H_40) <|
  zal_c (zi_iconst (n := 0) (by decide +kernel) rfl rfl) <|
  zal_c (zi_aln (j := 0) (by decide +kernel) rfl rfl) <|
  zal_c (zi_get (CN := RX0) (T := TX0) (N := 14) (index := 40) (by decide +kernel) rfl rfl (by decide) uw_X0 wf_H_40) <|
  zal_c (zi_iconst (n := 0) (by decide +kernel) rfl rfl) <|
  zal_c (zi_bipush (n := 8) (by decide +kernel) rfl rfl) <|
  zal_c (zi_cpi (index := 55) (by decide +kernel) rfl wm_H_55 wy_n wy_s wy_i ⟨Nat.le_of_ble_eq_true rfl, Nat.le_of_ble_eq_true rfl⟩) <|
  zal_c (zi_aln (j := 1) (by decide +kernel) rfl rfl) <|
  zal_c (zi_get (CN := RX0) (T := TX0) (N := 14) (index := 43) (by decide +kernel) rfl rfl (by decide) uw_X0 wf_H_43) <|
  zal_c (zi_iconst (n := 0) (by decide +kernel) rfl rfl) <|
  zal_c (zi_aln (j := 0) (by decide +kernel) rfl rfl) <|
  zal_c (zi_get (CN := RX0) (T := TX0) (N := 14) (index := 43) (by decide +kernel) rfl rfl (by decide) uw_X0 wf_H_43) <|
  zal_c (zi_iconst (n := 0) (by decide +kernel) rfl rfl) <|
  zal_c (zi_bipush (n := 8) (by decide +kernel) rfl rfl) <|
  zal_c (zi_cpi (index := 55) (by decide +kernel) rfl wm_H_55 wy_n wy_s wy_i ⟨Nat.le_of_ble_eq_true rfl, Nat.le_of_ble_eq_true rfl⟩) <|
  zal_c (zi_aln (j := 1) (by decide +kernel) rfl rfl) <|
  zal_c (zi_get (CN := RX0) (T := TX0) (N := 14) (index := 46) (by decide +kernel) rfl rfl (by decide) uw_X0 wf_H_46) <|
  zal_c (zi_iconst (n := 0) (by decide +kernel) rfl rfl) <|
  zal_c (zi_aln (j := 0) (by decide +kernel) rfl rfl) <|
  zal_c (zi_get (CN := RX0) (T := TX0) (N := 14) (index := 46) (by decide +kernel) rfl rfl (by decide) uw_X0 wf_H_46) <|
  zal_c (zi_iconst (n := 0) (by decide +kernel) rfl rfl) <|
  zal_c (zi_bipush (n := 8) (by decide +kernel) rfl rfl) <|
  zal_c (zi_cpi (index := 55) (by decide +kernel) rfl wm_H_55 wy_n wy_s wy_i ⟨Nat.le_of_ble_eq_true rfl, Nat.le_of_ble_eq_true rfl⟩) <|
  zal_c (zi_vr (by decide +kernel) rfl) <|
  zal_n
set_option maxRecDepth 100000 in
set_option maxHeartbeats 4000000 in
theorem sn_H_addInlaw (l : Launch) : zAl l 14 tb_H_addInlaw :=
  zal_c (zi_aln (j := 0) (by decide +kernel) rfl rfl) <|
  zal_c (zi_get (CN := RX0) (T := TX0) (N := 14) (index := 18) (by decide +kernel) rfl rfl (by decide) uw_X0 wf_H_18) <|
  zal_c (zi_bipush (n := 8) (by decide +kernel) rfl rfl) <|
  zal_c (zi_clt (off := 5) (by decide +kernel) rfl rfl) <|
  zal_c (zi_iconst (n := -1) (by decide +kernel) rfl rfl) <|
  zal_c (zi_ir (by decide +kernel) rfl) <|
  zal_c (zi_aln (j := 0) (by decide +kernel) rfl rfl) <|
  zal_c (zi_get (CN := RX0) (T := TX0) (N := 14) (index := 18) (by decide +kernel) rfl rfl (by decide) uw_X0 wf_H_18) <|
  zal_c (zi_isn (j := 2) (by decide +kernel) rfl rfl (Nat.le_of_ble_eq_true rfl)) <|
  zal_c (zi_aln (j := 0) (by decide +kernel) rfl rfl) <|
  zal_c (zi_get (CN := RX0) (T := TX0) (N := 14) (index := 21) (by decide +kernel) rfl rfl (by decide) uw_X0 wf_H_21) <|
  zal_c (zi_iln (j := 2) (by decide +kernel) rfl rfl) <|
  zal_c (zi_iln (j := 1) (by decide +kernel) rfl rfl) <|
  zal_c (zi_iast (by decide +kernel) rfl) <|
  zal_c (zi_aln (j := 0) (by decide +kernel) rfl rfl) <|
  zal_c (zi_get (CN := RX0) (T := TX0) (N := 14) (index := 25) (by decide +kernel) rfl rfl (by decide) uw_X0 wf_H_25) <|
  zal_c (zi_iln (j := 2) (by decide +kernel) rfl rfl) <|
  zal_c (zi_bipush (n := 40) (by decide +kernel) rfl rfl) <|
  zal_c (zi_iast (by decide +kernel) rfl) <|
  zal_c (zi_aln (j := 0) (by decide +kernel) rfl rfl) <|
  zal_c (zi_get (CN := RX0) (T := TX0) (N := 14) (index := 28) (by decide +kernel) rfl rfl (by decide) uw_X0 wf_H_28) <|
  zal_c (zi_iln (j := 2) (by decide +kernel) rfl rfl) <|
  zal_c (zi_iconst (n := 0) (by decide +kernel) rfl rfl) <|
  zal_c (zi_iast (by decide +kernel) rfl) <|
  zal_c (zi_aln (j := 0) (by decide +kernel) rfl rfl) <|
  zal_c (zi_get (CN := RX0) (T := TX0) (N := 14) (index := 31) (by decide +kernel) rfl rfl (by decide) uw_X0 wf_H_31) <|
  zal_c (zi_iln (j := 2) (by decide +kernel) rfl rfl) <|
  zal_c (zi_iconst (n := 0) (by decide +kernel) rfl rfl) <|
  zal_c (zi_iast (by decide +kernel) rfl) <|
  zal_c (zi_aln (j := 0) (by decide +kernel) rfl rfl) <|
  zal_c (zi_get (CN := RX0) (T := TX0) (N := 14) (index := 34) (by decide +kernel) rfl rfl (by decide) uw_X0 wf_H_34) <|
  zal_c (zi_iln (j := 2) (by decide +kernel) rfl rfl) <|
  zal_c (zi_iconst (n := 0) (by decide +kernel) rfl rfl) <|
  zal_c (zi_iast (by decide +kernel) rfl) <|
  zal_c (zi_aln (j := 0) (by decide +kernel) rfl rfl) <|
  zal_c (zi_dup (by decide +kernel) rfl) <|
  zal_c (zi_get (CN := RX0) (T := TX0) (N := 14) (index := 18) (by decide +kernel) rfl rfl (by decide) uw_X0 wf_H_18) <|
  zal_c (zi_iconst (n := 1) (by decide +kernel) rfl rfl) <|
  zal_c (zi_iadd (by decide +kernel) rfl) <|
  zal_c (zi_puti (CN := RX0) (T := TX0) (N := 14) (index := 18) (ty0 := tyX0) (by decide +kernel) rfl rfl (by decide) uw_X0 wf_H_18 tyX0_ok nmX0 rfl (by decide +kernel)) <|
  zal_c (zi_iln (j := 2) (by decide +kernel) rfl rfl) <|
  zal_c (zi_ir (by decide +kernel) rfl) <|
  zal_n
set_option maxRecDepth 100000 in
set_option maxHeartbeats 4000000 in
theorem sn_H_addCouple (l : Launch) : zAl l 15 tb_H_addCouple :=
  zal_c (zi_aln (j := 0) (by decide +kernel) rfl rfl) <|
  zal_c (zi_get (CN := RX0) (T := TX0) (N := 14) (index := 37) (by decide +kernel) rfl rfl (by decide) uw_X0 wf_H_37) <|
  zal_c (zi_bipush (n := 8) (by decide +kernel) rfl rfl) <|
  zal_c (zi_clt (off := 5) (by decide +kernel) rfl rfl) <|
  zal_c (zi_iconst (n := -1) (by decide +kernel) rfl rfl) <|
  zal_c (zi_ir (by decide +kernel) rfl) <|
  zal_c (zi_aln (j := 0) (by decide +kernel) rfl rfl) <|
  zal_c (zi_get (CN := RX0) (T := TX0) (N := 14) (index := 37) (by decide +kernel) rfl rfl (by decide) uw_X0 wf_H_37) <|
  zal_c (zi_isn (j := 2) (by decide +kernel) rfl rfl (Nat.le_of_ble_eq_true rfl)) <|
  zal_c (zi_aln (j := 0) (by decide +kernel) rfl rfl) <|
  zal_c (zi_get (CN := RX0) (T := TX0) (N := 14) (index := 40) (by decide +kernel) rfl rfl (by decide) uw_X0 wf_H_40) <|
  zal_c (zi_iln (j := 2) (by decide +kernel) rfl rfl) <|
  zal_c (zi_iln (j := 1) (by decide +kernel) rfl rfl) <|
  zal_c (zi_iast (by decide +kernel) rfl) <|
  zal_c (zi_aln (j := 0) (by decide +kernel) rfl rfl) <|
  zal_c (zi_get (CN := RX0) (T := TX0) (N := 14) (index := 43) (by decide +kernel) rfl rfl (by decide) uw_X0 wf_H_43) <|
  zal_c (zi_iln (j := 2) (by decide +kernel) rfl rfl) <|
  zal_c (zi_iconst (n := 0) (by decide +kernel) rfl rfl) <|
  zal_c (zi_iast (by decide +kernel) rfl) <|
  zal_c (zi_aln (j := 0) (by decide +kernel) rfl rfl) <|
  zal_c (zi_get (CN := RX0) (T := TX0) (N := 14) (index := 46) (by decide +kernel) rfl rfl (by decide) uw_X0 wf_H_46) <|
  zal_c (zi_iln (j := 2) (by decide +kernel) rfl rfl) <|
  zal_c (zi_iconst (n := -1) (by decide +kernel) rfl rfl) <|
  zal_c (zi_iast (by decide +kernel) rfl) <|
  zal_c (zi_aln (j := 0) (by decide +kernel) rfl rfl) <|
  zal_c (zi_dup (by decide +kernel) rfl) <|
  zal_c (zi_get (CN := RX0) (T := TX0) (N := 14) (index := 37) (by decide +kernel) rfl rfl (by decide) uw_X0 wf_H_37) <|
  zal_c (zi_iconst (n := 1) (by decide +kernel) rfl rfl) <|
  zal_c (zi_iadd (by decide +kernel) rfl) <|
  zal_c (zi_puti (CN := RX0) (T := TX0) (N := 14) (index := 37) (ty0 := tyX0) (by decide +kernel) rfl rfl (by decide) uw_X0 wf_H_37 tyX0_ok nmX0 rfl (by decide +kernel)) <|
  zal_c (zi_iln (j := 2) (by decide +kernel) rfl rfl) <|
  zal_c (zi_ir (by decide +kernel) rfl) <|
  zal_n
set_option maxRecDepth 100000 in
set_option maxHeartbeats 4000000 in
theorem sn_H_firstCouple (l : Launch) : zAl l 16 tb_H_firstCouple :=
  zal_c (zi_aln (j := 0) (by decide +kernel) rfl rfl) <|
  zal_c (zi_get (CN := RX0) (T := TX0) (N := 14) (index := 37) (by decide +kernel) rfl rfl (by decide) uw_X0 wf_H_37) <|
  zal_c (zi_ifle (off := 15) (by decide +kernel) rfl rfl) <|
  zal_c (zi_aln (j := 0) (by decide +kernel) rfl rfl) <|
  zal_c (zi_get (CN := RX0) (T := TX0) (N := 14) (index := 9) (by decide +kernel) rfl rfl (by decide) uw_X0 wf_H_9) <|
  zal_c (zi_aln (j := 0) (by decide +kernel) rfl rfl) <|
  zal_c (zi_get (CN := RX0) (T := TX0) (N := 14) (index := 37) (by decide +kernel) rfl rfl (by decide) uw_X0 wf_H_37) <|
  zal_c (zi_irem (by decide +kernel) rfl) <|
  zal_c (zi_goto (off := 4) (by decide +kernel) rfl) <|
  zal_c (zi_iconst (n := -1) (by decide +kernel) rfl rfl) <|
  zal_c (zi_ir (by decide +kernel) rfl) <|
  zal_n
set_option maxRecDepth 100000 in
set_option maxHeartbeats 4000000 in
theorem sn_H_satOnes (l : Launch) : zAl l 17 tb_H_satOnes :=
  zal_c (zi_iconst (n := 0) (by decide +kernel) rfl rfl) <|
  zal_c (zi_isn (j := 1) (by decide +kernel) rfl rfl (Nat.le_of_ble_eq_true rfl)) <|
  zal_c (zi_iconst (n := 0) (by decide +kernel) rfl rfl) <|
  zal_c (zi_isn (j := 2) (by decide +kernel) rfl rfl (Nat.le_of_ble_eq_true rfl)) <|
  zal_c (zi_iln (j := 2) (by decide +kernel) rfl rfl) <|
  zal_c (zi_aln (j := 0) (by decide +kernel) rfl rfl) <|
  zal_c (zi_get (CN := RX0) (T := TX0) (N := 14) (index := 18) (by decide +kernel) rfl rfl (by decide) uw_X0 wf_H_18) <|
  zal_c (zi_cge (off := 24) (by decide +kernel) rfl rfl) <|
  zal_c (zi_aln (j := 0) (by decide +kernel) rfl rfl) <|
  zal_c (zi_get (CN := RX0) (T := TX0) (N := 14) (index := 28) (by decide +kernel) rfl rfl (by decide) uw_X0 wf_H_28) <|
  zal_c (zi_iln (j := 2) (by decide +kernel) rfl rfl) <|
  zal_c (zi_iald (by decide +kernel) rfl) <|
  zal_c (zi_ifeq (off := 9) (by decide +kernel) rfl rfl) <|
  zal_c (zi_iln (j := 1) (by decide +kernel) rfl rfl) <|
  zal_c (zi_iconst (n := 1) (by decide +kernel) rfl rfl) <|
  zal_c (zi_iln (j := 2) (by decide +kernel) rfl rfl) <|
  zal_c (zi_ishl (by decide +kernel) rfl) <|
  zal_c (zi_ior (by decide +kernel) rfl) <|
  zal_c (zi_isn (j := 1) (by decide +kernel) rfl rfl (Nat.le_of_ble_eq_true rfl)) <|
  zal_c (zi_inc (n := 1) (by decide +kernel) rfl rfl) <|
  zal_c (zi_goto (off := -26) (by decide +kernel) rfl) <|
  zal_c (zi_iln (j := 1) (by decide +kernel) rfl rfl) <|
  zal_c (zi_ir (by decide +kernel) rfl) <|
  zal_n
set_option maxRecDepth 100000 in
set_option maxHeartbeats 4000000 in
theorem sn_H_wellOfAll (l : Launch) : zAl l 18 tb_H_wellOfAll :=
  zal_c (zi_aln (j := 0) (by decide +kernel) rfl rfl) <|
  zal_c (zi_get (CN := RX0) (T := TX0) (N := 14) (index := 43) (by decide +kernel) rfl rfl (by decide) uw_X0 wf_H_43) <|
  zal_c (zi_aln (j := 0) (by decide +kernel) rfl rfl) <|
  zal_c (zi_get (CN := RX0) (T := TX0) (N := 14) (index := 37) (by decide +kernel) rfl rfl (by decide) uw_X0 wf_H_37) <|
  zal_c (zi_cs (index := 61) (by decide +kernel) rfl mk_H_sum wm_H_61 wq_H_sum ⟨rfl, rfl⟩ ⟨Nat.le_of_ble_eq_true rfl, Nat.le_of_ble_eq_true rfl⟩) <|
  zal_c (zi_ir (by decide +kernel) rfl) <|
  zal_n
set_option maxRecDepth 100000 in
set_option maxHeartbeats 4000000 in
theorem sn_H_warmOfAll (l : Launch) : zAl l 19 tb_H_warmOfAll :=
  zal_c (zi_aln (j := 0) (by decide +kernel) rfl rfl) <|
  zal_c (zi_get (CN := RX0) (T := TX0) (N := 14) (index := 25) (by decide +kernel) rfl rfl (by decide) uw_X0 wf_H_25) <|
  zal_c (zi_aln (j := 0) (by decide +kernel) rfl rfl) <|
  zal_c (zi_get (CN := RX0) (T := TX0) (N := 14) (index := 18) (by decide +kernel) rfl rfl (by decide) uw_X0 wf_H_18) <|
  zal_c (zi_cs (index := 61) (by decide +kernel) rfl mk_H_sum wm_H_61 wq_H_sum ⟨rfl, rfl⟩ ⟨Nat.le_of_ble_eq_true rfl, Nat.le_of_ble_eq_true rfl⟩) <|
  zal_c (zi_ir (by decide +kernel) rfl) <|
  zal_n
set_option maxRecDepth 100000 in
set_option maxHeartbeats 4000000 in
theorem sn_H_hadOfAll (l : Launch) : zAl l 20 tb_H_hadOfAll :=
  zal_c (zi_aln (j := 0) (by decide +kernel) rfl rfl) <|
  zal_c (zi_get (CN := RX0) (T := TX0) (N := 14) (index := 34) (by decide +kernel) rfl rfl (by decide) uw_X0 wf_H_34) <|
  zal_c (zi_aln (j := 0) (by decide +kernel) rfl rfl) <|
  zal_c (zi_get (CN := RX0) (T := TX0) (N := 14) (index := 18) (by decide +kernel) rfl rfl (by decide) uw_X0 wf_H_18) <|
  zal_c (zi_cs (index := 61) (by decide +kernel) rfl mk_H_sum wm_H_61 wq_H_sum ⟨rfl, rfl⟩ ⟨Nat.le_of_ble_eq_true rfl, Nat.le_of_ble_eq_true rfl⟩) <|
  zal_c (zi_ir (by decide +kernel) rfl) <|
  zal_n
set_option maxRecDepth 100000 in
set_option maxHeartbeats 4000000 in
theorem sn_H_charmsOf (l : Launch) : zAl l 21 tb_H_charmsOf :=
  zal_c (zi_aln (j := 0) (by decide +kernel) rfl rfl) <|
  zal_c (zi_get (CN := RX0) (T := TX0) (N := 14) (index := 46) (by decide +kernel) rfl rfl (by decide) uw_X0 wf_H_46) <|
  zal_c (zi_iln (j := 2) (by decide +kernel) rfl rfl) <|
  zal_c (zi_iald (by decide +kernel) rfl) <|
  zal_c (zi_iln (j := 1) (by decide +kernel) rfl rfl) <|
  zal_c (zi_cne (off := 7) (by decide +kernel) rfl rfl) <|
  zal_c (zi_iconst (n := 1) (by decide +kernel) rfl rfl) <|
  zal_c (zi_goto (off := 4) (by decide +kernel) rfl) <|
  zal_c (zi_iconst (n := 0) (by decide +kernel) rfl rfl) <|
  zal_c (zi_isn (j := 3) (by decide +kernel) rfl rfl (Nat.le_of_ble_eq_true rfl)) <|
  zal_c (zi_aln (j := 0) (by decide +kernel) rfl rfl) <|
  zal_c (zi_get (CN := RX0) (T := TX0) (N := 14) (index := 21) (by decide +kernel) rfl rfl (by decide) uw_X0 wf_H_21) <|
  zal_c (zi_iln (j := 1) (by decide +kernel) rfl rfl) <|
  zal_c (zi_iald (by decide +kernel) rfl) <|
  zal_c (zi_aln (j := 0) (by decide +kernel) rfl rfl) <|
  zal_c (zi_get (CN := RX0) (T := TX0) (N := 14) (index := 25) (by decide +kernel) rfl rfl (by decide) uw_X0 wf_H_25) <|
  zal_c (zi_iln (j := 1) (by decide +kernel) rfl rfl) <|
  zal_c (zi_iald (by decide +kernel) rfl) <|
  zal_c (zi_aln (j := 0) (by decide +kernel) rfl rfl) <|
  zal_c (zi_get (CN := RX0) (T := TX0) (N := 14) (index := 40) (by decide +kernel) rfl rfl (by decide) uw_X0 wf_H_40) <|
  zal_c (zi_iln (j := 2) (by decide +kernel) rfl rfl) <|
  zal_c (zi_iald (by decide +kernel) rfl) <|
  zal_c (zi_iln (j := 3) (by decide +kernel) rfl rfl) <|
  zal_c (zi_aln (j := 0) (by decide +kernel) rfl rfl) <|
  zal_c (zi_get (CN := RX0) (T := TX0) (N := 14) (index := 15) (by decide +kernel) rfl rfl (by decide) uw_X0 wf_H_15) <|
  zal_c (zi_cs (index := 65) (by decide +kernel) rfl mk_K_charms wm_H_65 wq_K_charms ⟨rfl, rfl⟩ ⟨Nat.le_of_ble_eq_true rfl, Nat.le_of_ble_eq_true rfl⟩) <|
  zal_c (zi_ir (by decide +kernel) rfl) <|
  zal_n
set_option maxRecDepth 100000 in
set_option maxHeartbeats 4000000 in
theorem sn_H_doesOf (l : Launch) : zAl l 22 tb_H_doesOf :=
  zal_c (zi_aln (j := 0) (by decide +kernel) rfl rfl) <|
  zal_c (zi_get (CN := RX0) (T := TX0) (N := 14) (index := 21) (by decide +kernel) rfl rfl (by decide) uw_X0 wf_H_21) <|
  zal_c (zi_iln (j := 1) (by decide +kernel) rfl rfl) <|
  zal_c (zi_iald (by decide +kernel) rfl) <|
  zal_c (zi_aln (j := 0) (by decide +kernel) rfl rfl) <|
  zal_c (zi_get (CN := RX0) (T := TX0) (N := 14) (index := 25) (by decide +kernel) rfl rfl (by decide) uw_X0 wf_H_25) <|
  zal_c (zi_iln (j := 1) (by decide +kernel) rfl rfl) <|
  zal_c (zi_iald (by decide +kernel) rfl) <|
  zal_c (zi_aln (j := 0) (by decide +kernel) rfl rfl) <|
  zal_c (zi_get (CN := RX0) (T := TX0) (N := 14) (index := 40) (by decide +kernel) rfl rfl (by decide) uw_X0 wf_H_40) <|
  zal_c (zi_iln (j := 2) (by decide +kernel) rfl rfl) <|
  zal_c (zi_iald (by decide +kernel) rfl) <|
  zal_c (zi_aln (j := 0) (by decide +kernel) rfl rfl) <|
  zal_c (zi_get (CN := RX0) (T := TX0) (N := 14) (index := 15) (by decide +kernel) rfl rfl (by decide) uw_X0 wf_H_15) <|
  zal_c (zi_cs (index := 71) (by decide +kernel) rfl mk_K_does wm_H_71 wq_K_does ⟨rfl, rfl⟩ ⟨Nat.le_of_ble_eq_true rfl, Nat.le_of_ble_eq_true rfl⟩) <|
  zal_c (zi_ir (by decide +kernel) rfl) <|
  zal_n
set_option maxRecDepth 100000 in
set_option maxHeartbeats 4000000 in
theorem sn_H_thawsOf (l : Launch) : zAl l 23 tb_H_thawsOf :=
  zal_c (zi_aln (j := 0) (by decide +kernel) rfl rfl) <|
  zal_c (zi_get (CN := RX0) (T := TX0) (N := 14) (index := 21) (by decide +kernel) rfl rfl (by decide) uw_X0 wf_H_21) <|
  zal_c (zi_iln (j := 1) (by decide +kernel) rfl rfl) <|
  zal_c (zi_iald (by decide +kernel) rfl) <|
  zal_c (zi_aln (j := 0) (by decide +kernel) rfl rfl) <|
  zal_c (zi_get (CN := RX0) (T := TX0) (N := 14) (index := 40) (by decide +kernel) rfl rfl (by decide) uw_X0 wf_H_40) <|
  zal_c (zi_iln (j := 2) (by decide +kernel) rfl rfl) <|
  zal_c (zi_iald (by decide +kernel) rfl) <|
  zal_c (zi_cs (index := 75) (by decide +kernel) rfl mk_K_thaws wm_H_75 wq_K_thaws ⟨rfl, rfl⟩ ⟨Nat.le_of_ble_eq_true rfl, Nat.le_of_ble_eq_true rfl⟩) <|
  zal_c (zi_ir (by decide +kernel) rfl) <|
  zal_n
set_option maxRecDepth 100000 in
set_option maxHeartbeats 4000000 in
theorem sn_H_chillsOf (l : Launch) : zAl l 24 tb_H_chillsOf :=
  zal_c (zi_aln (j := 0) (by decide +kernel) rfl rfl) <|
  zal_c (zi_get (CN := RX0) (T := TX0) (N := 14) (index := 21) (by decide +kernel) rfl rfl (by decide) uw_X0 wf_H_21) <|
  zal_c (zi_iln (j := 1) (by decide +kernel) rfl rfl) <|
  zal_c (zi_iald (by decide +kernel) rfl) <|
  zal_c (zi_aln (j := 0) (by decide +kernel) rfl rfl) <|
  zal_c (zi_get (CN := RX0) (T := TX0) (N := 14) (index := 15) (by decide +kernel) rfl rfl (by decide) uw_X0 wf_H_15) <|
  zal_c (zi_cs (index := 79) (by decide +kernel) rfl mk_K_chills wm_H_79 wq_K_chills ⟨rfl, rfl⟩ ⟨Nat.le_of_ble_eq_true rfl, Nat.le_of_ble_eq_true rfl⟩) <|
  zal_c (zi_ir (by decide +kernel) rfl) <|
  zal_n
set_option maxRecDepth 100000 in
set_option maxHeartbeats 4000000 in
theorem sn_H_goSundays (l : Launch) : zAl l 25 tb_H_goSundays :=
  zal_c (zi_iconst (n := 0) (by decide +kernel) rfl rfl) <|
  zal_c (zi_isn (j := 2) (by decide +kernel) rfl rfl (Nat.le_of_ble_eq_true rfl)) <|
  zal_c (zi_iln (j := 2) (by decide +kernel) rfl rfl) <|
  zal_c (zi_iln (j := 1) (by decide +kernel) rfl rfl) <|
  zal_c (zi_cge (off := 13) (by decide +kernel) rfl rfl) <|
  zal_c (zi_aln (j := 0) (by decide +kernel) rfl rfl) <|
  zal_c (zi_cv (index := 82) (qc := (RX0, TX0, 14)) (by decide +kernel) rfl mk_H_goOneSunday rfl wm_H_82 wq_H_goOneSunday ww_H_goOneSunday ⟨rfl, rfl⟩ ⟨Nat.le_of_ble_eq_true rfl, Nat.le_of_ble_eq_true rfl⟩) <|
  zal_c (zi_inc (n := 1) (by decide +kernel) rfl rfl) <|
  zal_c (zi_goto (off := -12) (by decide +kernel) rfl) <|
  zal_c (zi_vr (by decide +kernel) rfl) <|
  zal_n
set_option maxRecDepth 100000 in
set_option maxHeartbeats 4000000 in
theorem sn_H_goOneSunday (l : Launch) : zAl l 26 tb_H_goOneSunday :=
  zal_c (zi_aln (j := 0) (by decide +kernel) rfl rfl) <|
  zal_c (zi_iconst (n := 0) (by decide +kernel) rfl rfl) <|
  zal_c (zi_puti (CN := RX0) (T := TX0) (N := 14) (index := 52) (ty0 := tyX0) (by decide +kernel) rfl rfl (by decide) uw_X0 wf_H_52 tyX0_ok nmX0 rfl (by decide +kernel)) <|
  zal_c (zi_aln (j := 0) (by decide +kernel) rfl rfl) <|
  zal_c (zi_cv (index := 85) (qc := (RX0, TX0, 14)) (by decide +kernel) rfl mk_H_firstCouple rfl wm_H_85 wq_H_firstCouple ww_H_firstCouple ⟨rfl, rfl⟩ ⟨Nat.le_of_ble_eq_true rfl, Nat.le_of_ble_eq_true rfl⟩) <|
  zal_c (zi_isn (j := 1) (by decide +kernel) rfl rfl (Nat.le_of_ble_eq_true rfl)) <|
  zal_c (zi_iconst (n := 0) (by decide +kernel) rfl rfl) <|
  zal_c (zi_isn (j := 2) (by decide +kernel) rfl rfl (Nat.le_of_ble_eq_true rfl)) <|
  zal_c (zi_iln (j := 2) (by decide +kernel) rfl rfl) <|
  zal_c (zi_aln (j := 0) (by decide +kernel) rfl rfl) <|
  zal_c (zi_get (CN := RX0) (T := TX0) (N := 14) (index := 37) (by decide +kernel) rfl rfl (by decide) uw_X0 wf_H_37) <|
  zal_c (zi_cge (off := 32) (by decide +kernel) rfl rfl) <|
  zal_c (zi_aln (j := 0) (by decide +kernel) rfl rfl) <|
  zal_c (zi_iln (j := 1) (by decide +kernel) rfl rfl) <|
  zal_c (zi_cv (index := 89) (qc := (RX0, TX0, 14)) (by decide +kernel) rfl mk_H_receive rfl wm_H_89 wq_H_receive ww_H_receive ⟨rfl, rfl⟩ ⟨Nat.le_of_ble_eq_true rfl, Nat.le_of_ble_eq_true rfl⟩) <|
  zal_c (zi_iln (j := 1) (by decide +kernel) rfl rfl) <|
  zal_c (zi_iconst (n := 1) (by decide +kernel) rfl rfl) <|
  zal_c (zi_iadd (by decide +kernel) rfl) <|
  zal_c (zi_aln (j := 0) (by decide +kernel) rfl rfl) <|
  zal_c (zi_get (CN := RX0) (T := TX0) (N := 14) (index := 37) (by decide +kernel) rfl rfl (by decide) uw_X0 wf_H_37) <|
  zal_c (zi_cge (off := 9) (by decide +kernel) rfl rfl) <|
  zal_c (zi_iln (j := 1) (by decide +kernel) rfl rfl) <|
  zal_c (zi_iconst (n := 1) (by decide +kernel) rfl rfl) <|
  zal_c (zi_iadd (by decide +kernel) rfl) <|
  zal_c (zi_goto (off := 4) (by decide +kernel) rfl) <|
  zal_c (zi_iconst (n := 0) (by decide +kernel) rfl rfl) <|
  zal_c (zi_isn (j := 1) (by decide +kernel) rfl rfl (Nat.le_of_ble_eq_true rfl)) <|
  zal_c (zi_inc (n := 1) (by decide +kernel) rfl rfl) <|
  zal_c (zi_goto (off := -34) (by decide +kernel) rfl) <|
  zal_c (zi_iconst (n := 0) (by decide +kernel) rfl rfl) <|
  zal_c (zi_isn (j := 2) (by decide +kernel) rfl rfl (Nat.le_of_ble_eq_true rfl)) <|
  zal_c (zi_iln (j := 2) (by decide +kernel) rfl rfl) <|
  zal_c (zi_aln (j := 0) (by decide +kernel) rfl rfl) <|
  zal_c (zi_get (CN := RX0) (T := TX0) (N := 14) (index := 18) (by decide +kernel) rfl rfl (by decide) uw_X0 wf_H_18) <|
  zal_c (zi_cge (off := 61) (by decide +kernel) rfl rfl) <|
  zal_c (zi_aln (j := 0) (by decide +kernel) rfl rfl) <|
  zal_c (zi_iln (j := 2) (by decide +kernel) rfl rfl) <|
  zal_c (zi_cv (index := 93) (qc := (RX0, TX0, 14)) (by decide +kernel) rfl mk_H_isFree rfl wm_H_93 wq_H_isFree ww_H_isFree ⟨rfl, rfl⟩ ⟨Nat.le_of_ble_eq_true rfl, Nat.le_of_ble_eq_true rfl⟩) <|
  zal_c (zi_ifeq (off := 47) (by decide +kernel) rfl rfl) <|
  zal_c (zi_aln (j := 0) (by decide +kernel) rfl rfl) <|
  zal_c (zi_get (CN := RX0) (T := TX0) (N := 14) (index := 31) (by decide +kernel) rfl rfl (by decide) uw_X0 wf_H_31) <|
  zal_c (zi_iln (j := 2) (by decide +kernel) rfl rfl) <|
  zal_c (zi_aln (j := 0) (by decide +kernel) rfl rfl) <|
  zal_c (zi_get (CN := RX0) (T := TX0) (N := 14) (index := 31) (by decide +kernel) rfl rfl (by decide) uw_X0 wf_H_31) <|
  zal_c (zi_iln (j := 2) (by decide +kernel) rfl rfl) <|
  zal_c (zi_iald (by decide +kernel) rfl) <|
  zal_c (zi_iconst (n := 1) (by decide +kernel) rfl rfl) <|
  zal_c (zi_iadd (by decide +kernel) rfl) <|
  zal_c (zi_sipush (n := 9999) (by decide +kernel) rfl rfl) <|
  zal_c (zi_min (index := 97) (by decide +kernel) rfl wm_H_97 wt_min_s wt_i wt_min_c ⟨Nat.le_of_ble_eq_true rfl, Nat.le_of_ble_eq_true rfl⟩) <|
  zal_c (zi_iast (by decide +kernel) rfl) <|
  zal_c (zi_aln (j := 0) (by decide +kernel) rfl rfl) <|
  zal_c (zi_get (CN := RX0) (T := TX0) (N := 14) (index := 25) (by decide +kernel) rfl rfl (by decide) uw_X0 wf_H_25) <|
  zal_c (zi_iln (j := 2) (by decide +kernel) rfl rfl) <|
  zal_c (zi_aln (j := 0) (by decide +kernel) rfl rfl) <|
  zal_c (zi_get (CN := RX0) (T := TX0) (N := 14) (index := 25) (by decide +kernel) rfl rfl (by decide) uw_X0 wf_H_25) <|
  zal_c (zi_iln (j := 2) (by decide +kernel) rfl rfl) <|
  zal_c (zi_iald (by decide +kernel) rfl) <|
  zal_c (zi_aln (j := 0) (by decide +kernel) rfl rfl) <|
  zal_c (zi_iln (j := 2) (by decide +kernel) rfl rfl) <|
  zal_c (zi_cv (index := 102) (qc := (RX0, TX0, 14)) (by decide +kernel) rfl mk_H_chillsOf rfl wm_H_102 wq_H_chillsOf ww_H_chillsOf ⟨rfl, rfl⟩ ⟨Nat.le_of_ble_eq_true rfl, Nat.le_of_ble_eq_true rfl⟩) <|
  zal_c (zi_isub (by decide +kernel) rfl) <|
  zal_c (zi_iconst (n := 0) (by decide +kernel) rfl rfl) <|
  zal_c (zi_bipush (n := 99) (by decide +kernel) rfl rfl) <|
  zal_c (zi_cs (index := 106) (by decide +kernel) rfl mk_H_hold wm_H_106 wq_H_hold ⟨rfl, rfl⟩ ⟨Nat.le_of_ble_eq_true rfl, Nat.le_of_ble_eq_true rfl⟩) <|
  zal_c (zi_iast (by decide +kernel) rfl) <|
  zal_c (zi_inc (n := 1) (by decide +kernel) rfl rfl) <|
  zal_c (zi_goto (off := -63) (by decide +kernel) rfl) <|
  zal_c (zi_aln (j := 0) (by decide +kernel) rfl rfl) <|
  zal_c (zi_dup (by decide +kernel) rfl) <|
  zal_c (zi_get (CN := RX0) (T := TX0) (N := 14) (index := 9) (by decide +kernel) rfl rfl (by decide) uw_X0 wf_H_9) <|
  zal_c (zi_iconst (n := 1) (by decide +kernel) rfl rfl) <|
  zal_c (zi_iadd (by decide +kernel) rfl) <|
  zal_c (zi_puti (CN := RX0) (T := TX0) (N := 14) (index := 9) (ty0 := tyX0) (by decide +kernel) rfl rfl (by decide) uw_X0 wf_H_9 tyX0_ok nmX0 rfl (by decide +kernel)) <|
  zal_c (zi_vr (by decide +kernel) rfl) <|
  zal_n
set_option maxRecDepth 100000 in
set_option maxHeartbeats 4000000 in
theorem sn_H_receive (l : Launch) : zAl l 27 tb_H_receive :=
  zal_c (zi_aln (j := 0) (by decide +kernel) rfl rfl) <|
  zal_c (zi_iln (j := 1) (by decide +kernel) rfl rfl) <|
  zal_c (zi_cv (index := 110) (qc := (RX0, TX0, 14)) (by decide +kernel) rfl mk_H_chosenBy rfl wm_H_110 wq_H_chosenBy ww_H_chosenBy ⟨rfl, rfl⟩ ⟨Nat.le_of_ble_eq_true rfl, Nat.le_of_ble_eq_true rfl⟩) <|
  zal_c (zi_isn (j := 2) (by decide +kernel) rfl rfl (Nat.le_of_ble_eq_true rfl)) <|
  zal_c (zi_aln (j := 0) (by decide +kernel) rfl rfl) <|
  zal_c (zi_get (CN := RX0) (T := TX0) (N := 14) (index := 49) (by decide +kernel) rfl rfl (by decide) uw_X0 wf_H_49) <|
  zal_c (zi_iln (j := 1) (by decide +kernel) rfl rfl) <|
  zal_c (zi_iln (j := 2) (by decide +kernel) rfl rfl) <|
  zal_c (zi_iast (by decide +kernel) rfl) <|
  zal_c (zi_iln (j := 2) (by decide +kernel) rfl rfl) <|
  zal_c (zi_iconst (n := -1) (by decide +kernel) rfl rfl) <|
  zal_c (zi_cne (off := 27) (by decide +kernel) rfl rfl) <|
  zal_c (zi_aln (j := 0) (by decide +kernel) rfl rfl) <|
  zal_c (zi_get (CN := RX0) (T := TX0) (N := 14) (index := 43) (by decide +kernel) rfl rfl (by decide) uw_X0 wf_H_43) <|
  zal_c (zi_iln (j := 1) (by decide +kernel) rfl rfl) <|
  zal_c (zi_aln (j := 0) (by decide +kernel) rfl rfl) <|
  zal_c (zi_get (CN := RX0) (T := TX0) (N := 14) (index := 43) (by decide +kernel) rfl rfl (by decide) uw_X0 wf_H_43) <|
  zal_c (zi_iln (j := 1) (by decide +kernel) rfl rfl) <|
  zal_c (zi_iald (by decide +kernel) rfl) <|
  zal_c (zi_iconst (n := 1) (by decide +kernel) rfl rfl) <|
  zal_c (zi_isub (by decide +kernel) rfl) <|
  zal_c (zi_sipush (n := -999) (by decide +kernel) rfl rfl) <|
  zal_c (zi_sipush (n := 999) (by decide +kernel) rfl rfl) <|
  zal_c (zi_cs (index := 106) (by decide +kernel) rfl mk_H_hold wm_H_106 wq_H_hold ⟨rfl, rfl⟩ ⟨Nat.le_of_ble_eq_true rfl, Nat.le_of_ble_eq_true rfl⟩) <|
  zal_c (zi_iast (by decide +kernel) rfl) <|
  zal_c (zi_vr (by decide +kernel) rfl) <|
  zal_c (zi_aln (j := 0) (by decide +kernel) rfl rfl) <|
  zal_c (zi_dup (by decide +kernel) rfl) <|
  zal_c (zi_get (CN := RX0) (T := TX0) (N := 14) (index := 52) (by decide +kernel) rfl rfl (by decide) uw_X0 wf_H_52) <|
  zal_c (zi_iconst (n := 1) (by decide +kernel) rfl rfl) <|
  zal_c (zi_iln (j := 2) (by decide +kernel) rfl rfl) <|
  zal_c (zi_ishl (by decide +kernel) rfl) <|
  zal_c (zi_ior (by decide +kernel) rfl) <|
  zal_c (zi_puti (CN := RX0) (T := TX0) (N := 14) (index := 52) (ty0 := tyX0) (by decide +kernel) rfl rfl (by decide) uw_X0 wf_H_52 tyX0_ok nmX0 rfl (by decide +kernel)) <|
  zal_c (zi_aln (j := 0) (by decide +kernel) rfl rfl) <|
  zal_c (zi_get (CN := RX0) (T := TX0) (N := 14) (index := 43) (by decide +kernel) rfl rfl (by decide) uw_X0 wf_H_43) <|
  zal_c (zi_iln (j := 1) (by decide +kernel) rfl rfl) <|
  zal_c (zi_aln (j := 0) (by decide +kernel) rfl rfl) <|
  zal_c (zi_get (CN := RX0) (T := TX0) (N := 14) (index := 43) (by decide +kernel) rfl rfl (by decide) uw_X0 wf_H_43) <|
  zal_c (zi_iln (j := 1) (by decide +kernel) rfl rfl) <|
  zal_c (zi_iald (by decide +kernel) rfl) <|
  zal_c (zi_aln (j := 0) (by decide +kernel) rfl rfl) <|
  zal_c (zi_iln (j := 2) (by decide +kernel) rfl rfl) <|
  zal_c (zi_iln (j := 1) (by decide +kernel) rfl rfl) <|
  zal_c (zi_cv (index := 113) (qc := (RX0, TX0, 14)) (by decide +kernel) rfl mk_H_doesOf rfl wm_H_113 wq_H_doesOf ww_H_doesOf ⟨rfl, rfl⟩ ⟨Nat.le_of_ble_eq_true rfl, Nat.le_of_ble_eq_true rfl⟩) <|
  zal_c (zi_iadd (by decide +kernel) rfl) <|
  zal_c (zi_sipush (n := -999) (by decide +kernel) rfl rfl) <|
  zal_c (zi_sipush (n := 999) (by decide +kernel) rfl rfl) <|
  zal_c (zi_cs (index := 106) (by decide +kernel) rfl mk_H_hold wm_H_106 wq_H_hold ⟨rfl, rfl⟩ ⟨Nat.le_of_ble_eq_true rfl, Nat.le_of_ble_eq_true rfl⟩) <|
  zal_c (zi_iast (by decide +kernel) rfl) <|
  zal_c (zi_aln (j := 0) (by decide +kernel) rfl rfl) <|
  zal_c (zi_get (CN := RX0) (T := TX0) (N := 14) (index := 46) (by decide +kernel) rfl rfl (by decide) uw_X0 wf_H_46) <|
  zal_c (zi_iln (j := 1) (by decide +kernel) rfl rfl) <|
  zal_c (zi_iln (j := 2) (by decide +kernel) rfl rfl) <|
  zal_c (zi_iast (by decide +kernel) rfl) <|
  zal_c (zi_aln (j := 0) (by decide +kernel) rfl rfl) <|
  zal_c (zi_get (CN := RX0) (T := TX0) (N := 14) (index := 34) (by decide +kernel) rfl rfl (by decide) uw_X0 wf_H_34) <|
  zal_c (zi_iln (j := 2) (by decide +kernel) rfl rfl) <|
  zal_c (zi_aln (j := 0) (by decide +kernel) rfl rfl) <|
  zal_c (zi_get (CN := RX0) (T := TX0) (N := 14) (index := 34) (by decide +kernel) rfl rfl (by decide) uw_X0 wf_H_34) <|
  zal_c (zi_iln (j := 2) (by decide +kernel) rfl rfl) <|
  zal_c (zi_iald (by decide +kernel) rfl) <|
  zal_c (zi_iconst (n := 1) (by decide +kernel) rfl rfl) <|
  zal_c (zi_iadd (by decide +kernel) rfl) <|
  zal_c (zi_sipush (n := 9999) (by decide +kernel) rfl rfl) <|
  zal_c (zi_min (index := 97) (by decide +kernel) rfl wm_H_97 wt_min_s wt_i wt_min_c ⟨Nat.le_of_ble_eq_true rfl, Nat.le_of_ble_eq_true rfl⟩) <|
  zal_c (zi_iast (by decide +kernel) rfl) <|
  zal_c (zi_aln (j := 0) (by decide +kernel) rfl rfl) <|
  zal_c (zi_get (CN := RX0) (T := TX0) (N := 14) (index := 25) (by decide +kernel) rfl rfl (by decide) uw_X0 wf_H_25) <|
  zal_c (zi_iln (j := 2) (by decide +kernel) rfl rfl) <|
  zal_c (zi_aln (j := 0) (by decide +kernel) rfl rfl) <|
  zal_c (zi_get (CN := RX0) (T := TX0) (N := 14) (index := 25) (by decide +kernel) rfl rfl (by decide) uw_X0 wf_H_25) <|
  zal_c (zi_iln (j := 2) (by decide +kernel) rfl rfl) <|
  zal_c (zi_iald (by decide +kernel) rfl) <|
  zal_c (zi_aln (j := 0) (by decide +kernel) rfl rfl) <|
  zal_c (zi_iln (j := 2) (by decide +kernel) rfl rfl) <|
  zal_c (zi_iln (j := 1) (by decide +kernel) rfl rfl) <|
  zal_c (zi_cv (index := 116) (qc := (RX0, TX0, 14)) (by decide +kernel) rfl mk_H_thawsOf rfl wm_H_116 wq_H_thawsOf ww_H_thawsOf ⟨rfl, rfl⟩ ⟨Nat.le_of_ble_eq_true rfl, Nat.le_of_ble_eq_true rfl⟩) <|
  zal_c (zi_iadd (by decide +kernel) rfl) <|
  zal_c (zi_iconst (n := 0) (by decide +kernel) rfl rfl) <|
  zal_c (zi_bipush (n := 99) (by decide +kernel) rfl rfl) <|
  zal_c (zi_cs (index := 106) (by decide +kernel) rfl mk_H_hold wm_H_106 wq_H_hold ⟨rfl, rfl⟩ ⟨Nat.le_of_ble_eq_true rfl, Nat.le_of_ble_eq_true rfl⟩) <|
  zal_c (zi_iast (by decide +kernel) rfl) <|
  zal_c (zi_vr (by decide +kernel) rfl) <|
  zal_n
set_option maxRecDepth 100000 in
set_option maxHeartbeats 4000000 in
theorem sn_H_chosenBy (l : Launch) : zAl l 28 tb_H_chosenBy :=
  zal_c (zi_iconst (n := -1) (by decide +kernel) rfl rfl) <|
  zal_c (zi_isn (j := 2) (by decide +kernel) rfl rfl (Nat.le_of_ble_eq_true rfl)) <|
  zal_c (zi_iconst (n := 0) (by decide +kernel) rfl rfl) <|
  zal_c (zi_isn (j := 3) (by decide +kernel) rfl rfl (Nat.le_of_ble_eq_true rfl)) <|
  zal_c (zi_iconst (n := 0) (by decide +kernel) rfl rfl) <|
  zal_c (zi_is (by decide +kernel) rfl (Nat.le_of_ble_eq_true rfl)) <|
  zal_c (zi_il (by decide +kernel) rfl) <|
  zal_c (zi_aln (j := 0) (by decide +kernel) rfl rfl) <|
  zal_c (zi_get (CN := RX0) (T := TX0) (N := 14) (index := 18) (by decide +kernel) rfl rfl (by decide) uw_X0 wf_H_18) <|
  zal_c (zi_cge (off := 54) (by decide +kernel) rfl rfl) <|
  zal_c (zi_aln (j := 0) (by decide +kernel) rfl rfl) <|
  zal_c (zi_il (by decide +kernel) rfl) <|
  zal_c (zi_cv (index := 93) (qc := (RX0, TX0, 14)) (by decide +kernel) rfl mk_H_isFree rfl wm_H_93 wq_H_isFree ww_H_isFree ⟨rfl, rfl⟩ ⟨Nat.le_of_ble_eq_true rfl, Nat.le_of_ble_eq_true rfl⟩) <|
  zal_c (zi_ifeq (off := 39) (by decide +kernel) rfl rfl) <|
  zal_c (zi_aln (j := 0) (by decide +kernel) rfl rfl) <|
  zal_c (zi_get (CN := RX0) (T := TX0) (N := 14) (index := 28) (by decide +kernel) rfl rfl (by decide) uw_X0 wf_H_28) <|
  zal_c (zi_il (by decide +kernel) rfl) <|
  zal_c (zi_iald (by decide +kernel) rfl) <|
  zal_c (zi_ifne (off := 29) (by decide +kernel) rfl rfl) <|
  zal_c (zi_aln (j := 0) (by decide +kernel) rfl rfl) <|
  zal_c (zi_il (by decide +kernel) rfl) <|
  zal_c (zi_iln (j := 1) (by decide +kernel) rfl rfl) <|
  zal_c (zi_cv (index := 119) (qc := (RX0, TX0, 14)) (by decide +kernel) rfl mk_H_charmsOf rfl wm_H_119 wq_H_charmsOf ww_H_charmsOf ⟨rfl, rfl⟩ ⟨Nat.le_of_ble_eq_true rfl, Nat.le_of_ble_eq_true rfl⟩) <|
  zal_c (zi_is (by decide +kernel) rfl (Nat.le_of_ble_eq_true rfl)) <|
  zal_c (zi_iln (j := 2) (by decide +kernel) rfl rfl) <|
  zal_c (zi_iconst (n := -1) (by decide +kernel) rfl rfl) <|
  zal_c (zi_ceq (off := 9) (by decide +kernel) rfl rfl) <|
  zal_c (zi_il (by decide +kernel) rfl) <|
  zal_c (zi_iln (j := 3) (by decide +kernel) rfl rfl) <|
  zal_c (zi_cle (off := 9) (by decide +kernel) rfl rfl) <|
  zal_c (zi_il (by decide +kernel) rfl) <|
  zal_c (zi_isn (j := 2) (by decide +kernel) rfl rfl (Nat.le_of_ble_eq_true rfl)) <|
  zal_c (zi_il (by decide +kernel) rfl) <|
  zal_c (zi_isn (j := 3) (by decide +kernel) rfl rfl (Nat.le_of_ble_eq_true rfl)) <|
  zal_c (zi_inc (n := 1) (by decide +kernel) rfl rfl) <|
  zal_c (zi_goto (off := -57) (by decide +kernel) rfl) <|
  zal_c (zi_iln (j := 2) (by decide +kernel) rfl rfl) <|
  zal_c (zi_ir (by decide +kernel) rfl) <|
  zal_n
set_option maxRecDepth 100000 in
set_option maxHeartbeats 4000000 in
theorem sn_H_isFree (l : Launch) : zAl l 29 tb_H_isFree :=
  zal_c (zi_aln (j := 0) (by decide +kernel) rfl rfl) <|
  zal_c (zi_get (CN := RX0) (T := TX0) (N := 14) (index := 52) (by decide +kernel) rfl rfl (by decide) uw_X0 wf_H_52) <|
  zal_c (zi_iconst (n := 1) (by decide +kernel) rfl rfl) <|
  zal_c (zi_iln (j := 1) (by decide +kernel) rfl rfl) <|
  zal_c (zi_ishl (by decide +kernel) rfl) <|
  zal_c (zi_iand (by decide +kernel) rfl) <|
  zal_c (zi_ifne (off := 7) (by decide +kernel) rfl rfl) <|
  zal_c (zi_iconst (n := 1) (by decide +kernel) rfl rfl) <|
  zal_c (zi_goto (off := 4) (by decide +kernel) rfl) <|
  zal_c (zi_iconst (n := 0) (by decide +kernel) rfl rfl) <|
  zal_c (zi_zr (by decide +kernel) rfl) <|
  zal_n
set_option maxRecDepth 100000 in
set_option maxHeartbeats 4000000 in
theorem sn_H_sum (l : Launch) : zAl l 30 tb_H_sum :=
  zal_c (zi_iconst (n := 0) (by decide +kernel) rfl rfl) <|
  zal_c (zi_isn (j := 2) (by decide +kernel) rfl rfl (Nat.le_of_ble_eq_true rfl)) <|
  zal_c (zi_iconst (n := 0) (by decide +kernel) rfl rfl) <|
  zal_c (zi_isn (j := 3) (by decide +kernel) rfl rfl (Nat.le_of_ble_eq_true rfl)) <|
  zal_c (zi_iln (j := 3) (by decide +kernel) rfl rfl) <|
  zal_c (zi_iln (j := 1) (by decide +kernel) rfl rfl) <|
  zal_c (zi_cge (off := 21) (by decide +kernel) rfl rfl) <|
  zal_c (zi_iln (j := 3) (by decide +kernel) rfl rfl) <|
  zal_c (zi_aln (j := 0) (by decide +kernel) rfl rfl) <|
  zal_c (zi_alen (by decide +kernel) rfl) <|
  zal_c (zi_cge (off := 15) (by decide +kernel) rfl rfl) <|
  zal_c (zi_iln (j := 2) (by decide +kernel) rfl rfl) <|
  zal_c (zi_aln (j := 0) (by decide +kernel) rfl rfl) <|
  zal_c (zi_iln (j := 3) (by decide +kernel) rfl rfl) <|
  zal_c (zi_iald (by decide +kernel) rfl) <|
  zal_c (zi_iadd (by decide +kernel) rfl) <|
  zal_c (zi_isn (j := 2) (by decide +kernel) rfl rfl (Nat.le_of_ble_eq_true rfl)) <|
  zal_c (zi_inc (n := 1) (by decide +kernel) rfl rfl) <|
  zal_c (zi_goto (off := -20) (by decide +kernel) rfl) <|
  zal_c (zi_iln (j := 2) (by decide +kernel) rfl rfl) <|
  zal_c (zi_ir (by decide +kernel) rfl) <|
  zal_n
set_option maxRecDepth 100000 in
set_option maxHeartbeats 4000000 in
theorem sn_H_hold (l : Launch) : zAl l 31 tb_H_hold :=
  zal_c (zi_iln (j := 1) (by decide +kernel) rfl rfl) <|
  zal_c (zi_iln (j := 0) (by decide +kernel) rfl rfl) <|
  zal_c (zi_iln (j := 2) (by decide +kernel) rfl rfl) <|
  zal_c (zi_min (index := 97) (by decide +kernel) rfl wm_H_97 wt_min_s wt_i wt_min_c ⟨Nat.le_of_ble_eq_true rfl, Nat.le_of_ble_eq_true rfl⟩) <|
  zal_c (zi_max (index := 122) (by decide +kernel) rfl wm_H_122 wt_max_s wt_i wt_max_c ⟨Nat.le_of_ble_eq_true rfl, Nat.le_of_ble_eq_true rfl⟩) <|
  zal_c (zi_ir (by decide +kernel) rfl) <|
  zal_n
set_option maxRecDepth 100000 in
set_option maxHeartbeats 4000000 in
theorem sn_T_init (l : Launch) : zAl l 32 tb_T_init :=
  zal_c (zi_aln (j := 0) (by decide +kernel) rfl rfl) <|
  zal_c (zi_obj (index := 3) (by decide +kernel) rfl wm_T_3 wo_i wo_c ⟨Nat.le_of_ble_eq_true rfl, Nat.le_of_ble_eq_true rfl⟩) <|
  zal_c (zi_aln (j := 0) (by decide +kernel) rfl rfl) <|
  zal_c (zi_bipush (n := 120) (by decide +kernel) rfl rfl) <|
  zal_c (zi_newi (by decide +kernel) rfl wa_int ⟨Nat.le_of_ble_eq_true rfl, Nat.le_of_ble_eq_true rfl⟩) <|
  zal_c (zi_puta (CN := RX3) (T := TX3) (N := 6) (index := 9) (ty0 := tyX3) (by decide +kernel) rfl rfl (by decide) uw_X3 wf_T_9 tyX3_ok nmX3 rfl rfl (ty := .array .int) (by decide +kernel) (fun _ => rfl) (fun _ => rfl) rfl) <|
  zal_c (zi_aln (j := 0) (by decide +kernel) rfl rfl) <|
  zal_c (zi_iconst (n := 0) (by decide +kernel) rfl rfl) <|
  zal_c (zi_puti (CN := RX3) (T := TX3) (N := 6) (index := 15) (ty0 := tyX3) (by decide +kernel) rfl rfl (by decide) uw_X3 wf_T_15 tyX3_ok nmX3 rfl (by decide +kernel)) <|
  zal_c (zi_aln (j := 0) (by decide +kernel) rfl rfl) <|
  zal_c (zi_iconst (n := 0) (by decide +kernel) rfl rfl) <|
  zal_c (zi_puti (CN := RX3) (T := TX3) (N := 6) (index := 19) (ty0 := tyX3) (by decide +kernel) rfl rfl (by decide) uw_X3 wf_T_19 tyX3_ok nmX3 rfl (by decide +kernel)) <|
  zal_c (zi_aln (j := 0) (by decide +kernel) rfl rfl) <|
  zal_c (zi_iconst (n := 0) (by decide +kernel) rfl rfl) <|
  zal_c (zi_puti (CN := RX3) (T := TX3) (N := 6) (index := 22) (ty0 := tyX3) (by decide +kernel) rfl rfl (by decide) uw_X3 wf_T_22 tyX3_ok nmX3 rfl (by decide +kernel)) <|
  zal_c (zi_aln (j := 0) (by decide +kernel) rfl rfl) <|
  zal_c (zi_iconst (n := 0) (by decide +kernel) rfl rfl) <|
  zal_c (zi_puti (CN := RX3) (T := TX3) (N := 6) (index := 25) (ty0 := tyX3) (by decide +kernel) rfl rfl (by decide) uw_X3 wf_T_25 tyX3_ok nmX3 rfl (by decide +kernel)) <|
  zal_c (zi_aln (j := 0) (by decide +kernel) rfl rfl) <|
  zal_c (zi_iconst (n := 0) (by decide +kernel) rfl rfl) <|
  zal_c (zi_puti (CN := RX3) (T := TX3) (N := 6) (index := 28) (ty0 := tyX3) (by decide +kernel) rfl rfl (by decide) uw_X3 wf_T_28 tyX3_ok nmX3 rfl (by decide +kernel)) <|
  zal_c (zi_vr (by decide +kernel) rfl) <|
  zal_n
set_option maxRecDepth 100000 in
set_option maxHeartbeats 4000000 in
theorem sn_T_tellTo (l : Launch) : zAl l 33 tb_T_tellTo :=
  zal_c (zi_aln (j := 0) (by decide +kernel) rfl rfl) <|
  zal_c (zi_iconst (n := 0) (by decide +kernel) rfl rfl) <|
  zal_c (zi_puti (CN := RX3) (T := TX3) (N := 6) (index := 25) (ty0 := tyX3) (by decide +kernel) rfl rfl (by decide) uw_X3 wf_T_25 tyX3_ok nmX3 rfl (by decide +kernel)) <|
  zal_c (zi_iconst (n := 1) (by decide +kernel) rfl rfl) <|
  zal_c (zi_isn (j := 2) (by decide +kernel) rfl rfl (Nat.le_of_ble_eq_true rfl)) <|
  zal_c (zi_iln (j := 2) (by decide +kernel) rfl rfl) <|
  zal_c (zi_bipush (n := 120) (by decide +kernel) rfl rfl) <|
  zal_c (zi_cgt (off := 52) (by decide +kernel) rfl rfl) <|
  zal_c (zi_aln (j := 0) (by decide +kernel) rfl rfl) <|
  zal_c (zi_cv (index := 31) (qc := (RX3, TX3, 6)) (by decide +kernel) rfl mk_T_advance rfl wm_T_31 wq_T_advance ww_T_advance ⟨rfl, rfl⟩ ⟨Nat.le_of_ble_eq_true rfl, Nat.le_of_ble_eq_true rfl⟩) <|
  zal_c (zi_aln (j := 0) (by decide +kernel) rfl rfl) <|
  zal_c (zi_aln (j := 1) (by decide +kernel) rfl rfl) <|
  zal_c (zi_cv (index := 34) (qc := (RX3, TX3, 6)) (by decide +kernel) rfl mk_T_tellItem rfl wm_T_34 wq_T_tellItem ww_T_tellItem ⟨rfl, rfl⟩ ⟨Nat.le_of_ble_eq_true rfl, Nat.le_of_ble_eq_true rfl⟩) <|
  zal_c (zi_ifne (off := 10) (by decide +kernel) rfl rfl) <|
  zal_c (zi_iconst (n := -1) (by decide +kernel) rfl rfl) <|
  zal_c (zi_aln (j := 0) (by decide +kernel) rfl rfl) <|
  zal_c (zi_get (CN := RX3) (T := TX3) (N := 6) (index := 22) (by decide +kernel) rfl rfl (by decide) uw_X3 wf_T_22) <|
  zal_c (zi_isub (by decide +kernel) rfl) <|
  zal_c (zi_ir (by decide +kernel) rfl) <|
  zal_c (zi_aln (j := 0) (by decide +kernel) rfl rfl) <|
  zal_c (zi_get (CN := RX3) (T := TX3) (N := 6) (index := 19) (by decide +kernel) rfl rfl (by decide) uw_X3 wf_T_19) <|
  zal_c (zi_ifne (off := 5) (by decide +kernel) rfl rfl) <|
  zal_c (zi_iln (j := 2) (by decide +kernel) rfl rfl) <|
  zal_c (zi_ir (by decide +kernel) rfl) <|
  zal_c (zi_aln (j := 0) (by decide +kernel) rfl rfl) <|
  zal_c (zi_get (CN := RX3) (T := TX3) (N := 6) (index := 19) (by decide +kernel) rfl rfl (by decide) uw_X3 wf_T_19) <|
  zal_c (zi_iconst (n := 3) (by decide +kernel) rfl rfl) <|
  zal_c (zi_ceq (off := 10) (by decide +kernel) rfl rfl) <|
  zal_c (zi_iconst (n := -1) (by decide +kernel) rfl rfl) <|
  zal_c (zi_aln (j := 0) (by decide +kernel) rfl rfl) <|
  zal_c (zi_get (CN := RX3) (T := TX3) (N := 6) (index := 22) (by decide +kernel) rfl rfl (by decide) uw_X3 wf_T_22) <|
  zal_c (zi_isub (by decide +kernel) rfl) <|
  zal_c (zi_ir (by decide +kernel) rfl) <|
  zal_c (zi_inc (n := 1) (by decide +kernel) rfl rfl) <|
  zal_c (zi_goto (off := -52) (by decide +kernel) rfl) <|
  zal_c (zi_iconst (n := -1) (by decide +kernel) rfl rfl) <|
  zal_c (zi_aln (j := 0) (by decide +kernel) rfl rfl) <|
  zal_c (zi_get (CN := RX3) (T := TX3) (N := 6) (index := 22) (by decide +kernel) rfl rfl (by decide) uw_X3 wf_T_22) <|
  zal_c (zi_isub (by decide +kernel) rfl) <|
  zal_c (zi_ir (by decide +kernel) rfl) <|
  zal_n
set_option maxRecDepth 100000 in
set_option maxHeartbeats 4000000 in
theorem sn_T_tellItem (l : Launch) : zAl l 34 tb_T_tellItem :=
  zal_c (zi_iconst (n := 0) (by decide +kernel) rfl rfl) <|
  zal_c (zi_isn (j := 2) (by decide +kernel) rfl rfl (Nat.le_of_ble_eq_true rfl)) <|
  zal_c (zi_iln (j := 2) (by decide +kernel) rfl rfl) <|
  zal_c (zi_bipush (n := 6) (by decide +kernel) rfl rfl) <|
  zal_c (zi_cge (off := 27) (by decide +kernel) rfl rfl) <|
  zal_c (zi_aln (j := 0) (by decide +kernel) rfl rfl) <|
  zal_c (zi_iln (j := 2) (by decide +kernel) rfl rfl) <|
  zal_c (zi_cs (index := 40) (by decide +kernel) rfl mk_K_nameOf wm_T_40 wq_K_nameOf ⟨rfl, rfl⟩ ⟨Nat.le_of_ble_eq_true rfl, Nat.le_of_ble_eq_true rfl⟩) <|
  zal_c (zi_cv (index := 44) (qc := (RX3, TX3, 6)) (by decide +kernel) rfl mk_T_isWord rfl wm_T_44 wq_T_isWord ww_T_isWord ⟨rfl, rfl⟩ ⟨Nat.le_of_ble_eq_true rfl, Nat.le_of_ble_eq_true rfl⟩) <|
  zal_c (zi_ifeq (off := 10) (by decide +kernel) rfl rfl) <|
  zal_c (zi_aln (j := 0) (by decide +kernel) rfl rfl) <|
  zal_c (zi_aln (j := 1) (by decide +kernel) rfl rfl) <|
  zal_c (zi_iln (j := 2) (by decide +kernel) rfl rfl) <|
  zal_c (zi_cv (index := 48) (qc := (RX3, TX3, 6)) (by decide +kernel) rfl mk_T_tellInlaw rfl wm_T_48 wq_T_tellInlaw ww_T_tellInlaw ⟨rfl, rfl⟩ ⟨Nat.le_of_ble_eq_true rfl, Nat.le_of_ble_eq_true rfl⟩) <|
  zal_c (zi_zr (by decide +kernel) rfl) <|
  zal_c (zi_inc (n := 1) (by decide +kernel) rfl rfl) <|
  zal_c (zi_goto (off := -27) (by decide +kernel) rfl) <|
  zal_c (zi_aln (j := 0) (by decide +kernel) rfl rfl) <|
  zal_c (zi_ldcs (i := 6) (by decide +kernel) rfl (by decide) rfl) <|
  zal_c (zi_cv (index := 44) (qc := (RX3, TX3, 6)) (by decide +kernel) rfl mk_T_isWord rfl wm_T_44 wq_T_isWord ww_T_isWord ⟨rfl, rfl⟩ ⟨Nat.le_of_ble_eq_true rfl, Nat.le_of_ble_eq_true rfl⟩) <|
  zal_c (zi_ifeq (off := 9) (by decide +kernel) rfl rfl) <|
  zal_c (zi_aln (j := 0) (by decide +kernel) rfl rfl) <|
  zal_c (zi_aln (j := 1) (by decide +kernel) rfl rfl) <|
  zal_c (zi_cv (index := 54) (qc := (RX3, TX3, 6)) (by decide +kernel) rfl mk_T_tellCouple rfl wm_T_54 wq_T_tellCouple ww_T_tellCouple ⟨rfl, rfl⟩ ⟨Nat.le_of_ble_eq_true rfl, Nat.le_of_ble_eq_true rfl⟩) <|
  zal_c (zi_zr (by decide +kernel) rfl) <|
  zal_c (zi_aln (j := 0) (by decide +kernel) rfl rfl) <|
  zal_c (zi_ldcs (i := 7) (by decide +kernel) rfl (by decide) rfl) <|
  zal_c (zi_cv (index := 44) (qc := (RX3, TX3, 6)) (by decide +kernel) rfl mk_T_isWord rfl wm_T_44 wq_T_isWord ww_T_isWord ⟨rfl, rfl⟩ ⟨Nat.le_of_ble_eq_true rfl, Nat.le_of_ble_eq_true rfl⟩) <|
  zal_c (zi_ifeq (off := 9) (by decide +kernel) rfl rfl) <|
  zal_c (zi_aln (j := 0) (by decide +kernel) rfl rfl) <|
  zal_c (zi_aln (j := 1) (by decide +kernel) rfl rfl) <|
  zal_c (zi_cv (index := 59) (qc := (RX3, TX3, 6)) (by decide +kernel) rfl mk_T_tellFire rfl wm_T_59 wq_T_tellFire ww_T_tellFire ⟨rfl, rfl⟩ ⟨Nat.le_of_ble_eq_true rfl, Nat.le_of_ble_eq_true rfl⟩) <|
  zal_c (zi_zr (by decide +kernel) rfl) <|
  zal_c (zi_aln (j := 0) (by decide +kernel) rfl rfl) <|
  zal_c (zi_ldcs (i := 8) (by decide +kernel) rfl (by decide) rfl) <|
  zal_c (zi_cv (index := 44) (qc := (RX3, TX3, 6)) (by decide +kernel) rfl mk_T_isWord rfl wm_T_44 wq_T_isWord ww_T_isWord ⟨rfl, rfl⟩ ⟨Nat.le_of_ble_eq_true rfl, Nat.le_of_ble_eq_true rfl⟩) <|
  zal_c (zi_ifeq (off := 15) (by decide +kernel) rfl rfl) <|
  zal_c (zi_aln (j := 0) (by decide +kernel) rfl rfl) <|
  zal_c (zi_aln (j := 1) (by decide +kernel) rfl rfl) <|
  zal_c (zi_cv (index := 64) (qc := (RX3, TX3, 6)) (by decide +kernel) rfl mk_T_tellSit rfl wm_T_64 wq_T_tellSit ww_T_tellSit ⟨rfl, rfl⟩ ⟨Nat.le_of_ble_eq_true rfl, Nat.le_of_ble_eq_true rfl⟩) <|
  zal_c (zi_ifeq (off := 7) (by decide +kernel) rfl rfl) <|
  zal_c (zi_iconst (n := 1) (by decide +kernel) rfl rfl) <|
  zal_c (zi_goto (off := 4) (by decide +kernel) rfl) <|
  zal_c (zi_iconst (n := 0) (by decide +kernel) rfl rfl) <|
  zal_c (zi_zr (by decide +kernel) rfl) <|
  zal_n
set_option maxRecDepth 100000 in
set_option maxHeartbeats 4000000 in
theorem sn_T_tellInlaw (l : Launch) : zAl l 35 tb_T_tellInlaw :=
  zal_c (zi_aln (j := 1) (by decide +kernel) rfl rfl) <|
  zal_c (zi_iln (j := 2) (by decide +kernel) rfl rfl) <|
  zal_c (zi_cv (index := 67) (qc := (RX0, TX0, 14)) (by decide +kernel) rfl mk_H_addInlaw rfl wm_T_67 wq_H_addInlaw ww_H_addInlaw ⟨rfl, rfl⟩ ⟨Nat.le_of_ble_eq_true rfl, Nat.le_of_ble_eq_true rfl⟩) <|
  zal_c (zi_isn (j := 3) (by decide +kernel) rfl rfl (Nat.le_of_ble_eq_true rfl)) <|
  zal_c (zi_iln (j := 3) (by decide +kernel) rfl rfl) <|
  zal_c (zi_iconst (n := -1) (by decide +kernel) rfl rfl) <|
  zal_c (zi_cne (off := 5) (by decide +kernel) rfl rfl) <|
  zal_c (zi_iconst (n := 0) (by decide +kernel) rfl rfl) <|
  zal_c (zi_zr (by decide +kernel) rfl) <|
  zal_c (zi_aln (j := 0) (by decide +kernel) rfl rfl) <|
  zal_c (zi_cv (index := 31) (qc := (RX3, TX3, 6)) (by decide +kernel) rfl mk_T_advance rfl wm_T_31 wq_T_advance ww_T_advance ⟨rfl, rfl⟩ ⟨Nat.le_of_ble_eq_true rfl, Nat.le_of_ble_eq_true rfl⟩) <|
  zal_c (zi_aln (j := 0) (by decide +kernel) rfl rfl) <|
  zal_c (zi_ldcs (i := 9) (by decide +kernel) rfl (by decide) rfl) <|
  zal_c (zi_cv (index := 44) (qc := (RX3, TX3, 6)) (by decide +kernel) rfl mk_T_isWord rfl wm_T_44 wq_T_isWord ww_T_isWord ⟨rfl, rfl⟩ ⟨Nat.le_of_ble_eq_true rfl, Nat.le_of_ble_eq_true rfl⟩) <|
  zal_c (zi_ifeq (off := 32) (by decide +kernel) rfl rfl) <|
  zal_c (zi_aln (j := 0) (by decide +kernel) rfl rfl) <|
  zal_c (zi_cv (index := 31) (qc := (RX3, TX3, 6)) (by decide +kernel) rfl mk_T_advance rfl wm_T_31 wq_T_advance ww_T_advance ⟨rfl, rfl⟩ ⟨Nat.le_of_ble_eq_true rfl, Nat.le_of_ble_eq_true rfl⟩) <|
  zal_c (zi_aln (j := 0) (by decide +kernel) rfl rfl) <|
  zal_c (zi_bipush (n := 99) (by decide +kernel) rfl rfl) <|
  zal_c (zi_cv (index := 75) (qc := (RX3, TX3, 6)) (by decide +kernel) rfl mk_T_isNumberTo rfl wm_T_75 wq_T_isNumberTo ww_T_isNumberTo ⟨rfl, rfl⟩ ⟨Nat.le_of_ble_eq_true rfl, Nat.le_of_ble_eq_true rfl⟩) <|
  zal_c (zi_ifne (off := 5) (by decide +kernel) rfl rfl) <|
  zal_c (zi_iconst (n := 0) (by decide +kernel) rfl rfl) <|
  zal_c (zi_zr (by decide +kernel) rfl) <|
  zal_c (zi_aln (j := 1) (by decide +kernel) rfl rfl) <|
  zal_c (zi_get (CN := RX0) (T := TX0) (N := 14) (index := 79) (by decide +kernel) rfl rfl (by decide) uw_X0 wf_T_79) <|
  zal_c (zi_iln (j := 3) (by decide +kernel) rfl rfl) <|
  zal_c (zi_aln (j := 0) (by decide +kernel) rfl rfl) <|
  zal_c (zi_get (CN := RX3) (T := TX3) (N := 6) (index := 28) (by decide +kernel) rfl rfl (by decide) uw_X3 wf_T_28) <|
  zal_c (zi_iast (by decide +kernel) rfl) <|
  zal_c (zi_aln (j := 0) (by decide +kernel) rfl rfl) <|
  zal_c (zi_cv (index := 31) (qc := (RX3, TX3, 6)) (by decide +kernel) rfl mk_T_advance rfl wm_T_31 wq_T_advance ww_T_advance ⟨rfl, rfl⟩ ⟨Nat.le_of_ble_eq_true rfl, Nat.le_of_ble_eq_true rfl⟩) <|
  zal_c (zi_aln (j := 0) (by decide +kernel) rfl rfl) <|
  zal_c (zi_ldcs (i := 10) (by decide +kernel) rfl (by decide) rfl) <|
  zal_c (zi_cv (index := 44) (qc := (RX3, TX3, 6)) (by decide +kernel) rfl mk_T_isWord rfl wm_T_44 wq_T_isWord ww_T_isWord ⟨rfl, rfl⟩ ⟨Nat.le_of_ble_eq_true rfl, Nat.le_of_ble_eq_true rfl⟩) <|
  zal_c (zi_ifeq (off := 14) (by decide +kernel) rfl rfl) <|
  zal_c (zi_aln (j := 1) (by decide +kernel) rfl rfl) <|
  zal_c (zi_get (CN := RX0) (T := TX0) (N := 14) (index := 84) (by decide +kernel) rfl rfl (by decide) uw_X0 wf_T_84) <|
  zal_c (zi_iln (j := 3) (by decide +kernel) rfl rfl) <|
  zal_c (zi_iconst (n := 1) (by decide +kernel) rfl rfl) <|
  zal_c (zi_iast (by decide +kernel) rfl) <|
  zal_c (zi_aln (j := 0) (by decide +kernel) rfl rfl) <|
  zal_c (zi_cv (index := 31) (qc := (RX3, TX3, 6)) (by decide +kernel) rfl mk_T_advance rfl wm_T_31 wq_T_advance ww_T_advance ⟨rfl, rfl⟩ ⟨Nat.le_of_ble_eq_true rfl, Nat.le_of_ble_eq_true rfl⟩) <|
  zal_c (zi_iconst (n := 1) (by decide +kernel) rfl rfl) <|
  zal_c (zi_zr (by decide +kernel) rfl) <|
  zal_n
set_option maxRecDepth 100000 in
set_option maxHeartbeats 4000000 in
theorem sn_T_tellCouple (l : Launch) : zAl l 36 tb_T_tellCouple :=
  zal_c (zi_aln (j := 1) (by decide +kernel) rfl rfl) <|
  zal_c (zi_iconst (n := 0) (by decide +kernel) rfl rfl) <|
  zal_c (zi_cv (index := 87) (qc := (RX0, TX0, 14)) (by decide +kernel) rfl mk_H_addCouple rfl wm_T_87 wq_H_addCouple ww_H_addCouple ⟨rfl, rfl⟩ ⟨Nat.le_of_ble_eq_true rfl, Nat.le_of_ble_eq_true rfl⟩) <|
  zal_c (zi_isn (j := 2) (by decide +kernel) rfl rfl (Nat.le_of_ble_eq_true rfl)) <|
  zal_c (zi_iln (j := 2) (by decide +kernel) rfl rfl) <|
  zal_c (zi_iconst (n := -1) (by decide +kernel) rfl rfl) <|
  zal_c (zi_cne (off := 5) (by decide +kernel) rfl rfl) <|
  zal_c (zi_iconst (n := 0) (by decide +kernel) rfl rfl) <|
  zal_c (zi_zr (by decide +kernel) rfl) <|
  zal_c (zi_aln (j := 0) (by decide +kernel) rfl rfl) <|
  zal_c (zi_cv (index := 31) (qc := (RX3, TX3, 6)) (by decide +kernel) rfl mk_T_advance rfl wm_T_31 wq_T_advance ww_T_advance ⟨rfl, rfl⟩ ⟨Nat.le_of_ble_eq_true rfl, Nat.le_of_ble_eq_true rfl⟩) <|
  zal_c (zi_aln (j := 0) (by decide +kernel) rfl rfl) <|
  zal_c (zi_bipush (n := 9) (by decide +kernel) rfl rfl) <|
  zal_c (zi_cv (index := 75) (qc := (RX3, TX3, 6)) (by decide +kernel) rfl mk_T_isNumberTo rfl wm_T_75 wq_T_isNumberTo ww_T_isNumberTo ⟨rfl, rfl⟩ ⟨Nat.le_of_ble_eq_true rfl, Nat.le_of_ble_eq_true rfl⟩) <|
  zal_c (zi_ifne (off := 5) (by decide +kernel) rfl rfl) <|
  zal_c (zi_iconst (n := 0) (by decide +kernel) rfl rfl) <|
  zal_c (zi_zr (by decide +kernel) rfl) <|
  zal_c (zi_aln (j := 1) (by decide +kernel) rfl rfl) <|
  zal_c (zi_get (CN := RX0) (T := TX0) (N := 14) (index := 90) (by decide +kernel) rfl rfl (by decide) uw_X0 wf_T_90) <|
  zal_c (zi_iln (j := 2) (by decide +kernel) rfl rfl) <|
  zal_c (zi_aln (j := 0) (by decide +kernel) rfl rfl) <|
  zal_c (zi_get (CN := RX3) (T := TX3) (N := 6) (index := 28) (by decide +kernel) rfl rfl (by decide) uw_X3 wf_T_28) <|
  zal_c (zi_iast (by decide +kernel) rfl) <|
  zal_c (zi_aln (j := 0) (by decide +kernel) rfl rfl) <|
  zal_c (zi_cv (index := 31) (qc := (RX3, TX3, 6)) (by decide +kernel) rfl mk_T_advance rfl wm_T_31 wq_T_advance ww_T_advance ⟨rfl, rfl⟩ ⟨Nat.le_of_ble_eq_true rfl, Nat.le_of_ble_eq_true rfl⟩) <|
  zal_c (zi_aln (j := 0) (by decide +kernel) rfl rfl) <|
  zal_c (zi_ldcs (i := 11) (by decide +kernel) rfl (by decide) rfl) <|
  zal_c (zi_cv (index := 44) (qc := (RX3, TX3, 6)) (by decide +kernel) rfl mk_T_isWord rfl wm_T_44 wq_T_isWord ww_T_isWord ⟨rfl, rfl⟩ ⟨Nat.le_of_ble_eq_true rfl, Nat.le_of_ble_eq_true rfl⟩) <|
  zal_c (zi_ifeq (off := 36) (by decide +kernel) rfl rfl) <|
  zal_c (zi_aln (j := 0) (by decide +kernel) rfl rfl) <|
  zal_c (zi_cv (index := 31) (qc := (RX3, TX3, 6)) (by decide +kernel) rfl mk_T_advance rfl wm_T_31 wq_T_advance ww_T_advance ⟨rfl, rfl⟩ ⟨Nat.le_of_ble_eq_true rfl, Nat.le_of_ble_eq_true rfl⟩) <|
  zal_c (zi_aln (j := 0) (by decide +kernel) rfl rfl) <|
  zal_c (zi_aln (j := 1) (by decide +kernel) rfl rfl) <|
  zal_c (zi_get (CN := RX0) (T := TX0) (N := 14) (index := 95) (by decide +kernel) rfl rfl (by decide) uw_X0 wf_T_95) <|
  zal_c (zi_iconst (n := 1) (by decide +kernel) rfl rfl) <|
  zal_c (zi_isub (by decide +kernel) rfl) <|
  zal_c (zi_cv (index := 75) (qc := (RX3, TX3, 6)) (by decide +kernel) rfl mk_T_isNumberTo rfl wm_T_75 wq_T_isNumberTo ww_T_isNumberTo ⟨rfl, rfl⟩ ⟨Nat.le_of_ble_eq_true rfl, Nat.le_of_ble_eq_true rfl⟩) <|
  zal_c (zi_ifne (off := 5) (by decide +kernel) rfl rfl) <|
  zal_c (zi_iconst (n := 0) (by decide +kernel) rfl rfl) <|
  zal_c (zi_zr (by decide +kernel) rfl) <|
  zal_c (zi_aln (j := 1) (by decide +kernel) rfl rfl) <|
  zal_c (zi_get (CN := RX0) (T := TX0) (N := 14) (index := 98) (by decide +kernel) rfl rfl (by decide) uw_X0 wf_T_98) <|
  zal_c (zi_iln (j := 2) (by decide +kernel) rfl rfl) <|
  zal_c (zi_aln (j := 0) (by decide +kernel) rfl rfl) <|
  zal_c (zi_get (CN := RX3) (T := TX3) (N := 6) (index := 28) (by decide +kernel) rfl rfl (by decide) uw_X3 wf_T_28) <|
  zal_c (zi_iast (by decide +kernel) rfl) <|
  zal_c (zi_aln (j := 0) (by decide +kernel) rfl rfl) <|
  zal_c (zi_cv (index := 31) (qc := (RX3, TX3, 6)) (by decide +kernel) rfl mk_T_advance rfl wm_T_31 wq_T_advance ww_T_advance ⟨rfl, rfl⟩ ⟨Nat.le_of_ble_eq_true rfl, Nat.le_of_ble_eq_true rfl⟩) <|
  zal_c (zi_iconst (n := 1) (by decide +kernel) rfl rfl) <|
  zal_c (zi_zr (by decide +kernel) rfl) <|
  zal_n
set_option maxRecDepth 100000 in
set_option maxHeartbeats 4000000 in
theorem sn_T_tellFire (l : Launch) : zAl l 37 tb_T_tellFire :=
  zal_c (zi_aln (j := 0) (by decide +kernel) rfl rfl) <|
  zal_c (zi_cv (index := 31) (qc := (RX3, TX3, 6)) (by decide +kernel) rfl mk_T_advance rfl wm_T_31 wq_T_advance ww_T_advance ⟨rfl, rfl⟩ ⟨Nat.le_of_ble_eq_true rfl, Nat.le_of_ble_eq_true rfl⟩) <|
  zal_c (zi_aln (j := 0) (by decide +kernel) rfl rfl) <|
  zal_c (zi_bipush (n := 20) (by decide +kernel) rfl rfl) <|
  zal_c (zi_cv (index := 75) (qc := (RX3, TX3, 6)) (by decide +kernel) rfl mk_T_isNumberTo rfl wm_T_75 wq_T_isNumberTo ww_T_isNumberTo ⟨rfl, rfl⟩ ⟨Nat.le_of_ble_eq_true rfl, Nat.le_of_ble_eq_true rfl⟩) <|
  zal_c (zi_ifne (off := 5) (by decide +kernel) rfl rfl) <|
  zal_c (zi_iconst (n := 0) (by decide +kernel) rfl rfl) <|
  zal_c (zi_zr (by decide +kernel) rfl) <|
  zal_c (zi_aln (j := 1) (by decide +kernel) rfl rfl) <|
  zal_c (zi_aln (j := 0) (by decide +kernel) rfl rfl) <|
  zal_c (zi_get (CN := RX3) (T := TX3) (N := 6) (index := 28) (by decide +kernel) rfl rfl (by decide) uw_X3 wf_T_28) <|
  zal_c (zi_puti (CN := RX0) (T := TX0) (N := 14) (index := 101) (ty0 := tyX0) (by decide +kernel) rfl rfl (by decide) uw_X0 wf_T_101 tyX0_ok nmX0 rfl (by decide +kernel)) <|
  zal_c (zi_aln (j := 0) (by decide +kernel) rfl rfl) <|
  zal_c (zi_cv (index := 31) (qc := (RX3, TX3, 6)) (by decide +kernel) rfl mk_T_advance rfl wm_T_31 wq_T_advance ww_T_advance ⟨rfl, rfl⟩ ⟨Nat.le_of_ble_eq_true rfl, Nat.le_of_ble_eq_true rfl⟩) <|
  zal_c (zi_iconst (n := 1) (by decide +kernel) rfl rfl) <|
  zal_c (zi_zr (by decide +kernel) rfl) <|
  zal_n
set_option maxRecDepth 100000 in
set_option maxHeartbeats 4000000 in
theorem sn_T_tellSit (l : Launch) : zAl l 38 tb_T_tellSit :=
  zal_c (zi_aln (j := 0) (by decide +kernel) rfl rfl) <|
  zal_c (zi_cv (index := 31) (qc := (RX3, TX3, 6)) (by decide +kernel) rfl mk_T_advance rfl wm_T_31 wq_T_advance ww_T_advance ⟨rfl, rfl⟩ ⟨Nat.le_of_ble_eq_true rfl, Nat.le_of_ble_eq_true rfl⟩) <|
  zal_c (zi_aln (j := 0) (by decide +kernel) rfl rfl) <|
  zal_c (zi_aln (j := 1) (by decide +kernel) rfl rfl) <|
  zal_c (zi_get (CN := RX0) (T := TX0) (N := 14) (index := 95) (by decide +kernel) rfl rfl (by decide) uw_X0 wf_T_95) <|
  zal_c (zi_iconst (n := 1) (by decide +kernel) rfl rfl) <|
  zal_c (zi_isub (by decide +kernel) rfl) <|
  zal_c (zi_cv (index := 75) (qc := (RX3, TX3, 6)) (by decide +kernel) rfl mk_T_isNumberTo rfl wm_T_75 wq_T_isNumberTo ww_T_isNumberTo ⟨rfl, rfl⟩ ⟨Nat.le_of_ble_eq_true rfl, Nat.le_of_ble_eq_true rfl⟩) <|
  zal_c (zi_ifne (off := 5) (by decide +kernel) rfl rfl) <|
  zal_c (zi_iconst (n := 0) (by decide +kernel) rfl rfl) <|
  zal_c (zi_zr (by decide +kernel) rfl) <|
  zal_c (zi_aln (j := 1) (by decide +kernel) rfl rfl) <|
  zal_c (zi_get (CN := RX0) (T := TX0) (N := 14) (index := 84) (by decide +kernel) rfl rfl (by decide) uw_X0 wf_T_84) <|
  zal_c (zi_aln (j := 0) (by decide +kernel) rfl rfl) <|
  zal_c (zi_get (CN := RX3) (T := TX3) (N := 6) (index := 28) (by decide +kernel) rfl rfl (by decide) uw_X3 wf_T_28) <|
  zal_c (zi_iconst (n := 1) (by decide +kernel) rfl rfl) <|
  zal_c (zi_iast (by decide +kernel) rfl) <|
  zal_c (zi_aln (j := 0) (by decide +kernel) rfl rfl) <|
  zal_c (zi_cv (index := 31) (qc := (RX3, TX3, 6)) (by decide +kernel) rfl mk_T_advance rfl wm_T_31 wq_T_advance ww_T_advance ⟨rfl, rfl⟩ ⟨Nat.le_of_ble_eq_true rfl, Nat.le_of_ble_eq_true rfl⟩) <|
  zal_c (zi_iconst (n := 1) (by decide +kernel) rfl rfl) <|
  zal_c (zi_zr (by decide +kernel) rfl) <|
  zal_n
set_option maxRecDepth 100000 in
set_option maxHeartbeats 4000000 in
theorem sn_T_advance (l : Launch) : zAl l 39 tb_T_advance :=
  zal_c (zi_aln (j := 0) (by decide +kernel) rfl rfl) <|
  zal_c (zi_get (CN := RX3) (T := TX3) (N := 6) (index := 25) (by decide +kernel) rfl rfl (by decide) uw_X3 wf_T_25) <|
  zal_c (zi_aln (j := 0) (by decide +kernel) rfl rfl) <|
  zal_c (zi_get (CN := RX3) (T := TX3) (N := 6) (index := 15) (by decide +kernel) rfl rfl (by decide) uw_X3 wf_T_15) <|
  zal_c (zi_cge (off := 30) (by decide +kernel) rfl rfl) <|
  zal_c (zi_aln (j := 0) (by decide +kernel) rfl rfl) <|
  zal_c (zi_get (CN := RX3) (T := TX3) (N := 6) (index := 9) (by decide +kernel) rfl rfl (by decide) uw_X3 wf_T_9) <|
  zal_c (zi_aln (j := 0) (by decide +kernel) rfl rfl) <|
  zal_c (zi_get (CN := RX3) (T := TX3) (N := 6) (index := 25) (by decide +kernel) rfl rfl (by decide) uw_X3 wf_T_25) <|
  zal_c (zi_iald (by decide +kernel) rfl) <|
  zal_c (zi_bipush (n := 32) (by decide +kernel) rfl rfl) <|
  zal_c (zi_cne (off := 16) (by decide +kernel) rfl rfl) <|
  zal_c (zi_aln (j := 0) (by decide +kernel) rfl rfl) <|
  zal_c (zi_dup (by decide +kernel) rfl) <|
  zal_c (zi_get (CN := RX3) (T := TX3) (N := 6) (index := 25) (by decide +kernel) rfl rfl (by decide) uw_X3 wf_T_25) <|
  zal_c (zi_iconst (n := 1) (by decide +kernel) rfl rfl) <|
  zal_c (zi_iadd (by decide +kernel) rfl) <|
  zal_c (zi_puti (CN := RX3) (T := TX3) (N := 6) (index := 25) (ty0 := tyX3) (by decide +kernel) rfl rfl (by decide) uw_X3 wf_T_25 tyX3_ok nmX3 rfl (by decide +kernel)) <|
  zal_c (zi_goto (off := -35) (by decide +kernel) rfl) <|
  zal_c (zi_aln (j := 0) (by decide +kernel) rfl rfl) <|
  zal_c (zi_aln (j := 0) (by decide +kernel) rfl rfl) <|
  zal_c (zi_get (CN := RX3) (T := TX3) (N := 6) (index := 25) (by decide +kernel) rfl rfl (by decide) uw_X3 wf_T_25) <|
  zal_c (zi_puti (CN := RX3) (T := TX3) (N := 6) (index := 22) (ty0 := tyX3) (by decide +kernel) rfl rfl (by decide) uw_X3 wf_T_22 tyX3_ok nmX3 rfl (by decide +kernel)) <|
  zal_c (zi_aln (j := 0) (by decide +kernel) rfl rfl) <|
  zal_c (zi_get (CN := RX3) (T := TX3) (N := 6) (index := 22) (by decide +kernel) rfl rfl (by decide) uw_X3 wf_T_22) <|
  zal_c (zi_aln (j := 0) (by decide +kernel) rfl rfl) <|
  zal_c (zi_get (CN := RX3) (T := TX3) (N := 6) (index := 15) (by decide +kernel) rfl rfl (by decide) uw_X3 wf_T_15) <|
  zal_c (zi_clt (off := 11) (by decide +kernel) rfl rfl) <|
  zal_c (zi_aln (j := 0) (by decide +kernel) rfl rfl) <|
  zal_c (zi_iconst (n := 0) (by decide +kernel) rfl rfl) <|
  zal_c (zi_puti (CN := RX3) (T := TX3) (N := 6) (index := 19) (ty0 := tyX3) (by decide +kernel) rfl rfl (by decide) uw_X3 wf_T_19 tyX3_ok nmX3 rfl (by decide +kernel)) <|
  zal_c (zi_goto (off := 90) (by decide +kernel) rfl) <|
  zal_c (zi_aln (j := 0) (by decide +kernel) rfl rfl) <|
  zal_c (zi_get (CN := RX3) (T := TX3) (N := 6) (index := 9) (by decide +kernel) rfl rfl (by decide) uw_X3 wf_T_9) <|
  zal_c (zi_aln (j := 0) (by decide +kernel) rfl rfl) <|
  zal_c (zi_get (CN := RX3) (T := TX3) (N := 6) (index := 22) (by decide +kernel) rfl rfl (by decide) uw_X3 wf_T_22) <|
  zal_c (zi_iald (by decide +kernel) rfl) <|
  zal_c (zi_cs (index := 103) (by decide +kernel) rfl mk_T_isLetter wm_T_103 wq_T_isLetter ⟨rfl, rfl⟩ ⟨Nat.le_of_ble_eq_true rfl, Nat.le_of_ble_eq_true rfl⟩) <|
  zal_c (zi_ifeq (off := 15) (by decide +kernel) rfl rfl) <|
  zal_c (zi_aln (j := 0) (by decide +kernel) rfl rfl) <|
  zal_c (zi_iconst (n := 1) (by decide +kernel) rfl rfl) <|
  zal_c (zi_puti (CN := RX3) (T := TX3) (N := 6) (index := 19) (ty0 := tyX3) (by decide +kernel) rfl rfl (by decide) uw_X3 wf_T_19 tyX3_ok nmX3 rfl (by decide +kernel)) <|
  zal_c (zi_aln (j := 0) (by decide +kernel) rfl rfl) <|
  zal_c (zi_cv (index := 106) (qc := (RX3, TX3, 6)) (by decide +kernel) rfl mk_T_takeWord rfl wm_T_106 wq_T_takeWord ww_T_takeWord ⟨rfl, rfl⟩ ⟨Nat.le_of_ble_eq_true rfl, Nat.le_of_ble_eq_true rfl⟩) <|
  zal_c (zi_goto (off := 63) (by decide +kernel) rfl) <|
  zal_c (zi_aln (j := 0) (by decide +kernel) rfl rfl) <|
  zal_c (zi_get (CN := RX3) (T := TX3) (N := 6) (index := 9) (by decide +kernel) rfl rfl (by decide) uw_X3 wf_T_9) <|
  zal_c (zi_aln (j := 0) (by decide +kernel) rfl rfl) <|
  zal_c (zi_get (CN := RX3) (T := TX3) (N := 6) (index := 22) (by decide +kernel) rfl rfl (by decide) uw_X3 wf_T_22) <|
  zal_c (zi_iald (by decide +kernel) rfl) <|
  zal_c (zi_cs (index := 109) (by decide +kernel) rfl mk_T_isDigit wm_T_109 wq_T_isDigit ⟨rfl, rfl⟩ ⟨Nat.le_of_ble_eq_true rfl, Nat.le_of_ble_eq_true rfl⟩) <|
  zal_c (zi_ifeq (off := 15) (by decide +kernel) rfl rfl) <|
  zal_c (zi_aln (j := 0) (by decide +kernel) rfl rfl) <|
  zal_c (zi_iconst (n := 2) (by decide +kernel) rfl rfl) <|
  zal_c (zi_puti (CN := RX3) (T := TX3) (N := 6) (index := 19) (ty0 := tyX3) (by decide +kernel) rfl rfl (by decide) uw_X3 wf_T_19 tyX3_ok nmX3 rfl (by decide +kernel)) <|
  zal_c (zi_aln (j := 0) (by decide +kernel) rfl rfl) <|
  zal_c (zi_cv (index := 112) (qc := (RX3, TX3, 6)) (by decide +kernel) rfl mk_T_takeNumber rfl wm_T_112 wq_T_takeNumber ww_T_takeNumber ⟨rfl, rfl⟩ ⟨Nat.le_of_ble_eq_true rfl, Nat.le_of_ble_eq_true rfl⟩) <|
  zal_c (zi_goto (off := 36) (by decide +kernel) rfl) <|
  zal_c (zi_aln (j := 0) (by decide +kernel) rfl rfl) <|
  zal_c (zi_aln (j := 0) (by decide +kernel) rfl rfl) <|
  zal_c (zi_get (CN := RX3) (T := TX3) (N := 6) (index := 9) (by decide +kernel) rfl rfl (by decide) uw_X3 wf_T_9) <|
  zal_c (zi_aln (j := 0) (by decide +kernel) rfl rfl) <|
  zal_c (zi_get (CN := RX3) (T := TX3) (N := 6) (index := 22) (by decide +kernel) rfl rfl (by decide) uw_X3 wf_T_22) <|
  zal_c (zi_iald (by decide +kernel) rfl) <|
  zal_c (zi_bipush (n := 59) (by decide +kernel) rfl rfl) <|
  zal_c (zi_cne (off := 7) (by decide +kernel) rfl rfl) <|
  zal_c (zi_iconst (n := 3) (by decide +kernel) rfl rfl) <|
  zal_c (zi_goto (off := 4) (by decide +kernel) rfl) <|
  zal_c (zi_iconst (n := 4) (by decide +kernel) rfl rfl) <|
  zal_c (zi_puti (CN := RX3) (T := TX3) (N := 6) (index := 19) (ty0 := tyX3) (by decide +kernel) rfl rfl (by decide) uw_X3 wf_T_19 tyX3_ok nmX3 rfl (by decide +kernel)) <|
  zal_c (zi_aln (j := 0) (by decide +kernel) rfl rfl) <|
  zal_c (zi_dup (by decide +kernel) rfl) <|
  zal_c (zi_get (CN := RX3) (T := TX3) (N := 6) (index := 25) (by decide +kernel) rfl rfl (by decide) uw_X3 wf_T_25) <|
  zal_c (zi_iconst (n := 1) (by decide +kernel) rfl rfl) <|
  zal_c (zi_iadd (by decide +kernel) rfl) <|
  zal_c (zi_puti (CN := RX3) (T := TX3) (N := 6) (index := 25) (ty0 := tyX3) (by decide +kernel) rfl rfl (by decide) uw_X3 wf_T_25 tyX3_ok nmX3 rfl (by decide +kernel)) <|
  zal_c (zi_vr (by decide +kernel) rfl) <|
  zal_n
set_option maxRecDepth 100000 in
set_option maxHeartbeats 4000000 in
theorem sn_T_takeWord (l : Launch) : zAl l 40 tb_T_takeWord :=
  zal_c (zi_aln (j := 0) (by decide +kernel) rfl rfl) <|
  zal_c (zi_get (CN := RX3) (T := TX3) (N := 6) (index := 25) (by decide +kernel) rfl rfl (by decide) uw_X3 wf_T_25) <|
  zal_c (zi_aln (j := 0) (by decide +kernel) rfl rfl) <|
  zal_c (zi_get (CN := RX3) (T := TX3) (N := 6) (index := 15) (by decide +kernel) rfl rfl (by decide) uw_X3 wf_T_15) <|
  zal_c (zi_cge (off := 31) (by decide +kernel) rfl rfl) <|
  zal_c (zi_aln (j := 0) (by decide +kernel) rfl rfl) <|
  zal_c (zi_get (CN := RX3) (T := TX3) (N := 6) (index := 9) (by decide +kernel) rfl rfl (by decide) uw_X3 wf_T_9) <|
  zal_c (zi_aln (j := 0) (by decide +kernel) rfl rfl) <|
  zal_c (zi_get (CN := RX3) (T := TX3) (N := 6) (index := 25) (by decide +kernel) rfl rfl (by decide) uw_X3 wf_T_25) <|
  zal_c (zi_iald (by decide +kernel) rfl) <|
  zal_c (zi_cs (index := 103) (by decide +kernel) rfl mk_T_isLetter wm_T_103 wq_T_isLetter ⟨rfl, rfl⟩ ⟨Nat.le_of_ble_eq_true rfl, Nat.le_of_ble_eq_true rfl⟩) <|
  zal_c (zi_ifeq (off := 16) (by decide +kernel) rfl rfl) <|
  zal_c (zi_aln (j := 0) (by decide +kernel) rfl rfl) <|
  zal_c (zi_dup (by decide +kernel) rfl) <|
  zal_c (zi_get (CN := RX3) (T := TX3) (N := 6) (index := 25) (by decide +kernel) rfl rfl (by decide) uw_X3 wf_T_25) <|
  zal_c (zi_iconst (n := 1) (by decide +kernel) rfl rfl) <|
  zal_c (zi_iadd (by decide +kernel) rfl) <|
  zal_c (zi_puti (CN := RX3) (T := TX3) (N := 6) (index := 25) (ty0 := tyX3) (by decide +kernel) rfl rfl (by decide) uw_X3 wf_T_25 tyX3_ok nmX3 rfl (by decide +kernel)) <|
  zal_c (zi_goto (off := -36) (by decide +kernel) rfl) <|
  zal_c (zi_vr (by decide +kernel) rfl) <|
  zal_n
set_option maxRecDepth 100000 in
set_option maxHeartbeats 4000000 in
theorem sn_T_takeNumber (l : Launch) : zAl l 41 tb_T_takeNumber :=
  zal_c (zi_aln (j := 0) (by decide +kernel) rfl rfl) <|
  zal_c (zi_iconst (n := 0) (by decide +kernel) rfl rfl) <|
  zal_c (zi_puti (CN := RX3) (T := TX3) (N := 6) (index := 28) (ty0 := tyX3) (by decide +kernel) rfl rfl (by decide) uw_X3 wf_T_28 tyX3_ok nmX3 rfl (by decide +kernel)) <|
  zal_c (zi_aln (j := 0) (by decide +kernel) rfl rfl) <|
  zal_c (zi_get (CN := RX3) (T := TX3) (N := 6) (index := 25) (by decide +kernel) rfl rfl (by decide) uw_X3 wf_T_25) <|
  zal_c (zi_aln (j := 0) (by decide +kernel) rfl rfl) <|
  zal_c (zi_get (CN := RX3) (T := TX3) (N := 6) (index := 15) (by decide +kernel) rfl rfl (by decide) uw_X3 wf_T_15) <|
  zal_c (zi_cge (off := 61) (by decide +kernel) rfl rfl) <|
  zal_c (zi_aln (j := 0) (by decide +kernel) rfl rfl) <|
  zal_c (zi_get (CN := RX3) (T := TX3) (N := 6) (index := 9) (by decide +kernel) rfl rfl (by decide) uw_X3 wf_T_9) <|
  zal_c (zi_aln (j := 0) (by decide +kernel) rfl rfl) <|
  zal_c (zi_get (CN := RX3) (T := TX3) (N := 6) (index := 25) (by decide +kernel) rfl rfl (by decide) uw_X3 wf_T_25) <|
  zal_c (zi_iald (by decide +kernel) rfl) <|
  zal_c (zi_cs (index := 109) (by decide +kernel) rfl mk_T_isDigit wm_T_109 wq_T_isDigit ⟨rfl, rfl⟩ ⟨Nat.le_of_ble_eq_true rfl, Nat.le_of_ble_eq_true rfl⟩) <|
  zal_c (zi_ifeq (off := 46) (by decide +kernel) rfl rfl) <|
  zal_c (zi_aln (j := 0) (by decide +kernel) rfl rfl) <|
  zal_c (zi_bipush (n := 10) (by decide +kernel) rfl rfl) <|
  zal_c (zi_aln (j := 0) (by decide +kernel) rfl rfl) <|
  zal_c (zi_get (CN := RX3) (T := TX3) (N := 6) (index := 28) (by decide +kernel) rfl rfl (by decide) uw_X3 wf_T_28) <|
  zal_c (zi_imul (by decide +kernel) rfl) <|
  zal_c (zi_aln (j := 0) (by decide +kernel) rfl rfl) <|
  zal_c (zi_get (CN := RX3) (T := TX3) (N := 6) (index := 9) (by decide +kernel) rfl rfl (by decide) uw_X3 wf_T_9) <|
  zal_c (zi_aln (j := 0) (by decide +kernel) rfl rfl) <|
  zal_c (zi_get (CN := RX3) (T := TX3) (N := 6) (index := 25) (by decide +kernel) rfl rfl (by decide) uw_X3 wf_T_25) <|
  zal_c (zi_iald (by decide +kernel) rfl) <|
  zal_c (zi_iadd (by decide +kernel) rfl) <|
  zal_c (zi_bipush (n := 48) (by decide +kernel) rfl rfl) <|
  zal_c (zi_isub (by decide +kernel) rfl) <|
  zal_c (zi_sipush (n := 1000) (by decide +kernel) rfl rfl) <|
  zal_c (zi_min (index := 115) (by decide +kernel) rfl wm_T_115 wt_min_s wt_i wt_min_c ⟨Nat.le_of_ble_eq_true rfl, Nat.le_of_ble_eq_true rfl⟩) <|
  zal_c (zi_puti (CN := RX3) (T := TX3) (N := 6) (index := 28) (ty0 := tyX3) (by decide +kernel) rfl rfl (by decide) uw_X3 wf_T_28 tyX3_ok nmX3 rfl (by decide +kernel)) <|
  zal_c (zi_aln (j := 0) (by decide +kernel) rfl rfl) <|
  zal_c (zi_dup (by decide +kernel) rfl) <|
  zal_c (zi_get (CN := RX3) (T := TX3) (N := 6) (index := 25) (by decide +kernel) rfl rfl (by decide) uw_X3 wf_T_25) <|
  zal_c (zi_iconst (n := 1) (by decide +kernel) rfl rfl) <|
  zal_c (zi_iadd (by decide +kernel) rfl) <|
  zal_c (zi_puti (CN := RX3) (T := TX3) (N := 6) (index := 25) (ty0 := tyX3) (by decide +kernel) rfl rfl (by decide) uw_X3 wf_T_25 tyX3_ok nmX3 rfl (by decide +kernel)) <|
  zal_c (zi_goto (off := -66) (by decide +kernel) rfl) <|
  zal_c (zi_vr (by decide +kernel) rfl) <|
  zal_n
set_option maxRecDepth 100000 in
set_option maxHeartbeats 4000000 in
theorem sn_T_isWord (l : Launch) : zAl l 42 tb_T_isWord :=
  zal_c (zi_aln (j := 0) (by decide +kernel) rfl rfl) <|
  zal_c (zi_get (CN := RX3) (T := TX3) (N := 6) (index := 19) (by decide +kernel) rfl rfl (by decide) uw_X3 wf_T_19) <|
  zal_c (zi_iconst (n := 1) (by decide +kernel) rfl rfl) <|
  zal_c (zi_cne (off := 19) (by decide +kernel) rfl rfl) <|
  zal_c (zi_aln (j := 0) (by decide +kernel) rfl rfl) <|
  zal_c (zi_get (CN := RX3) (T := TX3) (N := 6) (index := 25) (by decide +kernel) rfl rfl (by decide) uw_X3 wf_T_25) <|
  zal_c (zi_aln (j := 0) (by decide +kernel) rfl rfl) <|
  zal_c (zi_get (CN := RX3) (T := TX3) (N := 6) (index := 22) (by decide +kernel) rfl rfl (by decide) uw_X3 wf_T_22) <|
  zal_c (zi_isub (by decide +kernel) rfl) <|
  zal_c (zi_aln (j := 1) (by decide +kernel) rfl rfl) <|
  zal_c (zi_slen (index := 121) (by decide +kernel) rfl wm_T_121 ⟨Nat.le_of_ble_eq_true rfl, Nat.le_of_ble_eq_true rfl⟩) <|
  zal_c (zi_ceq (off := 5) (by decide +kernel) rfl rfl) <|
  zal_c (zi_iconst (n := 0) (by decide +kernel) rfl rfl) <|
  zal_c (zi_zr (by decide +kernel) rfl) <|
  zal_c (zi_iconst (n := 0) (by decide +kernel) rfl rfl) <|
  zal_c (zi_isn (j := 2) (by decide +kernel) rfl rfl (Nat.le_of_ble_eq_true rfl)) <|
  zal_c (zi_iln (j := 2) (by decide +kernel) rfl rfl) <|
  zal_c (zi_aln (j := 1) (by decide +kernel) rfl rfl) <|
  zal_c (zi_slen (index := 121) (by decide +kernel) rfl wm_T_121 ⟨Nat.le_of_ble_eq_true rfl, Nat.le_of_ble_eq_true rfl⟩) <|
  zal_c (zi_cge (off := 30) (by decide +kernel) rfl rfl) <|
  zal_c (zi_aln (j := 0) (by decide +kernel) rfl rfl) <|
  zal_c (zi_get (CN := RX3) (T := TX3) (N := 6) (index := 9) (by decide +kernel) rfl rfl (by decide) uw_X3 wf_T_9) <|
  zal_c (zi_aln (j := 0) (by decide +kernel) rfl rfl) <|
  zal_c (zi_get (CN := RX3) (T := TX3) (N := 6) (index := 22) (by decide +kernel) rfl rfl (by decide) uw_X3 wf_T_22) <|
  zal_c (zi_iln (j := 2) (by decide +kernel) rfl rfl) <|
  zal_c (zi_iadd (by decide +kernel) rfl) <|
  zal_c (zi_iald (by decide +kernel) rfl) <|
  zal_c (zi_aln (j := 1) (by decide +kernel) rfl rfl) <|
  zal_c (zi_iln (j := 2) (by decide +kernel) rfl rfl) <|
  zal_c (zi_sch (index := 126) (by decide +kernel) rfl wm_T_126 ⟨Nat.le_of_ble_eq_true rfl, Nat.le_of_ble_eq_true rfl⟩) <|
  zal_c (zi_ceq (off := 5) (by decide +kernel) rfl rfl) <|
  zal_c (zi_iconst (n := 0) (by decide +kernel) rfl rfl) <|
  zal_c (zi_zr (by decide +kernel) rfl) <|
  zal_c (zi_inc (n := 1) (by decide +kernel) rfl rfl) <|
  zal_c (zi_goto (off := -32) (by decide +kernel) rfl) <|
  zal_c (zi_iconst (n := 1) (by decide +kernel) rfl rfl) <|
  zal_c (zi_zr (by decide +kernel) rfl) <|
  zal_n
set_option maxRecDepth 100000 in
set_option maxHeartbeats 4000000 in
theorem sn_T_isNumberTo (l : Launch) : zAl l 43 tb_T_isNumberTo :=
  zal_c (zi_aln (j := 0) (by decide +kernel) rfl rfl) <|
  zal_c (zi_get (CN := RX3) (T := TX3) (N := 6) (index := 19) (by decide +kernel) rfl rfl (by decide) uw_X3 wf_T_19) <|
  zal_c (zi_iconst (n := 2) (by decide +kernel) rfl rfl) <|
  zal_c (zi_cne (off := 15) (by decide +kernel) rfl rfl) <|
  zal_c (zi_aln (j := 0) (by decide +kernel) rfl rfl) <|
  zal_c (zi_get (CN := RX3) (T := TX3) (N := 6) (index := 28) (by decide +kernel) rfl rfl (by decide) uw_X3 wf_T_28) <|
  zal_c (zi_iln (j := 1) (by decide +kernel) rfl rfl) <|
  zal_c (zi_cgt (off := 7) (by decide +kernel) rfl rfl) <|
  zal_c (zi_iconst (n := 1) (by decide +kernel) rfl rfl) <|
  zal_c (zi_goto (off := 4) (by decide +kernel) rfl) <|
  zal_c (zi_iconst (n := 0) (by decide +kernel) rfl rfl) <|
  zal_c (zi_zr (by decide +kernel) rfl) <|
  zal_n
set_option maxRecDepth 100000 in
set_option maxHeartbeats 4000000 in
theorem sn_T_isLetter (l : Launch) : zAl l 44 tb_T_isLetter :=
  zal_c (zi_iln (j := 0) (by decide +kernel) rfl rfl) <|
  zal_c (zi_bipush (n := 97) (by decide +kernel) rfl rfl) <|
  zal_c (zi_clt (off := 13) (by decide +kernel) rfl rfl) <|
  zal_c (zi_iln (j := 0) (by decide +kernel) rfl rfl) <|
  zal_c (zi_bipush (n := 122) (by decide +kernel) rfl rfl) <|
  zal_c (zi_cgt (off := 7) (by decide +kernel) rfl rfl) <|
  zal_c (zi_iconst (n := 1) (by decide +kernel) rfl rfl) <|
  zal_c (zi_goto (off := 4) (by decide +kernel) rfl) <|
  zal_c (zi_iconst (n := 0) (by decide +kernel) rfl rfl) <|
  zal_c (zi_zr (by decide +kernel) rfl) <|
  zal_n
set_option maxRecDepth 100000 in
set_option maxHeartbeats 4000000 in
theorem sn_T_isDigit (l : Launch) : zAl l 45 tb_T_isDigit :=
  zal_c (zi_iln (j := 0) (by decide +kernel) rfl rfl) <|
  zal_c (zi_bipush (n := 48) (by decide +kernel) rfl rfl) <|
  zal_c (zi_clt (off := 13) (by decide +kernel) rfl rfl) <|
  zal_c (zi_iln (j := 0) (by decide +kernel) rfl rfl) <|
  zal_c (zi_bipush (n := 57) (by decide +kernel) rfl rfl) <|
  zal_c (zi_cgt (off := 7) (by decide +kernel) rfl rfl) <|
  zal_c (zi_iconst (n := 1) (by decide +kernel) rfl rfl) <|
  zal_c (zi_goto (off := 4) (by decide +kernel) rfl) <|
  zal_c (zi_iconst (n := 0) (by decide +kernel) rfl rfl) <|
  zal_c (zi_zr (by decide +kernel) rfl) <|
  zal_n
set_option maxRecDepth 100000 in
set_option maxHeartbeats 4000000 in
theorem sn_X_init (l : Launch) : zAl l 46 tb_X_init :=
  zal_c (zi_aln (j := 0) (by decide +kernel) rfl rfl) <|
  zal_c (zi_obj (index := 1) (by decide +kernel) rfl wm_X_1 wo_i wo_c ⟨Nat.le_of_ble_eq_true rfl, Nat.le_of_ble_eq_true rfl⟩) <|
  zal_c (zi_aln (j := 0) (by decide +kernel) rfl rfl) <|
  zal_c (zi_new (M := 46) (CN := RX0) (T := TX0) (index := 7) (ty0 := tyX0) (by decide +kernel) rfl rfl uw_X0 tyX0_ok wk_X_7 wi_X0 wn_X0 (by decide +kernel) (fun _ => rfl) ⟨Nat.le_of_ble_eq_true rfl, Nat.le_of_ble_eq_true rfl⟩) <|
  zal_c (zi_dup (by decide +kernel) rfl) <|
  zal_c (zi_ci (index := 9) (by decide +kernel) rfl mk_H_init rfl rfl wm_X_9 wq_H_init ⟨rfl, rfl⟩ ⟨Nat.le_of_ble_eq_true rfl, Nat.le_of_ble_eq_true rfl⟩ ⟨Nat.le_of_ble_eq_true rfl, Nat.le_of_ble_eq_true rfl⟩) <|
  zal_c (zi_puta (CN := RX4) (T := TX4) (N := 7) (index := 10) (ty0 := tyX4) (by decide +kernel) rfl rfl (by decide) uw_X4 wf_X_10 tyX4_ok nmX4 rfl rfl (ty := .object "PooledInlaws$Hall") (by decide +kernel) (fun _ => rfl) (fun _ => rfl) rfl) <|
  zal_c (zi_aln (j := 0) (by decide +kernel) rfl rfl) <|
  zal_c (zi_new (M := 46) (CN := RX0) (T := TX0) (index := 7) (ty0 := tyX0) (by decide +kernel) rfl rfl uw_X0 tyX0_ok wk_X_7 wi_X0 wn_X0 (by decide +kernel) (fun _ => rfl) ⟨Nat.le_of_ble_eq_true rfl, Nat.le_of_ble_eq_true rfl⟩) <|
  zal_c (zi_dup (by decide +kernel) rfl) <|
  zal_c (zi_ci (index := 9) (by decide +kernel) rfl mk_H_init rfl rfl wm_X_9 wq_H_init ⟨rfl, rfl⟩ ⟨Nat.le_of_ble_eq_true rfl, Nat.le_of_ble_eq_true rfl⟩ ⟨Nat.le_of_ble_eq_true rfl, Nat.le_of_ble_eq_true rfl⟩) <|
  zal_c (zi_puta (CN := RX4) (T := TX4) (N := 7) (index := 16) (ty0 := tyX4) (by decide +kernel) rfl rfl (by decide) uw_X4 wf_X_16 tyX4_ok nmX4 rfl rfl (ty := .object "PooledInlaws$Hall") (by decide +kernel) (fun _ => rfl) (fun _ => rfl) rfl) <|
  zal_c (zi_aln (j := 0) (by decide +kernel) rfl rfl) <|
  zal_c (zi_new (M := 46) (CN := RX0) (T := TX0) (index := 7) (ty0 := tyX0) (by decide +kernel) rfl rfl uw_X0 tyX0_ok wk_X_7 wi_X0 wn_X0 (by decide +kernel) (fun _ => rfl) ⟨Nat.le_of_ble_eq_true rfl, Nat.le_of_ble_eq_true rfl⟩) <|
  zal_c (zi_dup (by decide +kernel) rfl) <|
  zal_c (zi_ci (index := 9) (by decide +kernel) rfl mk_H_init rfl rfl wm_X_9 wq_H_init ⟨rfl, rfl⟩ ⟨Nat.le_of_ble_eq_true rfl, Nat.le_of_ble_eq_true rfl⟩ ⟨Nat.le_of_ble_eq_true rfl, Nat.le_of_ble_eq_true rfl⟩) <|
  zal_c (zi_puta (CN := RX4) (T := TX4) (N := 7) (index := 19) (ty0 := tyX4) (by decide +kernel) rfl rfl (by decide) uw_X4 wf_X_19 tyX4_ok nmX4 rfl rfl (ty := .object "PooledInlaws$Hall") (by decide +kernel) (fun _ => rfl) (fun _ => rfl) rfl) <|
  zal_c (zi_aln (j := 0) (by decide +kernel) rfl rfl) <|
  zal_c (zi_iconst (n := 0) (by decide +kernel) rfl rfl) <|
  zal_c (zi_putz (CN := RX4) (T := TX4) (N := 7) (index := 22) (ty0 := tyX4) (by decide +kernel) rfl rfl (by decide) uw_X4 wf_X_22 tyX4_ok nmX4 rfl (by decide +kernel)) <|
  zal_c (zi_aln (j := 0) (by decide +kernel) rfl rfl) <|
  zal_c (zi_new (M := 46) (CN := RX3) (T := TX3) (index := 26) (ty0 := tyX3) (by decide +kernel) rfl rfl uw_X3 tyX3_ok wk_X_26 wi_X3 wn_X3 (by decide +kernel) (fun _ => rfl) ⟨Nat.le_of_ble_eq_true rfl, Nat.le_of_ble_eq_true rfl⟩) <|
  zal_c (zi_dup (by decide +kernel) rfl) <|
  zal_c (zi_ci (index := 28) (by decide +kernel) rfl mk_T_init rfl rfl wm_X_28 wq_T_init ⟨rfl, rfl⟩ ⟨Nat.le_of_ble_eq_true rfl, Nat.le_of_ble_eq_true rfl⟩ ⟨Nat.le_of_ble_eq_true rfl, Nat.le_of_ble_eq_true rfl⟩) <|
  zal_c (zi_puta (CN := RX4) (T := TX4) (N := 7) (index := 29) (ty0 := tyX4) (by decide +kernel) rfl rfl (by decide) uw_X4 wf_X_29 tyX4_ok nmX4 rfl rfl (ty := .object "PooledInlaws$Tape") (by decide +kernel) (fun _ => rfl) (fun _ => rfl) rfl) <|
  zal_c (zi_aln (j := 0) (by decide +kernel) rfl rfl) <|
  zal_c (zi_iconst (n := 4) (by decide +kernel) rfl rfl) <|
  zal_c (zi_newq (M := 46) (index := 33) (by decide +kernel) rfl wk_X_33 ⟨Nat.le_of_ble_eq_true rfl, Nat.le_of_ble_eq_true rfl⟩) <|
  zal_c (zi_puta (CN := RX4) (T := TX4) (N := 7) (index := 35) (ty0 := tyX4) (by decide +kernel) rfl rfl (by decide) uw_X4 wf_X_35 tyX4_ok nmX4 rfl rfl (ty := .array (.object "PooledInlaws$Sheet")) (by decide +kernel) (fun _ => rfl) (fun _ => rfl) rfl) <|
  zal_c (zi_iconst (n := 0) (by decide +kernel) rfl rfl) <|
  zal_c (zi_isn (j := 1) (by decide +kernel) rfl rfl (Nat.le_of_ble_eq_true rfl)) <|
  zal_c (zi_iln (j := 1) (by decide +kernel) rfl rfl) <|
  zal_c (zi_iconst (n := 4) (by decide +kernel) rfl rfl) <|
  zal_c (zi_cge (off := 22) (by decide +kernel) rfl rfl) <|
  zal_c (zi_aln (j := 0) (by decide +kernel) rfl rfl) <|
  zal_c (zi_get (CN := RX4) (T := TX4) (N := 7) (index := 35) (by decide +kernel) rfl rfl (by decide) uw_X4 wf_X_35) <|
  zal_c (zi_iln (j := 1) (by decide +kernel) rfl rfl) <|
  zal_c (zi_new (M := 46) (CN := RX2) (T := TX2) (index := 33) (ty0 := tyX2) (by decide +kernel) rfl rfl uw_X2 tyX2_ok wk_X_33 wi_X2 wn_X2 (by decide +kernel) (fun _ => rfl) ⟨Nat.le_of_ble_eq_true rfl, Nat.le_of_ble_eq_true rfl⟩) <|
  zal_c (zi_dup (by decide +kernel) rfl) <|
  zal_c (zi_ci (index := 39) (by decide +kernel) rfl mk_S_init rfl rfl wm_X_39 wq_S_init ⟨rfl, rfl⟩ ⟨Nat.le_of_ble_eq_true rfl, Nat.le_of_ble_eq_true rfl⟩ ⟨Nat.le_of_ble_eq_true rfl, Nat.le_of_ble_eq_true rfl⟩) <|
  zal_c (zi_aast (by decide +kernel) rfl) <|
  zal_c (zi_inc (n := 1) (by decide +kernel) rfl rfl) <|
  zal_c (zi_goto (off := -21) (by decide +kernel) rfl) <|
  zal_c (zi_aln (j := 0) (by decide +kernel) rfl rfl) <|
  zal_c (zi_bipush (n := 7) (by decide +kernel) rfl rfl) <|
  zal_c (zi_newi (by decide +kernel) rfl wa_int ⟨Nat.le_of_ble_eq_true rfl, Nat.le_of_ble_eq_true rfl⟩) <|
  zal_c (zi_puta (CN := RX4) (T := TX4) (N := 7) (index := 40) (ty0 := tyX4) (by decide +kernel) rfl rfl (by decide) uw_X4 wf_X_40 tyX4_ok nmX4 rfl rfl (ty := .array .int) (by decide +kernel) (fun _ => rfl) (fun _ => rfl) rfl) <|
  zal_c (zi_vr (by decide +kernel) rfl) <|
  zal_n
set_option maxRecDepth 100000 in
set_option maxHeartbeats 4000000 in
theorem sn_X_fire (l : Launch) : zAl l 47 tb_X_fire :=
  zal_c (zi_iln (j := 1) (by decide +kernel) rfl rfl) <|
  zal_c (zi_iconst (n := 0) (by decide +kernel) rfl rfl) <|
  zal_c (zi_bipush (n := 20) (by decide +kernel) rfl rfl) <|
  zal_c (zi_cs (index := 44) (by decide +kernel) rfl mk_X_isOutside wm_X_44 wq_X_isOutside ⟨rfl, rfl⟩ ⟨Nat.le_of_ble_eq_true rfl, Nat.le_of_ble_eq_true rfl⟩) <|
  zal_c (zi_ifeq (off := 10) (by decide +kernel) rfl rfl) <|
  zal_c (zi_aln (j := 0) (by decide +kernel) rfl rfl) <|
  zal_c (zi_ldc (n := 48) (by decide +kernel) rfl wc_X_48) <|
  zal_c (zi_cv (index := 49) (qc := (RX4, TX4, 7)) (by decide +kernel) rfl mk_X_tell rfl wm_X_49 wq_X_tell ww_X_tell ⟨rfl, rfl⟩ ⟨Nat.le_of_ble_eq_true rfl, Nat.le_of_ble_eq_true rfl⟩) <|
  zal_c (zi_ir (by decide +kernel) rfl) <|
  zal_c (zi_aln (j := 0) (by decide +kernel) rfl rfl) <|
  zal_c (zi_get (CN := RX4) (T := TX4) (N := 7) (index := 10) (by decide +kernel) rfl rfl (by decide) uw_X4 wf_X_10) <|
  zal_c (zi_get (CN := RX0) (T := TX0) (N := 14) (index := 53) (by decide +kernel) rfl rfl (by decide) uw_X0 wf_X_53) <|
  zal_c (zi_isn (j := 2) (by decide +kernel) rfl rfl (Nat.le_of_ble_eq_true rfl)) <|
  zal_c (zi_aln (j := 0) (by decide +kernel) rfl rfl) <|
  zal_c (zi_get (CN := RX4) (T := TX4) (N := 7) (index := 10) (by decide +kernel) rfl rfl (by decide) uw_X4 wf_X_10) <|
  zal_c (zi_iln (j := 1) (by decide +kernel) rfl rfl) <|
  zal_c (zi_puti (CN := RX0) (T := TX0) (N := 14) (index := 53) (ty0 := tyX0) (by decide +kernel) rfl rfl (by decide) uw_X0 wf_X_53 tyX0_ok nmX0 rfl (by decide +kernel)) <|
  zal_c (zi_iln (j := 2) (by decide +kernel) rfl rfl) <|
  zal_c (zi_ir (by decide +kernel) rfl) <|
  zal_n
set_option maxRecDepth 100000 in
set_option maxHeartbeats 4000000 in
theorem sn_X_now (l : Launch) : zAl l 48 tb_X_now :=
  zal_c (zi_iln (j := 1) (by decide +kernel) rfl rfl) <|
  zal_c (zi_sw (dflt := 91) (lo := 0) (hi := 5) (offs := #[39, 47, 55, 63, 71, 83]) (len := 39) 0 (by decide +kernel) rfl rfl (by decide) rfl (zsw_of (by decide +kernel))) <|
  zal_c (zi_aln (j := 0) (by decide +kernel) rfl rfl) <|
  zal_c (zi_get (CN := RX4) (T := TX4) (N := 7) (index := 10) (by decide +kernel) rfl rfl (by decide) uw_X4 wf_X_10) <|
  zal_c (zi_get (CN := RX0) (T := TX0) (N := 14) (index := 57) (by decide +kernel) rfl rfl (by decide) uw_X0 wf_X_57) <|
  zal_c (zi_ir (by decide +kernel) rfl) <|
  zal_c (zi_aln (j := 0) (by decide +kernel) rfl rfl) <|
  zal_c (zi_get (CN := RX4) (T := TX4) (N := 7) (index := 10) (by decide +kernel) rfl rfl (by decide) uw_X4 wf_X_10) <|
  zal_c (zi_get (CN := RX0) (T := TX0) (N := 14) (index := 53) (by decide +kernel) rfl rfl (by decide) uw_X0 wf_X_53) <|
  zal_c (zi_ir (by decide +kernel) rfl) <|
  zal_c (zi_aln (j := 0) (by decide +kernel) rfl rfl) <|
  zal_c (zi_get (CN := RX4) (T := TX4) (N := 7) (index := 10) (by decide +kernel) rfl rfl (by decide) uw_X4 wf_X_10) <|
  zal_c (zi_cv (index := 60) (qc := (RX0, TX0, 14)) (by decide +kernel) rfl mk_H_firstCouple rfl wm_X_60 wq_H_firstCouple ww_H_firstCouple ⟨rfl, rfl⟩ ⟨Nat.le_of_ble_eq_true rfl, Nat.le_of_ble_eq_true rfl⟩) <|
  zal_c (zi_ir (by decide +kernel) rfl) <|
  zal_c (zi_aln (j := 0) (by decide +kernel) rfl rfl) <|
  zal_c (zi_get (CN := RX4) (T := TX4) (N := 7) (index := 10) (by decide +kernel) rfl rfl (by decide) uw_X4 wf_X_10) <|
  zal_c (zi_cv (index := 64) (qc := (RX0, TX0, 14)) (by decide +kernel) rfl mk_H_satOnes rfl wm_X_64 wq_H_satOnes ww_H_satOnes ⟨rfl, rfl⟩ ⟨Nat.le_of_ble_eq_true rfl, Nat.le_of_ble_eq_true rfl⟩) <|
  zal_c (zi_ir (by decide +kernel) rfl) <|
  zal_c (zi_sipush (n := 10000) (by decide +kernel) rfl rfl) <|
  zal_c (zi_aln (j := 0) (by decide +kernel) rfl rfl) <|
  zal_c (zi_get (CN := RX4) (T := TX4) (N := 7) (index := 10) (by decide +kernel) rfl rfl (by decide) uw_X4 wf_X_10) <|
  zal_c (zi_cv (index := 67) (qc := (RX0, TX0, 14)) (by decide +kernel) rfl mk_H_wellOfAll rfl wm_X_67 wq_H_wellOfAll ww_H_wellOfAll ⟨rfl, rfl⟩ ⟨Nat.le_of_ble_eq_true rfl, Nat.le_of_ble_eq_true rfl⟩) <|
  zal_c (zi_iadd (by decide +kernel) rfl) <|
  zal_c (zi_ir (by decide +kernel) rfl) <|
  zal_c (zi_aln (j := 0) (by decide +kernel) rfl rfl) <|
  zal_c (zi_get (CN := RX4) (T := TX4) (N := 7) (index := 10) (by decide +kernel) rfl rfl (by decide) uw_X4 wf_X_10) <|
  zal_c (zi_cv (index := 70) (qc := (RX0, TX0, 14)) (by decide +kernel) rfl mk_H_warmOfAll rfl wm_X_70 wq_H_warmOfAll ww_H_warmOfAll ⟨rfl, rfl⟩ ⟨Nat.le_of_ble_eq_true rfl, Nat.le_of_ble_eq_true rfl⟩) <|
  zal_c (zi_ir (by decide +kernel) rfl) <|
  zal_c (zi_aln (j := 0) (by decide +kernel) rfl rfl) <|
  zal_c (zi_ldc (n := 48) (by decide +kernel) rfl wc_X_48) <|
  zal_c (zi_cv (index := 49) (qc := (RX4, TX4, 7)) (by decide +kernel) rfl mk_X_tell rfl wm_X_49 wq_X_tell ww_X_tell ⟨rfl, rfl⟩ ⟨Nat.le_of_ble_eq_true rfl, Nat.le_of_ble_eq_true rfl⟩) <|
  zal_c (zi_ir (by decide +kernel) rfl) <|
  zal_n
set_option maxRecDepth 100000 in
set_option maxHeartbeats 4000000 in
theorem sn_X_inlaw (l : Launch) : zAl l 49 tb_X_inlaw :=
  zal_c (zi_iln (j := 1) (by decide +kernel) rfl rfl) <|
  zal_c (zi_cs (index := 73) (by decide +kernel) rfl mk_X_isNoKind wm_X_73 wq_X_isNoKind ⟨rfl, rfl⟩ ⟨Nat.le_of_ble_eq_true rfl, Nat.le_of_ble_eq_true rfl⟩) <|
  zal_c (zi_ifeq (off := 10) (by decide +kernel) rfl rfl) <|
  zal_c (zi_aln (j := 0) (by decide +kernel) rfl rfl) <|
  zal_c (zi_ldc (n := 48) (by decide +kernel) rfl wc_X_48) <|
  zal_c (zi_cv (index := 49) (qc := (RX4, TX4, 7)) (by decide +kernel) rfl mk_X_tell rfl wm_X_49 wq_X_tell ww_X_tell ⟨rfl, rfl⟩ ⟨Nat.le_of_ble_eq_true rfl, Nat.le_of_ble_eq_true rfl⟩) <|
  zal_c (zi_ir (by decide +kernel) rfl) <|
  zal_c (zi_aln (j := 0) (by decide +kernel) rfl rfl) <|
  zal_c (zi_get (CN := RX4) (T := TX4) (N := 7) (index := 10) (by decide +kernel) rfl rfl (by decide) uw_X4 wf_X_10) <|
  zal_c (zi_get (CN := RX0) (T := TX0) (N := 14) (index := 77) (by decide +kernel) rfl rfl (by decide) uw_X0 wf_X_77) <|
  zal_c (zi_bipush (n := 8) (by decide +kernel) rfl rfl) <|
  zal_c (zi_clt (off := 10) (by decide +kernel) rfl rfl) <|
  zal_c (zi_aln (j := 0) (by decide +kernel) rfl rfl) <|
  zal_c (zi_ldc (n := 80) (by decide +kernel) rfl wc_X_80) <|
  zal_c (zi_cv (index := 49) (qc := (RX4, TX4, 7)) (by decide +kernel) rfl mk_X_tell rfl wm_X_49 wq_X_tell ww_X_tell ⟨rfl, rfl⟩ ⟨Nat.le_of_ble_eq_true rfl, Nat.le_of_ble_eq_true rfl⟩) <|
  zal_c (zi_ir (by decide +kernel) rfl) <|
  zal_c (zi_aln (j := 0) (by decide +kernel) rfl rfl) <|
  zal_c (zi_get (CN := RX4) (T := TX4) (N := 7) (index := 10) (by decide +kernel) rfl rfl (by decide) uw_X4 wf_X_10) <|
  zal_c (zi_iln (j := 1) (by decide +kernel) rfl rfl) <|
  zal_c (zi_cv (index := 81) (qc := (RX0, TX0, 14)) (by decide +kernel) rfl mk_H_addInlaw rfl wm_X_81 wq_H_addInlaw ww_H_addInlaw ⟨rfl, rfl⟩ ⟨Nat.le_of_ble_eq_true rfl, Nat.le_of_ble_eq_true rfl⟩) <|
  zal_c (zi_ir (by decide +kernel) rfl) <|
  zal_n
set_option maxRecDepth 100000 in
set_option maxHeartbeats 4000000 in
theorem sn_X_of (l : Launch) : zAl l 50 tb_X_of :=
  zal_c (zi_aln (j := 0) (by decide +kernel) rfl rfl) <|
  zal_c (zi_iln (j := 1) (by decide +kernel) rfl rfl) <|
  zal_c (zi_cv (index := 84) (qc := (RX4, TX4, 7)) (by decide +kernel) rfl mk_X_isNoInlaw rfl wm_X_84 wq_X_isNoInlaw ww_X_isNoInlaw ⟨rfl, rfl⟩ ⟨Nat.le_of_ble_eq_true rfl, Nat.le_of_ble_eq_true rfl⟩) <|
  zal_c (zi_ifeq (off := 10) (by decide +kernel) rfl rfl) <|
  zal_c (zi_aln (j := 0) (by decide +kernel) rfl rfl) <|
  zal_c (zi_ldc (n := 48) (by decide +kernel) rfl wc_X_48) <|
  zal_c (zi_cv (index := 49) (qc := (RX4, TX4, 7)) (by decide +kernel) rfl mk_X_tell rfl wm_X_49 wq_X_tell ww_X_tell ⟨rfl, rfl⟩ ⟨Nat.le_of_ble_eq_true rfl, Nat.le_of_ble_eq_true rfl⟩) <|
  zal_c (zi_ir (by decide +kernel) rfl) <|
  zal_c (zi_iln (j := 2) (by decide +kernel) rfl rfl) <|
  zal_c (zi_sw (dflt := 99) (lo := 0) (hi := 5) (offs := #[40, 50, 60, 70, 80, 90]) (len := 40) 0 (by decide +kernel) rfl rfl (by decide) rfl (zsw_of (by decide +kernel))) <|
  zal_c (zi_aln (j := 0) (by decide +kernel) rfl rfl) <|
  zal_c (zi_get (CN := RX4) (T := TX4) (N := 7) (index := 10) (by decide +kernel) rfl rfl (by decide) uw_X4 wf_X_10) <|
  zal_c (zi_get (CN := RX0) (T := TX0) (N := 14) (index := 87) (by decide +kernel) rfl rfl (by decide) uw_X0 wf_X_87) <|
  zal_c (zi_iln (j := 1) (by decide +kernel) rfl rfl) <|
  zal_c (zi_iald (by decide +kernel) rfl) <|
  zal_c (zi_ir (by decide +kernel) rfl) <|
  zal_c (zi_aln (j := 0) (by decide +kernel) rfl rfl) <|
  zal_c (zi_get (CN := RX4) (T := TX4) (N := 7) (index := 10) (by decide +kernel) rfl rfl (by decide) uw_X4 wf_X_10) <|
  zal_c (zi_get (CN := RX0) (T := TX0) (N := 14) (index := 90) (by decide +kernel) rfl rfl (by decide) uw_X0 wf_X_90) <|
  zal_c (zi_iln (j := 1) (by decide +kernel) rfl rfl) <|
  zal_c (zi_iald (by decide +kernel) rfl) <|
  zal_c (zi_ir (by decide +kernel) rfl) <|
  zal_c (zi_aln (j := 0) (by decide +kernel) rfl rfl) <|
  zal_c (zi_get (CN := RX4) (T := TX4) (N := 7) (index := 10) (by decide +kernel) rfl rfl (by decide) uw_X4 wf_X_10) <|
  zal_c (zi_get (CN := RX0) (T := TX0) (N := 14) (index := 93) (by decide +kernel) rfl rfl (by decide) uw_X0 wf_X_93) <|
  zal_c (zi_iln (j := 1) (by decide +kernel) rfl rfl) <|
  zal_c (zi_iald (by decide +kernel) rfl) <|
  zal_c (zi_ir (by decide +kernel) rfl) <|
  zal_c (zi_aln (j := 0) (by decide +kernel) rfl rfl) <|
  zal_c (zi_get (CN := RX4) (T := TX4) (N := 7) (index := 10) (by decide +kernel) rfl rfl (by decide) uw_X4 wf_X_10) <|
  zal_c (zi_get (CN := RX0) (T := TX0) (N := 14) (index := 96) (by decide +kernel) rfl rfl (by decide) uw_X0 wf_X_96) <|
  zal_c (zi_iln (j := 1) (by decide +kernel) rfl rfl) <|
  zal_c (zi_iald (by decide +kernel) rfl) <|
  zal_c (zi_ir (by decide +kernel) rfl) <|
  zal_c (zi_aln (j := 0) (by decide +kernel) rfl rfl) <|
  zal_c (zi_get (CN := RX4) (T := TX4) (N := 7) (index := 10) (by decide +kernel) rfl rfl (by decide) uw_X4 wf_X_10) <|
  zal_c (zi_get (CN := RX0) (T := TX0) (N := 14) (index := 99) (by decide +kernel) rfl rfl (by decide) uw_X0 wf_X_99) <|
  zal_c (zi_iln (j := 1) (by decide +kernel) rfl rfl) <|
  zal_c (zi_iald (by decide +kernel) rfl) <|
  zal_c (zi_ir (by decide +kernel) rfl) <|
  zal_c (zi_aln (j := 0) (by decide +kernel) rfl rfl) <|
  zal_c (zi_get (CN := RX4) (T := TX4) (N := 7) (index := 10) (by decide +kernel) rfl rfl (by decide) uw_X4 wf_X_10) <|
  zal_c (zi_iln (j := 1) (by decide +kernel) rfl rfl) <|
  zal_c (zi_cv (index := 102) (qc := (RX0, TX0, 14)) (by decide +kernel) rfl mk_H_chillsOf rfl wm_X_102 wq_H_chillsOf ww_H_chillsOf ⟨rfl, rfl⟩ ⟨Nat.le_of_ble_eq_true rfl, Nat.le_of_ble_eq_true rfl⟩) <|
  zal_c (zi_ir (by decide +kernel) rfl) <|
  zal_c (zi_aln (j := 0) (by decide +kernel) rfl rfl) <|
  zal_c (zi_ldc (n := 48) (by decide +kernel) rfl wc_X_48) <|
  zal_c (zi_cv (index := 49) (qc := (RX4, TX4, 7)) (by decide +kernel) rfl mk_X_tell rfl wm_X_49 wq_X_tell ww_X_tell ⟨rfl, rfl⟩ ⟨Nat.le_of_ble_eq_true rfl, Nat.le_of_ble_eq_true rfl⟩) <|
  zal_c (zi_ir (by decide +kernel) rfl) <|
  zal_n
set_option maxRecDepth 100000 in
set_option maxHeartbeats 4000000 in
theorem sn_X_with (l : Launch) : zAl l 51 tb_X_with :=
  zal_c (zi_aln (j := 0) (by decide +kernel) rfl rfl) <|
  zal_c (zi_iln (j := 1) (by decide +kernel) rfl rfl) <|
  zal_c (zi_cv (index := 84) (qc := (RX4, TX4, 7)) (by decide +kernel) rfl mk_X_isNoInlaw rfl wm_X_84 wq_X_isNoInlaw ww_X_isNoInlaw ⟨rfl, rfl⟩ ⟨Nat.le_of_ble_eq_true rfl, Nat.le_of_ble_eq_true rfl⟩) <|
  zal_c (zi_ifne (off := 11) (by decide +kernel) rfl rfl) <|
  zal_c (zi_aln (j := 0) (by decide +kernel) rfl rfl) <|
  zal_c (zi_iln (j := 2) (by decide +kernel) rfl rfl) <|
  zal_c (zi_cv (index := 105) (qc := (RX4, TX4, 7)) (by decide +kernel) rfl mk_X_isNoCouple rfl wm_X_105 wq_X_isNoCouple ww_X_isNoCouple ⟨rfl, rfl⟩ ⟨Nat.le_of_ble_eq_true rfl, Nat.le_of_ble_eq_true rfl⟩) <|
  zal_c (zi_ifeq (off := 10) (by decide +kernel) rfl rfl) <|
  zal_c (zi_aln (j := 0) (by decide +kernel) rfl rfl) <|
  zal_c (zi_ldc (n := 48) (by decide +kernel) rfl wc_X_48) <|
  zal_c (zi_cv (index := 49) (qc := (RX4, TX4, 7)) (by decide +kernel) rfl mk_X_tell rfl wm_X_49 wq_X_tell ww_X_tell ⟨rfl, rfl⟩ ⟨Nat.le_of_ble_eq_true rfl, Nat.le_of_ble_eq_true rfl⟩) <|
  zal_c (zi_ir (by decide +kernel) rfl) <|
  zal_c (zi_iln (j := 3) (by decide +kernel) rfl rfl) <|
  zal_c (zi_sw (dflt := 64) (lo := 0) (hi := 2) (offs := #[28, 38, 51]) (len := 28) 0 (by decide +kernel) rfl rfl (by decide) rfl (zsw_of (by decide +kernel))) <|
  zal_c (zi_aln (j := 0) (by decide +kernel) rfl rfl) <|
  zal_c (zi_get (CN := RX4) (T := TX4) (N := 7) (index := 10) (by decide +kernel) rfl rfl (by decide) uw_X4 wf_X_10) <|
  zal_c (zi_iln (j := 1) (by decide +kernel) rfl rfl) <|
  zal_c (zi_iln (j := 2) (by decide +kernel) rfl rfl) <|
  zal_c (zi_cv (index := 108) (qc := (RX0, TX0, 14)) (by decide +kernel) rfl mk_H_charmsOf rfl wm_X_108 wq_H_charmsOf ww_H_charmsOf ⟨rfl, rfl⟩ ⟨Nat.le_of_ble_eq_true rfl, Nat.le_of_ble_eq_true rfl⟩) <|
  zal_c (zi_ir (by decide +kernel) rfl) <|
  zal_c (zi_bipush (n := 100) (by decide +kernel) rfl rfl) <|
  zal_c (zi_aln (j := 0) (by decide +kernel) rfl rfl) <|
  zal_c (zi_get (CN := RX4) (T := TX4) (N := 7) (index := 10) (by decide +kernel) rfl rfl (by decide) uw_X4 wf_X_10) <|
  zal_c (zi_iln (j := 1) (by decide +kernel) rfl rfl) <|
  zal_c (zi_iln (j := 2) (by decide +kernel) rfl rfl) <|
  zal_c (zi_cv (index := 112) (qc := (RX0, TX0, 14)) (by decide +kernel) rfl mk_H_doesOf rfl wm_X_112 wq_H_doesOf ww_H_doesOf ⟨rfl, rfl⟩ ⟨Nat.le_of_ble_eq_true rfl, Nat.le_of_ble_eq_true rfl⟩) <|
  zal_c (zi_iadd (by decide +kernel) rfl) <|
  zal_c (zi_ir (by decide +kernel) rfl) <|
  zal_c (zi_bipush (n := 100) (by decide +kernel) rfl rfl) <|
  zal_c (zi_aln (j := 0) (by decide +kernel) rfl rfl) <|
  zal_c (zi_get (CN := RX4) (T := TX4) (N := 7) (index := 10) (by decide +kernel) rfl rfl (by decide) uw_X4 wf_X_10) <|
  zal_c (zi_iln (j := 1) (by decide +kernel) rfl rfl) <|
  zal_c (zi_iln (j := 2) (by decide +kernel) rfl rfl) <|
  zal_c (zi_cv (index := 115) (qc := (RX0, TX0, 14)) (by decide +kernel) rfl mk_H_thawsOf rfl wm_X_115 wq_H_thawsOf ww_H_thawsOf ⟨rfl, rfl⟩ ⟨Nat.le_of_ble_eq_true rfl, Nat.le_of_ble_eq_true rfl⟩) <|
  zal_c (zi_iadd (by decide +kernel) rfl) <|
  zal_c (zi_ir (by decide +kernel) rfl) <|
  zal_c (zi_aln (j := 0) (by decide +kernel) rfl rfl) <|
  zal_c (zi_ldc (n := 48) (by decide +kernel) rfl wc_X_48) <|
  zal_c (zi_cv (index := 49) (qc := (RX4, TX4, 7)) (by decide +kernel) rfl mk_X_tell rfl wm_X_49 wq_X_tell ww_X_tell ⟨rfl, rfl⟩ ⟨Nat.le_of_ble_eq_true rfl, Nat.le_of_ble_eq_true rfl⟩) <|
  zal_c (zi_ir (by decide +kernel) rfl) <|
  zal_n
