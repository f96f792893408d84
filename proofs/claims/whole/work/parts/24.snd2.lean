/-! EACH METHOD'S TABLE IS SOUND (by program) -/
set_option maxRecDepth 100000 in
set_option maxHeartbeats 4000000 in
theorem sn_M_putsBack (l : Launch) : zAl l 96 tb_M_putsBack :=
  zal_c (zi_iconst (n := 0) (by decide +kernel) rfl rfl) <|
  zal_c (zi_isn (j := 1) (by decide +kernel) rfl rfl (Nat.le_of_ble_eq_true rfl)) <|
  zal_c (zi_iln (j := 1) (by decide +kernel) rfl rfl) <|
  zal_c (zi_bipush (n := 68) (by decide +kernel) rfl rfl) <|
  zal_c (zi_cge (off := 21) (by decide +kernel) rfl rfl) <|
  zal_c (zi_aln (j := 0) (by decide +kernel) rfl rfl) <|
  zal_c (zi_get (CN := RX5) (T := TX5) (N := 17) (index := 7) (by decide +kernel) rfl rfl (by decide) uw_X5 wf_M_7) <|
  zal_c (zi_iln (j := 1) (by decide +kernel) rfl rfl) <|
  zal_c (zi_aln (j := 0) (by decide +kernel) rfl rfl) <|
  zal_c (zi_get (CN := RX5) (T := TX5) (N := 17) (index := 16) (by decide +kernel) rfl rfl (by decide) uw_X5 wf_M_16) <|
  zal_c (zi_iln (j := 1) (by decide +kernel) rfl rfl) <|
  zal_c (zi_iald (by decide +kernel) rfl) <|
  zal_c (zi_iast (by decide +kernel) rfl) <|
  zal_c (zi_inc (n := 1) (by decide +kernel) rfl rfl) <|
  zal_c (zi_goto (off := -21) (by decide +kernel) rfl) <|
  zal_c (zi_vr (by decide +kernel) rfl) <|
  zal_n
set_option maxRecDepth 100000 in
set_option maxHeartbeats 4000000 in
theorem sn_M_laysAside (l : Launch) : zAl l 97 tb_M_laysAside :=
  zal_c (zi_iconst (n := 0) (by decide +kernel) rfl rfl) <|
  zal_c (zi_isn (j := 1) (by decide +kernel) rfl rfl (Nat.le_of_ble_eq_true rfl)) <|
  zal_c (zi_iln (j := 1) (by decide +kernel) rfl rfl) <|
  zal_c (zi_bipush (n := 68) (by decide +kernel) rfl rfl) <|
  zal_c (zi_cge (off := 21) (by decide +kernel) rfl rfl) <|
  zal_c (zi_aln (j := 0) (by decide +kernel) rfl rfl) <|
  zal_c (zi_get (CN := RX5) (T := TX5) (N := 17) (index := 19) (by decide +kernel) rfl rfl (by decide) uw_X5 wf_M_19) <|
  zal_c (zi_iln (j := 1) (by decide +kernel) rfl rfl) <|
  zal_c (zi_aln (j := 0) (by decide +kernel) rfl rfl) <|
  zal_c (zi_get (CN := RX5) (T := TX5) (N := 17) (index := 7) (by decide +kernel) rfl rfl (by decide) uw_X5 wf_M_7) <|
  zal_c (zi_iln (j := 1) (by decide +kernel) rfl rfl) <|
  zal_c (zi_iald (by decide +kernel) rfl) <|
  zal_c (zi_iast (by decide +kernel) rfl) <|
  zal_c (zi_inc (n := 1) (by decide +kernel) rfl rfl) <|
  zal_c (zi_goto (off := -21) (by decide +kernel) rfl) <|
  zal_c (zi_vr (by decide +kernel) rfl) <|
  zal_n
set_option maxRecDepth 100000 in
set_option maxHeartbeats 4000000 in
theorem sn_M_takesBack (l : Launch) : zAl l 98 tb_M_takesBack :=
  zal_c (zi_iconst (n := 0) (by decide +kernel) rfl rfl) <|
  zal_c (zi_isn (j := 2) (by decide +kernel) rfl rfl (Nat.le_of_ble_eq_true rfl)) <|
  zal_c (zi_iln (j := 2) (by decide +kernel) rfl rfl) <|
  zal_c (zi_bipush (n := 68) (by decide +kernel) rfl rfl) <|
  zal_c (zi_cge (off := 21) (by decide +kernel) rfl rfl) <|
  zal_c (zi_aln (j := 0) (by decide +kernel) rfl rfl) <|
  zal_c (zi_get (CN := RX5) (T := TX5) (N := 17) (index := 7) (by decide +kernel) rfl rfl (by decide) uw_X5 wf_M_7) <|
  zal_c (zi_iln (j := 2) (by decide +kernel) rfl rfl) <|
  zal_c (zi_aln (j := 0) (by decide +kernel) rfl rfl) <|
  zal_c (zi_get (CN := RX5) (T := TX5) (N := 17) (index := 19) (by decide +kernel) rfl rfl (by decide) uw_X5 wf_M_19) <|
  zal_c (zi_iln (j := 2) (by decide +kernel) rfl rfl) <|
  zal_c (zi_iald (by decide +kernel) rfl) <|
  zal_c (zi_iast (by decide +kernel) rfl) <|
  zal_c (zi_inc (n := 1) (by decide +kernel) rfl rfl) <|
  zal_c (zi_goto (off := -21) (by decide +kernel) rfl) <|
  zal_c (zi_iln (j := 1) (by decide +kernel) rfl rfl) <|
  zal_c (zi_ir (by decide +kernel) rfl) <|
  zal_n
set_option maxRecDepth 100000 in
set_option maxHeartbeats 4000000 in
theorem sn_M_becomes (l : Launch) : zAl l 99 tb_M_becomes :=
  zal_c (zi_aln (j := 0) (by decide +kernel) rfl rfl) <|
  zal_c (zi_get (CN := RX5) (T := TX5) (N := 17) (index := 7) (by decide +kernel) rfl rfl (by decide) uw_X5 wf_M_7) <|
  zal_c (zi_iln (j := 1) (by decide +kernel) rfl rfl) <|
  zal_c (zi_iald (by decide +kernel) rfl) <|
  zal_c (zi_isn (j := 3) (by decide +kernel) rfl rfl (Nat.le_of_ble_eq_true rfl)) <|
  zal_c (zi_aln (j := 0) (by decide +kernel) rfl rfl) <|
  zal_c (zi_get (CN := RX5) (T := TX5) (N := 17) (index := 7) (by decide +kernel) rfl rfl (by decide) uw_X5 wf_M_7) <|
  zal_c (zi_iln (j := 1) (by decide +kernel) rfl rfl) <|
  zal_c (zi_iln (j := 2) (by decide +kernel) rfl rfl) <|
  zal_c (zi_iast (by decide +kernel) rfl) <|
  zal_c (zi_iln (j := 3) (by decide +kernel) rfl rfl) <|
  zal_c (zi_ir (by decide +kernel) rfl) <|
  zal_n
set_option maxRecDepth 100000 in
set_option maxHeartbeats 4000000 in
theorem sn_M_spot (l : Launch) : zAl l 100 tb_M_spot :=
  zal_c (zi_iconst (n := 4) (by decide +kernel) rfl rfl) <|
  zal_c (zi_iconst (n := 5) (by decide +kernel) rfl rfl) <|
  zal_c (zi_iln (j := 0) (by decide +kernel) rfl rfl) <|
  zal_c (zi_imul (by decide +kernel) rfl) <|
  zal_c (zi_iadd (by decide +kernel) rfl) <|
  zal_c (zi_iln (j := 1) (by decide +kernel) rfl rfl) <|
  zal_c (zi_iadd (by decide +kernel) rfl) <|
  zal_c (zi_ir (by decide +kernel) rfl) <|
  zal_n
set_option maxRecDepth 100000 in
set_option maxHeartbeats 4000000 in
theorem sn_M_coupleSpot (l : Launch) : zAl l 101 tb_M_coupleSpot :=
  zal_c (zi_bipush (n := 44) (by decide +kernel) rfl rfl) <|
  zal_c (zi_iconst (n := 3) (by decide +kernel) rfl rfl) <|
  zal_c (zi_iln (j := 0) (by decide +kernel) rfl rfl) <|
  zal_c (zi_imul (by decide +kernel) rfl) <|
  zal_c (zi_iadd (by decide +kernel) rfl) <|
  zal_c (zi_iln (j := 1) (by decide +kernel) rfl rfl) <|
  zal_c (zi_iadd (by decide +kernel) rfl) <|
  zal_c (zi_ir (by decide +kernel) rfl) <|
  zal_n
set_option maxRecDepth 100000 in
set_option maxHeartbeats 4000000 in
theorem sn_M_its (l : Launch) : zAl l 102 tb_M_its :=
  zal_c (zi_aln (j := 0) (by decide +kernel) rfl rfl) <|
  zal_c (zi_get (CN := RX5) (T := TX5) (N := 17) (index := 7) (by decide +kernel) rfl rfl (by decide) uw_X5 wf_M_7) <|
  zal_c (zi_iln (j := 1) (by decide +kernel) rfl rfl) <|
  zal_c (zi_iln (j := 2) (by decide +kernel) rfl rfl) <|
  zal_c (zi_cs (index := 45) (by decide +kernel) rfl mk_M_spot wm_M_45 wq_M_spot ⟨rfl, rfl⟩ ⟨Nat.le_of_ble_eq_true rfl, Nat.le_of_ble_eq_true rfl⟩) <|
  zal_c (zi_iald (by decide +kernel) rfl) <|
  zal_c (zi_ir (by decide +kernel) rfl) <|
  zal_n
set_option maxRecDepth 100000 in
set_option maxHeartbeats 4000000 in
theorem sn_M_theirs (l : Launch) : zAl l 103 tb_M_theirs :=
  zal_c (zi_aln (j := 0) (by decide +kernel) rfl rfl) <|
  zal_c (zi_get (CN := RX5) (T := TX5) (N := 17) (index := 7) (by decide +kernel) rfl rfl (by decide) uw_X5 wf_M_7) <|
  zal_c (zi_iln (j := 1) (by decide +kernel) rfl rfl) <|
  zal_c (zi_iln (j := 2) (by decide +kernel) rfl rfl) <|
  zal_c (zi_cs (index := 49) (by decide +kernel) rfl mk_M_coupleSpot wm_M_49 wq_M_coupleSpot ⟨rfl, rfl⟩ ⟨Nat.le_of_ble_eq_true rfl, Nat.le_of_ble_eq_true rfl⟩) <|
  zal_c (zi_iald (by decide +kernel) rfl) <|
  zal_c (zi_ir (by decide +kernel) rfl) <|
  zal_n
set_option maxRecDepth 100000 in
set_option maxHeartbeats 4000000 in
theorem sn_M_isInlaw (l : Launch) : zAl l 104 tb_M_isInlaw :=
  zal_c (zi_iln (j := 1) (by decide +kernel) rfl rfl) <|
  zal_c (zi_i2l (by decide +kernel) rfl) <|
  zal_c (zi_lconst (n := 0) (by decide +kernel) rfl rfl) <|
  zal_c (zi_aln (j := 0) (by decide +kernel) rfl rfl) <|
  zal_c (zi_get (CN := RX5) (T := TX5) (N := 17) (index := 7) (by decide +kernel) rfl rfl (by decide) uw_X5 wf_M_7) <|
  zal_c (zi_iconst (n := 2) (by decide +kernel) rfl rfl) <|
  zal_c (zi_iald (by decide +kernel) rfl) <|
  zal_c (zi_iconst (n := 1) (by decide +kernel) rfl rfl) <|
  zal_c (zi_isub (by decide +kernel) rfl) <|
  zal_c (zi_i2l (by decide +kernel) rfl) <|
  zal_c (zi_cs (index := 52) (by decide +kernel) rfl mk_M_in wm_M_52 wq_M_in ⟨rfl, rfl⟩ ⟨Nat.le_of_ble_eq_true rfl, Nat.le_of_ble_eq_true rfl⟩) <|
  zal_c (zi_zr (by decide +kernel) rfl) <|
  zal_n
set_option maxRecDepth 100000 in
set_option maxHeartbeats 4000000 in
theorem sn_M_isCouple (l : Launch) : zAl l 105 tb_M_isCouple :=
  zal_c (zi_iln (j := 1) (by decide +kernel) rfl rfl) <|
  zal_c (zi_i2l (by decide +kernel) rfl) <|
  zal_c (zi_lconst (n := 0) (by decide +kernel) rfl rfl) <|
  zal_c (zi_aln (j := 0) (by decide +kernel) rfl rfl) <|
  zal_c (zi_get (CN := RX5) (T := TX5) (N := 17) (index := 7) (by decide +kernel) rfl rfl (by decide) uw_X5 wf_M_7) <|
  zal_c (zi_iconst (n := 3) (by decide +kernel) rfl rfl) <|
  zal_c (zi_iald (by decide +kernel) rfl) <|
  zal_c (zi_iconst (n := 1) (by decide +kernel) rfl rfl) <|
  zal_c (zi_isub (by decide +kernel) rfl) <|
  zal_c (zi_i2l (by decide +kernel) rfl) <|
  zal_c (zi_cs (index := 52) (by decide +kernel) rfl mk_M_in wm_M_52 wq_M_in ⟨rfl, rfl⟩ ⟨Nat.le_of_ble_eq_true rfl, Nat.le_of_ble_eq_true rfl⟩) <|
  zal_c (zi_zr (by decide +kernel) rfl) <|
  zal_n
set_option maxRecDepth 100000 in
set_option maxHeartbeats 4000000 in
theorem sn_M_isKind (l : Launch) : zAl l 106 tb_M_isKind :=
  zal_c (zi_iln (j := 0) (by decide +kernel) rfl rfl) <|
  zal_c (zi_i2l (by decide +kernel) rfl) <|
  zal_c (zi_lconst (n := 0) (by decide +kernel) rfl rfl) <|
  zal_c (zi_ldc2 (n := 56) (by decide +kernel) rfl wc_M_56) <|
  zal_c (zi_cs (index := 52) (by decide +kernel) rfl mk_M_in wm_M_52 wq_M_in ⟨rfl, rfl⟩ ⟨Nat.le_of_ble_eq_true rfl, Nat.le_of_ble_eq_true rfl⟩) <|
  zal_c (zi_zr (by decide +kernel) rfl) <|
  zal_n
set_option maxRecDepth 100000 in
set_option maxHeartbeats 4000000 in
theorem sn_M_held (l : Launch) : zAl l 107 tb_M_held :=
  zal_c (zi_iln (j := 0) (by decide +kernel) rfl rfl) <|
  zal_c (zi_iln (j := 1) (by decide +kernel) rfl rfl) <|
  zal_c (zi_cge (off := 7) (by decide +kernel) rfl rfl) <|
  zal_c (zi_iln (j := 1) (by decide +kernel) rfl rfl) <|
  zal_c (zi_goto (off := 13) (by decide +kernel) rfl) <|
  zal_c (zi_iln (j := 0) (by decide +kernel) rfl rfl) <|
  zal_c (zi_iln (j := 2) (by decide +kernel) rfl rfl) <|
  zal_c (zi_cle (off := 7) (by decide +kernel) rfl rfl) <|
  zal_c (zi_iln (j := 2) (by decide +kernel) rfl rfl) <|
  zal_c (zi_goto (off := 4) (by decide +kernel) rfl) <|
  zal_c (zi_iln (j := 0) (by decide +kernel) rfl rfl) <|
  zal_c (zi_ir (by decide +kernel) rfl) <|
  zal_n
set_option maxRecDepth 100000 in
set_option maxHeartbeats 4000000 in
theorem sn_M_together (l : Launch) : zAl l 108 tb_M_together :=
  zal_c (zi_iconst (n := 0) (by decide +kernel) rfl rfl) <|
  zal_c (zi_isn (j := 2) (by decide +kernel) rfl rfl (Nat.le_of_ble_eq_true rfl)) <|
  zal_c (zi_iconst (n := 0) (by decide +kernel) rfl rfl) <|
  zal_c (zi_isn (j := 3) (by decide +kernel) rfl rfl (Nat.le_of_ble_eq_true rfl)) <|
  zal_c (zi_iln (j := 3) (by decide +kernel) rfl rfl) <|
  zal_c (zi_aln (j := 0) (by decide +kernel) rfl rfl) <|
  zal_c (zi_get (CN := RX5) (T := TX5) (N := 17) (index := 7) (by decide +kernel) rfl rfl (by decide) uw_X5 wf_M_7) <|
  zal_c (zi_iconst (n := 2) (by decide +kernel) rfl rfl) <|
  zal_c (zi_iald (by decide +kernel) rfl) <|
  zal_c (zi_cge (off := 18) (by decide +kernel) rfl rfl) <|
  zal_c (zi_iln (j := 2) (by decide +kernel) rfl rfl) <|
  zal_c (zi_aln (j := 0) (by decide +kernel) rfl rfl) <|
  zal_c (zi_iln (j := 3) (by decide +kernel) rfl rfl) <|
  zal_c (zi_iln (j := 1) (by decide +kernel) rfl rfl) <|
  zal_c (zi_cv (index := 58) (qc := (RX5, TX5, 17)) (by decide +kernel) rfl mk_M_its rfl wm_M_58 wq_M_its ww_M_its ⟨rfl, rfl⟩ ⟨Nat.le_of_ble_eq_true rfl, Nat.le_of_ble_eq_true rfl⟩) <|
  zal_c (zi_iadd (by decide +kernel) rfl) <|
  zal_c (zi_isn (j := 2) (by decide +kernel) rfl rfl (Nat.le_of_ble_eq_true rfl)) <|
  zal_c (zi_inc (n := 1) (by decide +kernel) rfl rfl) <|
  zal_c (zi_goto (off := -22) (by decide +kernel) rfl) <|
  zal_c (zi_iln (j := 2) (by decide +kernel) rfl rfl) <|
  zal_c (zi_ir (by decide +kernel) rfl) <|
  zal_n
set_option maxRecDepth 100000 in
set_option maxHeartbeats 4000000 in
theorem sn_M_wells (l : Launch) : zAl l 109 tb_M_wells :=
  zal_c (zi_iconst (n := 0) (by decide +kernel) rfl rfl) <|
  zal_c (zi_isn (j := 1) (by decide +kernel) rfl rfl (Nat.le_of_ble_eq_true rfl)) <|
  zal_c (zi_iconst (n := 0) (by decide +kernel) rfl rfl) <|
  zal_c (zi_isn (j := 2) (by decide +kernel) rfl rfl (Nat.le_of_ble_eq_true rfl)) <|
  zal_c (zi_iln (j := 2) (by decide +kernel) rfl rfl) <|
  zal_c (zi_aln (j := 0) (by decide +kernel) rfl rfl) <|
  zal_c (zi_get (CN := RX5) (T := TX5) (N := 17) (index := 7) (by decide +kernel) rfl rfl (by decide) uw_X5 wf_M_7) <|
  zal_c (zi_iconst (n := 3) (by decide +kernel) rfl rfl) <|
  zal_c (zi_iald (by decide +kernel) rfl) <|
  zal_c (zi_cge (off := 18) (by decide +kernel) rfl rfl) <|
  zal_c (zi_iln (j := 1) (by decide +kernel) rfl rfl) <|
  zal_c (zi_aln (j := 0) (by decide +kernel) rfl rfl) <|
  zal_c (zi_iln (j := 2) (by decide +kernel) rfl rfl) <|
  zal_c (zi_iconst (n := 1) (by decide +kernel) rfl rfl) <|
  zal_c (zi_cv (index := 61) (qc := (RX5, TX5, 17)) (by decide +kernel) rfl mk_M_theirs rfl wm_M_61 wq_M_theirs ww_M_theirs ⟨rfl, rfl⟩ ⟨Nat.le_of_ble_eq_true rfl, Nat.le_of_ble_eq_true rfl⟩) <|
  zal_c (zi_iadd (by decide +kernel) rfl) <|
  zal_c (zi_isn (j := 1) (by decide +kernel) rfl rfl (Nat.le_of_ble_eq_true rfl)) <|
  zal_c (zi_inc (n := 1) (by decide +kernel) rfl rfl) <|
  zal_c (zi_goto (off := -22) (by decide +kernel) rfl) <|
  zal_c (zi_iln (j := 1) (by decide +kernel) rfl rfl) <|
  zal_c (zi_ir (by decide +kernel) rfl) <|
  zal_n
set_option maxRecDepth 100000 in
set_option maxHeartbeats 4000000 in
theorem sn_M_fire (l : Launch) : zAl l 110 tb_M_fire :=
  zal_c (zi_iln (j := 1) (by decide +kernel) rfl rfl) <|
  zal_c (zi_i2l (by decide +kernel) rfl) <|
  zal_c (zi_lconst (n := 0) (by decide +kernel) rfl rfl) <|
  zal_c (zi_ldc2 (n := 64) (by decide +kernel) rfl wc_M_64) <|
  zal_c (zi_cs (index := 52) (by decide +kernel) rfl mk_M_in wm_M_52 wq_M_in ⟨rfl, rfl⟩ ⟨Nat.le_of_ble_eq_true rfl, Nat.le_of_ble_eq_true rfl⟩) <|
  zal_c (zi_ifeq (off := 12) (by decide +kernel) rfl rfl) <|
  zal_c (zi_aln (j := 0) (by decide +kernel) rfl rfl) <|
  zal_c (zi_iconst (n := 1) (by decide +kernel) rfl rfl) <|
  zal_c (zi_iln (j := 1) (by decide +kernel) rfl rfl) <|
  zal_c (zi_cv (index := 66) (qc := (RX5, TX5, 17)) (by decide +kernel) rfl mk_M_becomes rfl wm_M_66 wq_M_becomes ww_M_becomes ⟨rfl, rfl⟩ ⟨Nat.le_of_ble_eq_true rfl, Nat.le_of_ble_eq_true rfl⟩) <|
  zal_c (zi_goto (off := 9) (by decide +kernel) rfl) <|
  zal_c (zi_aln (j := 0) (by decide +kernel) rfl rfl) <|
  zal_c (zi_ldc (n := 44) (by decide +kernel) rfl wc_M_44) <|
  zal_c (zi_cv (index := 69) (qc := (RX5, TX5, 17)) (by decide +kernel) rfl mk_M_finds rfl wm_M_69 wq_M_finds ww_M_finds ⟨rfl, rfl⟩ ⟨Nat.le_of_ble_eq_true rfl, Nat.le_of_ble_eq_true rfl⟩) <|
  zal_c (zi_ir (by decide +kernel) rfl) <|
  zal_n
set_option maxRecDepth 100000 in
set_option maxHeartbeats 4000000 in
theorem sn_M_firstCouple (l : Launch) : zAl l 111 tb_M_firstCouple :=
  zal_c (zi_aln (j := 0) (by decide +kernel) rfl rfl) <|
  zal_c (zi_get (CN := RX5) (T := TX5) (N := 17) (index := 7) (by decide +kernel) rfl rfl (by decide) uw_X5 wf_M_7) <|
  zal_c (zi_iconst (n := 3) (by decide +kernel) rfl rfl) <|
  zal_c (zi_iald (by decide +kernel) rfl) <|
  zal_c (zi_ifne (off := 7) (by decide +kernel) rfl rfl) <|
  zal_c (zi_iconst (n := -1) (by decide +kernel) rfl rfl) <|
  zal_c (zi_goto (off := 16) (by decide +kernel) rfl) <|
  zal_c (zi_aln (j := 0) (by decide +kernel) rfl rfl) <|
  zal_c (zi_get (CN := RX5) (T := TX5) (N := 17) (index := 7) (by decide +kernel) rfl rfl (by decide) uw_X5 wf_M_7) <|
  zal_c (zi_iconst (n := 0) (by decide +kernel) rfl rfl) <|
  zal_c (zi_iald (by decide +kernel) rfl) <|
  zal_c (zi_aln (j := 0) (by decide +kernel) rfl rfl) <|
  zal_c (zi_get (CN := RX5) (T := TX5) (N := 17) (index := 7) (by decide +kernel) rfl rfl (by decide) uw_X5 wf_M_7) <|
  zal_c (zi_iconst (n := 3) (by decide +kernel) rfl rfl) <|
  zal_c (zi_iald (by decide +kernel) rfl) <|
  zal_c (zi_irem (by decide +kernel) rfl) <|
  zal_c (zi_ir (by decide +kernel) rfl) <|
  zal_n
set_option maxRecDepth 100000 in
set_option maxHeartbeats 4000000 in
theorem sn_M_satOn (l : Launch) : zAl l 112 tb_M_satOn :=
  zal_c (zi_iconst (n := 0) (by decide +kernel) rfl rfl) <|
  zal_c (zi_isn (j := 1) (by decide +kernel) rfl rfl (Nat.le_of_ble_eq_true rfl)) <|
  zal_c (zi_iconst (n := 0) (by decide +kernel) rfl rfl) <|
  zal_c (zi_isn (j := 2) (by decide +kernel) rfl rfl (Nat.le_of_ble_eq_true rfl)) <|
  zal_c (zi_iln (j := 2) (by decide +kernel) rfl rfl) <|
  zal_c (zi_aln (j := 0) (by decide +kernel) rfl rfl) <|
  zal_c (zi_get (CN := RX5) (T := TX5) (N := 17) (index := 7) (by decide +kernel) rfl rfl (by decide) uw_X5 wf_M_7) <|
  zal_c (zi_iconst (n := 2) (by decide +kernel) rfl rfl) <|
  zal_c (zi_iald (by decide +kernel) rfl) <|
  zal_c (zi_cge (off := 20) (by decide +kernel) rfl rfl) <|
  zal_c (zi_iln (j := 1) (by decide +kernel) rfl rfl) <|
  zal_c (zi_aln (j := 0) (by decide +kernel) rfl rfl) <|
  zal_c (zi_iln (j := 2) (by decide +kernel) rfl rfl) <|
  zal_c (zi_iconst (n := 2) (by decide +kernel) rfl rfl) <|
  zal_c (zi_cv (index := 58) (qc := (RX5, TX5, 17)) (by decide +kernel) rfl mk_M_its rfl wm_M_58 wq_M_its ww_M_its ⟨rfl, rfl⟩ ⟨Nat.le_of_ble_eq_true rfl, Nat.le_of_ble_eq_true rfl⟩) <|
  zal_c (zi_iln (j := 2) (by decide +kernel) rfl rfl) <|
  zal_c (zi_ishl (by decide +kernel) rfl) <|
  zal_c (zi_ior (by decide +kernel) rfl) <|
  zal_c (zi_isn (j := 1) (by decide +kernel) rfl rfl (Nat.le_of_ble_eq_true rfl)) <|
  zal_c (zi_inc (n := 1) (by decide +kernel) rfl rfl) <|
  zal_c (zi_goto (off := -24) (by decide +kernel) rfl) <|
  zal_c (zi_iln (j := 1) (by decide +kernel) rfl rfl) <|
  zal_c (zi_ir (by decide +kernel) rfl) <|
  zal_n
set_option maxRecDepth 100000 in
set_option maxHeartbeats 4000000 in
theorem sn_M_now (l : Launch) : zAl l 113 tb_M_now :=
  zal_c (zi_iln (j := 1) (by decide +kernel) rfl rfl) <|
  zal_c (zi_sw (dflt := 78) (lo := 0) (hi := 5) (offs := #[39, 46, 53, 58, 63, 72]) (len := 39) 0 (by decide +kernel) rfl rfl (by decide) rfl (zsw_of (by decide +kernel))) <|
  zal_c (zi_aln (j := 0) (by decide +kernel) rfl rfl) <|
  zal_c (zi_get (CN := RX5) (T := TX5) (N := 17) (index := 7) (by decide +kernel) rfl rfl (by decide) uw_X5 wf_M_7) <|
  zal_c (zi_iconst (n := 0) (by decide +kernel) rfl rfl) <|
  zal_c (zi_iald (by decide +kernel) rfl) <|
  zal_c (zi_ir (by decide +kernel) rfl) <|
  zal_c (zi_aln (j := 0) (by decide +kernel) rfl rfl) <|
  zal_c (zi_get (CN := RX5) (T := TX5) (N := 17) (index := 7) (by decide +kernel) rfl rfl (by decide) uw_X5 wf_M_7) <|
  zal_c (zi_iconst (n := 1) (by decide +kernel) rfl rfl) <|
  zal_c (zi_iald (by decide +kernel) rfl) <|
  zal_c (zi_ir (by decide +kernel) rfl) <|
  zal_c (zi_aln (j := 0) (by decide +kernel) rfl rfl) <|
  zal_c (zi_cv (index := 73) (qc := (RX5, TX5, 17)) (by decide +kernel) rfl mk_M_firstCouple rfl wm_M_73 wq_M_firstCouple ww_M_firstCouple ⟨rfl, rfl⟩ ⟨Nat.le_of_ble_eq_true rfl, Nat.le_of_ble_eq_true rfl⟩) <|
  zal_c (zi_ir (by decide +kernel) rfl) <|
  zal_c (zi_aln (j := 0) (by decide +kernel) rfl rfl) <|
  zal_c (zi_cv (index := 77) (qc := (RX5, TX5, 17)) (by decide +kernel) rfl mk_M_satOn rfl wm_M_77 wq_M_satOn ww_M_satOn ⟨rfl, rfl⟩ ⟨Nat.le_of_ble_eq_true rfl, Nat.le_of_ble_eq_true rfl⟩) <|
  zal_c (zi_ir (by decide +kernel) rfl) <|
  zal_c (zi_sipush (n := 10000) (by decide +kernel) rfl rfl) <|
  zal_c (zi_aln (j := 0) (by decide +kernel) rfl rfl) <|
  zal_c (zi_cv (index := 80) (qc := (RX5, TX5, 17)) (by decide +kernel) rfl mk_M_wells rfl wm_M_80 wq_M_wells ww_M_wells ⟨rfl, rfl⟩ ⟨Nat.le_of_ble_eq_true rfl, Nat.le_of_ble_eq_true rfl⟩) <|
  zal_c (zi_iadd (by decide +kernel) rfl) <|
  zal_c (zi_ir (by decide +kernel) rfl) <|
  zal_c (zi_aln (j := 0) (by decide +kernel) rfl rfl) <|
  zal_c (zi_iconst (n := 1) (by decide +kernel) rfl rfl) <|
  zal_c (zi_cv (index := 83) (qc := (RX5, TX5, 17)) (by decide +kernel) rfl mk_M_together rfl wm_M_83 wq_M_together ww_M_together ⟨rfl, rfl⟩ ⟨Nat.le_of_ble_eq_true rfl, Nat.le_of_ble_eq_true rfl⟩) <|
  zal_c (zi_ir (by decide +kernel) rfl) <|
  zal_c (zi_aln (j := 0) (by decide +kernel) rfl rfl) <|
  zal_c (zi_ldc (n := 44) (by decide +kernel) rfl wc_M_44) <|
  zal_c (zi_cv (index := 69) (qc := (RX5, TX5, 17)) (by decide +kernel) rfl mk_M_finds rfl wm_M_69 wq_M_finds ww_M_finds ⟨rfl, rfl⟩ ⟨Nat.le_of_ble_eq_true rfl, Nat.le_of_ble_eq_true rfl⟩) <|
  zal_c (zi_ir (by decide +kernel) rfl) <|
  zal_n
set_option maxRecDepth 100000 in
set_option maxHeartbeats 4000000 in
theorem sn_M_charms (l : Launch) : zAl l 114 tb_M_charms :=
  zal_c (zi_aln (j := 0) (by decide +kernel) rfl rfl) <|
  zal_c (zi_iln (j := 2) (by decide +kernel) rfl rfl) <|
  zal_c (zi_iconst (n := 0) (by decide +kernel) rfl rfl) <|
  zal_c (zi_cv (index := 61) (qc := (RX5, TX5, 17)) (by decide +kernel) rfl mk_M_theirs rfl wm_M_61 wq_M_theirs ww_M_theirs ⟨rfl, rfl⟩ ⟨Nat.le_of_ble_eq_true rfl, Nat.le_of_ble_eq_true rfl⟩) <|
  zal_c (zi_isn (j := 3) (by decide +kernel) rfl rfl (Nat.le_of_ble_eq_true rfl)) <|
  zal_c (zi_aln (j := 0) (by decide +kernel) rfl rfl) <|
  zal_c (zi_iln (j := 1) (by decide +kernel) rfl rfl) <|
  zal_c (zi_iconst (n := 1) (by decide +kernel) rfl rfl) <|
  zal_c (zi_cv (index := 58) (qc := (RX5, TX5, 17)) (by decide +kernel) rfl mk_M_its rfl wm_M_58 wq_M_its ww_M_its ⟨rfl, rfl⟩ ⟨Nat.le_of_ble_eq_true rfl, Nat.le_of_ble_eq_true rfl⟩) <|
  zal_c (zi_bipush (n := 10) (by decide +kernel) rfl rfl) <|
  zal_c (zi_idiv (by decide +kernel) rfl) <|
  zal_c (zi_is (by decide +kernel) rfl (Nat.le_of_ble_eq_true rfl)) <|
  zal_c (zi_iln (j := 3) (by decide +kernel) rfl rfl) <|
  zal_c (zi_iconst (n := 4) (by decide +kernel) rfl rfl) <|
  zal_c (zi_cge (off := 10) (by decide +kernel) rfl rfl) <|
  zal_c (zi_il (by decide +kernel) rfl) <|
  zal_c (zi_iconst (n := 3) (by decide +kernel) rfl rfl) <|
  zal_c (zi_iadd (by decide +kernel) rfl) <|
  zal_c (zi_goto (off := 5) (by decide +kernel) rfl) <|
  zal_c (zi_il (by decide +kernel) rfl) <|
  zal_c (zi_is (by decide +kernel) rfl (Nat.le_of_ble_eq_true rfl)) <|
  zal_c (zi_il (by decide +kernel) rfl) <|
  zal_c (zi_iln (j := 3) (by decide +kernel) rfl rfl) <|
  zal_c (zi_iconst (n := 2) (by decide +kernel) rfl rfl) <|
  zal_c (zi_idiv (by decide +kernel) rfl) <|
  zal_c (zi_iadd (by decide +kernel) rfl) <|
  zal_c (zi_is (by decide +kernel) rfl (Nat.le_of_ble_eq_true rfl)) <|
  zal_c (zi_aln (j := 0) (by decide +kernel) rfl rfl) <|
  zal_c (zi_iln (j := 1) (by decide +kernel) rfl rfl) <|
  zal_c (zi_iconst (n := 0) (by decide +kernel) rfl rfl) <|
  zal_c (zi_cv (index := 58) (qc := (RX5, TX5, 17)) (by decide +kernel) rfl mk_M_its rfl wm_M_58 wq_M_its ww_M_its ⟨rfl, rfl⟩ ⟨Nat.le_of_ble_eq_true rfl, Nat.le_of_ble_eq_true rfl⟩) <|
  zal_c (zi_sw (dflt := 79) (lo := 1) (hi := 5) (offs := #[36, 39, 42, 44, 67]) (len := 36) 1 (by decide +kernel) rfl rfl (by decide) rfl (zsw_of (by decide +kernel))) <|
  zal_c (zi_il (by decide +kernel) rfl) <|
  zal_c (zi_ir (by decide +kernel) rfl) <|
  zal_c (zi_il (by decide +kernel) rfl) <|
  zal_c (zi_ir (by decide +kernel) rfl) <|
  zal_c (zi_iconst (n := 4) (by decide +kernel) rfl rfl) <|
  zal_c (zi_ir (by decide +kernel) rfl) <|
  zal_c (zi_aln (j := 0) (by decide +kernel) rfl rfl) <|
  zal_c (zi_iln (j := 2) (by decide +kernel) rfl rfl) <|
  zal_c (zi_iconst (n := 2) (by decide +kernel) rfl rfl) <|
  zal_c (zi_cv (index := 61) (qc := (RX5, TX5, 17)) (by decide +kernel) rfl mk_M_theirs rfl wm_M_61 wq_M_theirs ww_M_theirs ⟨rfl, rfl⟩ ⟨Nat.le_of_ble_eq_true rfl, Nat.le_of_ble_eq_true rfl⟩) <|
  zal_c (zi_iln (j := 1) (by decide +kernel) rfl rfl) <|
  zal_c (zi_cne (off := 11) (by decide +kernel) rfl rfl) <|
  zal_c (zi_il (by decide +kernel) rfl) <|
  zal_c (zi_bipush (n := 7) (by decide +kernel) rfl rfl) <|
  zal_c (zi_iadd (by decide +kernel) rfl) <|
  zal_c (zi_goto (off := 7) (by decide +kernel) rfl) <|
  zal_c (zi_il (by decide +kernel) rfl) <|
  zal_c (zi_iconst (n := 2) (by decide +kernel) rfl rfl) <|
  zal_c (zi_isub (by decide +kernel) rfl) <|
  zal_c (zi_ir (by decide +kernel) rfl) <|
  zal_c (zi_il (by decide +kernel) rfl) <|
  zal_c (zi_aln (j := 0) (by decide +kernel) rfl rfl) <|
  zal_c (zi_get (CN := RX5) (T := TX5) (N := 17) (index := 7) (by decide +kernel) rfl rfl (by decide) uw_X5 wf_M_7) <|
  zal_c (zi_iconst (n := 1) (by decide +kernel) rfl rfl) <|
  zal_c (zi_iald (by decide +kernel) rfl) <|
  zal_c (zi_iconst (n := 5) (by decide +kernel) rfl rfl) <|
  zal_c (zi_idiv (by decide +kernel) rfl) <|
  zal_c (zi_iadd (by decide +kernel) rfl) <|
  zal_c (zi_ir (by decide +kernel) rfl) <|
  zal_c (zi_il (by decide +kernel) rfl) <|
  zal_c (zi_ir (by decide +kernel) rfl) <|
  zal_n
set_option maxRecDepth 100000 in
set_option maxHeartbeats 4000000 in
theorem sn_M_does (l : Launch) : zAl l 115 tb_M_does :=
  zal_c (zi_aln (j := 0) (by decide +kernel) rfl rfl) <|
  zal_c (zi_get (CN := RX5) (T := TX5) (N := 17) (index := 7) (by decide +kernel) rfl rfl (by decide) uw_X5 wf_M_7) <|
  zal_c (zi_iconst (n := 1) (by decide +kernel) rfl rfl) <|
  zal_c (zi_iald (by decide +kernel) rfl) <|
  zal_c (zi_bipush (n := 10) (by decide +kernel) rfl rfl) <|
  zal_c (zi_clt (off := 7) (by decide +kernel) rfl rfl) <|
  zal_c (zi_iconst (n := 3) (by decide +kernel) rfl rfl) <|
  zal_c (zi_goto (off := 4) (by decide +kernel) rfl) <|
  zal_c (zi_iconst (n := 2) (by decide +kernel) rfl rfl) <|
  zal_c (zi_isn (j := 3) (by decide +kernel) rfl rfl (Nat.le_of_ble_eq_true rfl)) <|
  zal_c (zi_aln (j := 0) (by decide +kernel) rfl rfl) <|
  zal_c (zi_iln (j := 1) (by decide +kernel) rfl rfl) <|
  zal_c (zi_iconst (n := 0) (by decide +kernel) rfl rfl) <|
  zal_c (zi_cv (index := 58) (qc := (RX5, TX5, 17)) (by decide +kernel) rfl mk_M_its rfl wm_M_58 wq_M_its ww_M_its ⟨rfl, rfl⟩ ⟨Nat.le_of_ble_eq_true rfl, Nat.le_of_ble_eq_true rfl⟩) <|
  zal_c (zi_sw (dflt := 77) (lo := 1) (hi := 5) (offs := #[33, 50, 52, 54, 73]) (len := 33) 1 (by decide +kernel) rfl rfl (by decide) rfl (zsw_of (by decide +kernel))) <|
  zal_c (zi_aln (j := 0) (by decide +kernel) rfl rfl) <|
  zal_c (zi_iln (j := 2) (by decide +kernel) rfl rfl) <|
  zal_c (zi_iconst (n := 0) (by decide +kernel) rfl rfl) <|
  zal_c (zi_cv (index := 61) (qc := (RX5, TX5, 17)) (by decide +kernel) rfl mk_M_theirs rfl wm_M_61 wq_M_theirs ww_M_theirs ⟨rfl, rfl⟩ ⟨Nat.le_of_ble_eq_true rfl, Nat.le_of_ble_eq_true rfl⟩) <|
  zal_c (zi_bipush (n := 7) (by decide +kernel) rfl rfl) <|
  zal_c (zi_clt (off := 7) (by decide +kernel) rfl rfl) <|
  zal_c (zi_iconst (n := 1) (by decide +kernel) rfl rfl) <|
  zal_c (zi_goto (off := 4) (by decide +kernel) rfl) <|
  zal_c (zi_iconst (n := 2) (by decide +kernel) rfl rfl) <|
  zal_c (zi_ir (by decide +kernel) rfl) <|
  zal_c (zi_iln (j := 3) (by decide +kernel) rfl rfl) <|
  zal_c (zi_ir (by decide +kernel) rfl) <|
  zal_c (zi_iconst (n := 0) (by decide +kernel) rfl rfl) <|
  zal_c (zi_ir (by decide +kernel) rfl) <|
  zal_c (zi_aln (j := 0) (by decide +kernel) rfl rfl) <|
  zal_c (zi_iln (j := 1) (by decide +kernel) rfl rfl) <|
  zal_c (zi_iconst (n := 1) (by decide +kernel) rfl rfl) <|
  zal_c (zi_cv (index := 58) (qc := (RX5, TX5, 17)) (by decide +kernel) rfl mk_M_its rfl wm_M_58 wq_M_its ww_M_its ⟨rfl, rfl⟩ ⟨Nat.le_of_ble_eq_true rfl, Nat.le_of_ble_eq_true rfl⟩) <|
  zal_c (zi_bipush (n := 60) (by decide +kernel) rfl rfl) <|
  zal_c (zi_clt (off := 8) (by decide +kernel) rfl rfl) <|
  zal_c (zi_bipush (n := 12) (by decide +kernel) rfl rfl) <|
  zal_c (zi_goto (off := 5) (by decide +kernel) rfl) <|
  zal_c (zi_bipush (n := -4) (by decide +kernel) rfl rfl) <|
  zal_c (zi_ir (by decide +kernel) rfl) <|
  zal_c (zi_iln (j := 3) (by decide +kernel) rfl rfl) <|
  zal_c (zi_iconst (n := 2) (by decide +kernel) rfl rfl) <|
  zal_c (zi_iadd (by decide +kernel) rfl) <|
  zal_c (zi_ir (by decide +kernel) rfl) <|
  zal_c (zi_iconst (n := 2) (by decide +kernel) rfl rfl) <|
  zal_c (zi_ir (by decide +kernel) rfl) <|
  zal_n
set_option maxRecDepth 100000 in
set_option maxHeartbeats 4000000 in
theorem sn_M_thaws (l : Launch) : zAl l 116 tb_M_thaws :=
  zal_c (zi_iconst (n := 3) (by decide +kernel) rfl rfl) <|
  zal_c (zi_aln (j := 0) (by decide +kernel) rfl rfl) <|
  zal_c (zi_iln (j := 2) (by decide +kernel) rfl rfl) <|
  zal_c (zi_iconst (n := 0) (by decide +kernel) rfl rfl) <|
  zal_c (zi_cv (index := 61) (qc := (RX5, TX5, 17)) (by decide +kernel) rfl mk_M_theirs rfl wm_M_61 wq_M_theirs ww_M_theirs ⟨rfl, rfl⟩ ⟨Nat.le_of_ble_eq_true rfl, Nat.le_of_ble_eq_true rfl⟩) <|
  zal_c (zi_iconst (n := 3) (by decide +kernel) rfl rfl) <|
  zal_c (zi_idiv (by decide +kernel) rfl) <|
  zal_c (zi_isub (by decide +kernel) rfl) <|
  zal_c (zi_isn (j := 3) (by decide +kernel) rfl rfl (Nat.le_of_ble_eq_true rfl)) <|
  zal_c (zi_aln (j := 0) (by decide +kernel) rfl rfl) <|
  zal_c (zi_iln (j := 1) (by decide +kernel) rfl rfl) <|
  zal_c (zi_iconst (n := 0) (by decide +kernel) rfl rfl) <|
  zal_c (zi_cv (index := 58) (qc := (RX5, TX5, 17)) (by decide +kernel) rfl mk_M_its rfl wm_M_58 wq_M_its ww_M_its ⟨rfl, rfl⟩ ⟨Nat.le_of_ble_eq_true rfl, Nat.le_of_ble_eq_true rfl⟩) <|
  zal_c (zi_sw (dflt := 46) (lo := 1) (hi := 5) (offs := #[35, 46, 37, 39, 43]) (len := 35) 1 (by decide +kernel) rfl rfl (by decide) rfl (zsw_of (by decide +kernel))) <|
  zal_c (zi_iln (j := 3) (by decide +kernel) rfl rfl) <|
  zal_c (zi_ir (by decide +kernel) rfl) <|
  zal_c (zi_iconst (n := 1) (by decide +kernel) rfl rfl) <|
  zal_c (zi_ir (by decide +kernel) rfl) <|
  zal_c (zi_iln (j := 3) (by decide +kernel) rfl rfl) <|
  zal_c (zi_iconst (n := 2) (by decide +kernel) rfl rfl) <|
  zal_c (zi_isub (by decide +kernel) rfl) <|
  zal_c (zi_ir (by decide +kernel) rfl) <|
  zal_c (zi_bipush (n := 6) (by decide +kernel) rfl rfl) <|
  zal_c (zi_ir (by decide +kernel) rfl) <|
  zal_c (zi_iconst (n := 3) (by decide +kernel) rfl rfl) <|
  zal_c (zi_ir (by decide +kernel) rfl) <|
  zal_n
set_option maxRecDepth 100000 in
set_option maxHeartbeats 4000000 in
theorem sn_M_chills (l : Launch) : zAl l 117 tb_M_chills :=
  zal_c (zi_iconst (n := 2) (by decide +kernel) rfl rfl) <|
  zal_c (zi_aln (j := 0) (by decide +kernel) rfl rfl) <|
  zal_c (zi_get (CN := RX5) (T := TX5) (N := 17) (index := 7) (by decide +kernel) rfl rfl (by decide) uw_X5 wf_M_7) <|
  zal_c (zi_iconst (n := 1) (by decide +kernel) rfl rfl) <|
  zal_c (zi_iald (by decide +kernel) rfl) <|
  zal_c (zi_bipush (n := 10) (by decide +kernel) rfl rfl) <|
  zal_c (zi_idiv (by decide +kernel) rfl) <|
  zal_c (zi_isub (by decide +kernel) rfl) <|
  zal_c (zi_isn (j := 2) (by decide +kernel) rfl rfl (Nat.le_of_ble_eq_true rfl)) <|
  zal_c (zi_aln (j := 0) (by decide +kernel) rfl rfl) <|
  zal_c (zi_iln (j := 1) (by decide +kernel) rfl rfl) <|
  zal_c (zi_iconst (n := 0) (by decide +kernel) rfl rfl) <|
  zal_c (zi_cv (index := 58) (qc := (RX5, TX5, 17)) (by decide +kernel) rfl mk_M_its rfl wm_M_58 wq_M_its ww_M_its ⟨rfl, rfl⟩ ⟨Nat.le_of_ble_eq_true rfl, Nat.le_of_ble_eq_true rfl⟩) <|
  zal_c (zi_sw (dflt := 52) (lo := 1) (hi := 5) (offs := #[34, 36, 38, 34, 40]) (len := 34) 1 (by decide +kernel) rfl rfl (by decide) rfl (zsw_of (by decide +kernel))) <|
  zal_c (zi_iconst (n := 4) (by decide +kernel) rfl rfl) <|
  zal_c (zi_ir (by decide +kernel) rfl) <|
  zal_c (zi_iln (j := 2) (by decide +kernel) rfl rfl) <|
  zal_c (zi_ir (by decide +kernel) rfl) <|
  zal_c (zi_iconst (n := 0) (by decide +kernel) rfl rfl) <|
  zal_c (zi_ir (by decide +kernel) rfl) <|
  zal_c (zi_iln (j := 2) (by decide +kernel) rfl rfl) <|
  zal_c (zi_ifle (off := 9) (by decide +kernel) rfl rfl) <|
  zal_c (zi_iln (j := 2) (by decide +kernel) rfl rfl) <|
  zal_c (zi_iconst (n := 1) (by decide +kernel) rfl rfl) <|
  zal_c (zi_isub (by decide +kernel) rfl) <|
  zal_c (zi_goto (off := 4) (by decide +kernel) rfl) <|
  zal_c (zi_iconst (n := 0) (by decide +kernel) rfl rfl) <|
  zal_c (zi_ir (by decide +kernel) rfl) <|
  zal_c (zi_iconst (n := 2) (by decide +kernel) rfl rfl) <|
  zal_c (zi_ir (by decide +kernel) rfl) <|
  zal_n
set_option maxRecDepth 100000 in
set_option maxHeartbeats 4000000 in
theorem sn_M_addsInlaw (l : Launch) : zAl l 118 tb_M_addsInlaw :=
  zal_c (zi_aln (j := 0) (by decide +kernel) rfl rfl) <|
  zal_c (zi_get (CN := RX5) (T := TX5) (N := 17) (index := 7) (by decide +kernel) rfl rfl (by decide) uw_X5 wf_M_7) <|
  zal_c (zi_iconst (n := 2) (by decide +kernel) rfl rfl) <|
  zal_c (zi_iald (by decide +kernel) rfl) <|
  zal_c (zi_isn (j := 2) (by decide +kernel) rfl rfl (Nat.le_of_ble_eq_true rfl)) <|
  zal_c (zi_aln (j := 0) (by decide +kernel) rfl rfl) <|
  zal_c (zi_get (CN := RX5) (T := TX5) (N := 17) (index := 7) (by decide +kernel) rfl rfl (by decide) uw_X5 wf_M_7) <|
  zal_c (zi_iconst (n := 2) (by decide +kernel) rfl rfl) <|
  zal_c (zi_dup2 (by decide +kernel) rfl) <|
  zal_c (zi_iald (by decide +kernel) rfl) <|
  zal_c (zi_iconst (n := 1) (by decide +kernel) rfl rfl) <|
  zal_c (zi_iadd (by decide +kernel) rfl) <|
  zal_c (zi_iast (by decide +kernel) rfl) <|
  zal_c (zi_aln (j := 0) (by decide +kernel) rfl rfl) <|
  zal_c (zi_get (CN := RX5) (T := TX5) (N := 17) (index := 7) (by decide +kernel) rfl rfl (by decide) uw_X5 wf_M_7) <|
  zal_c (zi_iln (j := 2) (by decide +kernel) rfl rfl) <|
  zal_c (zi_iconst (n := 0) (by decide +kernel) rfl rfl) <|
  zal_c (zi_cs (index := 45) (by decide +kernel) rfl mk_M_spot wm_M_45 wq_M_spot ⟨rfl, rfl⟩ ⟨Nat.le_of_ble_eq_true rfl, Nat.le_of_ble_eq_true rfl⟩) <|
  zal_c (zi_iln (j := 1) (by decide +kernel) rfl rfl) <|
  zal_c (zi_iast (by decide +kernel) rfl) <|
  zal_c (zi_aln (j := 0) (by decide +kernel) rfl rfl) <|
  zal_c (zi_get (CN := RX5) (T := TX5) (N := 17) (index := 7) (by decide +kernel) rfl rfl (by decide) uw_X5 wf_M_7) <|
  zal_c (zi_iln (j := 2) (by decide +kernel) rfl rfl) <|
  zal_c (zi_iconst (n := 1) (by decide +kernel) rfl rfl) <|
  zal_c (zi_cs (index := 45) (by decide +kernel) rfl mk_M_spot wm_M_45 wq_M_spot ⟨rfl, rfl⟩ ⟨Nat.le_of_ble_eq_true rfl, Nat.le_of_ble_eq_true rfl⟩) <|
  zal_c (zi_bipush (n := 40) (by decide +kernel) rfl rfl) <|
  zal_c (zi_iast (by decide +kernel) rfl) <|
  zal_c (zi_iconst (n := 2) (by decide +kernel) rfl rfl) <|
  zal_c (zi_isn (j := 3) (by decide +kernel) rfl rfl (Nat.le_of_ble_eq_true rfl)) <|
  zal_c (zi_iln (j := 3) (by decide +kernel) rfl rfl) <|
  zal_c (zi_iconst (n := 4) (by decide +kernel) rfl rfl) <|
  zal_c (zi_cgt (off := 20) (by decide +kernel) rfl rfl) <|
  zal_c (zi_aln (j := 0) (by decide +kernel) rfl rfl) <|
  zal_c (zi_get (CN := RX5) (T := TX5) (N := 17) (index := 7) (by decide +kernel) rfl rfl (by decide) uw_X5 wf_M_7) <|
  zal_c (zi_iln (j := 2) (by decide +kernel) rfl rfl) <|
  zal_c (zi_iln (j := 3) (by decide +kernel) rfl rfl) <|
  zal_c (zi_cs (index := 45) (by decide +kernel) rfl mk_M_spot wm_M_45 wq_M_spot ⟨rfl, rfl⟩ ⟨Nat.le_of_ble_eq_true rfl, Nat.le_of_ble_eq_true rfl⟩) <|
  zal_c (zi_iconst (n := 0) (by decide +kernel) rfl rfl) <|
  zal_c (zi_iast (by decide +kernel) rfl) <|
  zal_c (zi_inc (n := 1) (by decide +kernel) rfl rfl) <|
  zal_c (zi_goto (off := -19) (by decide +kernel) rfl) <|
  zal_c (zi_iln (j := 2) (by decide +kernel) rfl rfl) <|
  zal_c (zi_ir (by decide +kernel) rfl) <|
  zal_n
set_option maxRecDepth 100000 in
set_option maxHeartbeats 4000000 in
theorem sn_M_inlaw (l : Launch) : zAl l 119 tb_M_inlaw :=
  zal_c (zi_iln (j := 1) (by decide +kernel) rfl rfl) <|
  zal_c (zi_cs (index := 86) (by decide +kernel) rfl mk_M_isKind wm_M_86 wq_M_isKind ⟨rfl, rfl⟩ ⟨Nat.le_of_ble_eq_true rfl, Nat.le_of_ble_eq_true rfl⟩) <|
  zal_c (zi_ifne (off := 10) (by decide +kernel) rfl rfl) <|
  zal_c (zi_aln (j := 0) (by decide +kernel) rfl rfl) <|
  zal_c (zi_ldc (n := 44) (by decide +kernel) rfl wc_M_44) <|
  zal_c (zi_cv (index := 69) (qc := (RX5, TX5, 17)) (by decide +kernel) rfl mk_M_finds rfl wm_M_69 wq_M_finds ww_M_finds ⟨rfl, rfl⟩ ⟨Nat.le_of_ble_eq_true rfl, Nat.le_of_ble_eq_true rfl⟩) <|
  zal_c (zi_ir (by decide +kernel) rfl) <|
  zal_c (zi_aln (j := 0) (by decide +kernel) rfl rfl) <|
  zal_c (zi_get (CN := RX5) (T := TX5) (N := 17) (index := 7) (by decide +kernel) rfl rfl (by decide) uw_X5 wf_M_7) <|
  zal_c (zi_iconst (n := 2) (by decide +kernel) rfl rfl) <|
  zal_c (zi_iald (by decide +kernel) rfl) <|
  zal_c (zi_bipush (n := 8) (by decide +kernel) rfl rfl) <|
  zal_c (zi_cne (off := 12) (by decide +kernel) rfl rfl) <|
  zal_c (zi_aln (j := 0) (by decide +kernel) rfl rfl) <|
  zal_c (zi_ldc (n := 90) (by decide +kernel) rfl wc_M_90) <|
  zal_c (zi_cv (index := 69) (qc := (RX5, TX5, 17)) (by decide +kernel) rfl mk_M_finds rfl wm_M_69 wq_M_finds ww_M_finds ⟨rfl, rfl⟩ ⟨Nat.le_of_ble_eq_true rfl, Nat.le_of_ble_eq_true rfl⟩) <|
  zal_c (zi_goto (off := 8) (by decide +kernel) rfl) <|
  zal_c (zi_aln (j := 0) (by decide +kernel) rfl rfl) <|
  zal_c (zi_iln (j := 1) (by decide +kernel) rfl rfl) <|
  zal_c (zi_cv (index := 91) (qc := (RX5, TX5, 17)) (by decide +kernel) rfl mk_M_addsInlaw rfl wm_M_91 wq_M_addsInlaw ww_M_addsInlaw ⟨rfl, rfl⟩ ⟨Nat.le_of_ble_eq_true rfl, Nat.le_of_ble_eq_true rfl⟩) <|
  zal_c (zi_ir (by decide +kernel) rfl) <|
  zal_n
set_option maxRecDepth 100000 in
set_option maxHeartbeats 4000000 in
theorem sn_M_of (l : Launch) : zAl l 120 tb_M_of :=
  zal_c (zi_aln (j := 0) (by decide +kernel) rfl rfl) <|
  zal_c (zi_iln (j := 1) (by decide +kernel) rfl rfl) <|
  zal_c (zi_cv (index := 94) (qc := (RX5, TX5, 17)) (by decide +kernel) rfl mk_M_isInlaw rfl wm_M_94 wq_M_isInlaw ww_M_isInlaw ⟨rfl, rfl⟩ ⟨Nat.le_of_ble_eq_true rfl, Nat.le_of_ble_eq_true rfl⟩) <|
  zal_c (zi_ifeq (off := 15) (by decide +kernel) rfl rfl) <|
  zal_c (zi_iln (j := 2) (by decide +kernel) rfl rfl) <|
  zal_c (zi_i2l (by decide +kernel) rfl) <|
  zal_c (zi_lconst (n := 0) (by decide +kernel) rfl rfl) <|
  zal_c (zi_ldc2 (n := 56) (by decide +kernel) rfl wc_M_56) <|
  zal_c (zi_cs (index := 52) (by decide +kernel) rfl mk_M_in wm_M_52 wq_M_in ⟨rfl, rfl⟩ ⟨Nat.le_of_ble_eq_true rfl, Nat.le_of_ble_eq_true rfl⟩) <|
  zal_c (zi_ifne (off := 10) (by decide +kernel) rfl rfl) <|
  zal_c (zi_aln (j := 0) (by decide +kernel) rfl rfl) <|
  zal_c (zi_ldc (n := 44) (by decide +kernel) rfl wc_M_44) <|
  zal_c (zi_cv (index := 69) (qc := (RX5, TX5, 17)) (by decide +kernel) rfl mk_M_finds rfl wm_M_69 wq_M_finds ww_M_finds ⟨rfl, rfl⟩ ⟨Nat.le_of_ble_eq_true rfl, Nat.le_of_ble_eq_true rfl⟩) <|
  zal_c (zi_ir (by decide +kernel) rfl) <|
  zal_c (zi_iln (j := 2) (by decide +kernel) rfl rfl) <|
  zal_c (zi_iconst (n := 4) (by decide +kernel) rfl rfl) <|
  zal_c (zi_cgt (off := 12) (by decide +kernel) rfl rfl) <|
  zal_c (zi_aln (j := 0) (by decide +kernel) rfl rfl) <|
  zal_c (zi_iln (j := 1) (by decide +kernel) rfl rfl) <|
  zal_c (zi_iln (j := 2) (by decide +kernel) rfl rfl) <|
  zal_c (zi_cv (index := 58) (qc := (RX5, TX5, 17)) (by decide +kernel) rfl mk_M_its rfl wm_M_58 wq_M_its ww_M_its ⟨rfl, rfl⟩ ⟨Nat.le_of_ble_eq_true rfl, Nat.le_of_ble_eq_true rfl⟩) <|
  zal_c (zi_goto (off := 8) (by decide +kernel) rfl) <|
  zal_c (zi_aln (j := 0) (by decide +kernel) rfl rfl) <|
  zal_c (zi_iln (j := 1) (by decide +kernel) rfl rfl) <|
  zal_c (zi_cv (index := 97) (qc := (RX5, TX5, 17)) (by decide +kernel) rfl mk_M_chills rfl wm_M_97 wq_M_chills ww_M_chills ⟨rfl, rfl⟩ ⟨Nat.le_of_ble_eq_true rfl, Nat.le_of_ble_eq_true rfl⟩) <|
  zal_c (zi_ir (by decide +kernel) rfl) <|
  zal_n
set_option maxRecDepth 100000 in
set_option maxHeartbeats 4000000 in
theorem sn_M_with (l : Launch) : zAl l 121 tb_M_with :=
  zal_c (zi_aln (j := 0) (by decide +kernel) rfl rfl) <|
  zal_c (zi_iln (j := 1) (by decide +kernel) rfl rfl) <|
  zal_c (zi_cv (index := 94) (qc := (RX5, TX5, 17)) (by decide +kernel) rfl mk_M_isInlaw rfl wm_M_94 wq_M_isInlaw ww_M_isInlaw ⟨rfl, rfl⟩ ⟨Nat.le_of_ble_eq_true rfl, Nat.le_of_ble_eq_true rfl⟩) <|
  zal_c (zi_ifeq (off := 23) (by decide +kernel) rfl rfl) <|
  zal_c (zi_aln (j := 0) (by decide +kernel) rfl rfl) <|
  zal_c (zi_iln (j := 2) (by decide +kernel) rfl rfl) <|
  zal_c (zi_cv (index := 100) (qc := (RX5, TX5, 17)) (by decide +kernel) rfl mk_M_isCouple rfl wm_M_100 wq_M_isCouple ww_M_isCouple ⟨rfl, rfl⟩ ⟨Nat.le_of_ble_eq_true rfl, Nat.le_of_ble_eq_true rfl⟩) <|
  zal_c (zi_ifeq (off := 15) (by decide +kernel) rfl rfl) <|
  zal_c (zi_iln (j := 3) (by decide +kernel) rfl rfl) <|
  zal_c (zi_i2l (by decide +kernel) rfl) <|
  zal_c (zi_lconst (n := 0) (by decide +kernel) rfl rfl) <|
  zal_c (zi_ldc2 (n := 103) (by decide +kernel) rfl wc_M_103) <|
  zal_c (zi_cs (index := 52) (by decide +kernel) rfl mk_M_in wm_M_52 wq_M_in ⟨rfl, rfl⟩ ⟨Nat.le_of_ble_eq_true rfl, Nat.le_of_ble_eq_true rfl⟩) <|
  zal_c (zi_ifne (off := 10) (by decide +kernel) rfl rfl) <|
  zal_c (zi_aln (j := 0) (by decide +kernel) rfl rfl) <|
  zal_c (zi_ldc (n := 44) (by decide +kernel) rfl wc_M_44) <|
  zal_c (zi_cv (index := 69) (qc := (RX5, TX5, 17)) (by decide +kernel) rfl mk_M_finds rfl wm_M_69 wq_M_finds ww_M_finds ⟨rfl, rfl⟩ ⟨Nat.le_of_ble_eq_true rfl, Nat.le_of_ble_eq_true rfl⟩) <|
  zal_c (zi_ir (by decide +kernel) rfl) <|
  zal_c (zi_iln (j := 3) (by decide +kernel) rfl rfl) <|
  zal_c (zi_ifne (off := 12) (by decide +kernel) rfl rfl) <|
  zal_c (zi_aln (j := 0) (by decide +kernel) rfl rfl) <|
  zal_c (zi_iln (j := 1) (by decide +kernel) rfl rfl) <|
  zal_c (zi_iln (j := 2) (by decide +kernel) rfl rfl) <|
  zal_c (zi_cv (index := 105) (qc := (RX5, TX5, 17)) (by decide +kernel) rfl mk_M_charms rfl wm_M_105 wq_M_charms ww_M_charms ⟨rfl, rfl⟩ ⟨Nat.le_of_ble_eq_true rfl, Nat.le_of_ble_eq_true rfl⟩) <|
  zal_c (zi_goto (off := 29) (by decide +kernel) rfl) <|
  zal_c (zi_iln (j := 3) (by decide +kernel) rfl rfl) <|
  zal_c (zi_iconst (n := 1) (by decide +kernel) rfl rfl) <|
  zal_c (zi_cne (off := 15) (by decide +kernel) rfl rfl) <|
  zal_c (zi_bipush (n := 100) (by decide +kernel) rfl rfl) <|
  zal_c (zi_aln (j := 0) (by decide +kernel) rfl rfl) <|
  zal_c (zi_iln (j := 1) (by decide +kernel) rfl rfl) <|
  zal_c (zi_iln (j := 2) (by decide +kernel) rfl rfl) <|
  zal_c (zi_cv (index := 108) (qc := (RX5, TX5, 17)) (by decide +kernel) rfl mk_M_does rfl wm_M_108 wq_M_does ww_M_does ⟨rfl, rfl⟩ ⟨Nat.le_of_ble_eq_true rfl, Nat.le_of_ble_eq_true rfl⟩) <|
  zal_c (zi_iadd (by decide +kernel) rfl) <|
  zal_c (zi_goto (off := 12) (by decide +kernel) rfl) <|
  zal_c (zi_bipush (n := 100) (by decide +kernel) rfl rfl) <|
  zal_c (zi_aln (j := 0) (by decide +kernel) rfl rfl) <|
  zal_c (zi_iln (j := 1) (by decide +kernel) rfl rfl) <|
  zal_c (zi_iln (j := 2) (by decide +kernel) rfl rfl) <|
  zal_c (zi_cv (index := 111) (qc := (RX5, TX5, 17)) (by decide +kernel) rfl mk_M_thaws rfl wm_M_111 wq_M_thaws ww_M_thaws ⟨rfl, rfl⟩ ⟨Nat.le_of_ble_eq_true rfl, Nat.le_of_ble_eq_true rfl⟩) <|
  zal_c (zi_iadd (by decide +kernel) rfl) <|
  zal_c (zi_ir (by decide +kernel) rfl) <|
  zal_n
set_option maxRecDepth 100000 in
set_option maxHeartbeats 4000000 in
theorem sn_M_set (l : Launch) : zAl l 122 tb_M_set :=
  zal_c (zi_iln (j := 2) (by decide +kernel) rfl rfl) <|
  zal_c (zi_i2l (by decide +kernel) rfl) <|
  zal_c (zi_lconst (n := 1) (by decide +kernel) rfl rfl) <|
  zal_c (zi_ldc2 (n := 114) (by decide +kernel) rfl wc_M_114) <|
  zal_c (zi_cs (index := 52) (by decide +kernel) rfl mk_M_in wm_M_52 wq_M_in ⟨rfl, rfl⟩ ⟨Nat.le_of_ble_eq_true rfl, Nat.le_of_ble_eq_true rfl⟩) <|
  zal_c (zi_ifeq (off := 39) (by decide +kernel) rfl rfl) <|
  zal_c (zi_iln (j := 3) (by decide +kernel) rfl rfl) <|
  zal_c (zi_i2l (by decide +kernel) rfl) <|
  zal_c (zi_lconst (n := 0) (by decide +kernel) rfl rfl) <|
  zal_c (zi_iln (j := 2) (by decide +kernel) rfl rfl) <|
  zal_c (zi_iconst (n := 1) (by decide +kernel) rfl rfl) <|
  zal_c (zi_cne (off := 9) (by decide +kernel) rfl rfl) <|
  zal_c (zi_ldc2 (n := 116) (by decide +kernel) rfl wc_M_116) <|
  zal_c (zi_goto (off := 15) (by decide +kernel) rfl) <|
  zal_c (zi_iln (j := 2) (by decide +kernel) rfl rfl) <|
  zal_c (zi_iconst (n := 2) (by decide +kernel) rfl rfl) <|
  zal_c (zi_cne (off := 7) (by decide +kernel) rfl rfl) <|
  zal_c (zi_lconst (n := 1) (by decide +kernel) rfl rfl) <|
  zal_c (zi_goto (off := 6) (by decide +kernel) rfl) <|
  zal_c (zi_ldc2 (n := 118) (by decide +kernel) rfl wc_M_118) <|
  zal_c (zi_cs (index := 52) (by decide +kernel) rfl mk_M_in wm_M_52 wq_M_in ⟨rfl, rfl⟩ ⟨Nat.le_of_ble_eq_true rfl, Nat.le_of_ble_eq_true rfl⟩) <|
  zal_c (zi_ifeq (off := 7) (by decide +kernel) rfl rfl) <|
  zal_c (zi_iconst (n := 1) (by decide +kernel) rfl rfl) <|
  zal_c (zi_goto (off := 4) (by decide +kernel) rfl) <|
  zal_c (zi_iconst (n := 0) (by decide +kernel) rfl rfl) <|
  zal_c (zi_is (by decide +kernel) rfl (Nat.le_of_ble_eq_true rfl)) <|
  zal_c (zi_aln (j := 0) (by decide +kernel) rfl rfl) <|
  zal_c (zi_iln (j := 1) (by decide +kernel) rfl rfl) <|
  zal_c (zi_cv (index := 94) (qc := (RX5, TX5, 17)) (by decide +kernel) rfl mk_M_isInlaw rfl wm_M_94 wq_M_isInlaw ww_M_isInlaw ⟨rfl, rfl⟩ ⟨Nat.le_of_ble_eq_true rfl, Nat.le_of_ble_eq_true rfl⟩) <|
  zal_c (zi_ifeq (off := 21) (by decide +kernel) rfl rfl) <|
  zal_c (zi_il (by decide +kernel) rfl) <|
  zal_c (zi_ifeq (off := 16) (by decide +kernel) rfl rfl) <|
  zal_c (zi_aln (j := 0) (by decide +kernel) rfl rfl) <|
  zal_c (zi_iln (j := 1) (by decide +kernel) rfl rfl) <|
  zal_c (zi_iln (j := 2) (by decide +kernel) rfl rfl) <|
  zal_c (zi_cs (index := 45) (by decide +kernel) rfl mk_M_spot wm_M_45 wq_M_spot ⟨rfl, rfl⟩ ⟨Nat.le_of_ble_eq_true rfl, Nat.le_of_ble_eq_true rfl⟩) <|
  zal_c (zi_iln (j := 3) (by decide +kernel) rfl rfl) <|
  zal_c (zi_cv (index := 66) (qc := (RX5, TX5, 17)) (by decide +kernel) rfl mk_M_becomes rfl wm_M_66 wq_M_becomes ww_M_becomes ⟨rfl, rfl⟩ ⟨Nat.le_of_ble_eq_true rfl, Nat.le_of_ble_eq_true rfl⟩) <|
  zal_c (zi_goto (off := 9) (by decide +kernel) rfl) <|
  zal_c (zi_aln (j := 0) (by decide +kernel) rfl rfl) <|
  zal_c (zi_ldc (n := 44) (by decide +kernel) rfl wc_M_44) <|
  zal_c (zi_cv (index := 69) (qc := (RX5, TX5, 17)) (by decide +kernel) rfl mk_M_finds rfl wm_M_69 wq_M_finds ww_M_finds ⟨rfl, rfl⟩ ⟨Nat.le_of_ble_eq_true rfl, Nat.le_of_ble_eq_true rfl⟩) <|
  zal_c (zi_ir (by decide +kernel) rfl) <|
  zal_n
set_option maxRecDepth 100000 in
set_option maxHeartbeats 4000000 in
theorem sn_M_turn (l : Launch) : zAl l 123 tb_M_turn :=
  zal_c (zi_aln (j := 0) (by decide +kernel) rfl rfl) <|
  zal_c (zi_iln (j := 1) (by decide +kernel) rfl rfl) <|
  zal_c (zi_cv (index := 94) (qc := (RX5, TX5, 17)) (by decide +kernel) rfl mk_M_isInlaw rfl wm_M_94 wq_M_isInlaw ww_M_isInlaw ⟨rfl, rfl⟩ ⟨Nat.le_of_ble_eq_true rfl, Nat.le_of_ble_eq_true rfl⟩) <|
  zal_c (zi_ifeq (off := 23) (by decide +kernel) rfl rfl) <|
  zal_c (zi_iln (j := 2) (by decide +kernel) rfl rfl) <|
  zal_c (zi_cs (index := 86) (by decide +kernel) rfl mk_M_isKind wm_M_86 wq_M_isKind ⟨rfl, rfl⟩ ⟨Nat.le_of_ble_eq_true rfl, Nat.le_of_ble_eq_true rfl⟩) <|
  zal_c (zi_ifeq (off := 16) (by decide +kernel) rfl rfl) <|
  zal_c (zi_aln (j := 0) (by decide +kernel) rfl rfl) <|
  zal_c (zi_iln (j := 1) (by decide +kernel) rfl rfl) <|
  zal_c (zi_iconst (n := 0) (by decide +kernel) rfl rfl) <|
  zal_c (zi_cs (index := 45) (by decide +kernel) rfl mk_M_spot wm_M_45 wq_M_spot ⟨rfl, rfl⟩ ⟨Nat.le_of_ble_eq_true rfl, Nat.le_of_ble_eq_true rfl⟩) <|
  zal_c (zi_iln (j := 2) (by decide +kernel) rfl rfl) <|
  zal_c (zi_cv (index := 66) (qc := (RX5, TX5, 17)) (by decide +kernel) rfl mk_M_becomes rfl wm_M_66 wq_M_becomes ww_M_becomes ⟨rfl, rfl⟩ ⟨Nat.le_of_ble_eq_true rfl, Nat.le_of_ble_eq_true rfl⟩) <|
  zal_c (zi_goto (off := 9) (by decide +kernel) rfl) <|
  zal_c (zi_aln (j := 0) (by decide +kernel) rfl rfl) <|
  zal_c (zi_ldc (n := 44) (by decide +kernel) rfl wc_M_44) <|
  zal_c (zi_cv (index := 69) (qc := (RX5, TX5, 17)) (by decide +kernel) rfl mk_M_finds rfl wm_M_69 wq_M_finds ww_M_finds ⟨rfl, rfl⟩ ⟨Nat.le_of_ble_eq_true rfl, Nat.le_of_ble_eq_true rfl⟩) <|
  zal_c (zi_ir (by decide +kernel) rfl) <|
  zal_n
set_option maxRecDepth 100000 in
set_option maxHeartbeats 4000000 in
theorem sn_M_isUnder (l : Launch) : zAl l 124 tb_M_isUnder :=
  zal_c (zi_iln (j := 1) (by decide +kernel) rfl rfl) <|
  zal_c (zi_ifeq (off := 28) (by decide +kernel) rfl rfl) <|
  zal_c (zi_iln (j := 0) (by decide +kernel) rfl rfl) <|
  zal_c (zi_iln (j := 1) (by decide +kernel) rfl rfl) <|
  zal_c (zi_ceq (off := 23) (by decide +kernel) rfl rfl) <|
  zal_c (zi_iln (j := 0) (by decide +kernel) rfl rfl) <|
  zal_c (zi_iconst (n := 4) (by decide +kernel) rfl rfl) <|
  zal_c (zi_cne (off := 8) (by decide +kernel) rfl rfl) <|
  zal_c (zi_iln (j := 1) (by decide +kernel) rfl rfl) <|
  zal_c (zi_iconst (n := 1) (by decide +kernel) rfl rfl) <|
  zal_c (zi_ceq (off := 13) (by decide +kernel) rfl rfl) <|
  zal_c (zi_iln (j := 0) (by decide +kernel) rfl rfl) <|
  zal_c (zi_iconst (n := 5) (by decide +kernel) rfl rfl) <|
  zal_c (zi_cne (off := 12) (by decide +kernel) rfl rfl) <|
  zal_c (zi_iln (j := 1) (by decide +kernel) rfl rfl) <|
  zal_c (zi_iconst (n := 2) (by decide +kernel) rfl rfl) <|
  zal_c (zi_cne (off := 7) (by decide +kernel) rfl rfl) <|
  zal_c (zi_iconst (n := 1) (by decide +kernel) rfl rfl) <|
  zal_c (zi_goto (off := 4) (by decide +kernel) rfl) <|
  zal_c (zi_iconst (n := 0) (by decide +kernel) rfl rfl) <|
  zal_c (zi_zr (by decide +kernel) rfl) <|
  zal_n
set_option maxRecDepth 100000 in
set_option maxHeartbeats 4000000 in
theorem sn_M_as (l : Launch) : zAl l 125 tb_M_as :=
  zal_c (zi_aln (j := 0) (by decide +kernel) rfl rfl) <|
  zal_c (zi_iln (j := 1) (by decide +kernel) rfl rfl) <|
  zal_c (zi_cv (index := 94) (qc := (RX5, TX5, 17)) (by decide +kernel) rfl mk_M_isInlaw rfl wm_M_94 wq_M_isInlaw ww_M_isInlaw ⟨rfl, rfl⟩ ⟨Nat.le_of_ble_eq_true rfl, Nat.le_of_ble_eq_true rfl⟩) <|
  zal_c (zi_ifeq (off := 10) (by decide +kernel) rfl rfl) <|
  zal_c (zi_iln (j := 2) (by decide +kernel) rfl rfl) <|
  zal_c (zi_cs (index := 86) (by decide +kernel) rfl mk_M_isKind wm_M_86 wq_M_isKind ⟨rfl, rfl⟩ ⟨Nat.le_of_ble_eq_true rfl, Nat.le_of_ble_eq_true rfl⟩) <|
  zal_c (zi_ifne (off := 10) (by decide +kernel) rfl rfl) <|
  zal_c (zi_aln (j := 0) (by decide +kernel) rfl rfl) <|
  zal_c (zi_ldc (n := 44) (by decide +kernel) rfl wc_M_44) <|
  zal_c (zi_cv (index := 69) (qc := (RX5, TX5, 17)) (by decide +kernel) rfl mk_M_finds rfl wm_M_69 wq_M_finds ww_M_finds ⟨rfl, rfl⟩ ⟨Nat.le_of_ble_eq_true rfl, Nat.le_of_ble_eq_true rfl⟩) <|
  zal_c (zi_ir (by decide +kernel) rfl) <|
  zal_c (zi_aln (j := 0) (by decide +kernel) rfl rfl) <|
  zal_c (zi_iln (j := 1) (by decide +kernel) rfl rfl) <|
  zal_c (zi_iconst (n := 0) (by decide +kernel) rfl rfl) <|
  zal_c (zi_cv (index := 58) (qc := (RX5, TX5, 17)) (by decide +kernel) rfl mk_M_its rfl wm_M_58 wq_M_its ww_M_its ⟨rfl, rfl⟩ ⟨Nat.le_of_ble_eq_true rfl, Nat.le_of_ble_eq_true rfl⟩) <|
  zal_c (zi_iln (j := 2) (by decide +kernel) rfl rfl) <|
  zal_c (zi_cs (index := 120) (by decide +kernel) rfl mk_M_isUnder wm_M_120 wq_M_isUnder ⟨rfl, rfl⟩ ⟨Nat.le_of_ble_eq_true rfl, Nat.le_of_ble_eq_true rfl⟩) <|
  zal_c (zi_ifeq (off := 12) (by decide +kernel) rfl rfl) <|
  zal_c (zi_aln (j := 0) (by decide +kernel) rfl rfl) <|
  zal_c (zi_iln (j := 1) (by decide +kernel) rfl rfl) <|
  zal_c (zi_iconst (n := 1) (by decide +kernel) rfl rfl) <|
  zal_c (zi_cv (index := 58) (qc := (RX5, TX5, 17)) (by decide +kernel) rfl mk_M_its rfl wm_M_58 wq_M_its ww_M_its ⟨rfl, rfl⟩ ⟨Nat.le_of_ble_eq_true rfl, Nat.le_of_ble_eq_true rfl⟩) <|
  zal_c (zi_goto (off := 9) (by decide +kernel) rfl) <|
  zal_c (zi_aln (j := 0) (by decide +kernel) rfl rfl) <|
  zal_c (zi_ldc (n := 124) (by decide +kernel) rfl wc_M_124) <|
  zal_c (zi_cv (index := 69) (qc := (RX5, TX5, 17)) (by decide +kernel) rfl mk_M_finds rfl wm_M_69 wq_M_finds ww_M_finds ⟨rfl, rfl⟩ ⟨Nat.le_of_ble_eq_true rfl, Nat.le_of_ble_eq_true rfl⟩) <|
  zal_c (zi_ir (by decide +kernel) rfl) <|
  zal_n
set_option maxRecDepth 100000 in
set_option maxHeartbeats 4000000 in
theorem sn_M_addsCouple (l : Launch) : zAl l 126 tb_M_addsCouple :=
  zal_c (zi_aln (j := 0) (by decide +kernel) rfl rfl) <|
  zal_c (zi_get (CN := RX5) (T := TX5) (N := 17) (index := 7) (by decide +kernel) rfl rfl (by decide) uw_X5 wf_M_7) <|
  zal_c (zi_iconst (n := 3) (by decide +kernel) rfl rfl) <|
  zal_c (zi_iald (by decide +kernel) rfl) <|
  zal_c (zi_isn (j := 2) (by decide +kernel) rfl rfl (Nat.le_of_ble_eq_true rfl)) <|
  zal_c (zi_aln (j := 0) (by decide +kernel) rfl rfl) <|
  zal_c (zi_get (CN := RX5) (T := TX5) (N := 17) (index := 7) (by decide +kernel) rfl rfl (by decide) uw_X5 wf_M_7) <|
  zal_c (zi_iconst (n := 3) (by decide +kernel) rfl rfl) <|
  zal_c (zi_dup2 (by decide +kernel) rfl) <|
  zal_c (zi_iald (by decide +kernel) rfl) <|
  zal_c (zi_iconst (n := 1) (by decide +kernel) rfl rfl) <|
  zal_c (zi_iadd (by decide +kernel) rfl) <|
  zal_c (zi_iast (by decide +kernel) rfl) <|
  zal_c (zi_aln (j := 0) (by decide +kernel) rfl rfl) <|
  zal_c (zi_get (CN := RX5) (T := TX5) (N := 17) (index := 7) (by decide +kernel) rfl rfl (by decide) uw_X5 wf_M_7) <|
  zal_c (zi_iln (j := 2) (by decide +kernel) rfl rfl) <|
  zal_c (zi_iconst (n := 0) (by decide +kernel) rfl rfl) <|
  zal_c (zi_cs (index := 49) (by decide +kernel) rfl mk_M_coupleSpot wm_M_49 wq_M_coupleSpot ⟨rfl, rfl⟩ ⟨Nat.le_of_ble_eq_true rfl, Nat.le_of_ble_eq_true rfl⟩) <|
  zal_c (zi_iln (j := 1) (by decide +kernel) rfl rfl) <|
  zal_c (zi_iast (by decide +kernel) rfl) <|
  zal_c (zi_aln (j := 0) (by decide +kernel) rfl rfl) <|
  zal_c (zi_get (CN := RX5) (T := TX5) (N := 17) (index := 7) (by decide +kernel) rfl rfl (by decide) uw_X5 wf_M_7) <|
  zal_c (zi_iln (j := 2) (by decide +kernel) rfl rfl) <|
  zal_c (zi_iconst (n := 1) (by decide +kernel) rfl rfl) <|
  zal_c (zi_cs (index := 49) (by decide +kernel) rfl mk_M_coupleSpot wm_M_49 wq_M_coupleSpot ⟨rfl, rfl⟩ ⟨Nat.le_of_ble_eq_true rfl, Nat.le_of_ble_eq_true rfl⟩) <|
  zal_c (zi_iconst (n := 0) (by decide +kernel) rfl rfl) <|
  zal_c (zi_iast (by decide +kernel) rfl) <|
  zal_c (zi_aln (j := 0) (by decide +kernel) rfl rfl) <|
  zal_c (zi_get (CN := RX5) (T := TX5) (N := 17) (index := 7) (by decide +kernel) rfl rfl (by decide) uw_X5 wf_M_7) <|
  zal_c (zi_iln (j := 2) (by decide +kernel) rfl rfl) <|
  zal_c (zi_iconst (n := 2) (by decide +kernel) rfl rfl) <|
  zal_c (zi_cs (index := 49) (by decide +kernel) rfl mk_M_coupleSpot wm_M_49 wq_M_coupleSpot ⟨rfl, rfl⟩ ⟨Nat.le_of_ble_eq_true rfl, Nat.le_of_ble_eq_true rfl⟩) <|
  zal_c (zi_iconst (n := -1) (by decide +kernel) rfl rfl) <|
  zal_c (zi_iast (by decide +kernel) rfl) <|
  zal_c (zi_iln (j := 2) (by decide +kernel) rfl rfl) <|
  zal_c (zi_ir (by decide +kernel) rfl) <|
  zal_n
set_option maxRecDepth 100000 in
set_option maxHeartbeats 4000000 in
theorem sn_M_couple (l : Launch) : zAl l 127 tb_M_couple :=
  zal_c (zi_iln (j := 1) (by decide +kernel) rfl rfl) <|
  zal_c (zi_i2l (by decide +kernel) rfl) <|
  zal_c (zi_lconst (n := 0) (by decide +kernel) rfl rfl) <|
  zal_c (zi_ldc2 (n := 125) (by decide +kernel) rfl wc_M_125) <|
  zal_c (zi_cs (index := 52) (by decide +kernel) rfl mk_M_in wm_M_52 wq_M_in ⟨rfl, rfl⟩ ⟨Nat.le_of_ble_eq_true rfl, Nat.le_of_ble_eq_true rfl⟩) <|
  zal_c (zi_ifne (off := 10) (by decide +kernel) rfl rfl) <|
  zal_c (zi_aln (j := 0) (by decide +kernel) rfl rfl) <|
  zal_c (zi_ldc (n := 44) (by decide +kernel) rfl wc_M_44) <|
  zal_c (zi_cv (index := 69) (qc := (RX5, TX5, 17)) (by decide +kernel) rfl mk_M_finds rfl wm_M_69 wq_M_finds ww_M_finds ⟨rfl, rfl⟩ ⟨Nat.le_of_ble_eq_true rfl, Nat.le_of_ble_eq_true rfl⟩) <|
  zal_c (zi_ir (by decide +kernel) rfl) <|
  zal_c (zi_aln (j := 0) (by decide +kernel) rfl rfl) <|
  zal_c (zi_get (CN := RX5) (T := TX5) (N := 17) (index := 7) (by decide +kernel) rfl rfl (by decide) uw_X5 wf_M_7) <|
  zal_c (zi_iconst (n := 3) (by decide +kernel) rfl rfl) <|
  zal_c (zi_iald (by decide +kernel) rfl) <|
  zal_c (zi_bipush (n := 8) (by decide +kernel) rfl rfl) <|
  zal_c (zi_cne (off := 12) (by decide +kernel) rfl rfl) <|
  zal_c (zi_aln (j := 0) (by decide +kernel) rfl rfl) <|
  zal_c (zi_ldc (n := 90) (by decide +kernel) rfl wc_M_90) <|
  zal_c (zi_cv (index := 69) (qc := (RX5, TX5, 17)) (by decide +kernel) rfl mk_M_finds rfl wm_M_69 wq_M_finds ww_M_finds ⟨rfl, rfl⟩ ⟨Nat.le_of_ble_eq_true rfl, Nat.le_of_ble_eq_true rfl⟩) <|
  zal_c (zi_goto (off := 8) (by decide +kernel) rfl) <|
  zal_c (zi_aln (j := 0) (by decide +kernel) rfl rfl) <|
  zal_c (zi_iln (j := 1) (by decide +kernel) rfl rfl) <|
  zal_c (zi_cv (index := 127) (qc := (RX5, TX5, 17)) (by decide +kernel) rfl mk_M_addsCouple rfl wm_M_127 wq_M_addsCouple ww_M_addsCouple ⟨rfl, rfl⟩ ⟨Nat.le_of_ble_eq_true rfl, Nat.le_of_ble_eq_true rfl⟩) <|
  zal_c (zi_ir (by decide +kernel) rfl) <|
  zal_n
set_option maxRecDepth 100000 in
set_option maxHeartbeats 4000000 in
theorem sn_M_hasNow (l : Launch) : zAl l 128 tb_M_hasNow :=
  zal_c (zi_aln (j := 0) (by decide +kernel) rfl rfl) <|
  zal_c (zi_cv (index := 130) (qc := (RX5, TX5, 17)) (by decide +kernel) rfl mk_M_laysAside rfl wm_M_130 wq_M_laysAside ww_M_laysAside ⟨rfl, rfl⟩ ⟨Nat.le_of_ble_eq_true rfl, Nat.le_of_ble_eq_true rfl⟩) <|
  zal_c (zi_aln (j := 0) (by decide +kernel) rfl rfl) <|
  zal_c (zi_cv (index := 133) (qc := (RX5, TX5, 17)) (by decide +kernel) rfl mk_M_sunday rfl wm_M_133 wq_M_sunday ww_M_sunday ⟨rfl, rfl⟩ ⟨Nat.le_of_ble_eq_true rfl, Nat.le_of_ble_eq_true rfl⟩) <|
  zal_c (zi_aln (j := 0) (by decide +kernel) rfl rfl) <|
  zal_c (zi_aln (j := 0) (by decide +kernel) rfl rfl) <|
  zal_c (zi_get (CN := RX5) (T := TX5) (N := 17) (index := 25) (by decide +kernel) rfl rfl (by decide) uw_X5 wf_M_25) <|
  zal_c (zi_iln (j := 1) (by decide +kernel) rfl rfl) <|
  zal_c (zi_iald (by decide +kernel) rfl) <|
  zal_c (zi_cv (index := 136) (qc := (RX5, TX5, 17)) (by decide +kernel) rfl mk_M_takesBack rfl wm_M_136 wq_M_takesBack ww_M_takesBack ⟨rfl, rfl⟩ ⟨Nat.le_of_ble_eq_true rfl, Nat.le_of_ble_eq_true rfl⟩) <|
  zal_c (zi_ir (by decide +kernel) rfl) <|
  zal_n
set_option maxRecDepth 100000 in
set_option maxHeartbeats 4000000 in
theorem sn_M_coupleOf (l : Launch) : zAl l 129 tb_M_coupleOf :=
  zal_c (zi_aln (j := 0) (by decide +kernel) rfl rfl) <|
  zal_c (zi_iln (j := 1) (by decide +kernel) rfl rfl) <|
  zal_c (zi_cv (index := 100) (qc := (RX5, TX5, 17)) (by decide +kernel) rfl mk_M_isCouple rfl wm_M_100 wq_M_isCouple ww_M_isCouple ⟨rfl, rfl⟩ ⟨Nat.le_of_ble_eq_true rfl, Nat.le_of_ble_eq_true rfl⟩) <|
  zal_c (zi_ifeq (off := 15) (by decide +kernel) rfl rfl) <|
  zal_c (zi_iln (j := 2) (by decide +kernel) rfl rfl) <|
  zal_c (zi_i2l (by decide +kernel) rfl) <|
  zal_c (zi_lconst (n := 0) (by decide +kernel) rfl rfl) <|
  zal_c (zi_ldc2 (n := 139) (by decide +kernel) rfl wc_M_139) <|
  zal_c (zi_cs (index := 52) (by decide +kernel) rfl mk_M_in wm_M_52 wq_M_in ⟨rfl, rfl⟩ ⟨Nat.le_of_ble_eq_true rfl, Nat.le_of_ble_eq_true rfl⟩) <|
  zal_c (zi_ifne (off := 10) (by decide +kernel) rfl rfl) <|
  zal_c (zi_aln (j := 0) (by decide +kernel) rfl rfl) <|
  zal_c (zi_ldc (n := 44) (by decide +kernel) rfl wc_M_44) <|
  zal_c (zi_cv (index := 69) (qc := (RX5, TX5, 17)) (by decide +kernel) rfl mk_M_finds rfl wm_M_69 wq_M_finds ww_M_finds ⟨rfl, rfl⟩ ⟨Nat.le_of_ble_eq_true rfl, Nat.le_of_ble_eq_true rfl⟩) <|
  zal_c (zi_ir (by decide +kernel) rfl) <|
  zal_c (zi_iln (j := 2) (by decide +kernel) rfl rfl) <|
  zal_c (zi_iconst (n := 3) (by decide +kernel) rfl rfl) <|
  zal_c (zi_cne (off := 11) (by decide +kernel) rfl rfl) <|
  zal_c (zi_aln (j := 0) (by decide +kernel) rfl rfl) <|
  zal_c (zi_iln (j := 1) (by decide +kernel) rfl rfl) <|
  zal_c (zi_cv (index := 141) (qc := (RX5, TX5, 17)) (by decide +kernel) rfl mk_M_hasNow rfl wm_M_141 wq_M_hasNow ww_M_hasNow ⟨rfl, rfl⟩ ⟨Nat.le_of_ble_eq_true rfl, Nat.le_of_ble_eq_true rfl⟩) <|
  zal_c (zi_goto (off := 27) (by decide +kernel) rfl) <|
  zal_c (zi_iln (j := 2) (by decide +kernel) rfl rfl) <|
  zal_c (zi_iconst (n := 1) (by decide +kernel) rfl rfl) <|
  zal_c (zi_cne (off := 16) (by decide +kernel) rfl rfl) <|
  zal_c (zi_sipush (n := 10000) (by decide +kernel) rfl rfl) <|
  zal_c (zi_aln (j := 0) (by decide +kernel) rfl rfl) <|
  zal_c (zi_iln (j := 1) (by decide +kernel) rfl rfl) <|
  zal_c (zi_iconst (n := 1) (by decide +kernel) rfl rfl) <|
  zal_c (zi_cv (index := 61) (qc := (RX5, TX5, 17)) (by decide +kernel) rfl mk_M_theirs rfl wm_M_61 wq_M_theirs ww_M_theirs ⟨rfl, rfl⟩ ⟨Nat.le_of_ble_eq_true rfl, Nat.le_of_ble_eq_true rfl⟩) <|
  zal_c (zi_iadd (by decide +kernel) rfl) <|
  zal_c (zi_goto (off := 9) (by decide +kernel) rfl) <|
  zal_c (zi_aln (j := 0) (by decide +kernel) rfl rfl) <|
  zal_c (zi_iln (j := 1) (by decide +kernel) rfl rfl) <|
  zal_c (zi_iln (j := 2) (by decide +kernel) rfl rfl) <|
  zal_c (zi_cv (index := 61) (qc := (RX5, TX5, 17)) (by decide +kernel) rfl mk_M_theirs rfl wm_M_61 wq_M_theirs ww_M_theirs ⟨rfl, rfl⟩ ⟨Nat.le_of_ble_eq_true rfl, Nat.le_of_ble_eq_true rfl⟩) <|
  zal_c (zi_ir (by decide +kernel) rfl) <|
  zal_n
set_option maxRecDepth 100000 in
set_option maxHeartbeats 4000000 in
theorem sn_M_give (l : Launch) : zAl l 130 tb_M_give :=
  zal_c (zi_iln (j := 2) (by decide +kernel) rfl rfl) <|
  zal_c (zi_ifne (off := 15) (by decide +kernel) rfl rfl) <|
  zal_c (zi_iln (j := 3) (by decide +kernel) rfl rfl) <|
  zal_c (zi_i2l (by decide +kernel) rfl) <|
  zal_c (zi_lconst (n := 0) (by decide +kernel) rfl rfl) <|
  zal_c (zi_ldc2 (n := 125) (by decide +kernel) rfl wc_M_125) <|
  zal_c (zi_cs (index := 52) (by decide +kernel) rfl mk_M_in wm_M_52 wq_M_in ⟨rfl, rfl⟩ ⟨Nat.le_of_ble_eq_true rfl, Nat.le_of_ble_eq_true rfl⟩) <|
  zal_c (zi_goto (off := 52) (by decide +kernel) rfl) <|
  zal_c (zi_iln (j := 2) (by decide +kernel) rfl rfl) <|
  zal_c (zi_iconst (n := 1) (by decide +kernel) rfl rfl) <|
  zal_c (zi_cne (off := 17) (by decide +kernel) rfl rfl) <|
  zal_c (zi_iln (j := 3) (by decide +kernel) rfl rfl) <|
  zal_c (zi_i2l (by decide +kernel) rfl) <|
  zal_c (zi_ldc2 (n := 144) (by decide +kernel) rfl wc_M_144) <|
  zal_c (zi_ldc2 (n := 146) (by decide +kernel) rfl wc_M_146) <|
  zal_c (zi_cs (index := 52) (by decide +kernel) rfl mk_M_in wm_M_52 wq_M_in ⟨rfl, rfl⟩ ⟨Nat.le_of_ble_eq_true rfl, Nat.le_of_ble_eq_true rfl⟩) <|
  zal_c (zi_goto (off := 33) (by decide +kernel) rfl) <|
  zal_c (zi_iln (j := 2) (by decide +kernel) rfl rfl) <|
  zal_c (zi_iconst (n := 2) (by decide +kernel) rfl rfl) <|
  zal_c (zi_cne (off := 27) (by decide +kernel) rfl rfl) <|
  zal_c (zi_iln (j := 3) (by decide +kernel) rfl rfl) <|
  zal_c (zi_i2l (by decide +kernel) rfl) <|
  zal_c (zi_ldc2 (n := 148) (by decide +kernel) rfl wc_M_148) <|
  zal_c (zi_aln (j := 0) (by decide +kernel) rfl rfl) <|
  zal_c (zi_get (CN := RX5) (T := TX5) (N := 17) (index := 7) (by decide +kernel) rfl rfl (by decide) uw_X5 wf_M_7) <|
  zal_c (zi_iconst (n := 2) (by decide +kernel) rfl rfl) <|
  zal_c (zi_iald (by decide +kernel) rfl) <|
  zal_c (zi_iconst (n := 1) (by decide +kernel) rfl rfl) <|
  zal_c (zi_isub (by decide +kernel) rfl) <|
  zal_c (zi_i2l (by decide +kernel) rfl) <|
  zal_c (zi_cs (index := 52) (by decide +kernel) rfl mk_M_in wm_M_52 wq_M_in ⟨rfl, rfl⟩ ⟨Nat.le_of_ble_eq_true rfl, Nat.le_of_ble_eq_true rfl⟩) <|
  zal_c (zi_ifeq (off := 7) (by decide +kernel) rfl rfl) <|
  zal_c (zi_iconst (n := 1) (by decide +kernel) rfl rfl) <|
  zal_c (zi_goto (off := 4) (by decide +kernel) rfl) <|
  zal_c (zi_iconst (n := 0) (by decide +kernel) rfl rfl) <|
  zal_c (zi_is (by decide +kernel) rfl (Nat.le_of_ble_eq_true rfl)) <|
  zal_c (zi_aln (j := 0) (by decide +kernel) rfl rfl) <|
  zal_c (zi_iln (j := 1) (by decide +kernel) rfl rfl) <|
  zal_c (zi_cv (index := 100) (qc := (RX5, TX5, 17)) (by decide +kernel) rfl mk_M_isCouple rfl wm_M_100 wq_M_isCouple ww_M_isCouple ⟨rfl, rfl⟩ ⟨Nat.le_of_ble_eq_true rfl, Nat.le_of_ble_eq_true rfl⟩) <|
  zal_c (zi_ifeq (off := 21) (by decide +kernel) rfl rfl) <|
  zal_c (zi_il (by decide +kernel) rfl) <|
  zal_c (zi_ifeq (off := 16) (by decide +kernel) rfl rfl) <|
  zal_c (zi_aln (j := 0) (by decide +kernel) rfl rfl) <|
  zal_c (zi_iln (j := 1) (by decide +kernel) rfl rfl) <|
  zal_c (zi_iln (j := 2) (by decide +kernel) rfl rfl) <|
  zal_c (zi_cs (index := 49) (by decide +kernel) rfl mk_M_coupleSpot wm_M_49 wq_M_coupleSpot ⟨rfl, rfl⟩ ⟨Nat.le_of_ble_eq_true rfl, Nat.le_of_ble_eq_true rfl⟩) <|
  zal_c (zi_iln (j := 3) (by decide +kernel) rfl rfl) <|
  zal_c (zi_cv (index := 66) (qc := (RX5, TX5, 17)) (by decide +kernel) rfl mk_M_becomes rfl wm_M_66 wq_M_becomes ww_M_becomes ⟨rfl, rfl⟩ ⟨Nat.le_of_ble_eq_true rfl, Nat.le_of_ble_eq_true rfl⟩) <|
  zal_c (zi_goto (off := 9) (by decide +kernel) rfl) <|
  zal_c (zi_aln (j := 0) (by decide +kernel) rfl rfl) <|
  zal_c (zi_ldc (n := 44) (by decide +kernel) rfl wc_M_44) <|
  zal_c (zi_cv (index := 69) (qc := (RX5, TX5, 17)) (by decide +kernel) rfl mk_M_finds rfl wm_M_69 wq_M_finds ww_M_finds ⟨rfl, rfl⟩ ⟨Nat.le_of_ble_eq_true rfl, Nat.le_of_ble_eq_true rfl⟩) <|
  zal_c (zi_ir (by decide +kernel) rfl) <|
  zal_n
set_option maxRecDepth 100000 in
set_option maxHeartbeats 4000000 in
theorem sn_M_charmer (l : Launch) : zAl l 131 tb_M_charmer :=
  zal_c (zi_iconst (n := -1) (by decide +kernel) rfl rfl) <|
  zal_c (zi_isn (j := 3) (by decide +kernel) rfl rfl (Nat.le_of_ble_eq_true rfl)) <|
  zal_c (zi_iconst (n := 0) (by decide +kernel) rfl rfl) <|
  zal_c (zi_is (by decide +kernel) rfl (Nat.le_of_ble_eq_true rfl)) <|
  zal_c (zi_il (by decide +kernel) rfl) <|
  zal_c (zi_aln (j := 0) (by decide +kernel) rfl rfl) <|
  zal_c (zi_get (CN := RX5) (T := TX5) (N := 17) (index := 7) (by decide +kernel) rfl rfl (by decide) uw_X5 wf_M_7) <|
  zal_c (zi_iconst (n := 2) (by decide +kernel) rfl rfl) <|
  zal_c (zi_iald (by decide +kernel) rfl) <|
  zal_c (zi_cge (off := 68) (by decide +kernel) rfl rfl) <|
  zal_c (zi_iln (j := 2) (by decide +kernel) rfl rfl) <|
  zal_c (zi_il (by decide +kernel) rfl) <|
  zal_c (zi_ishr (by decide +kernel) rfl) <|
  zal_c (zi_iconst (n := 1) (by decide +kernel) rfl rfl) <|
  zal_c (zi_iand (by decide +kernel) rfl) <|
  zal_c (zi_ifne (off := 17) (by decide +kernel) rfl rfl) <|
  zal_c (zi_aln (j := 0) (by decide +kernel) rfl rfl) <|
  zal_c (zi_il (by decide +kernel) rfl) <|
  zal_c (zi_iconst (n := 2) (by decide +kernel) rfl rfl) <|
  zal_c (zi_cv (index := 58) (qc := (RX5, TX5, 17)) (by decide +kernel) rfl mk_M_its rfl wm_M_58 wq_M_its ww_M_its ⟨rfl, rfl⟩ ⟨Nat.le_of_ble_eq_true rfl, Nat.le_of_ble_eq_true rfl⟩) <|
  zal_c (zi_ifne (off := 7) (by decide +kernel) rfl rfl) <|
  zal_c (zi_iconst (n := 1) (by decide +kernel) rfl rfl) <|
  zal_c (zi_goto (off := 4) (by decide +kernel) rfl) <|
  zal_c (zi_iconst (n := 0) (by decide +kernel) rfl rfl) <|
  zal_c (zi_is (by decide +kernel) rfl (Nat.le_of_ble_eq_true rfl)) <|
  zal_c (zi_il (by decide +kernel) rfl) <|
  zal_c (zi_ifeq (off := 29) (by decide +kernel) rfl rfl) <|
  zal_c (zi_iln (j := 3) (by decide +kernel) rfl rfl) <|
  zal_c (zi_iconst (n := -1) (by decide +kernel) rfl rfl) <|
  zal_c (zi_ceq (off := 19) (by decide +kernel) rfl rfl) <|
  zal_c (zi_aln (j := 0) (by decide +kernel) rfl rfl) <|
  zal_c (zi_il (by decide +kernel) rfl) <|
  zal_c (zi_iln (j := 1) (by decide +kernel) rfl rfl) <|
  zal_c (zi_cv (index := 105) (qc := (RX5, TX5, 17)) (by decide +kernel) rfl mk_M_charms rfl wm_M_105 wq_M_charms ww_M_charms ⟨rfl, rfl⟩ ⟨Nat.le_of_ble_eq_true rfl, Nat.le_of_ble_eq_true rfl⟩) <|
  zal_c (zi_aln (j := 0) (by decide +kernel) rfl rfl) <|
  zal_c (zi_iln (j := 3) (by decide +kernel) rfl rfl) <|
  zal_c (zi_iln (j := 1) (by decide +kernel) rfl rfl) <|
  zal_c (zi_cv (index := 105) (qc := (RX5, TX5, 17)) (by decide +kernel) rfl mk_M_charms rfl wm_M_105 wq_M_charms ww_M_charms ⟨rfl, rfl⟩ ⟨Nat.le_of_ble_eq_true rfl, Nat.le_of_ble_eq_true rfl⟩) <|
  zal_c (zi_cle (off := 8) (by decide +kernel) rfl rfl) <|
  zal_c (zi_il (by decide +kernel) rfl) <|
  zal_c (zi_goto (off := 4) (by decide +kernel) rfl) <|
  zal_c (zi_iln (j := 3) (by decide +kernel) rfl rfl) <|
  zal_c (zi_isn (j := 3) (by decide +kernel) rfl rfl (Nat.le_of_ble_eq_true rfl)) <|
  zal_c (zi_inc (n := 1) (by decide +kernel) rfl rfl) <|
  zal_c (zi_goto (off := -73) (by decide +kernel) rfl) <|
  zal_c (zi_iln (j := 3) (by decide +kernel) rfl rfl) <|
  zal_c (zi_ir (by decide +kernel) rfl) <|
  zal_n
set_option maxRecDepth 100000 in
set_option maxHeartbeats 4000000 in
theorem sn_M_has (l : Launch) : zAl l 132 tb_M_has :=
  zal_c (zi_aln (j := 0) (by decide +kernel) rfl rfl) <|
  zal_c (zi_iln (j := 2) (by decide +kernel) rfl rfl) <|
  zal_c (zi_iln (j := 1) (by decide +kernel) rfl rfl) <|
  zal_c (zi_cv (index := 108) (qc := (RX5, TX5, 17)) (by decide +kernel) rfl mk_M_does rfl wm_M_108 wq_M_does ww_M_does ⟨rfl, rfl⟩ ⟨Nat.le_of_ble_eq_true rfl, Nat.le_of_ble_eq_true rfl⟩) <|
  zal_c (zi_isn (j := 3) (by decide +kernel) rfl rfl (Nat.le_of_ble_eq_true rfl)) <|
  zal_c (zi_aln (j := 0) (by decide +kernel) rfl rfl) <|
  zal_c (zi_iln (j := 2) (by decide +kernel) rfl rfl) <|
  zal_c (zi_iln (j := 1) (by decide +kernel) rfl rfl) <|
  zal_c (zi_cv (index := 111) (qc := (RX5, TX5, 17)) (by decide +kernel) rfl mk_M_thaws rfl wm_M_111 wq_M_thaws ww_M_thaws ⟨rfl, rfl⟩ ⟨Nat.le_of_ble_eq_true rfl, Nat.le_of_ble_eq_true rfl⟩) <|
  zal_c (zi_is (by decide +kernel) rfl (Nat.le_of_ble_eq_true rfl)) <|
  zal_c (zi_aln (j := 0) (by decide +kernel) rfl rfl) <|
  zal_c (zi_get (CN := RX5) (T := TX5) (N := 17) (index := 7) (by decide +kernel) rfl rfl (by decide) uw_X5 wf_M_7) <|
  zal_c (zi_iln (j := 1) (by decide +kernel) rfl rfl) <|
  zal_c (zi_iconst (n := 1) (by decide +kernel) rfl rfl) <|
  zal_c (zi_cs (index := 49) (by decide +kernel) rfl mk_M_coupleSpot wm_M_49 wq_M_coupleSpot ⟨rfl, rfl⟩ ⟨Nat.le_of_ble_eq_true rfl, Nat.le_of_ble_eq_true rfl⟩) <|
  zal_c (zi_aln (j := 0) (by decide +kernel) rfl rfl) <|
  zal_c (zi_iln (j := 1) (by decide +kernel) rfl rfl) <|
  zal_c (zi_iconst (n := 1) (by decide +kernel) rfl rfl) <|
  zal_c (zi_cv (index := 61) (qc := (RX5, TX5, 17)) (by decide +kernel) rfl mk_M_theirs rfl wm_M_61 wq_M_theirs ww_M_theirs ⟨rfl, rfl⟩ ⟨Nat.le_of_ble_eq_true rfl, Nat.le_of_ble_eq_true rfl⟩) <|
  zal_c (zi_iln (j := 3) (by decide +kernel) rfl rfl) <|
  zal_c (zi_iadd (by decide +kernel) rfl) <|
  zal_c (zi_sipush (n := -999) (by decide +kernel) rfl rfl) <|
  zal_c (zi_sipush (n := 999) (by decide +kernel) rfl rfl) <|
  zal_c (zi_cs (index := 150) (by decide +kernel) rfl mk_M_held wm_M_150 wq_M_held ⟨rfl, rfl⟩ ⟨Nat.le_of_ble_eq_true rfl, Nat.le_of_ble_eq_true rfl⟩) <|
  zal_c (zi_iast (by decide +kernel) rfl) <|
  zal_c (zi_aln (j := 0) (by decide +kernel) rfl rfl) <|
  zal_c (zi_get (CN := RX5) (T := TX5) (N := 17) (index := 7) (by decide +kernel) rfl rfl (by decide) uw_X5 wf_M_7) <|
  zal_c (zi_iln (j := 1) (by decide +kernel) rfl rfl) <|
  zal_c (zi_iconst (n := 2) (by decide +kernel) rfl rfl) <|
  zal_c (zi_cs (index := 49) (by decide +kernel) rfl mk_M_coupleSpot wm_M_49 wq_M_coupleSpot ⟨rfl, rfl⟩ ⟨Nat.le_of_ble_eq_true rfl, Nat.le_of_ble_eq_true rfl⟩) <|
  zal_c (zi_iln (j := 2) (by decide +kernel) rfl rfl) <|
  zal_c (zi_iast (by decide +kernel) rfl) <|
  zal_c (zi_aln (j := 0) (by decide +kernel) rfl rfl) <|
  zal_c (zi_get (CN := RX5) (T := TX5) (N := 17) (index := 7) (by decide +kernel) rfl rfl (by decide) uw_X5 wf_M_7) <|
  zal_c (zi_iln (j := 2) (by decide +kernel) rfl rfl) <|
  zal_c (zi_iconst (n := 4) (by decide +kernel) rfl rfl) <|
  zal_c (zi_cs (index := 45) (by decide +kernel) rfl mk_M_spot wm_M_45 wq_M_spot ⟨rfl, rfl⟩ ⟨Nat.le_of_ble_eq_true rfl, Nat.le_of_ble_eq_true rfl⟩) <|
  zal_c (zi_aln (j := 0) (by decide +kernel) rfl rfl) <|
  zal_c (zi_iln (j := 2) (by decide +kernel) rfl rfl) <|
  zal_c (zi_iconst (n := 4) (by decide +kernel) rfl rfl) <|
  zal_c (zi_cv (index := 58) (qc := (RX5, TX5, 17)) (by decide +kernel) rfl mk_M_its rfl wm_M_58 wq_M_its ww_M_its ⟨rfl, rfl⟩ ⟨Nat.le_of_ble_eq_true rfl, Nat.le_of_ble_eq_true rfl⟩) <|
  zal_c (zi_iconst (n := 1) (by decide +kernel) rfl rfl) <|
  zal_c (zi_iadd (by decide +kernel) rfl) <|
  zal_c (zi_iconst (n := 0) (by decide +kernel) rfl rfl) <|
  zal_c (zi_sipush (n := 9999) (by decide +kernel) rfl rfl) <|
  zal_c (zi_cs (index := 150) (by decide +kernel) rfl mk_M_held wm_M_150 wq_M_held ⟨rfl, rfl⟩ ⟨Nat.le_of_ble_eq_true rfl, Nat.le_of_ble_eq_true rfl⟩) <|
  zal_c (zi_iast (by decide +kernel) rfl) <|
  zal_c (zi_aln (j := 0) (by decide +kernel) rfl rfl) <|
  zal_c (zi_get (CN := RX5) (T := TX5) (N := 17) (index := 7) (by decide +kernel) rfl rfl (by decide) uw_X5 wf_M_7) <|
  zal_c (zi_iln (j := 2) (by decide +kernel) rfl rfl) <|
  zal_c (zi_iconst (n := 1) (by decide +kernel) rfl rfl) <|
  zal_c (zi_cs (index := 45) (by decide +kernel) rfl mk_M_spot wm_M_45 wq_M_spot ⟨rfl, rfl⟩ ⟨Nat.le_of_ble_eq_true rfl, Nat.le_of_ble_eq_true rfl⟩) <|
  zal_c (zi_aln (j := 0) (by decide +kernel) rfl rfl) <|
  zal_c (zi_iln (j := 2) (by decide +kernel) rfl rfl) <|
  zal_c (zi_iconst (n := 1) (by decide +kernel) rfl rfl) <|
  zal_c (zi_cv (index := 58) (qc := (RX5, TX5, 17)) (by decide +kernel) rfl mk_M_its rfl wm_M_58 wq_M_its ww_M_its ⟨rfl, rfl⟩ ⟨Nat.le_of_ble_eq_true rfl, Nat.le_of_ble_eq_true rfl⟩) <|
  zal_c (zi_il (by decide +kernel) rfl) <|
  zal_c (zi_iadd (by decide +kernel) rfl) <|
  zal_c (zi_iconst (n := 0) (by decide +kernel) rfl rfl) <|
  zal_c (zi_bipush (n := 99) (by decide +kernel) rfl rfl) <|
  zal_c (zi_cs (index := 150) (by decide +kernel) rfl mk_M_held wm_M_150 wq_M_held ⟨rfl, rfl⟩ ⟨Nat.le_of_ble_eq_true rfl, Nat.le_of_ble_eq_true rfl⟩) <|
  zal_c (zi_iast (by decide +kernel) rfl) <|
  zal_c (zi_vr (by decide +kernel) rfl) <|
  zal_n
set_option maxRecDepth 100000 in
set_option maxHeartbeats 4000000 in
theorem sn_M_isAlone (l : Launch) : zAl l 133 tb_M_isAlone :=
  zal_c (zi_aln (j := 0) (by decide +kernel) rfl rfl) <|
  zal_c (zi_get (CN := RX5) (T := TX5) (N := 17) (index := 7) (by decide +kernel) rfl rfl (by decide) uw_X5 wf_M_7) <|
  zal_c (zi_iln (j := 1) (by decide +kernel) rfl rfl) <|
  zal_c (zi_iconst (n := 3) (by decide +kernel) rfl rfl) <|
  zal_c (zi_cs (index := 45) (by decide +kernel) rfl mk_M_spot wm_M_45 wq_M_spot ⟨rfl, rfl⟩ ⟨Nat.le_of_ble_eq_true rfl, Nat.le_of_ble_eq_true rfl⟩) <|
  zal_c (zi_aln (j := 0) (by decide +kernel) rfl rfl) <|
  zal_c (zi_iln (j := 1) (by decide +kernel) rfl rfl) <|
  zal_c (zi_iconst (n := 3) (by decide +kernel) rfl rfl) <|
  zal_c (zi_cv (index := 58) (qc := (RX5, TX5, 17)) (by decide +kernel) rfl mk_M_its rfl wm_M_58 wq_M_its ww_M_its ⟨rfl, rfl⟩ ⟨Nat.le_of_ble_eq_true rfl, Nat.le_of_ble_eq_true rfl⟩) <|
  zal_c (zi_iconst (n := 1) (by decide +kernel) rfl rfl) <|
  zal_c (zi_iadd (by decide +kernel) rfl) <|
  zal_c (zi_iconst (n := 0) (by decide +kernel) rfl rfl) <|
  zal_c (zi_sipush (n := 9999) (by decide +kernel) rfl rfl) <|
  zal_c (zi_cs (index := 150) (by decide +kernel) rfl mk_M_held wm_M_150 wq_M_held ⟨rfl, rfl⟩ ⟨Nat.le_of_ble_eq_true rfl, Nat.le_of_ble_eq_true rfl⟩) <|
  zal_c (zi_iast (by decide +kernel) rfl) <|
  zal_c (zi_aln (j := 0) (by decide +kernel) rfl rfl) <|
  zal_c (zi_get (CN := RX5) (T := TX5) (N := 17) (index := 7) (by decide +kernel) rfl rfl (by decide) uw_X5 wf_M_7) <|
  zal_c (zi_iln (j := 1) (by decide +kernel) rfl rfl) <|
  zal_c (zi_iconst (n := 1) (by decide +kernel) rfl rfl) <|
  zal_c (zi_cs (index := 45) (by decide +kernel) rfl mk_M_spot wm_M_45 wq_M_spot ⟨rfl, rfl⟩ ⟨Nat.le_of_ble_eq_true rfl, Nat.le_of_ble_eq_true rfl⟩) <|
  zal_c (zi_aln (j := 0) (by decide +kernel) rfl rfl) <|
  zal_c (zi_iln (j := 1) (by decide +kernel) rfl rfl) <|
  zal_c (zi_iconst (n := 1) (by decide +kernel) rfl rfl) <|
  zal_c (zi_cv (index := 58) (qc := (RX5, TX5, 17)) (by decide +kernel) rfl mk_M_its rfl wm_M_58 wq_M_its ww_M_its ⟨rfl, rfl⟩ ⟨Nat.le_of_ble_eq_true rfl, Nat.le_of_ble_eq_true rfl⟩) <|
  zal_c (zi_aln (j := 0) (by decide +kernel) rfl rfl) <|
  zal_c (zi_iln (j := 1) (by decide +kernel) rfl rfl) <|
  zal_c (zi_cv (index := 97) (qc := (RX5, TX5, 17)) (by decide +kernel) rfl mk_M_chills rfl wm_M_97 wq_M_chills ww_M_chills ⟨rfl, rfl⟩ ⟨Nat.le_of_ble_eq_true rfl, Nat.le_of_ble_eq_true rfl⟩) <|
  zal_c (zi_isub (by decide +kernel) rfl) <|
  zal_c (zi_iconst (n := 0) (by decide +kernel) rfl rfl) <|
  zal_c (zi_bipush (n := 99) (by decide +kernel) rfl rfl) <|
  zal_c (zi_cs (index := 150) (by decide +kernel) rfl mk_M_held wm_M_150 wq_M_held ⟨rfl, rfl⟩ ⟨Nat.le_of_ble_eq_true rfl, Nat.le_of_ble_eq_true rfl⟩) <|
  zal_c (zi_iast (by decide +kernel) rfl) <|
  zal_c (zi_vr (by decide +kernel) rfl) <|
  zal_n
set_option maxRecDepth 100000 in
set_option maxHeartbeats 4000000 in
theorem sn_M_sunday (l : Launch) : zAl l 134 tb_M_sunday :=
  zal_c (zi_iconst (n := 0) (by decide +kernel) rfl rfl) <|
  zal_c (zi_isn (j := 1) (by decide +kernel) rfl rfl (Nat.le_of_ble_eq_true rfl)) <|
  zal_c (zi_iconst (n := 0) (by decide +kernel) rfl rfl) <|
  zal_c (zi_isn (j := 2) (by decide +kernel) rfl rfl (Nat.le_of_ble_eq_true rfl)) <|
  zal_c (zi_iln (j := 2) (by decide +kernel) rfl rfl) <|
  zal_c (zi_aln (j := 0) (by decide +kernel) rfl rfl) <|
  zal_c (zi_get (CN := RX5) (T := TX5) (N := 17) (index := 7) (by decide +kernel) rfl rfl (by decide) uw_X5 wf_M_7) <|
  zal_c (zi_iconst (n := 3) (by decide +kernel) rfl rfl) <|
  zal_c (zi_iald (by decide +kernel) rfl) <|
  zal_c (zi_cge (off := 91) (by decide +kernel) rfl rfl) <|
  zal_c (zi_aln (j := 0) (by decide +kernel) rfl rfl) <|
  zal_c (zi_get (CN := RX5) (T := TX5) (N := 17) (index := 7) (by decide +kernel) rfl rfl (by decide) uw_X5 wf_M_7) <|
  zal_c (zi_iconst (n := 0) (by decide +kernel) rfl rfl) <|
  zal_c (zi_iald (by decide +kernel) rfl) <|
  zal_c (zi_iln (j := 2) (by decide +kernel) rfl rfl) <|
  zal_c (zi_iadd (by decide +kernel) rfl) <|
  zal_c (zi_aln (j := 0) (by decide +kernel) rfl rfl) <|
  zal_c (zi_get (CN := RX5) (T := TX5) (N := 17) (index := 7) (by decide +kernel) rfl rfl (by decide) uw_X5 wf_M_7) <|
  zal_c (zi_iconst (n := 3) (by decide +kernel) rfl rfl) <|
  zal_c (zi_iald (by decide +kernel) rfl) <|
  zal_c (zi_irem (by decide +kernel) rfl) <|
  zal_c (zi_isn (j := 3) (by decide +kernel) rfl rfl (Nat.le_of_ble_eq_true rfl)) <|
  zal_c (zi_aln (j := 0) (by decide +kernel) rfl rfl) <|
  zal_c (zi_iln (j := 3) (by decide +kernel) rfl rfl) <|
  zal_c (zi_iln (j := 1) (by decide +kernel) rfl rfl) <|
  zal_c (zi_cv (index := 154) (qc := (RX5, TX5, 17)) (by decide +kernel) rfl mk_M_charmer rfl wm_M_154 wq_M_charmer ww_M_charmer ⟨rfl, rfl⟩ ⟨Nat.le_of_ble_eq_true rfl, Nat.le_of_ble_eq_true rfl⟩) <|
  zal_c (zi_is (by decide +kernel) rfl (Nat.le_of_ble_eq_true rfl)) <|
  zal_c (zi_aln (j := 0) (by decide +kernel) rfl rfl) <|
  zal_c (zi_get (CN := RX5) (T := TX5) (N := 17) (index := 25) (by decide +kernel) rfl rfl (by decide) uw_X5 wf_M_25) <|
  zal_c (zi_iln (j := 3) (by decide +kernel) rfl rfl) <|
  zal_c (zi_il (by decide +kernel) rfl) <|
  zal_c (zi_iast (by decide +kernel) rfl) <|
  zal_c (zi_il (by decide +kernel) rfl) <|
  zal_c (zi_iconst (n := -1) (by decide +kernel) rfl rfl) <|
  zal_c (zi_cne (off := 33) (by decide +kernel) rfl rfl) <|
  zal_c (zi_aln (j := 0) (by decide +kernel) rfl rfl) <|
  zal_c (zi_get (CN := RX5) (T := TX5) (N := 17) (index := 7) (by decide +kernel) rfl rfl (by decide) uw_X5 wf_M_7) <|
  zal_c (zi_iln (j := 3) (by decide +kernel) rfl rfl) <|
  zal_c (zi_iconst (n := 1) (by decide +kernel) rfl rfl) <|
  zal_c (zi_cs (index := 49) (by decide +kernel) rfl mk_M_coupleSpot wm_M_49 wq_M_coupleSpot ⟨rfl, rfl⟩ ⟨Nat.le_of_ble_eq_true rfl, Nat.le_of_ble_eq_true rfl⟩) <|
  zal_c (zi_aln (j := 0) (by decide +kernel) rfl rfl) <|
  zal_c (zi_iln (j := 3) (by decide +kernel) rfl rfl) <|
  zal_c (zi_iconst (n := 1) (by decide +kernel) rfl rfl) <|
  zal_c (zi_cv (index := 61) (qc := (RX5, TX5, 17)) (by decide +kernel) rfl mk_M_theirs rfl wm_M_61 wq_M_theirs ww_M_theirs ⟨rfl, rfl⟩ ⟨Nat.le_of_ble_eq_true rfl, Nat.le_of_ble_eq_true rfl⟩) <|
  zal_c (zi_iconst (n := 1) (by decide +kernel) rfl rfl) <|
  zal_c (zi_isub (by decide +kernel) rfl) <|
  zal_c (zi_sipush (n := -999) (by decide +kernel) rfl rfl) <|
  zal_c (zi_sipush (n := 999) (by decide +kernel) rfl rfl) <|
  zal_c (zi_cs (index := 150) (by decide +kernel) rfl mk_M_held wm_M_150 wq_M_held ⟨rfl, rfl⟩ ⟨Nat.le_of_ble_eq_true rfl, Nat.le_of_ble_eq_true rfl⟩) <|
  zal_c (zi_iast (by decide +kernel) rfl) <|
  zal_c (zi_goto (off := 17) (by decide +kernel) rfl) <|
  zal_c (zi_iln (j := 1) (by decide +kernel) rfl rfl) <|
  zal_c (zi_iconst (n := 1) (by decide +kernel) rfl rfl) <|
  zal_c (zi_il (by decide +kernel) rfl) <|
  zal_c (zi_ishl (by decide +kernel) rfl) <|
  zal_c (zi_ior (by decide +kernel) rfl) <|
  zal_c (zi_isn (j := 1) (by decide +kernel) rfl rfl (Nat.le_of_ble_eq_true rfl)) <|
  zal_c (zi_aln (j := 0) (by decide +kernel) rfl rfl) <|
  zal_c (zi_iln (j := 3) (by decide +kernel) rfl rfl) <|
  zal_c (zi_il (by decide +kernel) rfl) <|
  zal_c (zi_cv (index := 157) (qc := (RX5, TX5, 17)) (by decide +kernel) rfl mk_M_has rfl wm_M_157 wq_M_has ww_M_has ⟨rfl, rfl⟩ ⟨Nat.le_of_ble_eq_true rfl, Nat.le_of_ble_eq_true rfl⟩) <|
  zal_c (zi_inc (n := 1) (by decide +kernel) rfl rfl) <|
  zal_c (zi_goto (off := -95) (by decide +kernel) rfl) <|
  zal_c (zi_iconst (n := 0) (by decide +kernel) rfl rfl) <|
  zal_c (zi_isn (j := 2) (by decide +kernel) rfl rfl (Nat.le_of_ble_eq_true rfl)) <|
  zal_c (zi_iln (j := 2) (by decide +kernel) rfl rfl) <|
  zal_c (zi_aln (j := 0) (by decide +kernel) rfl rfl) <|
  zal_c (zi_get (CN := RX5) (T := TX5) (N := 17) (index := 7) (by decide +kernel) rfl rfl (by decide) uw_X5 wf_M_7) <|
  zal_c (zi_iconst (n := 2) (by decide +kernel) rfl rfl) <|
  zal_c (zi_iald (by decide +kernel) rfl) <|
  zal_c (zi_cge (off := 22) (by decide +kernel) rfl rfl) <|
  zal_c (zi_iln (j := 1) (by decide +kernel) rfl rfl) <|
  zal_c (zi_iln (j := 2) (by decide +kernel) rfl rfl) <|
  zal_c (zi_ishr (by decide +kernel) rfl) <|
  zal_c (zi_iconst (n := 1) (by decide +kernel) rfl rfl) <|
  zal_c (zi_iand (by decide +kernel) rfl) <|
  zal_c (zi_ifne (off := 8) (by decide +kernel) rfl rfl) <|
  zal_c (zi_aln (j := 0) (by decide +kernel) rfl rfl) <|
  zal_c (zi_iln (j := 2) (by decide +kernel) rfl rfl) <|
  zal_c (zi_cv (index := 161) (qc := (RX5, TX5, 17)) (by decide +kernel) rfl mk_M_isAlone rfl wm_M_161 wq_M_isAlone ww_M_isAlone ⟨rfl, rfl⟩ ⟨Nat.le_of_ble_eq_true rfl, Nat.le_of_ble_eq_true rfl⟩) <|
  zal_c (zi_inc (n := 1) (by decide +kernel) rfl rfl) <|
  zal_c (zi_goto (off := -26) (by decide +kernel) rfl) <|
  zal_c (zi_aln (j := 0) (by decide +kernel) rfl rfl) <|
  zal_c (zi_get (CN := RX5) (T := TX5) (N := 17) (index := 7) (by decide +kernel) rfl rfl (by decide) uw_X5 wf_M_7) <|
  zal_c (zi_iconst (n := 0) (by decide +kernel) rfl rfl) <|
  zal_c (zi_dup2 (by decide +kernel) rfl) <|
  zal_c (zi_iald (by decide +kernel) rfl) <|
  zal_c (zi_iconst (n := 1) (by decide +kernel) rfl rfl) <|
  zal_c (zi_iadd (by decide +kernel) rfl) <|
  zal_c (zi_iast (by decide +kernel) rfl) <|
  zal_c (zi_vr (by decide +kernel) rfl) <|
  zal_n
set_option maxRecDepth 100000 in
set_option maxHeartbeats 4000000 in
theorem sn_M_sundaysGo (l : Launch) : zAl l 135 tb_M_sundaysGo :=
  zal_c (zi_iconst (n := 0) (by decide +kernel) rfl rfl) <|
  zal_c (zi_isn (j := 2) (by decide +kernel) rfl rfl (Nat.le_of_ble_eq_true rfl)) <|
  zal_c (zi_iln (j := 2) (by decide +kernel) rfl rfl) <|
  zal_c (zi_iln (j := 1) (by decide +kernel) rfl rfl) <|
  zal_c (zi_cge (off := 13) (by decide +kernel) rfl rfl) <|
  zal_c (zi_aln (j := 0) (by decide +kernel) rfl rfl) <|
  zal_c (zi_cv (index := 133) (qc := (RX5, TX5, 17)) (by decide +kernel) rfl mk_M_sunday rfl wm_M_133 wq_M_sunday ww_M_sunday ⟨rfl, rfl⟩ ⟨Nat.le_of_ble_eq_true rfl, Nat.le_of_ble_eq_true rfl⟩) <|
  zal_c (zi_inc (n := 1) (by decide +kernel) rfl rfl) <|
  zal_c (zi_goto (off := -12) (by decide +kernel) rfl) <|
  zal_c (zi_vr (by decide +kernel) rfl) <|
  zal_n
set_option maxRecDepth 100000 in
set_option maxHeartbeats 4000000 in
theorem sn_M_sundays (l : Launch) : zAl l 136 tb_M_sundays :=
  zal_c (zi_iln (j := 1) (by decide +kernel) rfl rfl) <|
  zal_c (zi_i2l (by decide +kernel) rfl) <|
  zal_c (zi_lconst (n := 1) (by decide +kernel) rfl rfl) <|
  zal_c (zi_ldc2 (n := 165) (by decide +kernel) rfl wc_M_165) <|
  zal_c (zi_cs (index := 52) (by decide +kernel) rfl mk_M_in wm_M_52 wq_M_in ⟨rfl, rfl⟩ ⟨Nat.le_of_ble_eq_true rfl, Nat.le_of_ble_eq_true rfl⟩) <|
  zal_c (zi_ifne (off := 10) (by decide +kernel) rfl rfl) <|
  zal_c (zi_aln (j := 0) (by decide +kernel) rfl rfl) <|
  zal_c (zi_ldc (n := 44) (by decide +kernel) rfl wc_M_44) <|
  zal_c (zi_cv (index := 69) (qc := (RX5, TX5, 17)) (by decide +kernel) rfl mk_M_finds rfl wm_M_69 wq_M_finds ww_M_finds ⟨rfl, rfl⟩ ⟨Nat.le_of_ble_eq_true rfl, Nat.le_of_ble_eq_true rfl⟩) <|
  zal_c (zi_ir (by decide +kernel) rfl) <|
  zal_c (zi_aln (j := 0) (by decide +kernel) rfl rfl) <|
  zal_c (zi_get (CN := RX5) (T := TX5) (N := 17) (index := 7) (by decide +kernel) rfl rfl (by decide) uw_X5 wf_M_7) <|
  zal_c (zi_iconst (n := 0) (by decide +kernel) rfl rfl) <|
  zal_c (zi_iald (by decide +kernel) rfl) <|
  zal_c (zi_iln (j := 1) (by decide +kernel) rfl rfl) <|
  zal_c (zi_iadd (by decide +kernel) rfl) <|
  zal_c (zi_sipush (n := 9999) (by decide +kernel) rfl rfl) <|
  zal_c (zi_cle (off := 10) (by decide +kernel) rfl rfl) <|
  zal_c (zi_aln (j := 0) (by decide +kernel) rfl rfl) <|
  zal_c (zi_ldc (n := 167) (by decide +kernel) rfl wc_M_167) <|
  zal_c (zi_cv (index := 69) (qc := (RX5, TX5, 17)) (by decide +kernel) rfl mk_M_finds rfl wm_M_69 wq_M_finds ww_M_finds ⟨rfl, rfl⟩ ⟨Nat.le_of_ble_eq_true rfl, Nat.le_of_ble_eq_true rfl⟩) <|
  zal_c (zi_ir (by decide +kernel) rfl) <|
  zal_c (zi_aln (j := 0) (by decide +kernel) rfl rfl) <|
  zal_c (zi_iln (j := 1) (by decide +kernel) rfl rfl) <|
  zal_c (zi_cv (index := 168) (qc := (RX5, TX5, 17)) (by decide +kernel) rfl mk_M_sundaysGo rfl wm_M_168 wq_M_sundaysGo ww_M_sundaysGo ⟨rfl, rfl⟩ ⟨Nat.le_of_ble_eq_true rfl, Nat.le_of_ble_eq_true rfl⟩) <|
  zal_c (zi_aln (j := 0) (by decide +kernel) rfl rfl) <|
  zal_c (zi_iconst (n := 1) (by decide +kernel) rfl rfl) <|
  zal_c (zi_cv (index := 83) (qc := (RX5, TX5, 17)) (by decide +kernel) rfl mk_M_together rfl wm_M_83 wq_M_together ww_M_together ⟨rfl, rfl⟩ ⟨Nat.le_of_ble_eq_true rfl, Nat.le_of_ble_eq_true rfl⟩) <|
  zal_c (zi_ir (by decide +kernel) rfl) <|
  zal_n
set_option maxRecDepth 100000 in
set_option maxHeartbeats 4000000 in
theorem sn_M_isAhead (l : Launch) : zAl l 137 tb_M_isAhead :=
  zal_c (zi_iln (j := 0) (by decide +kernel) rfl rfl) <|
  zal_c (zi_i2l (by decide +kernel) rfl) <|
  zal_c (zi_lconst (n := 0) (by decide +kernel) rfl rfl) <|
  zal_c (zi_ldc2 (n := 171) (by decide +kernel) rfl wc_M_171) <|
  zal_c (zi_cs (index := 52) (by decide +kernel) rfl mk_M_in wm_M_52 wq_M_in ⟨rfl, rfl⟩ ⟨Nat.le_of_ble_eq_true rfl, Nat.le_of_ble_eq_true rfl⟩) <|
  zal_c (zi_zr (by decide +kernel) rfl) <|
  zal_n
set_option maxRecDepth 100000 in
set_option maxHeartbeats 4000000 in
theorem sn_M_behind (l : Launch) : zAl l 138 tb_M_behind :=
  zal_c (zi_aln (j := 0) (by decide +kernel) rfl rfl) <|
  zal_c (zi_cv (index := 130) (qc := (RX5, TX5, 17)) (by decide +kernel) rfl mk_M_laysAside rfl wm_M_130 wq_M_laysAside ww_M_laysAside ⟨rfl, rfl⟩ ⟨Nat.le_of_ble_eq_true rfl, Nat.le_of_ble_eq_true rfl⟩) <|
  zal_c (zi_aln (j := 0) (by decide +kernel) rfl rfl) <|
  zal_c (zi_iln (j := 2) (by decide +kernel) rfl rfl) <|
  zal_c (zi_cv (index := 168) (qc := (RX5, TX5, 17)) (by decide +kernel) rfl mk_M_sundaysGo rfl wm_M_168 wq_M_sundaysGo ww_M_sundaysGo ⟨rfl, rfl⟩ ⟨Nat.le_of_ble_eq_true rfl, Nat.le_of_ble_eq_true rfl⟩) <|
  zal_c (zi_aln (j := 0) (by decide +kernel) rfl rfl) <|
  zal_c (zi_iln (j := 1) (by decide +kernel) rfl rfl) <|
  zal_c (zi_iconst (n := -1) (by decide +kernel) rfl rfl) <|
  zal_c (zi_cne (off := 10) (by decide +kernel) rfl rfl) <|
  zal_c (zi_aln (j := 0) (by decide +kernel) rfl rfl) <|
  zal_c (zi_cv (index := 80) (qc := (RX5, TX5, 17)) (by decide +kernel) rfl mk_M_wells rfl wm_M_80 wq_M_wells ww_M_wells ⟨rfl, rfl⟩ ⟨Nat.le_of_ble_eq_true rfl, Nat.le_of_ble_eq_true rfl⟩) <|
  zal_c (zi_goto (off := 23) (by decide +kernel) rfl) <|
  zal_c (zi_iln (j := 1) (by decide +kernel) rfl rfl) <|
  zal_c (zi_bipush (n := -2) (by decide +kernel) rfl rfl) <|
  zal_c (zi_cne (off := 11) (by decide +kernel) rfl rfl) <|
  zal_c (zi_aln (j := 0) (by decide +kernel) rfl rfl) <|
  zal_c (zi_iconst (n := 1) (by decide +kernel) rfl rfl) <|
  zal_c (zi_cv (index := 83) (qc := (RX5, TX5, 17)) (by decide +kernel) rfl mk_M_together rfl wm_M_83 wq_M_together ww_M_together ⟨rfl, rfl⟩ ⟨Nat.le_of_ble_eq_true rfl, Nat.le_of_ble_eq_true rfl⟩) <|
  zal_c (zi_goto (off := 9) (by decide +kernel) rfl) <|
  zal_c (zi_aln (j := 0) (by decide +kernel) rfl rfl) <|
  zal_c (zi_get (CN := RX5) (T := TX5) (N := 17) (index := 7) (by decide +kernel) rfl rfl (by decide) uw_X5 wf_M_7) <|
  zal_c (zi_iln (j := 1) (by decide +kernel) rfl rfl) <|
  zal_c (zi_iald (by decide +kernel) rfl) <|
  zal_c (zi_cv (index := 136) (qc := (RX5, TX5, 17)) (by decide +kernel) rfl mk_M_takesBack rfl wm_M_136 wq_M_takesBack ww_M_takesBack ⟨rfl, rfl⟩ ⟨Nat.le_of_ble_eq_true rfl, Nat.le_of_ble_eq_true rfl⟩) <|
  zal_c (zi_ir (by decide +kernel) rfl) <|
  zal_n
set_option maxRecDepth 100000 in
set_option maxHeartbeats 4000000 in
theorem sn_M_on (l : Launch) : zAl l 139 tb_M_on :=
  zal_c (zi_aln (j := 0) (by decide +kernel) rfl rfl) <|
  zal_c (zi_iln (j := 1) (by decide +kernel) rfl rfl) <|
  zal_c (zi_cv (index := 100) (qc := (RX5, TX5, 17)) (by decide +kernel) rfl mk_M_isCouple rfl wm_M_100 wq_M_isCouple ww_M_isCouple ⟨rfl, rfl⟩ ⟨Nat.le_of_ble_eq_true rfl, Nat.le_of_ble_eq_true rfl⟩) <|
  zal_c (zi_ifeq (off := 20) (by decide +kernel) rfl rfl) <|
  zal_c (zi_iln (j := 2) (by decide +kernel) rfl rfl) <|
  zal_c (zi_cs (index := 173) (by decide +kernel) rfl mk_M_isAhead wm_M_173 wq_M_isAhead ⟨rfl, rfl⟩ ⟨Nat.le_of_ble_eq_true rfl, Nat.le_of_ble_eq_true rfl⟩) <|
  zal_c (zi_ifeq (off := 13) (by decide +kernel) rfl rfl) <|
  zal_c (zi_iln (j := 3) (by decide +kernel) rfl rfl) <|
  zal_c (zi_i2l (by decide +kernel) rfl) <|
  zal_c (zi_lconst (n := 0) (by decide +kernel) rfl rfl) <|
  zal_c (zi_lconst (n := 1) (by decide +kernel) rfl rfl) <|
  zal_c (zi_cs (index := 52) (by decide +kernel) rfl mk_M_in wm_M_52 wq_M_in ⟨rfl, rfl⟩ ⟨Nat.le_of_ble_eq_true rfl, Nat.le_of_ble_eq_true rfl⟩) <|
  zal_c (zi_ifne (off := 10) (by decide +kernel) rfl rfl) <|
  zal_c (zi_aln (j := 0) (by decide +kernel) rfl rfl) <|
  zal_c (zi_ldc (n := 44) (by decide +kernel) rfl wc_M_44) <|
  zal_c (zi_cv (index := 69) (qc := (RX5, TX5, 17)) (by decide +kernel) rfl mk_M_finds rfl wm_M_69 wq_M_finds ww_M_finds ⟨rfl, rfl⟩ ⟨Nat.le_of_ble_eq_true rfl, Nat.le_of_ble_eq_true rfl⟩) <|
  zal_c (zi_ir (by decide +kernel) rfl) <|
  zal_c (zi_aln (j := 0) (by decide +kernel) rfl rfl) <|
  zal_c (zi_iln (j := 1) (by decide +kernel) rfl rfl) <|
  zal_c (zi_iln (j := 3) (by decide +kernel) rfl rfl) <|
  zal_c (zi_ifne (off := 7) (by decide +kernel) rfl rfl) <|
  zal_c (zi_iconst (n := 1) (by decide +kernel) rfl rfl) <|
  zal_c (zi_goto (off := 4) (by decide +kernel) rfl) <|
  zal_c (zi_iconst (n := 2) (by decide +kernel) rfl rfl) <|
  zal_c (zi_cs (index := 49) (by decide +kernel) rfl mk_M_coupleSpot wm_M_49 wq_M_coupleSpot ⟨rfl, rfl⟩ ⟨Nat.le_of_ble_eq_true rfl, Nat.le_of_ble_eq_true rfl⟩) <|
  zal_c (zi_iln (j := 2) (by decide +kernel) rfl rfl) <|
  zal_c (zi_cv (index := 176) (qc := (RX5, TX5, 17)) (by decide +kernel) rfl mk_M_behind rfl wm_M_176 wq_M_behind ww_M_behind ⟨rfl, rfl⟩ ⟨Nat.le_of_ble_eq_true rfl, Nat.le_of_ble_eq_true rfl⟩) <|
  zal_c (zi_ir (by decide +kernel) rfl) <|
  zal_n
set_option maxRecDepth 100000 in
set_option maxHeartbeats 4000000 in
theorem sn_M_then (l : Launch) : zAl l 140 tb_M_then :=
  zal_c (zi_aln (j := 0) (by decide +kernel) rfl rfl) <|
  zal_c (zi_iln (j := 1) (by decide +kernel) rfl rfl) <|
  zal_c (zi_cv (index := 94) (qc := (RX5, TX5, 17)) (by decide +kernel) rfl mk_M_isInlaw rfl wm_M_94 wq_M_isInlaw ww_M_isInlaw ⟨rfl, rfl⟩ ⟨Nat.le_of_ble_eq_true rfl, Nat.le_of_ble_eq_true rfl⟩) <|
  zal_c (zi_ifeq (off := 22) (by decide +kernel) rfl rfl) <|
  zal_c (zi_iln (j := 2) (by decide +kernel) rfl rfl) <|
  zal_c (zi_cs (index := 173) (by decide +kernel) rfl mk_M_isAhead wm_M_173 wq_M_isAhead ⟨rfl, rfl⟩ ⟨Nat.le_of_ble_eq_true rfl, Nat.le_of_ble_eq_true rfl⟩) <|
  zal_c (zi_ifeq (off := 15) (by decide +kernel) rfl rfl) <|
  zal_c (zi_iln (j := 3) (by decide +kernel) rfl rfl) <|
  zal_c (zi_i2l (by decide +kernel) rfl) <|
  zal_c (zi_lconst (n := 0) (by decide +kernel) rfl rfl) <|
  zal_c (zi_ldc2 (n := 103) (by decide +kernel) rfl wc_M_103) <|
  zal_c (zi_cs (index := 52) (by decide +kernel) rfl mk_M_in wm_M_52 wq_M_in ⟨rfl, rfl⟩ ⟨Nat.le_of_ble_eq_true rfl, Nat.le_of_ble_eq_true rfl⟩) <|
  zal_c (zi_ifne (off := 10) (by decide +kernel) rfl rfl) <|
  zal_c (zi_aln (j := 0) (by decide +kernel) rfl rfl) <|
  zal_c (zi_ldc (n := 44) (by decide +kernel) rfl wc_M_44) <|
  zal_c (zi_cv (index := 69) (qc := (RX5, TX5, 17)) (by decide +kernel) rfl mk_M_finds rfl wm_M_69 wq_M_finds ww_M_finds ⟨rfl, rfl⟩ ⟨Nat.le_of_ble_eq_true rfl, Nat.le_of_ble_eq_true rfl⟩) <|
  zal_c (zi_ir (by decide +kernel) rfl) <|
  zal_c (zi_aln (j := 0) (by decide +kernel) rfl rfl) <|
  zal_c (zi_iln (j := 1) (by decide +kernel) rfl rfl) <|
  zal_c (zi_iln (j := 3) (by decide +kernel) rfl rfl) <|
  zal_c (zi_ifne (off := 7) (by decide +kernel) rfl rfl) <|
  zal_c (zi_iconst (n := 1) (by decide +kernel) rfl rfl) <|
  zal_c (zi_goto (off := 13) (by decide +kernel) rfl) <|
  zal_c (zi_iln (j := 3) (by decide +kernel) rfl rfl) <|
  zal_c (zi_iconst (n := 1) (by decide +kernel) rfl rfl) <|
  zal_c (zi_cne (off := 7) (by decide +kernel) rfl rfl) <|
  zal_c (zi_iconst (n := 3) (by decide +kernel) rfl rfl) <|
  zal_c (zi_goto (off := 4) (by decide +kernel) rfl) <|
  zal_c (zi_iconst (n := 4) (by decide +kernel) rfl rfl) <|
  zal_c (zi_cs (index := 45) (by decide +kernel) rfl mk_M_spot wm_M_45 wq_M_spot ⟨rfl, rfl⟩ ⟨Nat.le_of_ble_eq_true rfl, Nat.le_of_ble_eq_true rfl⟩) <|
  zal_c (zi_iln (j := 2) (by decide +kernel) rfl rfl) <|
  zal_c (zi_cv (index := 176) (qc := (RX5, TX5, 17)) (by decide +kernel) rfl mk_M_behind rfl wm_M_176 wq_M_behind ww_M_behind ⟨rfl, rfl⟩ ⟨Nat.le_of_ble_eq_true rfl, Nat.le_of_ble_eq_true rfl⟩) <|
  zal_c (zi_ir (by decide +kernel) rfl) <|
  zal_n
set_option maxRecDepth 100000 in
set_option maxHeartbeats 4000000 in
theorem sn_M_meets (l : Launch) : zAl l 141 tb_M_meets :=
  zal_c (zi_aln (j := 0) (by decide +kernel) rfl rfl) <|
  zal_c (zi_iln (j := 1) (by decide +kernel) rfl rfl) <|
  zal_c (zi_cv (index := 100) (qc := (RX5, TX5, 17)) (by decide +kernel) rfl mk_M_isCouple rfl wm_M_100 wq_M_isCouple ww_M_isCouple ⟨rfl, rfl⟩ ⟨Nat.le_of_ble_eq_true rfl, Nat.le_of_ble_eq_true rfl⟩) <|
  zal_c (zi_ifeq (off := 11) (by decide +kernel) rfl rfl) <|
  zal_c (zi_aln (j := 0) (by decide +kernel) rfl rfl) <|
  zal_c (zi_iln (j := 2) (by decide +kernel) rfl rfl) <|
  zal_c (zi_cv (index := 94) (qc := (RX5, TX5, 17)) (by decide +kernel) rfl mk_M_isInlaw rfl wm_M_94 wq_M_isInlaw ww_M_isInlaw ⟨rfl, rfl⟩ ⟨Nat.le_of_ble_eq_true rfl, Nat.le_of_ble_eq_true rfl⟩) <|
  zal_c (zi_ifne (off := 10) (by decide +kernel) rfl rfl) <|
  zal_c (zi_aln (j := 0) (by decide +kernel) rfl rfl) <|
  zal_c (zi_ldc (n := 44) (by decide +kernel) rfl wc_M_44) <|
  zal_c (zi_cv (index := 69) (qc := (RX5, TX5, 17)) (by decide +kernel) rfl mk_M_finds rfl wm_M_69 wq_M_finds ww_M_finds ⟨rfl, rfl⟩ ⟨Nat.le_of_ble_eq_true rfl, Nat.le_of_ble_eq_true rfl⟩) <|
  zal_c (zi_ir (by decide +kernel) rfl) <|
  zal_c (zi_aln (j := 0) (by decide +kernel) rfl rfl) <|
  zal_c (zi_cv (index := 130) (qc := (RX5, TX5, 17)) (by decide +kernel) rfl mk_M_laysAside rfl wm_M_130 wq_M_laysAside ww_M_laysAside ⟨rfl, rfl⟩ ⟨Nat.le_of_ble_eq_true rfl, Nat.le_of_ble_eq_true rfl⟩) <|
  zal_c (zi_iconst (n := 0) (by decide +kernel) rfl rfl) <|
  zal_c (zi_isn (j := 3) (by decide +kernel) rfl rfl (Nat.le_of_ble_eq_true rfl)) <|
  zal_c (zi_iconst (n := 0) (by decide +kernel) rfl rfl) <|
  zal_c (zi_is (by decide +kernel) rfl (Nat.le_of_ble_eq_true rfl)) <|
  zal_c (zi_iln (j := 3) (by decide +kernel) rfl rfl) <|
  zal_c (zi_bipush (n := 100) (by decide +kernel) rfl rfl) <|
  zal_c (zi_cge (off := 35) (by decide +kernel) rfl rfl) <|
  zal_c (zi_il (by decide +kernel) rfl) <|
  zal_c (zi_ifne (off := 30) (by decide +kernel) rfl rfl) <|
  zal_c (zi_aln (j := 0) (by decide +kernel) rfl rfl) <|
  zal_c (zi_cv (index := 133) (qc := (RX5, TX5, 17)) (by decide +kernel) rfl mk_M_sunday rfl wm_M_133 wq_M_sunday ww_M_sunday ⟨rfl, rfl⟩ ⟨Nat.le_of_ble_eq_true rfl, Nat.le_of_ble_eq_true rfl⟩) <|
  zal_c (zi_inc (n := 1) (by decide +kernel) rfl rfl) <|
  zal_c (zi_aln (j := 0) (by decide +kernel) rfl rfl) <|
  zal_c (zi_get (CN := RX5) (T := TX5) (N := 17) (index := 25) (by decide +kernel) rfl rfl (by decide) uw_X5 wf_M_25) <|
  zal_c (zi_iln (j := 1) (by decide +kernel) rfl rfl) <|
  zal_c (zi_iald (by decide +kernel) rfl) <|
  zal_c (zi_iln (j := 2) (by decide +kernel) rfl rfl) <|
  zal_c (zi_cne (off := 7) (by decide +kernel) rfl rfl) <|
  zal_c (zi_iconst (n := 1) (by decide +kernel) rfl rfl) <|
  zal_c (zi_goto (off := 4) (by decide +kernel) rfl) <|
  zal_c (zi_iconst (n := 0) (by decide +kernel) rfl rfl) <|
  zal_c (zi_is (by decide +kernel) rfl (Nat.le_of_ble_eq_true rfl)) <|
  zal_c (zi_goto (off := -35) (by decide +kernel) rfl) <|
  zal_c (zi_aln (j := 0) (by decide +kernel) rfl rfl) <|
  zal_c (zi_il (by decide +kernel) rfl) <|
  zal_c (zi_ifeq (off := 7) (by decide +kernel) rfl rfl) <|
  zal_c (zi_iln (j := 3) (by decide +kernel) rfl rfl) <|
  zal_c (zi_goto (off := 4) (by decide +kernel) rfl) <|
  zal_c (zi_iconst (n := 0) (by decide +kernel) rfl rfl) <|
  zal_c (zi_cv (index := 136) (qc := (RX5, TX5, 17)) (by decide +kernel) rfl mk_M_takesBack rfl wm_M_136 wq_M_takesBack ww_M_takesBack ⟨rfl, rfl⟩ ⟨Nat.le_of_ble_eq_true rfl, Nat.le_of_ble_eq_true rfl⟩) <|
  zal_c (zi_is (by decide +kernel) rfl (Nat.le_of_ble_eq_true rfl)) <|
  zal_c (zi_il (by decide +kernel) rfl) <|
  zal_c (zi_ifne (off := 12) (by decide +kernel) rfl rfl) <|
  zal_c (zi_aln (j := 0) (by decide +kernel) rfl rfl) <|
  zal_c (zi_ldc (n := 179) (by decide +kernel) rfl wc_M_179) <|
  zal_c (zi_cv (index := 69) (qc := (RX5, TX5, 17)) (by decide +kernel) rfl mk_M_finds rfl wm_M_69 wq_M_finds ww_M_finds ⟨rfl, rfl⟩ ⟨Nat.le_of_ble_eq_true rfl, Nat.le_of_ble_eq_true rfl⟩) <|
  zal_c (zi_goto (off := 5) (by decide +kernel) rfl) <|
  zal_c (zi_il (by decide +kernel) rfl) <|
  zal_c (zi_ir (by decide +kernel) rfl) <|
  zal_n
set_option maxRecDepth 100000 in
set_option maxHeartbeats 4000000 in
theorem sn_M_well (l : Launch) : zAl l 142 tb_M_well :=
  zal_c (zi_aln (j := 0) (by decide +kernel) rfl rfl) <|
  zal_c (zi_iln (j := 1) (by decide +kernel) rfl rfl) <|
  zal_c (zi_cv (index := 100) (qc := (RX5, TX5, 17)) (by decide +kernel) rfl mk_M_isCouple rfl wm_M_100 wq_M_isCouple ww_M_isCouple ⟨rfl, rfl⟩ ⟨Nat.le_of_ble_eq_true rfl, Nat.le_of_ble_eq_true rfl⟩) <|
  zal_c (zi_ifeq (off := 17) (by decide +kernel) rfl rfl) <|
  zal_c (zi_iln (j := 2) (by decide +kernel) rfl rfl) <|
  zal_c (zi_i2l (by decide +kernel) rfl) <|
  zal_c (zi_ldc2 (n := 144) (by decide +kernel) rfl wc_M_144) <|
  zal_c (zi_ldc2 (n := 146) (by decide +kernel) rfl wc_M_146) <|
  zal_c (zi_cs (index := 52) (by decide +kernel) rfl mk_M_in wm_M_52 wq_M_in ⟨rfl, rfl⟩ ⟨Nat.le_of_ble_eq_true rfl, Nat.le_of_ble_eq_true rfl⟩) <|
  zal_c (zi_ifne (off := 10) (by decide +kernel) rfl rfl) <|
  zal_c (zi_aln (j := 0) (by decide +kernel) rfl rfl) <|
  zal_c (zi_ldc (n := 44) (by decide +kernel) rfl wc_M_44) <|
  zal_c (zi_cv (index := 69) (qc := (RX5, TX5, 17)) (by decide +kernel) rfl mk_M_finds rfl wm_M_69 wq_M_finds ww_M_finds ⟨rfl, rfl⟩ ⟨Nat.le_of_ble_eq_true rfl, Nat.le_of_ble_eq_true rfl⟩) <|
  zal_c (zi_ir (by decide +kernel) rfl) <|
  zal_c (zi_aln (j := 0) (by decide +kernel) rfl rfl) <|
  zal_c (zi_cv (index := 130) (qc := (RX5, TX5, 17)) (by decide +kernel) rfl mk_M_laysAside rfl wm_M_130 wq_M_laysAside ww_M_laysAside ⟨rfl, rfl⟩ ⟨Nat.le_of_ble_eq_true rfl, Nat.le_of_ble_eq_true rfl⟩) <|
  zal_c (zi_iconst (n := 0) (by decide +kernel) rfl rfl) <|
  zal_c (zi_isn (j := 3) (by decide +kernel) rfl rfl (Nat.le_of_ble_eq_true rfl)) <|
  zal_c (zi_iln (j := 3) (by decide +kernel) rfl rfl) <|
  zal_c (zi_bipush (n := 100) (by decide +kernel) rfl rfl) <|
  zal_c (zi_cgt (off := 23) (by decide +kernel) rfl rfl) <|
  zal_c (zi_aln (j := 0) (by decide +kernel) rfl rfl) <|
  zal_c (zi_iln (j := 1) (by decide +kernel) rfl rfl) <|
  zal_c (zi_iconst (n := 1) (by decide +kernel) rfl rfl) <|
  zal_c (zi_cv (index := 61) (qc := (RX5, TX5, 17)) (by decide +kernel) rfl mk_M_theirs rfl wm_M_61 wq_M_theirs ww_M_theirs ⟨rfl, rfl⟩ ⟨Nat.le_of_ble_eq_true rfl, Nat.le_of_ble_eq_true rfl⟩) <|
  zal_c (zi_iln (j := 2) (by decide +kernel) rfl rfl) <|
  zal_c (zi_cge (off := 13) (by decide +kernel) rfl rfl) <|
  zal_c (zi_aln (j := 0) (by decide +kernel) rfl rfl) <|
  zal_c (zi_cv (index := 133) (qc := (RX5, TX5, 17)) (by decide +kernel) rfl mk_M_sunday rfl wm_M_133 wq_M_sunday ww_M_sunday ⟨rfl, rfl⟩ ⟨Nat.le_of_ble_eq_true rfl, Nat.le_of_ble_eq_true rfl⟩) <|
  zal_c (zi_inc (n := 1) (by decide +kernel) rfl rfl) <|
  zal_c (zi_goto (off := -23) (by decide +kernel) rfl) <|
  zal_c (zi_aln (j := 0) (by decide +kernel) rfl rfl) <|
  zal_c (zi_iln (j := 3) (by decide +kernel) rfl rfl) <|
  zal_c (zi_cv (index := 136) (qc := (RX5, TX5, 17)) (by decide +kernel) rfl mk_M_takesBack rfl wm_M_136 wq_M_takesBack ww_M_takesBack ⟨rfl, rfl⟩ ⟨Nat.le_of_ble_eq_true rfl, Nat.le_of_ble_eq_true rfl⟩) <|
  zal_c (zi_is (by decide +kernel) rfl (Nat.le_of_ble_eq_true rfl)) <|
  zal_c (zi_il (by decide +kernel) rfl) <|
  zal_c (zi_bipush (n := 100) (by decide +kernel) rfl rfl) <|
  zal_c (zi_cle (off := 12) (by decide +kernel) rfl rfl) <|
  zal_c (zi_aln (j := 0) (by decide +kernel) rfl rfl) <|
  zal_c (zi_ldc (n := 179) (by decide +kernel) rfl wc_M_179) <|
  zal_c (zi_cv (index := 69) (qc := (RX5, TX5, 17)) (by decide +kernel) rfl mk_M_finds rfl wm_M_69 wq_M_finds ww_M_finds ⟨rfl, rfl⟩ ⟨Nat.le_of_ble_eq_true rfl, Nat.le_of_ble_eq_true rfl⟩) <|
  zal_c (zi_goto (off := 5) (by decide +kernel) rfl) <|
  zal_c (zi_il (by decide +kernel) rfl) <|
  zal_c (zi_ir (by decide +kernel) rfl) <|
  zal_n
set_option maxRecDepth 100000 in
set_option maxHeartbeats 4000000 in
theorem sn_M_cold (l : Launch) : zAl l 143 tb_M_cold :=
  zal_c (zi_aln (j := 0) (by decide +kernel) rfl rfl) <|
  zal_c (zi_iln (j := 1) (by decide +kernel) rfl rfl) <|
  zal_c (zi_cv (index := 94) (qc := (RX5, TX5, 17)) (by decide +kernel) rfl mk_M_isInlaw rfl wm_M_94 wq_M_isInlaw ww_M_isInlaw ⟨rfl, rfl⟩ ⟨Nat.le_of_ble_eq_true rfl, Nat.le_of_ble_eq_true rfl⟩) <|
  zal_c (zi_ifne (off := 10) (by decide +kernel) rfl rfl) <|
  zal_c (zi_aln (j := 0) (by decide +kernel) rfl rfl) <|
  zal_c (zi_ldc (n := 44) (by decide +kernel) rfl wc_M_44) <|
  zal_c (zi_cv (index := 69) (qc := (RX5, TX5, 17)) (by decide +kernel) rfl mk_M_finds rfl wm_M_69 wq_M_finds ww_M_finds ⟨rfl, rfl⟩ ⟨Nat.le_of_ble_eq_true rfl, Nat.le_of_ble_eq_true rfl⟩) <|
  zal_c (zi_ir (by decide +kernel) rfl) <|
  zal_c (zi_aln (j := 0) (by decide +kernel) rfl rfl) <|
  zal_c (zi_cv (index := 130) (qc := (RX5, TX5, 17)) (by decide +kernel) rfl mk_M_laysAside rfl wm_M_130 wq_M_laysAside ww_M_laysAside ⟨rfl, rfl⟩ ⟨Nat.le_of_ble_eq_true rfl, Nat.le_of_ble_eq_true rfl⟩) <|
  zal_c (zi_iconst (n := 0) (by decide +kernel) rfl rfl) <|
  zal_c (zi_isn (j := 2) (by decide +kernel) rfl rfl (Nat.le_of_ble_eq_true rfl)) <|
  zal_c (zi_iln (j := 2) (by decide +kernel) rfl rfl) <|
  zal_c (zi_bipush (n := 100) (by decide +kernel) rfl rfl) <|
  zal_c (zi_cgt (off := 22) (by decide +kernel) rfl rfl) <|
  zal_c (zi_aln (j := 0) (by decide +kernel) rfl rfl) <|
  zal_c (zi_iln (j := 1) (by decide +kernel) rfl rfl) <|
  zal_c (zi_iconst (n := 1) (by decide +kernel) rfl rfl) <|
  zal_c (zi_cv (index := 58) (qc := (RX5, TX5, 17)) (by decide +kernel) rfl mk_M_its rfl wm_M_58 wq_M_its ww_M_its ⟨rfl, rfl⟩ ⟨Nat.le_of_ble_eq_true rfl, Nat.le_of_ble_eq_true rfl⟩) <|
  zal_c (zi_ifle (off := 13) (by decide +kernel) rfl rfl) <|
  zal_c (zi_aln (j := 0) (by decide +kernel) rfl rfl) <|
  zal_c (zi_cv (index := 133) (qc := (RX5, TX5, 17)) (by decide +kernel) rfl mk_M_sunday rfl wm_M_133 wq_M_sunday ww_M_sunday ⟨rfl, rfl⟩ ⟨Nat.le_of_ble_eq_true rfl, Nat.le_of_ble_eq_true rfl⟩) <|
  zal_c (zi_inc (n := 1) (by decide +kernel) rfl rfl) <|
  zal_c (zi_goto (off := -22) (by decide +kernel) rfl) <|
  zal_c (zi_aln (j := 0) (by decide +kernel) rfl rfl) <|
  zal_c (zi_iln (j := 2) (by decide +kernel) rfl rfl) <|
  zal_c (zi_cv (index := 136) (qc := (RX5, TX5, 17)) (by decide +kernel) rfl mk_M_takesBack rfl wm_M_136 wq_M_takesBack ww_M_takesBack ⟨rfl, rfl⟩ ⟨Nat.le_of_ble_eq_true rfl, Nat.le_of_ble_eq_true rfl⟩) <|
  zal_c (zi_isn (j := 3) (by decide +kernel) rfl rfl (Nat.le_of_ble_eq_true rfl)) <|
  zal_c (zi_iln (j := 3) (by decide +kernel) rfl rfl) <|
  zal_c (zi_bipush (n := 100) (by decide +kernel) rfl rfl) <|
  zal_c (zi_cle (off := 12) (by decide +kernel) rfl rfl) <|
  zal_c (zi_aln (j := 0) (by decide +kernel) rfl rfl) <|
  zal_c (zi_ldc (n := 179) (by decide +kernel) rfl wc_M_179) <|
  zal_c (zi_cv (index := 69) (qc := (RX5, TX5, 17)) (by decide +kernel) rfl mk_M_finds rfl wm_M_69 wq_M_finds ww_M_finds ⟨rfl, rfl⟩ ⟨Nat.le_of_ble_eq_true rfl, Nat.le_of_ble_eq_true rfl⟩) <|
  zal_c (zi_goto (off := 4) (by decide +kernel) rfl) <|
  zal_c (zi_iln (j := 3) (by decide +kernel) rfl rfl) <|
  zal_c (zi_ir (by decide +kernel) rfl) <|
  zal_n
set_option maxRecDepth 100000 in
set_option maxHeartbeats 4000000 in
theorem sn_M_isSoon (l : Launch) : zAl l 144 tb_M_isSoon :=
  zal_c (zi_iln (j := 0) (by decide +kernel) rfl rfl) <|
  zal_c (zi_i2l (by decide +kernel) rfl) <|
  zal_c (zi_lconst (n := 1) (by decide +kernel) rfl rfl) <|
  zal_c (zi_ldc2 (n := 165) (by decide +kernel) rfl wc_M_165) <|
  zal_c (zi_cs (index := 52) (by decide +kernel) rfl mk_M_in wm_M_52 wq_M_in ⟨rfl, rfl⟩ ⟨Nat.le_of_ble_eq_true rfl, Nat.le_of_ble_eq_true rfl⟩) <|
  zal_c (zi_zr (by decide +kernel) rfl) <|
  zal_n
set_option maxRecDepth 100000 in
set_option maxHeartbeats 4000000 in
theorem sn_M_mostBy (l : Launch) : zAl l 145 tb_M_mostBy :=
  zal_c (zi_aln (j := 0) (by decide +kernel) rfl rfl) <|
  zal_c (zi_get (CN := RX5) (T := TX5) (N := 17) (index := 7) (by decide +kernel) rfl rfl (by decide) uw_X5 wf_M_7) <|
  zal_c (zi_iln (j := 1) (by decide +kernel) rfl rfl) <|
  zal_c (zi_iald (by decide +kernel) rfl) <|
  zal_c (zi_is (by decide +kernel) rfl (Nat.le_of_ble_eq_true rfl)) <|
  zal_c (zi_iconst (n := 0) (by decide +kernel) rfl rfl) <|
  zal_c (zi_is (by decide +kernel) rfl (Nat.le_of_ble_eq_true rfl)) <|
  zal_c (zi_ldc (n := 180) (by decide +kernel) rfl wc_M_180) <|
  zal_c (zi_is (by decide +kernel) rfl (Nat.le_of_ble_eq_true rfl)) <|
  zal_c (zi_iconst (n := 0) (by decide +kernel) rfl rfl) <|
  zal_c (zi_is (by decide +kernel) rfl (Nat.le_of_ble_eq_true rfl)) <|
  zal_c (zi_il (by decide +kernel) rfl) <|
  zal_c (zi_iln (j := 2) (by decide +kernel) rfl rfl) <|
  zal_c (zi_cgt (off := 58) (by decide +kernel) rfl rfl) <|
  zal_c (zi_aln (j := 0) (by decide +kernel) rfl rfl) <|
  zal_c (zi_get (CN := RX5) (T := TX5) (N := 17) (index := 7) (by decide +kernel) rfl rfl (by decide) uw_X5 wf_M_7) <|
  zal_c (zi_iln (j := 1) (by decide +kernel) rfl rfl) <|
  zal_c (zi_il (by decide +kernel) rfl) <|
  zal_c (zi_iast (by decide +kernel) rfl) <|
  zal_c (zi_aln (j := 0) (by decide +kernel) rfl rfl) <|
  zal_c (zi_iln (j := 3) (by decide +kernel) rfl rfl) <|
  zal_c (zi_il (by decide +kernel) rfl) <|
  zal_c (zi_cv (index := 176) (qc := (RX5, TX5, 17)) (by decide +kernel) rfl mk_M_behind rfl wm_M_176 wq_M_behind ww_M_behind ⟨rfl, rfl⟩ ⟨Nat.le_of_ble_eq_true rfl, Nat.le_of_ble_eq_true rfl⟩) <|
  zal_c (zi_is (by decide +kernel) rfl (Nat.le_of_ble_eq_true rfl)) <|
  zal_c (zi_il (by decide +kernel) rfl) <|
  zal_c (zi_il (by decide +kernel) rfl) <|
  zal_c (zi_cle (off := 8) (by decide +kernel) rfl rfl) <|
  zal_c (zi_il (by decide +kernel) rfl) <|
  zal_c (zi_goto (off := 5) (by decide +kernel) rfl) <|
  zal_c (zi_il (by decide +kernel) rfl) <|
  zal_c (zi_is (by decide +kernel) rfl (Nat.le_of_ble_eq_true rfl)) <|
  zal_c (zi_il (by decide +kernel) rfl) <|
  zal_c (zi_il (by decide +kernel) rfl) <|
  zal_c (zi_cle (off := 8) (by decide +kernel) rfl rfl) <|
  zal_c (zi_il (by decide +kernel) rfl) <|
  zal_c (zi_goto (off := 5) (by decide +kernel) rfl) <|
  zal_c (zi_il (by decide +kernel) rfl) <|
  zal_c (zi_is (by decide +kernel) rfl (Nat.le_of_ble_eq_true rfl)) <|
  zal_c (zi_inc (n := 1) (by decide +kernel) rfl rfl) <|
  zal_c (zi_goto (off := -58) (by decide +kernel) rfl) <|
  zal_c (zi_aln (j := 0) (by decide +kernel) rfl rfl) <|
  zal_c (zi_get (CN := RX5) (T := TX5) (N := 17) (index := 7) (by decide +kernel) rfl rfl (by decide) uw_X5 wf_M_7) <|
  zal_c (zi_iln (j := 1) (by decide +kernel) rfl rfl) <|
  zal_c (zi_il (by decide +kernel) rfl) <|
  zal_c (zi_iast (by decide +kernel) rfl) <|
  zal_c (zi_il (by decide +kernel) rfl) <|
  zal_c (zi_ir (by decide +kernel) rfl) <|
  zal_n
set_option maxRecDepth 100000 in
set_option maxHeartbeats 4000000 in
theorem sn_M_kind (l : Launch) : zAl l 146 tb_M_kind :=
  zal_c (zi_aln (j := 0) (by decide +kernel) rfl rfl) <|
  zal_c (zi_iln (j := 1) (by decide +kernel) rfl rfl) <|
  zal_c (zi_cv (index := 94) (qc := (RX5, TX5, 17)) (by decide +kernel) rfl mk_M_isInlaw rfl wm_M_94 wq_M_isInlaw ww_M_isInlaw ⟨rfl, rfl⟩ ⟨Nat.le_of_ble_eq_true rfl, Nat.le_of_ble_eq_true rfl⟩) <|
  zal_c (zi_ifeq (off := 29) (by decide +kernel) rfl rfl) <|
  zal_c (zi_iln (j := 2) (by decide +kernel) rfl rfl) <|
  zal_c (zi_cs (index := 181) (by decide +kernel) rfl mk_M_isSoon wm_M_181 wq_M_isSoon ⟨rfl, rfl⟩ ⟨Nat.le_of_ble_eq_true rfl, Nat.le_of_ble_eq_true rfl⟩) <|
  zal_c (zi_ifeq (off := 22) (by decide +kernel) rfl rfl) <|
  zal_c (zi_aln (j := 0) (by decide +kernel) rfl rfl) <|
  zal_c (zi_iln (j := 1) (by decide +kernel) rfl rfl) <|
  zal_c (zi_iconst (n := 0) (by decide +kernel) rfl rfl) <|
  zal_c (zi_cs (index := 45) (by decide +kernel) rfl mk_M_spot wm_M_45 wq_M_spot ⟨rfl, rfl⟩ ⟨Nat.le_of_ble_eq_true rfl, Nat.le_of_ble_eq_true rfl⟩) <|
  zal_c (zi_iconst (n := 5) (by decide +kernel) rfl rfl) <|
  zal_c (zi_iln (j := 1) (by decide +kernel) rfl rfl) <|
  zal_c (zi_iconst (n := 4) (by decide +kernel) rfl rfl) <|
  zal_c (zi_cs (index := 45) (by decide +kernel) rfl mk_M_spot wm_M_45 wq_M_spot ⟨rfl, rfl⟩ ⟨Nat.le_of_ble_eq_true rfl, Nat.le_of_ble_eq_true rfl⟩) <|
  zal_c (zi_iln (j := 2) (by decide +kernel) rfl rfl) <|
  zal_c (zi_cv (index := 184) (qc := (RX5, TX5, 17)) (by decide +kernel) rfl mk_M_mostBy rfl wm_M_184 wq_M_mostBy ww_M_mostBy ⟨rfl, rfl⟩ ⟨Nat.le_of_ble_eq_true rfl, Nat.le_of_ble_eq_true rfl⟩) <|
  zal_c (zi_goto (off := 9) (by decide +kernel) rfl) <|
  zal_c (zi_aln (j := 0) (by decide +kernel) rfl rfl) <|
  zal_c (zi_ldc (n := 44) (by decide +kernel) rfl wc_M_44) <|
  zal_c (zi_cv (index := 69) (qc := (RX5, TX5, 17)) (by decide +kernel) rfl mk_M_finds rfl wm_M_69 wq_M_finds ww_M_finds ⟨rfl, rfl⟩ ⟨Nat.le_of_ble_eq_true rfl, Nat.le_of_ble_eq_true rfl⟩) <|
  zal_c (zi_ir (by decide +kernel) rfl) <|
  zal_n
set_option maxRecDepth 100000 in
set_option maxHeartbeats 4000000 in
theorem sn_M_warm (l : Launch) : zAl l 147 tb_M_warm :=
  zal_c (zi_aln (j := 0) (by decide +kernel) rfl rfl) <|
  zal_c (zi_iln (j := 1) (by decide +kernel) rfl rfl) <|
  zal_c (zi_cv (index := 94) (qc := (RX5, TX5, 17)) (by decide +kernel) rfl mk_M_isInlaw rfl wm_M_94 wq_M_isInlaw ww_M_isInlaw ⟨rfl, rfl⟩ ⟨Nat.le_of_ble_eq_true rfl, Nat.le_of_ble_eq_true rfl⟩) <|
  zal_c (zi_ifeq (off := 22) (by decide +kernel) rfl rfl) <|
  zal_c (zi_iln (j := 2) (by decide +kernel) rfl rfl) <|
  zal_c (zi_cs (index := 181) (by decide +kernel) rfl mk_M_isSoon wm_M_181 wq_M_isSoon ⟨rfl, rfl⟩ ⟨Nat.le_of_ble_eq_true rfl, Nat.le_of_ble_eq_true rfl⟩) <|
  zal_c (zi_ifeq (off := 15) (by decide +kernel) rfl rfl) <|
  zal_c (zi_iln (j := 3) (by decide +kernel) rfl rfl) <|
  zal_c (zi_i2l (by decide +kernel) rfl) <|
  zal_c (zi_lconst (n := 0) (by decide +kernel) rfl rfl) <|
  zal_c (zi_ldc2 (n := 118) (by decide +kernel) rfl wc_M_118) <|
  zal_c (zi_cs (index := 52) (by decide +kernel) rfl mk_M_in wm_M_52 wq_M_in ⟨rfl, rfl⟩ ⟨Nat.le_of_ble_eq_true rfl, Nat.le_of_ble_eq_true rfl⟩) <|
  zal_c (zi_ifne (off := 10) (by decide +kernel) rfl rfl) <|
  zal_c (zi_aln (j := 0) (by decide +kernel) rfl rfl) <|
  zal_c (zi_ldc (n := 44) (by decide +kernel) rfl wc_M_44) <|
  zal_c (zi_cv (index := 69) (qc := (RX5, TX5, 17)) (by decide +kernel) rfl mk_M_finds rfl wm_M_69 wq_M_finds ww_M_finds ⟨rfl, rfl⟩ ⟨Nat.le_of_ble_eq_true rfl, Nat.le_of_ble_eq_true rfl⟩) <|
  zal_c (zi_ir (by decide +kernel) rfl) <|
  zal_c (zi_iln (j := 1) (by decide +kernel) rfl rfl) <|
  zal_c (zi_iconst (n := 1) (by decide +kernel) rfl rfl) <|
  zal_c (zi_cs (index := 45) (by decide +kernel) rfl mk_M_spot wm_M_45 wq_M_spot ⟨rfl, rfl⟩ ⟨Nat.le_of_ble_eq_true rfl, Nat.le_of_ble_eq_true rfl⟩) <|
  zal_c (zi_is (by decide +kernel) rfl (Nat.le_of_ble_eq_true rfl)) <|
  zal_c (zi_aln (j := 0) (by decide +kernel) rfl rfl) <|
  zal_c (zi_get (CN := RX5) (T := TX5) (N := 17) (index := 7) (by decide +kernel) rfl rfl (by decide) uw_X5 wf_M_7) <|
  zal_c (zi_il (by decide +kernel) rfl) <|
  zal_c (zi_iald (by decide +kernel) rfl) <|
  zal_c (zi_is (by decide +kernel) rfl (Nat.le_of_ble_eq_true rfl)) <|
  zal_c (zi_iconst (n := -1) (by decide +kernel) rfl rfl) <|
  zal_c (zi_is (by decide +kernel) rfl (Nat.le_of_ble_eq_true rfl)) <|
  zal_c (zi_iconst (n := 0) (by decide +kernel) rfl rfl) <|
  zal_c (zi_is (by decide +kernel) rfl (Nat.le_of_ble_eq_true rfl)) <|
  zal_c (zi_il (by decide +kernel) rfl) <|
  zal_c (zi_bipush (n := 99) (by decide +kernel) rfl rfl) <|
  zal_c (zi_cgt (off := 45) (by decide +kernel) rfl rfl) <|
  zal_c (zi_il (by decide +kernel) rfl) <|
  zal_c (zi_ifge (off := 40) (by decide +kernel) rfl rfl) <|
  zal_c (zi_aln (j := 0) (by decide +kernel) rfl rfl) <|
  zal_c (zi_get (CN := RX5) (T := TX5) (N := 17) (index := 7) (by decide +kernel) rfl rfl (by decide) uw_X5 wf_M_7) <|
  zal_c (zi_il (by decide +kernel) rfl) <|
  zal_c (zi_il (by decide +kernel) rfl) <|
  zal_c (zi_iast (by decide +kernel) rfl) <|
  zal_c (zi_aln (j := 0) (by decide +kernel) rfl rfl) <|
  zal_c (zi_iln (j := 1) (by decide +kernel) rfl rfl) <|
  zal_c (zi_iconst (n := 4) (by decide +kernel) rfl rfl) <|
  zal_c (zi_cs (index := 45) (by decide +kernel) rfl mk_M_spot wm_M_45 wq_M_spot ⟨rfl, rfl⟩ ⟨Nat.le_of_ble_eq_true rfl, Nat.le_of_ble_eq_true rfl⟩) <|
  zal_c (zi_iln (j := 2) (by decide +kernel) rfl rfl) <|
  zal_c (zi_cv (index := 176) (qc := (RX5, TX5, 17)) (by decide +kernel) rfl mk_M_behind rfl wm_M_176 wq_M_behind ww_M_behind ⟨rfl, rfl⟩ ⟨Nat.le_of_ble_eq_true rfl, Nat.le_of_ble_eq_true rfl⟩) <|
  zal_c (zi_iln (j := 3) (by decide +kernel) rfl rfl) <|
  zal_c (zi_clt (off := 8) (by decide +kernel) rfl rfl) <|
  zal_c (zi_il (by decide +kernel) rfl) <|
  zal_c (zi_goto (off := 4) (by decide +kernel) rfl) <|
  zal_c (zi_iconst (n := -1) (by decide +kernel) rfl rfl) <|
  zal_c (zi_is (by decide +kernel) rfl (Nat.le_of_ble_eq_true rfl)) <|
  zal_c (zi_inc (n := 1) (by decide +kernel) rfl rfl) <|
  zal_c (zi_goto (off := -46) (by decide +kernel) rfl) <|
  zal_c (zi_aln (j := 0) (by decide +kernel) rfl rfl) <|
  zal_c (zi_get (CN := RX5) (T := TX5) (N := 17) (index := 7) (by decide +kernel) rfl rfl (by decide) uw_X5 wf_M_7) <|
  zal_c (zi_il (by decide +kernel) rfl) <|
  zal_c (zi_il (by decide +kernel) rfl) <|
  zal_c (zi_iast (by decide +kernel) rfl) <|
  zal_c (zi_il (by decide +kernel) rfl) <|
  zal_c (zi_ifge (off := 12) (by decide +kernel) rfl rfl) <|
  zal_c (zi_aln (j := 0) (by decide +kernel) rfl rfl) <|
  zal_c (zi_ldc (n := 179) (by decide +kernel) rfl wc_M_179) <|
  zal_c (zi_cv (index := 69) (qc := (RX5, TX5, 17)) (by decide +kernel) rfl mk_M_finds rfl wm_M_69 wq_M_finds ww_M_finds ⟨rfl, rfl⟩ ⟨Nat.le_of_ble_eq_true rfl, Nat.le_of_ble_eq_true rfl⟩) <|
  zal_c (zi_goto (off := 5) (by decide +kernel) rfl) <|
  zal_c (zi_il (by decide +kernel) rfl) <|
  zal_c (zi_ir (by decide +kernel) rfl) <|
  zal_n
