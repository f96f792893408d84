/-! THE LAW'S TABLES ARE SOUND (by program) -/
set_option maxRecDepth 100000 in
set_option maxHeartbeats 4000000 in
theorem sl_18 (l : Launch) (b n : Nat) (xs : Nat → Int32) : zLl l b n xs (lwt_18 xs n) :=
  zll_c (zl_aln (j := 1) (by decide +kernel) rfl rfl) <|
  zll_c (zl_aln (j := 0) (by decide +kernel) rfl rfl) <|
  zll_c (zl_iln (j := 3) (by decide +kernel) rfl rfl) <|
  zll_c (zl_iconst (n' := 1) (by decide +kernel) rfl rfl) <|
  zll_c (zl_iadd (by decide +kernel) rfl) <|
  zll_c (zl_scr (by decide +kernel) rfl) <|
  zll_c (zl_aln (j := 0) (by decide +kernel) rfl rfl) <|
  zll_c (zl_iln (j := 3) (by decide +kernel) rfl rfl) <|
  zll_c (zl_iconst (n' := 2) (by decide +kernel) rfl rfl) <|
  zll_c (zl_iadd (by decide +kernel) rfl) <|
  zll_c (zl_scr (by decide +kernel) rfl) <|
  zll_c (zl_aln (j := 0) (by decide +kernel) rfl rfl) <|
  zll_c (zl_iln (j := 3) (by decide +kernel) rfl rfl) <|
  zll_c (zl_iconst (n' := 3) (by decide +kernel) rfl rfl) <|
  zll_c (zl_iadd (by decide +kernel) rfl) <|
  zll_c (zl_scr (by decide +kernel) rfl) <|
  zll_c (zl_cv (index := 88) (qc := (RX4, TX4, 7)) (by decide +kernel) rfl mk_X_warm rfl wm_L_88 wq_X_warm ww_X_warm ⟨rfl, rfl⟩ ⟨Nat.le_of_ble_eq_true rfl, Nat.le_of_ble_eq_true rfl⟩) <|
  zll_c (zl_aln (j := 2) (by decide +kernel) rfl rfl) <|
  zll_c (zl_aln (j := 0) (by decide +kernel) rfl rfl) <|
  zll_c (zl_iln (j := 3) (by decide +kernel) rfl rfl) <|
  zll_c (zl_iconst (n' := 1) (by decide +kernel) rfl rfl) <|
  zll_c (zl_iadd (by decide +kernel) rfl) <|
  zll_c (zl_scr (by decide +kernel) rfl) <|
  zll_c (zl_aln (j := 0) (by decide +kernel) rfl rfl) <|
  zll_c (zl_iln (j := 3) (by decide +kernel) rfl rfl) <|
  zll_c (zl_iconst (n' := 2) (by decide +kernel) rfl rfl) <|
  zll_c (zl_iadd (by decide +kernel) rfl) <|
  zll_c (zl_scr (by decide +kernel) rfl) <|
  zll_c (zl_aln (j := 0) (by decide +kernel) rfl rfl) <|
  zll_c (zl_iln (j := 3) (by decide +kernel) rfl rfl) <|
  zll_c (zl_iconst (n' := 3) (by decide +kernel) rfl rfl) <|
  zll_c (zl_iadd (by decide +kernel) rfl) <|
  zll_c (zl_scr (by decide +kernel) rfl) <|
  zll_c (zl_cv (index := 91) (qc := (RX5, TX5, 17)) (by decide +kernel) rfl mk_M_warm rfl wm_L_91 wq_M_warm ww_M_warm ⟨rfl, rfl⟩ ⟨Nat.le_of_ble_eq_true rfl, Nat.le_of_ble_eq_true rfl⟩) <|
  zll_c (zl_ceq (off := 530) (by decide +kernel) rfl rfl) <|
  zll_c (zl_iconst (n' := 0) (by decide +kernel) rfl rfl) <|
  zll_c (zl_zr (by decide +kernel)) <|
  zll_n
set_option maxRecDepth 100000 in
set_option maxHeartbeats 4000000 in
theorem sl_19 (l : Launch) (b n : Nat) (xs : Nat → Int32) : zLl l b n xs (lwt_19 xs n) :=
  zll_c (zl_aln (j := 1) (by decide +kernel) rfl rfl) <|
  zll_c (zl_aln (j := 0) (by decide +kernel) rfl rfl) <|
  zll_c (zl_iln (j := 3) (by decide +kernel) rfl rfl) <|
  zll_c (zl_iconst (n' := 1) (by decide +kernel) rfl rfl) <|
  zll_c (zl_iadd (by decide +kernel) rfl) <|
  zll_c (zl_scr (by decide +kernel) rfl) <|
  zll_c (zl_cv (index := 92) (qc := (RX4, TX4, 7)) (by decide +kernel) rfl mk_X_sit rfl wm_L_92 wq_X_sit ww_X_sit ⟨rfl, rfl⟩ ⟨Nat.le_of_ble_eq_true rfl, Nat.le_of_ble_eq_true rfl⟩) <|
  zll_c (zl_aln (j := 2) (by decide +kernel) rfl rfl) <|
  zll_c (zl_aln (j := 0) (by decide +kernel) rfl rfl) <|
  zll_c (zl_iln (j := 3) (by decide +kernel) rfl rfl) <|
  zll_c (zl_iconst (n' := 1) (by decide +kernel) rfl rfl) <|
  zll_c (zl_iadd (by decide +kernel) rfl) <|
  zll_c (zl_scr (by decide +kernel) rfl) <|
  zll_c (zl_cv (index := 95) (qc := (RX5, TX5, 17)) (by decide +kernel) rfl mk_M_sit rfl wm_L_95 wq_M_sit ww_M_sit ⟨rfl, rfl⟩ ⟨Nat.le_of_ble_eq_true rfl, Nat.le_of_ble_eq_true rfl⟩) <|
  zll_c (zl_ceq (off := 507) (by decide +kernel) rfl rfl) <|
  zll_c (zl_iconst (n' := 0) (by decide +kernel) rfl rfl) <|
  zll_c (zl_zr (by decide +kernel)) <|
  zll_n
set_option maxRecDepth 100000 in
set_option maxHeartbeats 4000000 in
theorem sl_20 (l : Launch) (b n : Nat) (xs : Nat → Int32) : zLl l b n xs (lwt_20 xs n) :=
  zll_c (zl_aln (j := 1) (by decide +kernel) rfl rfl) <|
  zll_c (zl_aln (j := 0) (by decide +kernel) rfl rfl) <|
  zll_c (zl_iln (j := 3) (by decide +kernel) rfl rfl) <|
  zll_c (zl_iconst (n' := 1) (by decide +kernel) rfl rfl) <|
  zll_c (zl_iadd (by decide +kernel) rfl) <|
  zll_c (zl_scr (by decide +kernel) rfl) <|
  zll_c (zl_aln (j := 0) (by decide +kernel) rfl rfl) <|
  zll_c (zl_iln (j := 3) (by decide +kernel) rfl rfl) <|
  zll_c (zl_iconst (n' := 2) (by decide +kernel) rfl rfl) <|
  zll_c (zl_iadd (by decide +kernel) rfl) <|
  zll_c (zl_scr (by decide +kernel) rfl) <|
  zll_c (zl_cv (index := 96) (qc := (RX4, TX4, 7)) (by decide +kernel) rfl mk_X_loud rfl wm_L_96 wq_X_loud ww_X_loud ⟨rfl, rfl⟩ ⟨Nat.le_of_ble_eq_true rfl, Nat.le_of_ble_eq_true rfl⟩) <|
  zll_c (zl_aln (j := 2) (by decide +kernel) rfl rfl) <|
  zll_c (zl_aln (j := 0) (by decide +kernel) rfl rfl) <|
  zll_c (zl_iln (j := 3) (by decide +kernel) rfl rfl) <|
  zll_c (zl_iconst (n' := 1) (by decide +kernel) rfl rfl) <|
  zll_c (zl_iadd (by decide +kernel) rfl) <|
  zll_c (zl_scr (by decide +kernel) rfl) <|
  zll_c (zl_aln (j := 0) (by decide +kernel) rfl rfl) <|
  zll_c (zl_iln (j := 3) (by decide +kernel) rfl rfl) <|
  zll_c (zl_iconst (n' := 2) (by decide +kernel) rfl rfl) <|
  zll_c (zl_iadd (by decide +kernel) rfl) <|
  zll_c (zl_scr (by decide +kernel) rfl) <|
  zll_c (zl_cv (index := 99) (qc := (RX5, TX5, 17)) (by decide +kernel) rfl mk_M_loud rfl wm_L_99 wq_M_loud ww_M_loud ⟨rfl, rfl⟩ ⟨Nat.le_of_ble_eq_true rfl, Nat.le_of_ble_eq_true rfl⟩) <|
  zll_c (zl_ceq (off := 474) (by decide +kernel) rfl rfl) <|
  zll_c (zl_iconst (n' := 0) (by decide +kernel) rfl rfl) <|
  zll_c (zl_zr (by decide +kernel)) <|
  zll_n
set_option maxRecDepth 100000 in
set_option maxHeartbeats 4000000 in
theorem sl_21 (l : Launch) (b n : Nat) (xs : Nat → Int32) : zLl l b n xs (lwt_21 xs n) :=
  zll_c (zl_aln (j := 1) (by decide +kernel) rfl rfl) <|
  zll_c (zl_aln (j := 0) (by decide +kernel) rfl rfl) <|
  zll_c (zl_iln (j := 3) (by decide +kernel) rfl rfl) <|
  zll_c (zl_iconst (n' := 1) (by decide +kernel) rfl rfl) <|
  zll_c (zl_iadd (by decide +kernel) rfl) <|
  zll_c (zl_scr (by decide +kernel) rfl) <|
  zll_c (zl_cv (index := 100) (qc := (RX4, TX4, 7)) (by decide +kernel) rfl mk_X_stoke rfl wm_L_100 wq_X_stoke ww_X_stoke ⟨rfl, rfl⟩ ⟨Nat.le_of_ble_eq_true rfl, Nat.le_of_ble_eq_true rfl⟩) <|
  zll_c (zl_aln (j := 2) (by decide +kernel) rfl rfl) <|
  zll_c (zl_aln (j := 0) (by decide +kernel) rfl rfl) <|
  zll_c (zl_iln (j := 3) (by decide +kernel) rfl rfl) <|
  zll_c (zl_iconst (n' := 1) (by decide +kernel) rfl rfl) <|
  zll_c (zl_iadd (by decide +kernel) rfl) <|
  zll_c (zl_scr (by decide +kernel) rfl) <|
  zll_c (zl_cv (index := 103) (qc := (RX5, TX5, 17)) (by decide +kernel) rfl mk_M_stoke rfl wm_L_103 wq_M_stoke ww_M_stoke ⟨rfl, rfl⟩ ⟨Nat.le_of_ble_eq_true rfl, Nat.le_of_ble_eq_true rfl⟩) <|
  zll_c (zl_ceq (off := 451) (by decide +kernel) rfl rfl) <|
  zll_c (zl_iconst (n' := 0) (by decide +kernel) rfl rfl) <|
  zll_c (zl_zr (by decide +kernel)) <|
  zll_n
set_option maxRecDepth 100000 in
set_option maxHeartbeats 4000000 in
theorem sl_22 (l : Launch) (b n : Nat) (xs : Nat → Int32) : zLl l b n xs (lwt_22 xs n) :=
  zll_c (zl_aln (j := 1) (by decide +kernel) rfl rfl) <|
  zll_c (zl_aln (j := 0) (by decide +kernel) rfl rfl) <|
  zll_c (zl_iln (j := 3) (by decide +kernel) rfl rfl) <|
  zll_c (zl_iconst (n' := 1) (by decide +kernel) rfl rfl) <|
  zll_c (zl_iadd (by decide +kernel) rfl) <|
  zll_c (zl_scr (by decide +kernel) rfl) <|
  zll_c (zl_cv (index := 104) (qc := (RX4, TX4, 7)) (by decide +kernel) rfl mk_X_lonely rfl wm_L_104 wq_X_lonely ww_X_lonely ⟨rfl, rfl⟩ ⟨Nat.le_of_ble_eq_true rfl, Nat.le_of_ble_eq_true rfl⟩) <|
  zll_c (zl_aln (j := 2) (by decide +kernel) rfl rfl) <|
  zll_c (zl_aln (j := 0) (by decide +kernel) rfl rfl) <|
  zll_c (zl_iln (j := 3) (by decide +kernel) rfl rfl) <|
  zll_c (zl_iconst (n' := 1) (by decide +kernel) rfl rfl) <|
  zll_c (zl_iadd (by decide +kernel) rfl) <|
  zll_c (zl_scr (by decide +kernel) rfl) <|
  zll_c (zl_cv (index := 107) (qc := (RX5, TX5, 17)) (by decide +kernel) rfl mk_M_lonely rfl wm_L_107 wq_M_lonely ww_M_lonely ⟨rfl, rfl⟩ ⟨Nat.le_of_ble_eq_true rfl, Nat.le_of_ble_eq_true rfl⟩) <|
  zll_c (zl_ceq (off := 428) (by decide +kernel) rfl rfl) <|
  zll_c (zl_iconst (n' := 0) (by decide +kernel) rfl rfl) <|
  zll_c (zl_zr (by decide +kernel)) <|
  zll_n
set_option maxRecDepth 100000 in
set_option maxHeartbeats 4000000 in
theorem sl_23 (l : Launch) (b n : Nat) (xs : Nat → Int32) : zLl l b n xs (lwt_23 xs n) :=
  zll_c (zl_aln (j := 1) (by decide +kernel) rfl rfl) <|
  zll_c (zl_aln (j := 0) (by decide +kernel) rfl rfl) <|
  zll_c (zl_iln (j := 3) (by decide +kernel) rfl rfl) <|
  zll_c (zl_iconst (n' := 1) (by decide +kernel) rfl rfl) <|
  zll_c (zl_iadd (by decide +kernel) rfl) <|
  zll_c (zl_scr (by decide +kernel) rfl) <|
  zll_c (zl_aln (j := 0) (by decide +kernel) rfl rfl) <|
  zll_c (zl_iln (j := 3) (by decide +kernel) rfl rfl) <|
  zll_c (zl_iconst (n' := 2) (by decide +kernel) rfl rfl) <|
  zll_c (zl_iadd (by decide +kernel) rfl) <|
  zll_c (zl_scr (by decide +kernel) rfl) <|
  zll_c (zl_cv (index := 108) (qc := (RX4, TX4, 7)) (by decide +kernel) rfl mk_X_feed rfl wm_L_108 wq_X_feed ww_X_feed ⟨rfl, rfl⟩ ⟨Nat.le_of_ble_eq_true rfl, Nat.le_of_ble_eq_true rfl⟩) <|
  zll_c (zl_aln (j := 2) (by decide +kernel) rfl rfl) <|
  zll_c (zl_aln (j := 0) (by decide +kernel) rfl rfl) <|
  zll_c (zl_iln (j := 3) (by decide +kernel) rfl rfl) <|
  zll_c (zl_iconst (n' := 1) (by decide +kernel) rfl rfl) <|
  zll_c (zl_iadd (by decide +kernel) rfl) <|
  zll_c (zl_scr (by decide +kernel) rfl) <|
  zll_c (zl_aln (j := 0) (by decide +kernel) rfl rfl) <|
  zll_c (zl_iln (j := 3) (by decide +kernel) rfl rfl) <|
  zll_c (zl_iconst (n' := 2) (by decide +kernel) rfl rfl) <|
  zll_c (zl_iadd (by decide +kernel) rfl) <|
  zll_c (zl_scr (by decide +kernel) rfl) <|
  zll_c (zl_cv (index := 111) (qc := (RX5, TX5, 17)) (by decide +kernel) rfl mk_M_feed rfl wm_L_111 wq_M_feed ww_M_feed ⟨rfl, rfl⟩ ⟨Nat.le_of_ble_eq_true rfl, Nat.le_of_ble_eq_true rfl⟩) <|
  zll_c (zl_ceq (off := 395) (by decide +kernel) rfl rfl) <|
  zll_c (zl_iconst (n' := 0) (by decide +kernel) rfl rfl) <|
  zll_c (zl_zr (by decide +kernel)) <|
  zll_n
set_option maxRecDepth 100000 in
set_option maxHeartbeats 4000000 in
theorem sl_24 (l : Launch) (b n : Nat) (xs : Nat → Int32) : zLl l b n xs (lwt_24 xs n) :=
  zll_c (zl_aln (j := 1) (by decide +kernel) rfl rfl) <|
  zll_c (zl_cv (index := 112) (qc := (RX4, TX4, 7)) (by decide +kernel) rfl mk_X_wipe rfl wm_L_112 wq_X_wipe ww_X_wipe ⟨rfl, rfl⟩ ⟨Nat.le_of_ble_eq_true rfl, Nat.le_of_ble_eq_true rfl⟩) <|
  zll_c (zl_aln (j := 2) (by decide +kernel) rfl rfl) <|
  zll_c (zl_cv (index := 116) (qc := (RX5, TX5, 17)) (by decide +kernel) rfl mk_M_wipe rfl wm_L_116 wq_M_wipe ww_M_wipe ⟨rfl, rfl⟩ ⟨Nat.le_of_ble_eq_true rfl, Nat.le_of_ble_eq_true rfl⟩) <|
  zll_c (zl_ceq (off := 382) (by decide +kernel) rfl rfl) <|
  zll_c (zl_iconst (n' := 0) (by decide +kernel) rfl rfl) <|
  zll_c (zl_zr (by decide +kernel)) <|
  zll_n
set_option maxRecDepth 100000 in
set_option maxHeartbeats 4000000 in
theorem sl_25 (l : Launch) (b n : Nat) (xs : Nat → Int32) : zLl l b n xs (lwt_25 xs n) :=
  zll_c (zl_aln (j := 1) (by decide +kernel) rfl rfl) <|
  zll_c (zl_cv (index := 117) (qc := (RX4, TX4, 7)) (by decide +kernel) rfl mk_X_institute rfl wm_L_117 wq_X_institute ww_X_institute ⟨rfl, rfl⟩ ⟨Nat.le_of_ble_eq_true rfl, Nat.le_of_ble_eq_true rfl⟩) <|
  zll_c (zl_aln (j := 2) (by decide +kernel) rfl rfl) <|
  zll_c (zl_cv (index := 120) (qc := (RX5, TX5, 17)) (by decide +kernel) rfl mk_M_institute rfl wm_L_120 wq_M_institute ww_M_institute ⟨rfl, rfl⟩ ⟨Nat.le_of_ble_eq_true rfl, Nat.le_of_ble_eq_true rfl⟩) <|
  zll_c (zl_ceq (off := 369) (by decide +kernel) rfl rfl) <|
  zll_c (zl_iconst (n' := 0) (by decide +kernel) rfl rfl) <|
  zll_c (zl_zr (by decide +kernel)) <|
  zll_n
set_option maxRecDepth 100000 in
set_option maxHeartbeats 4000000 in
theorem sl_26 (l : Launch) (b n : Nat) (xs : Nat → Int32) : zLl l b n xs (lwt_26 xs n) :=
  zll_c (zl_aln (j := 1) (by decide +kernel) rfl rfl) <|
  zll_c (zl_aln (j := 0) (by decide +kernel) rfl rfl) <|
  zll_c (zl_iln (j := 3) (by decide +kernel) rfl rfl) <|
  zll_c (zl_iconst (n' := 1) (by decide +kernel) rfl rfl) <|
  zll_c (zl_iadd (by decide +kernel) rfl) <|
  zll_c (zl_scr (by decide +kernel) rfl) <|
  zll_c (zl_aln (j := 0) (by decide +kernel) rfl rfl) <|
  zll_c (zl_iln (j := 3) (by decide +kernel) rfl rfl) <|
  zll_c (zl_iconst (n' := 2) (by decide +kernel) rfl rfl) <|
  zll_c (zl_iadd (by decide +kernel) rfl) <|
  zll_c (zl_scr (by decide +kernel) rfl) <|
  zll_c (zl_aln (j := 0) (by decide +kernel) rfl rfl) <|
  zll_c (zl_iln (j := 3) (by decide +kernel) rfl rfl) <|
  zll_c (zl_iconst (n' := 3) (by decide +kernel) rfl rfl) <|
  zll_c (zl_iadd (by decide +kernel) rfl) <|
  zll_c (zl_scr (by decide +kernel) rfl) <|
  zll_c (zl_cv (index := 121) (qc := (RX4, TX4, 7)) (by decide +kernel) rfl mk_X_sheet rfl wm_L_121 wq_X_sheet ww_X_sheet ⟨rfl, rfl⟩ ⟨Nat.le_of_ble_eq_true rfl, Nat.le_of_ble_eq_true rfl⟩) <|
  zll_c (zl_aln (j := 2) (by decide +kernel) rfl rfl) <|
  zll_c (zl_aln (j := 0) (by decide +kernel) rfl rfl) <|
  zll_c (zl_iln (j := 3) (by decide +kernel) rfl rfl) <|
  zll_c (zl_iconst (n' := 1) (by decide +kernel) rfl rfl) <|
  zll_c (zl_iadd (by decide +kernel) rfl) <|
  zll_c (zl_scr (by decide +kernel) rfl) <|
  zll_c (zl_aln (j := 0) (by decide +kernel) rfl rfl) <|
  zll_c (zl_iln (j := 3) (by decide +kernel) rfl rfl) <|
  zll_c (zl_iconst (n' := 2) (by decide +kernel) rfl rfl) <|
  zll_c (zl_iadd (by decide +kernel) rfl) <|
  zll_c (zl_scr (by decide +kernel) rfl) <|
  zll_c (zl_aln (j := 0) (by decide +kernel) rfl rfl) <|
  zll_c (zl_iln (j := 3) (by decide +kernel) rfl rfl) <|
  zll_c (zl_iconst (n' := 3) (by decide +kernel) rfl rfl) <|
  zll_c (zl_iadd (by decide +kernel) rfl) <|
  zll_c (zl_scr (by decide +kernel) rfl) <|
  zll_c (zl_cv (index := 124) (qc := (RX5, TX5, 17)) (by decide +kernel) rfl mk_M_sheet rfl wm_L_124 wq_M_sheet ww_M_sheet ⟨rfl, rfl⟩ ⟨Nat.le_of_ble_eq_true rfl, Nat.le_of_ble_eq_true rfl⟩) <|
  zll_c (zl_ceq (off := 326) (by decide +kernel) rfl rfl) <|
  zll_c (zl_iconst (n' := 0) (by decide +kernel) rfl rfl) <|
  zll_c (zl_zr (by decide +kernel)) <|
  zll_n
set_option maxRecDepth 100000 in
set_option maxHeartbeats 4000000 in
theorem sl_27 (l : Launch) (b n : Nat) (xs : Nat → Int32) : zLl l b n xs (lwt_27 xs n) :=
  zll_c (zl_aln (j := 1) (by decide +kernel) rfl rfl) <|
  zll_c (zl_aln (j := 0) (by decide +kernel) rfl rfl) <|
  zll_c (zl_iln (j := 3) (by decide +kernel) rfl rfl) <|
  zll_c (zl_iconst (n' := 1) (by decide +kernel) rfl rfl) <|
  zll_c (zl_iadd (by decide +kernel) rfl) <|
  zll_c (zl_scr (by decide +kernel) rfl) <|
  zll_c (zl_aln (j := 0) (by decide +kernel) rfl rfl) <|
  zll_c (zl_iln (j := 3) (by decide +kernel) rfl rfl) <|
  zll_c (zl_iconst (n' := 2) (by decide +kernel) rfl rfl) <|
  zll_c (zl_iadd (by decide +kernel) rfl) <|
  zll_c (zl_scr (by decide +kernel) rfl) <|
  zll_c (zl_aln (j := 0) (by decide +kernel) rfl rfl) <|
  zll_c (zl_iln (j := 3) (by decide +kernel) rfl rfl) <|
  zll_c (zl_iconst (n' := 3) (by decide +kernel) rfl rfl) <|
  zll_c (zl_iadd (by decide +kernel) rfl) <|
  zll_c (zl_scr (by decide +kernel) rfl) <|
  zll_c (zl_i2l (by decide +kernel) rfl) <|
  zll_c (zl_bipush (n' := 32) (by decide +kernel) rfl rfl) <|
  zll_c (zl_lshl (by decide +kernel) rfl) <|
  zll_c (zl_aln (j := 0) (by decide +kernel) rfl rfl) <|
  zll_c (zl_iln (j := 3) (by decide +kernel) rfl rfl) <|
  zll_c (zl_iconst (n' := 4) (by decide +kernel) rfl rfl) <|
  zll_c (zl_iadd (by decide +kernel) rfl) <|
  zll_c (zl_scr (by decide +kernel) rfl) <|
  zll_c (zl_i2l (by decide +kernel) rfl) <|
  zll_c (zl_ldc2 (n' := 125) (by decide +kernel) rfl wc_L_125) <|
  zll_c (zl_land (by decide +kernel) rfl) <|
  zll_c (zl_lor (by decide +kernel) rfl) <|
  zll_c (zl_cv (index := 127) (qc := (RX4, TX4, 7)) (by decide +kernel) rfl mk_X_write rfl wm_L_127 wq_X_write ww_X_write ⟨rfl, rfl⟩ ⟨Nat.le_of_ble_eq_true rfl, Nat.le_of_ble_eq_true rfl⟩) <|
  zll_c (zl_aln (j := 2) (by decide +kernel) rfl rfl) <|
  zll_c (zl_aln (j := 0) (by decide +kernel) rfl rfl) <|
  zll_c (zl_iln (j := 3) (by decide +kernel) rfl rfl) <|
  zll_c (zl_iconst (n' := 1) (by decide +kernel) rfl rfl) <|
  zll_c (zl_iadd (by decide +kernel) rfl) <|
  zll_c (zl_scr (by decide +kernel) rfl) <|
  zll_c (zl_aln (j := 0) (by decide +kernel) rfl rfl) <|
  zll_c (zl_iln (j := 3) (by decide +kernel) rfl rfl) <|
  zll_c (zl_iconst (n' := 2) (by decide +kernel) rfl rfl) <|
  zll_c (zl_iadd (by decide +kernel) rfl) <|
  zll_c (zl_scr (by decide +kernel) rfl) <|
  zll_c (zl_aln (j := 0) (by decide +kernel) rfl rfl) <|
  zll_c (zl_iln (j := 3) (by decide +kernel) rfl rfl) <|
  zll_c (zl_iconst (n' := 3) (by decide +kernel) rfl rfl) <|
  zll_c (zl_iadd (by decide +kernel) rfl) <|
  zll_c (zl_scr (by decide +kernel) rfl) <|
  zll_c (zl_i2l (by decide +kernel) rfl) <|
  zll_c (zl_bipush (n' := 32) (by decide +kernel) rfl rfl) <|
  zll_c (zl_lshl (by decide +kernel) rfl) <|
  zll_c (zl_aln (j := 0) (by decide +kernel) rfl rfl) <|
  zll_c (zl_iln (j := 3) (by decide +kernel) rfl rfl) <|
  zll_c (zl_iconst (n' := 4) (by decide +kernel) rfl rfl) <|
  zll_c (zl_iadd (by decide +kernel) rfl) <|
  zll_c (zl_scr (by decide +kernel) rfl) <|
  zll_c (zl_i2l (by decide +kernel) rfl) <|
  zll_c (zl_ldc2 (n' := 125) (by decide +kernel) rfl wc_L_125) <|
  zll_c (zl_land (by decide +kernel) rfl) <|
  zll_c (zl_lor (by decide +kernel) rfl) <|
  zll_c (zl_cv (index := 131) (qc := (RX5, TX5, 17)) (by decide +kernel) rfl mk_M_write rfl wm_L_131 wq_M_write ww_M_write ⟨rfl, rfl⟩ ⟨Nat.le_of_ble_eq_true rfl, Nat.le_of_ble_eq_true rfl⟩) <|
  zll_c (zl_lcmp (by decide +kernel) rfl) <|
  zll_c (zl_ifeq (off := 252) (by decide +kernel) rfl rfl) <|
  zll_c (zl_iconst (n' := 0) (by decide +kernel) rfl rfl) <|
  zll_c (zl_zr (by decide +kernel)) <|
  zll_n
