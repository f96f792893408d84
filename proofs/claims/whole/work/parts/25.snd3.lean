/-! EACH METHOD'S TABLE IS SOUND (by program) -/
set_option maxRecDepth 100000 in
set_option maxHeartbeats 4000000 in
theorem sn_M_sit (l : Launch) : zAl l 148 tb_M_sit :=
  zal_c (zi_iln (j := 1) (by decide +kernel) rfl rfl) <|
  zal_c (zi_cs (index := 181) (by decide +kernel) rfl mk_M_isSoon wm_M_181 wq_M_isSoon ⟨rfl, rfl⟩ ⟨Nat.le_of_ble_eq_true rfl, Nat.le_of_ble_eq_true rfl⟩) <|
  zal_c (zi_ifne (off := 10) (by decide +kernel) rfl rfl) <|
  zal_c (zi_aln (j := 0) (by decide +kernel) rfl rfl) <|
  zal_c (zi_ldc (n := 44) (by decide +kernel) rfl wc_M_44) <|
  zal_c (zi_cv (index := 69) (qc := (RX5, TX5, 17)) (by decide +kernel) rfl mk_M_finds rfl wm_M_69 wq_M_finds ww_M_finds ⟨rfl, rfl⟩ ⟨Nat.le_of_ble_eq_true rfl, Nat.le_of_ble_eq_true rfl⟩) <|
  zal_c (zi_ir (by decide +kernel) rfl) <|
  zal_c (zi_iconst (n := -1) (by decide +kernel) rfl rfl) <|
  zal_c (zi_isn (j := 2) (by decide +kernel) rfl rfl (Nat.le_of_ble_eq_true rfl)) <|
  zal_c (zi_ldc (n := 180) (by decide +kernel) rfl wc_M_180) <|
  zal_c (zi_isn (j := 3) (by decide +kernel) rfl rfl (Nat.le_of_ble_eq_true rfl)) <|
  zal_c (zi_iconst (n := 0) (by decide +kernel) rfl rfl) <|
  zal_c (zi_is (by decide +kernel) rfl (Nat.le_of_ble_eq_true rfl)) <|
  zal_c (zi_il (by decide +kernel) rfl) <|
  zal_c (zi_aln (j := 0) (by decide +kernel) rfl rfl) <|
  zal_c (zi_get (CN := RX5) (T := TX5) (N := 17) (index := 7) (by decide +kernel) rfl rfl (by decide) uw_X5 wf_M_7) <|
  zal_c (zi_iconst (n := 2) (by decide +kernel) rfl rfl) <|
  zal_c (zi_iald (by decide +kernel) rfl) <|
  zal_c (zi_cge (off := 77) (by decide +kernel) rfl rfl) <|
  zal_c (zi_aln (j := 0) (by decide +kernel) rfl rfl) <|
  zal_c (zi_il (by decide +kernel) rfl) <|
  zal_c (zi_iconst (n := 2) (by decide +kernel) rfl rfl) <|
  zal_c (zi_cv (index := 58) (qc := (RX5, TX5, 17)) (by decide +kernel) rfl mk_M_its rfl wm_M_58 wq_M_its ww_M_its ⟨rfl, rfl⟩ ⟨Nat.le_of_ble_eq_true rfl, Nat.le_of_ble_eq_true rfl⟩) <|
  zal_c (zi_ifne (off := 61) (by decide +kernel) rfl rfl) <|
  zal_c (zi_aln (j := 0) (by decide +kernel) rfl rfl) <|
  zal_c (zi_get (CN := RX5) (T := TX5) (N := 17) (index := 7) (by decide +kernel) rfl rfl (by decide) uw_X5 wf_M_7) <|
  zal_c (zi_il (by decide +kernel) rfl) <|
  zal_c (zi_iconst (n := 2) (by decide +kernel) rfl rfl) <|
  zal_c (zi_cs (index := 45) (by decide +kernel) rfl mk_M_spot wm_M_45 wq_M_spot ⟨rfl, rfl⟩ ⟨Nat.le_of_ble_eq_true rfl, Nat.le_of_ble_eq_true rfl⟩) <|
  zal_c (zi_iconst (n := 1) (by decide +kernel) rfl rfl) <|
  zal_c (zi_iast (by decide +kernel) rfl) <|
  zal_c (zi_aln (j := 0) (by decide +kernel) rfl rfl) <|
  zal_c (zi_iconst (n := -1) (by decide +kernel) rfl rfl) <|
  zal_c (zi_iln (j := 1) (by decide +kernel) rfl rfl) <|
  zal_c (zi_cv (index := 176) (qc := (RX5, TX5, 17)) (by decide +kernel) rfl mk_M_behind rfl wm_M_176 wq_M_behind ww_M_behind ⟨rfl, rfl⟩ ⟨Nat.le_of_ble_eq_true rfl, Nat.le_of_ble_eq_true rfl⟩) <|
  zal_c (zi_is (by decide +kernel) rfl (Nat.le_of_ble_eq_true rfl)) <|
  zal_c (zi_aln (j := 0) (by decide +kernel) rfl rfl) <|
  zal_c (zi_get (CN := RX5) (T := TX5) (N := 17) (index := 7) (by decide +kernel) rfl rfl (by decide) uw_X5 wf_M_7) <|
  zal_c (zi_il (by decide +kernel) rfl) <|
  zal_c (zi_iconst (n := 2) (by decide +kernel) rfl rfl) <|
  zal_c (zi_cs (index := 45) (by decide +kernel) rfl mk_M_spot wm_M_45 wq_M_spot ⟨rfl, rfl⟩ ⟨Nat.le_of_ble_eq_true rfl, Nat.le_of_ble_eq_true rfl⟩) <|
  zal_c (zi_iconst (n := 0) (by decide +kernel) rfl rfl) <|
  zal_c (zi_iast (by decide +kernel) rfl) <|
  zal_c (zi_il (by decide +kernel) rfl) <|
  zal_c (zi_iln (j := 3) (by decide +kernel) rfl rfl) <|
  zal_c (zi_cle (off := 8) (by decide +kernel) rfl rfl) <|
  zal_c (zi_il (by decide +kernel) rfl) <|
  zal_c (zi_goto (off := 4) (by decide +kernel) rfl) <|
  zal_c (zi_iln (j := 2) (by decide +kernel) rfl rfl) <|
  zal_c (zi_isn (j := 2) (by decide +kernel) rfl rfl (Nat.le_of_ble_eq_true rfl)) <|
  zal_c (zi_il (by decide +kernel) rfl) <|
  zal_c (zi_iln (j := 3) (by decide +kernel) rfl rfl) <|
  zal_c (zi_cle (off := 8) (by decide +kernel) rfl rfl) <|
  zal_c (zi_il (by decide +kernel) rfl) <|
  zal_c (zi_goto (off := 4) (by decide +kernel) rfl) <|
  zal_c (zi_iln (j := 3) (by decide +kernel) rfl rfl) <|
  zal_c (zi_isn (j := 3) (by decide +kernel) rfl rfl (Nat.le_of_ble_eq_true rfl)) <|
  zal_c (zi_inc (n := 1) (by decide +kernel) rfl rfl) <|
  zal_c (zi_goto (off := -82) (by decide +kernel) rfl) <|
  zal_c (zi_iln (j := 2) (by decide +kernel) rfl rfl) <|
  zal_c (zi_ifge (off := 12) (by decide +kernel) rfl rfl) <|
  zal_c (zi_aln (j := 0) (by decide +kernel) rfl rfl) <|
  zal_c (zi_ldc (n := 179) (by decide +kernel) rfl wc_M_179) <|
  zal_c (zi_cv (index := 69) (qc := (RX5, TX5, 17)) (by decide +kernel) rfl mk_M_finds rfl wm_M_69 wq_M_finds ww_M_finds ⟨rfl, rfl⟩ ⟨Nat.le_of_ble_eq_true rfl, Nat.le_of_ble_eq_true rfl⟩) <|
  zal_c (zi_goto (off := 4) (by decide +kernel) rfl) <|
  zal_c (zi_iln (j := 2) (by decide +kernel) rfl rfl) <|
  zal_c (zi_ir (by decide +kernel) rfl) <|
  zal_n
set_option maxRecDepth 100000 in
set_option maxHeartbeats 4000000 in
theorem sn_M_loud (l : Launch) : zAl l 149 tb_M_loud :=
  zal_c (zi_aln (j := 0) (by decide +kernel) rfl rfl) <|
  zal_c (zi_iln (j := 1) (by decide +kernel) rfl rfl) <|
  zal_c (zi_cv (index := 100) (qc := (RX5, TX5, 17)) (by decide +kernel) rfl mk_M_isCouple rfl wm_M_100 wq_M_isCouple ww_M_isCouple ⟨rfl, rfl⟩ ⟨Nat.le_of_ble_eq_true rfl, Nat.le_of_ble_eq_true rfl⟩) <|
  zal_c (zi_ifeq (off := 30) (by decide +kernel) rfl rfl) <|
  zal_c (zi_iln (j := 2) (by decide +kernel) rfl rfl) <|
  zal_c (zi_cs (index := 181) (by decide +kernel) rfl mk_M_isSoon wm_M_181 wq_M_isSoon ⟨rfl, rfl⟩ ⟨Nat.le_of_ble_eq_true rfl, Nat.le_of_ble_eq_true rfl⟩) <|
  zal_c (zi_ifeq (off := 23) (by decide +kernel) rfl rfl) <|
  zal_c (zi_aln (j := 0) (by decide +kernel) rfl rfl) <|
  zal_c (zi_iln (j := 1) (by decide +kernel) rfl rfl) <|
  zal_c (zi_iconst (n := 0) (by decide +kernel) rfl rfl) <|
  zal_c (zi_cs (index := 49) (by decide +kernel) rfl mk_M_coupleSpot wm_M_49 wq_M_coupleSpot ⟨rfl, rfl⟩ ⟨Nat.le_of_ble_eq_true rfl, Nat.le_of_ble_eq_true rfl⟩) <|
  zal_c (zi_bipush (n := 9) (by decide +kernel) rfl rfl) <|
  zal_c (zi_iln (j := 1) (by decide +kernel) rfl rfl) <|
  zal_c (zi_iconst (n := 1) (by decide +kernel) rfl rfl) <|
  zal_c (zi_cs (index := 49) (by decide +kernel) rfl mk_M_coupleSpot wm_M_49 wq_M_coupleSpot ⟨rfl, rfl⟩ ⟨Nat.le_of_ble_eq_true rfl, Nat.le_of_ble_eq_true rfl⟩) <|
  zal_c (zi_iln (j := 2) (by decide +kernel) rfl rfl) <|
  zal_c (zi_cv (index := 184) (qc := (RX5, TX5, 17)) (by decide +kernel) rfl mk_M_mostBy rfl wm_M_184 wq_M_mostBy ww_M_mostBy ⟨rfl, rfl⟩ ⟨Nat.le_of_ble_eq_true rfl, Nat.le_of_ble_eq_true rfl⟩) <|
  zal_c (zi_goto (off := 9) (by decide +kernel) rfl) <|
  zal_c (zi_aln (j := 0) (by decide +kernel) rfl rfl) <|
  zal_c (zi_ldc (n := 44) (by decide +kernel) rfl wc_M_44) <|
  zal_c (zi_cv (index := 69) (qc := (RX5, TX5, 17)) (by decide +kernel) rfl mk_M_finds rfl wm_M_69 wq_M_finds ww_M_finds ⟨rfl, rfl⟩ ⟨Nat.le_of_ble_eq_true rfl, Nat.le_of_ble_eq_true rfl⟩) <|
  zal_c (zi_ir (by decide +kernel) rfl) <|
  zal_n
set_option maxRecDepth 100000 in
set_option maxHeartbeats 4000000 in
theorem sn_M_stoke (l : Launch) : zAl l 150 tb_M_stoke :=
  zal_c (zi_iln (j := 1) (by decide +kernel) rfl rfl) <|
  zal_c (zi_cs (index := 181) (by decide +kernel) rfl mk_M_isSoon wm_M_181 wq_M_isSoon ⟨rfl, rfl⟩ ⟨Nat.le_of_ble_eq_true rfl, Nat.le_of_ble_eq_true rfl⟩) <|
  zal_c (zi_ifeq (off := 16) (by decide +kernel) rfl rfl) <|
  zal_c (zi_aln (j := 0) (by decide +kernel) rfl rfl) <|
  zal_c (zi_iconst (n := 1) (by decide +kernel) rfl rfl) <|
  zal_c (zi_bipush (n := 20) (by decide +kernel) rfl rfl) <|
  zal_c (zi_bipush (n := -2) (by decide +kernel) rfl rfl) <|
  zal_c (zi_iln (j := 1) (by decide +kernel) rfl rfl) <|
  zal_c (zi_cv (index := 184) (qc := (RX5, TX5, 17)) (by decide +kernel) rfl mk_M_mostBy rfl wm_M_184 wq_M_mostBy ww_M_mostBy ⟨rfl, rfl⟩ ⟨Nat.le_of_ble_eq_true rfl, Nat.le_of_ble_eq_true rfl⟩) <|
  zal_c (zi_goto (off := 9) (by decide +kernel) rfl) <|
  zal_c (zi_aln (j := 0) (by decide +kernel) rfl rfl) <|
  zal_c (zi_ldc (n := 44) (by decide +kernel) rfl wc_M_44) <|
  zal_c (zi_cv (index := 69) (qc := (RX5, TX5, 17)) (by decide +kernel) rfl mk_M_finds rfl wm_M_69 wq_M_finds ww_M_finds ⟨rfl, rfl⟩ ⟨Nat.le_of_ble_eq_true rfl, Nat.le_of_ble_eq_true rfl⟩) <|
  zal_c (zi_ir (by decide +kernel) rfl) <|
  zal_n
set_option maxRecDepth 100000 in
set_option maxHeartbeats 4000000 in
theorem sn_M_lonely (l : Launch) : zAl l 151 tb_M_lonely :=
  zal_c (zi_iln (j := 1) (by decide +kernel) rfl rfl) <|
  zal_c (zi_cs (index := 173) (by decide +kernel) rfl mk_M_isAhead wm_M_173 wq_M_isAhead ⟨rfl, rfl⟩ ⟨Nat.le_of_ble_eq_true rfl, Nat.le_of_ble_eq_true rfl⟩) <|
  zal_c (zi_ifne (off := 10) (by decide +kernel) rfl rfl) <|
  zal_c (zi_aln (j := 0) (by decide +kernel) rfl rfl) <|
  zal_c (zi_ldc (n := 44) (by decide +kernel) rfl wc_M_44) <|
  zal_c (zi_cv (index := 69) (qc := (RX5, TX5, 17)) (by decide +kernel) rfl mk_M_finds rfl wm_M_69 wq_M_finds ww_M_finds ⟨rfl, rfl⟩ ⟨Nat.le_of_ble_eq_true rfl, Nat.le_of_ble_eq_true rfl⟩) <|
  zal_c (zi_ir (by decide +kernel) rfl) <|
  zal_c (zi_aln (j := 0) (by decide +kernel) rfl rfl) <|
  zal_c (zi_get (CN := RX5) (T := TX5) (N := 17) (index := 7) (by decide +kernel) rfl rfl (by decide) uw_X5 wf_M_7) <|
  zal_c (zi_iconst (n := 2) (by decide +kernel) rfl rfl) <|
  zal_c (zi_iald (by decide +kernel) rfl) <|
  zal_c (zi_ifne (off := 10) (by decide +kernel) rfl rfl) <|
  zal_c (zi_aln (j := 0) (by decide +kernel) rfl rfl) <|
  zal_c (zi_ldc (n := 179) (by decide +kernel) rfl wc_M_179) <|
  zal_c (zi_cv (index := 69) (qc := (RX5, TX5, 17)) (by decide +kernel) rfl mk_M_finds rfl wm_M_69 wq_M_finds ww_M_finds ⟨rfl, rfl⟩ ⟨Nat.le_of_ble_eq_true rfl, Nat.le_of_ble_eq_true rfl⟩) <|
  zal_c (zi_ir (by decide +kernel) rfl) <|
  zal_c (zi_aln (j := 0) (by decide +kernel) rfl rfl) <|
  zal_c (zi_cv (index := 130) (qc := (RX5, TX5, 17)) (by decide +kernel) rfl mk_M_laysAside rfl wm_M_130 wq_M_laysAside ww_M_laysAside ⟨rfl, rfl⟩ ⟨Nat.le_of_ble_eq_true rfl, Nat.le_of_ble_eq_true rfl⟩) <|
  zal_c (zi_aln (j := 0) (by decide +kernel) rfl rfl) <|
  zal_c (zi_iln (j := 1) (by decide +kernel) rfl rfl) <|
  zal_c (zi_cv (index := 168) (qc := (RX5, TX5, 17)) (by decide +kernel) rfl mk_M_sundaysGo rfl wm_M_168 wq_M_sundaysGo ww_M_sundaysGo ⟨rfl, rfl⟩ ⟨Nat.le_of_ble_eq_true rfl, Nat.le_of_ble_eq_true rfl⟩) <|
  zal_c (zi_iconst (n := 0) (by decide +kernel) rfl rfl) <|
  zal_c (zi_isn (j := 2) (by decide +kernel) rfl rfl (Nat.le_of_ble_eq_true rfl)) <|
  zal_c (zi_iconst (n := 1) (by decide +kernel) rfl rfl) <|
  zal_c (zi_isn (j := 3) (by decide +kernel) rfl rfl (Nat.le_of_ble_eq_true rfl)) <|
  zal_c (zi_iln (j := 3) (by decide +kernel) rfl rfl) <|
  zal_c (zi_aln (j := 0) (by decide +kernel) rfl rfl) <|
  zal_c (zi_get (CN := RX5) (T := TX5) (N := 17) (index := 7) (by decide +kernel) rfl rfl (by decide) uw_X5 wf_M_7) <|
  zal_c (zi_iconst (n := 2) (by decide +kernel) rfl rfl) <|
  zal_c (zi_iald (by decide +kernel) rfl) <|
  zal_c (zi_cge (off := 30) (by decide +kernel) rfl rfl) <|
  zal_c (zi_aln (j := 0) (by decide +kernel) rfl rfl) <|
  zal_c (zi_iln (j := 3) (by decide +kernel) rfl rfl) <|
  zal_c (zi_iconst (n := 3) (by decide +kernel) rfl rfl) <|
  zal_c (zi_cv (index := 58) (qc := (RX5, TX5, 17)) (by decide +kernel) rfl mk_M_its rfl wm_M_58 wq_M_its ww_M_its ⟨rfl, rfl⟩ ⟨Nat.le_of_ble_eq_true rfl, Nat.le_of_ble_eq_true rfl⟩) <|
  zal_c (zi_aln (j := 0) (by decide +kernel) rfl rfl) <|
  zal_c (zi_iln (j := 2) (by decide +kernel) rfl rfl) <|
  zal_c (zi_iconst (n := 3) (by decide +kernel) rfl rfl) <|
  zal_c (zi_cv (index := 58) (qc := (RX5, TX5, 17)) (by decide +kernel) rfl mk_M_its rfl wm_M_58 wq_M_its ww_M_its ⟨rfl, rfl⟩ ⟨Nat.le_of_ble_eq_true rfl, Nat.le_of_ble_eq_true rfl⟩) <|
  zal_c (zi_cle (off := 7) (by decide +kernel) rfl rfl) <|
  zal_c (zi_iln (j := 3) (by decide +kernel) rfl rfl) <|
  zal_c (zi_goto (off := 4) (by decide +kernel) rfl) <|
  zal_c (zi_iln (j := 2) (by decide +kernel) rfl rfl) <|
  zal_c (zi_isn (j := 2) (by decide +kernel) rfl rfl (Nat.le_of_ble_eq_true rfl)) <|
  zal_c (zi_inc (n := 1) (by decide +kernel) rfl rfl) <|
  zal_c (zi_goto (off := -34) (by decide +kernel) rfl) <|
  zal_c (zi_aln (j := 0) (by decide +kernel) rfl rfl) <|
  zal_c (zi_iln (j := 2) (by decide +kernel) rfl rfl) <|
  zal_c (zi_cv (index := 136) (qc := (RX5, TX5, 17)) (by decide +kernel) rfl mk_M_takesBack rfl wm_M_136 wq_M_takesBack ww_M_takesBack ⟨rfl, rfl⟩ ⟨Nat.le_of_ble_eq_true rfl, Nat.le_of_ble_eq_true rfl⟩) <|
  zal_c (zi_ir (by decide +kernel) rfl) <|
  zal_n
set_option maxRecDepth 100000 in
set_option maxHeartbeats 4000000 in
theorem sn_M_feed (l : Launch) : zAl l 152 tb_M_feed :=
  zal_c (zi_iln (j := 2) (by decide +kernel) rfl rfl) <|
  zal_c (zi_i2l (by decide +kernel) rfl) <|
  zal_c (zi_lconst (n := 1) (by decide +kernel) rfl rfl) <|
  zal_c (zi_ldc2 (n := 114) (by decide +kernel) rfl wc_M_114) <|
  zal_c (zi_cs (index := 52) (by decide +kernel) rfl mk_M_in wm_M_52 wq_M_in ⟨rfl, rfl⟩ ⟨Nat.le_of_ble_eq_true rfl, Nat.le_of_ble_eq_true rfl⟩) <|
  zal_c (zi_ifne (off := 10) (by decide +kernel) rfl rfl) <|
  zal_c (zi_aln (j := 0) (by decide +kernel) rfl rfl) <|
  zal_c (zi_ldc (n := 44) (by decide +kernel) rfl wc_M_44) <|
  zal_c (zi_cv (index := 69) (qc := (RX5, TX5, 17)) (by decide +kernel) rfl mk_M_finds rfl wm_M_69 wq_M_finds ww_M_finds ⟨rfl, rfl⟩ ⟨Nat.le_of_ble_eq_true rfl, Nat.le_of_ble_eq_true rfl⟩) <|
  zal_c (zi_ir (by decide +kernel) rfl) <|
  zal_c (zi_aln (j := 0) (by decide +kernel) rfl rfl) <|
  zal_c (zi_get (CN := RX5) (T := TX5) (N := 17) (index := 188) (by decide +kernel) rfl rfl (by decide) uw_X5 wf_M_188) <|
  zal_c (zi_iln (j := 2) (by decide +kernel) rfl rfl) <|
  zal_c (zi_iadd (by decide +kernel) rfl) <|
  zal_c (zi_bipush (n := 120) (by decide +kernel) rfl rfl) <|
  zal_c (zi_cle (off := 10) (by decide +kernel) rfl rfl) <|
  zal_c (zi_aln (j := 0) (by decide +kernel) rfl rfl) <|
  zal_c (zi_ldc (n := 90) (by decide +kernel) rfl wc_M_90) <|
  zal_c (zi_cv (index := 69) (qc := (RX5, TX5, 17)) (by decide +kernel) rfl mk_M_finds rfl wm_M_69 wq_M_finds ww_M_finds ⟨rfl, rfl⟩ ⟨Nat.le_of_ble_eq_true rfl, Nat.le_of_ble_eq_true rfl⟩) <|
  zal_c (zi_ir (by decide +kernel) rfl) <|
  zal_c (zi_iln (j := 2) (by decide +kernel) rfl rfl) <|
  zal_c (zi_iconst (n := 1) (by decide +kernel) rfl rfl) <|
  zal_c (zi_isub (by decide +kernel) rfl) <|
  zal_c (zi_isn (j := 3) (by decide +kernel) rfl rfl (Nat.le_of_ble_eq_true rfl)) <|
  zal_c (zi_iln (j := 3) (by decide +kernel) rfl rfl) <|
  zal_c (zi_iflt (off := 38) (by decide +kernel) rfl rfl) <|
  zal_c (zi_aln (j := 0) (by decide +kernel) rfl rfl) <|
  zal_c (zi_get (CN := RX5) (T := TX5) (N := 17) (index := 28) (by decide +kernel) rfl rfl (by decide) uw_X5 wf_M_28) <|
  zal_c (zi_aln (j := 0) (by decide +kernel) rfl rfl) <|
  zal_c (zi_get (CN := RX5) (T := TX5) (N := 17) (index := 188) (by decide +kernel) rfl rfl (by decide) uw_X5 wf_M_188) <|
  zal_c (zi_iln (j := 1) (by decide +kernel) rfl rfl) <|
  zal_c (zi_bipush (n := 8) (by decide +kernel) rfl rfl) <|
  zal_c (zi_iln (j := 3) (by decide +kernel) rfl rfl) <|
  zal_c (zi_imul (by decide +kernel) rfl) <|
  zal_c (zi_ishr (by decide +kernel) rfl) <|
  zal_c (zi_sipush (n := 255) (by decide +kernel) rfl rfl) <|
  zal_c (zi_iand (by decide +kernel) rfl) <|
  zal_c (zi_iast (by decide +kernel) rfl) <|
  zal_c (zi_aln (j := 0) (by decide +kernel) rfl rfl) <|
  zal_c (zi_dup (by decide +kernel) rfl) <|
  zal_c (zi_get (CN := RX5) (T := TX5) (N := 17) (index := 188) (by decide +kernel) rfl rfl (by decide) uw_X5 wf_M_188) <|
  zal_c (zi_iconst (n := 1) (by decide +kernel) rfl rfl) <|
  zal_c (zi_iadd (by decide +kernel) rfl) <|
  zal_c (zi_puti (CN := RX5) (T := TX5) (N := 17) (index := 188) (ty0 := tyX5) (by decide +kernel) rfl rfl (by decide) uw_X5 wf_M_188 tyX5_ok nmX5 rfl (by decide +kernel)) <|
  zal_c (zi_inc (n := -1) (by decide +kernel) rfl rfl) <|
  zal_c (zi_goto (off := -36) (by decide +kernel) rfl) <|
  zal_c (zi_aln (j := 0) (by decide +kernel) rfl rfl) <|
  zal_c (zi_get (CN := RX5) (T := TX5) (N := 17) (index := 188) (by decide +kernel) rfl rfl (by decide) uw_X5 wf_M_188) <|
  zal_c (zi_ir (by decide +kernel) rfl) <|
  zal_n
set_option maxRecDepth 100000 in
set_option maxHeartbeats 4000000 in
theorem sn_M_wipe (l : Launch) : zAl l 153 tb_M_wipe :=
  zal_c (zi_aln (j := 0) (by decide +kernel) rfl rfl) <|
  zal_c (zi_get (CN := RX5) (T := TX5) (N := 17) (index := 188) (by decide +kernel) rfl rfl (by decide) uw_X5 wf_M_188) <|
  zal_c (zi_isn (j := 1) (by decide +kernel) rfl rfl (Nat.le_of_ble_eq_true rfl)) <|
  zal_c (zi_aln (j := 0) (by decide +kernel) rfl rfl) <|
  zal_c (zi_iconst (n := 0) (by decide +kernel) rfl rfl) <|
  zal_c (zi_puti (CN := RX5) (T := TX5) (N := 17) (index := 188) (ty0 := tyX5) (by decide +kernel) rfl rfl (by decide) uw_X5 wf_M_188 tyX5_ok nmX5 rfl (by decide +kernel)) <|
  zal_c (zi_iln (j := 1) (by decide +kernel) rfl rfl) <|
  zal_c (zi_ir (by decide +kernel) rfl) <|
  zal_n
set_option maxRecDepth 100000 in
set_option maxHeartbeats 4000000 in
theorem sn_M_byteAt (l : Launch) : zAl l 154 tb_M_byteAt :=
  zal_c (zi_iln (j := 1) (by decide +kernel) rfl rfl) <|
  zal_c (zi_aln (j := 0) (by decide +kernel) rfl rfl) <|
  zal_c (zi_get (CN := RX5) (T := TX5) (N := 17) (index := 188) (by decide +kernel) rfl rfl (by decide) uw_X5 wf_M_188) <|
  zal_c (zi_cge (off := 12) (by decide +kernel) rfl rfl) <|
  zal_c (zi_aln (j := 0) (by decide +kernel) rfl rfl) <|
  zal_c (zi_get (CN := RX5) (T := TX5) (N := 17) (index := 28) (by decide +kernel) rfl rfl (by decide) uw_X5 wf_M_28) <|
  zal_c (zi_iln (j := 1) (by decide +kernel) rfl rfl) <|
  zal_c (zi_iald (by decide +kernel) rfl) <|
  zal_c (zi_goto (off := 4) (by decide +kernel) rfl) <|
  zal_c (zi_iconst (n := -1) (by decide +kernel) rfl rfl) <|
  zal_c (zi_ir (by decide +kernel) rfl) <|
  zal_n
set_option maxRecDepth 100000 in
set_option maxHeartbeats 4000000 in
theorem sn_M_isLetter (l : Launch) : zAl l 155 tb_M_isLetter :=
  zal_c (zi_iln (j := 0) (by decide +kernel) rfl rfl) <|
  zal_c (zi_i2l (by decide +kernel) rfl) <|
  zal_c (zi_ldc2 (n := 192) (by decide +kernel) rfl wc_M_192) <|
  zal_c (zi_ldc2 (n := 194) (by decide +kernel) rfl wc_M_194) <|
  zal_c (zi_cs (index := 52) (by decide +kernel) rfl mk_M_in wm_M_52 wq_M_in ⟨rfl, rfl⟩ ⟨Nat.le_of_ble_eq_true rfl, Nat.le_of_ble_eq_true rfl⟩) <|
  zal_c (zi_zr (by decide +kernel) rfl) <|
  zal_n
set_option maxRecDepth 100000 in
set_option maxHeartbeats 4000000 in
theorem sn_M_isDigit (l : Launch) : zAl l 156 tb_M_isDigit :=
  zal_c (zi_iln (j := 0) (by decide +kernel) rfl rfl) <|
  zal_c (zi_i2l (by decide +kernel) rfl) <|
  zal_c (zi_ldc2 (n := 196) (by decide +kernel) rfl wc_M_196) <|
  zal_c (zi_ldc2 (n := 198) (by decide +kernel) rfl wc_M_198) <|
  zal_c (zi_cs (index := 52) (by decide +kernel) rfl mk_M_in wm_M_52 wq_M_in ⟨rfl, rfl⟩ ⟨Nat.le_of_ble_eq_true rfl, Nat.le_of_ble_eq_true rfl⟩) <|
  zal_c (zi_zr (by decide +kernel) rfl) <|
  zal_n
set_option maxRecDepth 100000 in
set_option maxHeartbeats 4000000 in
theorem sn_M_token (l : Launch) : zAl l 157 tb_M_token :=
  zal_c (zi_aln (j := 0) (by decide +kernel) rfl rfl) <|
  zal_c (zi_aln (j := 0) (by decide +kernel) rfl rfl) <|
  zal_c (zi_get (CN := RX5) (T := TX5) (N := 17) (index := 200) (by decide +kernel) rfl rfl (by decide) uw_X5 wf_M_200) <|
  zal_c (zi_puti (CN := RX5) (T := TX5) (N := 17) (index := 203) (ty0 := tyX5) (by decide +kernel) rfl rfl (by decide) uw_X5 wf_M_203 tyX5_ok nmX5 rfl (by decide +kernel)) <|
  zal_c (zi_aln (j := 0) (by decide +kernel) rfl rfl) <|
  zal_c (zi_aln (j := 0) (by decide +kernel) rfl rfl) <|
  zal_c (zi_get (CN := RX5) (T := TX5) (N := 17) (index := 203) (by decide +kernel) rfl rfl (by decide) uw_X5 wf_M_203) <|
  zal_c (zi_cv (index := 206) (qc := (RX5, TX5, 17)) (by decide +kernel) rfl mk_M_byteAt rfl wm_M_206 wq_M_byteAt ww_M_byteAt ⟨rfl, rfl⟩ ⟨Nat.le_of_ble_eq_true rfl, Nat.le_of_ble_eq_true rfl⟩) <|
  zal_c (zi_bipush (n := 32) (by decide +kernel) rfl rfl) <|
  zal_c (zi_cne (off := 16) (by decide +kernel) rfl rfl) <|
  zal_c (zi_aln (j := 0) (by decide +kernel) rfl rfl) <|
  zal_c (zi_dup (by decide +kernel) rfl) <|
  zal_c (zi_get (CN := RX5) (T := TX5) (N := 17) (index := 203) (by decide +kernel) rfl rfl (by decide) uw_X5 wf_M_203) <|
  zal_c (zi_iconst (n := 1) (by decide +kernel) rfl rfl) <|
  zal_c (zi_iadd (by decide +kernel) rfl) <|
  zal_c (zi_puti (CN := RX5) (T := TX5) (N := 17) (index := 203) (ty0 := tyX5) (by decide +kernel) rfl rfl (by decide) uw_X5 wf_M_203 tyX5_ok nmX5 rfl (by decide +kernel)) <|
  zal_c (zi_goto (off := -23) (by decide +kernel) rfl) <|
  zal_c (zi_aln (j := 0) (by decide +kernel) rfl rfl) <|
  zal_c (zi_aln (j := 0) (by decide +kernel) rfl rfl) <|
  zal_c (zi_get (CN := RX5) (T := TX5) (N := 17) (index := 203) (by decide +kernel) rfl rfl (by decide) uw_X5 wf_M_203) <|
  zal_c (zi_cv (index := 206) (qc := (RX5, TX5, 17)) (by decide +kernel) rfl mk_M_byteAt rfl wm_M_206 wq_M_byteAt ww_M_byteAt ⟨rfl, rfl⟩ ⟨Nat.le_of_ble_eq_true rfl, Nat.le_of_ble_eq_true rfl⟩) <|
  zal_c (zi_cs (index := 209) (by decide +kernel) rfl mk_M_isLetter wm_M_209 wq_M_isLetter ⟨rfl, rfl⟩ ⟨Nat.le_of_ble_eq_true rfl, Nat.le_of_ble_eq_true rfl⟩) <|
  zal_c (zi_isn (j := 1) (by decide +kernel) rfl rfl (Nat.le_of_ble_eq_true rfl)) <|
  zal_c (zi_aln (j := 0) (by decide +kernel) rfl rfl) <|
  zal_c (zi_aln (j := 0) (by decide +kernel) rfl rfl) <|
  zal_c (zi_get (CN := RX5) (T := TX5) (N := 17) (index := 203) (by decide +kernel) rfl rfl (by decide) uw_X5 wf_M_203) <|
  zal_c (zi_cv (index := 206) (qc := (RX5, TX5, 17)) (by decide +kernel) rfl mk_M_byteAt rfl wm_M_206 wq_M_byteAt ww_M_byteAt ⟨rfl, rfl⟩ ⟨Nat.le_of_ble_eq_true rfl, Nat.le_of_ble_eq_true rfl⟩) <|
  zal_c (zi_cs (index := 212) (by decide +kernel) rfl mk_M_isDigit wm_M_212 wq_M_isDigit ⟨rfl, rfl⟩ ⟨Nat.le_of_ble_eq_true rfl, Nat.le_of_ble_eq_true rfl⟩) <|
  zal_c (zi_isn (j := 2) (by decide +kernel) rfl rfl (Nat.le_of_ble_eq_true rfl)) <|
  zal_c (zi_aln (j := 0) (by decide +kernel) rfl rfl) <|
  zal_c (zi_aln (j := 0) (by decide +kernel) rfl rfl) <|
  zal_c (zi_get (CN := RX5) (T := TX5) (N := 17) (index := 203) (by decide +kernel) rfl rfl (by decide) uw_X5 wf_M_203) <|
  zal_c (zi_aln (j := 0) (by decide +kernel) rfl rfl) <|
  zal_c (zi_get (CN := RX5) (T := TX5) (N := 17) (index := 188) (by decide +kernel) rfl rfl (by decide) uw_X5 wf_M_188) <|
  zal_c (zi_cge (off := 12) (by decide +kernel) rfl rfl) <|
  zal_c (zi_aln (j := 0) (by decide +kernel) rfl rfl) <|
  zal_c (zi_get (CN := RX5) (T := TX5) (N := 17) (index := 203) (by decide +kernel) rfl rfl (by decide) uw_X5 wf_M_203) <|
  zal_c (zi_iconst (n := 1) (by decide +kernel) rfl rfl) <|
  zal_c (zi_iadd (by decide +kernel) rfl) <|
  zal_c (zi_goto (off := 7) (by decide +kernel) rfl) <|
  zal_c (zi_aln (j := 0) (by decide +kernel) rfl rfl) <|
  zal_c (zi_get (CN := RX5) (T := TX5) (N := 17) (index := 203) (by decide +kernel) rfl rfl (by decide) uw_X5 wf_M_203) <|
  zal_c (zi_puti (CN := RX5) (T := TX5) (N := 17) (index := 200) (ty0 := tyX5) (by decide +kernel) rfl rfl (by decide) uw_X5 wf_M_200 tyX5_ok nmX5 rfl (by decide +kernel)) <|
  zal_c (zi_iln (j := 1) (by decide +kernel) rfl rfl) <|
  zal_c (zi_ifeq (off := 17) (by decide +kernel) rfl rfl) <|
  zal_c (zi_aln (j := 0) (by decide +kernel) rfl rfl) <|
  zal_c (zi_aln (j := 0) (by decide +kernel) rfl rfl) <|
  zal_c (zi_get (CN := RX5) (T := TX5) (N := 17) (index := 200) (by decide +kernel) rfl rfl (by decide) uw_X5 wf_M_200) <|
  zal_c (zi_cv (index := 206) (qc := (RX5, TX5, 17)) (by decide +kernel) rfl mk_M_byteAt rfl wm_M_206 wq_M_byteAt ww_M_byteAt ⟨rfl, rfl⟩ ⟨Nat.le_of_ble_eq_true rfl, Nat.le_of_ble_eq_true rfl⟩) <|
  zal_c (zi_cs (index := 209) (by decide +kernel) rfl mk_M_isLetter wm_M_209 wq_M_isLetter ⟨rfl, rfl⟩ ⟨Nat.le_of_ble_eq_true rfl, Nat.le_of_ble_eq_true rfl⟩) <|
  zal_c (zi_ifne (off := 21) (by decide +kernel) rfl rfl) <|
  zal_c (zi_iln (j := 2) (by decide +kernel) rfl rfl) <|
  zal_c (zi_ifeq (off := 30) (by decide +kernel) rfl rfl) <|
  zal_c (zi_aln (j := 0) (by decide +kernel) rfl rfl) <|
  zal_c (zi_aln (j := 0) (by decide +kernel) rfl rfl) <|
  zal_c (zi_get (CN := RX5) (T := TX5) (N := 17) (index := 200) (by decide +kernel) rfl rfl (by decide) uw_X5 wf_M_200) <|
  zal_c (zi_cv (index := 206) (qc := (RX5, TX5, 17)) (by decide +kernel) rfl mk_M_byteAt rfl wm_M_206 wq_M_byteAt ww_M_byteAt ⟨rfl, rfl⟩ ⟨Nat.le_of_ble_eq_true rfl, Nat.le_of_ble_eq_true rfl⟩) <|
  zal_c (zi_cs (index := 212) (by decide +kernel) rfl mk_M_isDigit wm_M_212 wq_M_isDigit ⟨rfl, rfl⟩ ⟨Nat.le_of_ble_eq_true rfl, Nat.le_of_ble_eq_true rfl⟩) <|
  zal_c (zi_ifeq (off := 16) (by decide +kernel) rfl rfl) <|
  zal_c (zi_aln (j := 0) (by decide +kernel) rfl rfl) <|
  zal_c (zi_dup (by decide +kernel) rfl) <|
  zal_c (zi_get (CN := RX5) (T := TX5) (N := 17) (index := 200) (by decide +kernel) rfl rfl (by decide) uw_X5 wf_M_200) <|
  zal_c (zi_iconst (n := 1) (by decide +kernel) rfl rfl) <|
  zal_c (zi_iadd (by decide +kernel) rfl) <|
  zal_c (zi_puti (CN := RX5) (T := TX5) (N := 17) (index := 200) (ty0 := tyX5) (by decide +kernel) rfl rfl (by decide) uw_X5 wf_M_200 tyX5_ok nmX5 rfl (by decide +kernel)) <|
  zal_c (zi_goto (off := -46) (by decide +kernel) rfl) <|
  zal_c (zi_vr (by decide +kernel) rfl) <|
  zal_n
set_option maxRecDepth 100000 in
set_option maxHeartbeats 4000000 in
theorem sn_M_must (l : Launch) : zAl l 158 tb_M_must :=
  zal_c (zi_aln (j := 0) (by decide +kernel) rfl rfl) <|
  zal_c (zi_aln (j := 0) (by decide +kernel) rfl rfl) <|
  zal_c (zi_get (CN := RX5) (T := TX5) (N := 17) (index := 215) (by decide +kernel) rfl rfl (by decide) uw_X5 wf_M_215) <|
  zal_c (zi_ifne (off := 7) (by decide +kernel) rfl rfl) <|
  zal_c (zi_iln (j := 1) (by decide +kernel) rfl rfl) <|
  zal_c (zi_ifne (off := 7) (by decide +kernel) rfl rfl) <|
  zal_c (zi_iconst (n := 1) (by decide +kernel) rfl rfl) <|
  zal_c (zi_goto (off := 4) (by decide +kernel) rfl) <|
  zal_c (zi_iconst (n := 0) (by decide +kernel) rfl rfl) <|
  zal_c (zi_putz (CN := RX5) (T := TX5) (N := 17) (index := 215) (ty0 := tyX5) (by decide +kernel) rfl rfl (by decide) uw_X5 wf_M_215 tyX5_ok nmX5 rfl (by decide +kernel)) <|
  zal_c (zi_aln (j := 0) (by decide +kernel) rfl rfl) <|
  zal_c (zi_get (CN := RX5) (T := TX5) (N := 17) (index := 215) (by decide +kernel) rfl rfl (by decide) uw_X5 wf_M_215) <|
  zal_c (zi_ifne (off := 7) (by decide +kernel) rfl rfl) <|
  zal_c (zi_aln (j := 0) (by decide +kernel) rfl rfl) <|
  zal_c (zi_cv (index := 219) (qc := (RX5, TX5, 17)) (by decide +kernel) rfl mk_M_token rfl wm_M_219 wq_M_token ww_M_token ⟨rfl, rfl⟩ ⟨Nat.le_of_ble_eq_true rfl, Nat.le_of_ble_eq_true rfl⟩) <|
  zal_c (zi_vr (by decide +kernel) rfl) <|
  zal_n
set_option maxRecDepth 100000 in
set_option maxHeartbeats 4000000 in
theorem sn_M_word (l : Launch) : zAl l 159 tb_M_word :=
  zal_c (zi_lconst (n := 0) (by decide +kernel) rfl rfl) <|
  zal_c (zi_lsn (j := 1) (by decide +kernel) rfl rfl (Nat.le_of_ble_eq_true rfl)) <|
  zal_c (zi_aln (j := 0) (by decide +kernel) rfl rfl) <|
  zal_c (zi_get (CN := RX5) (T := TX5) (N := 17) (index := 203) (by decide +kernel) rfl rfl (by decide) uw_X5 wf_M_203) <|
  zal_c (zi_isn (j := 3) (by decide +kernel) rfl rfl (Nat.le_of_ble_eq_true rfl)) <|
  zal_c (zi_iln (j := 3) (by decide +kernel) rfl rfl) <|
  zal_c (zi_aln (j := 0) (by decide +kernel) rfl rfl) <|
  zal_c (zi_get (CN := RX5) (T := TX5) (N := 17) (index := 200) (by decide +kernel) rfl rfl (by decide) uw_X5 wf_M_200) <|
  zal_c (zi_cge (off := 38) (by decide +kernel) rfl rfl) <|
  zal_c (zi_lln (j := 1) (by decide +kernel) rfl rfl) <|
  zal_c (zi_ldc2 (n := 222) (by decide +kernel) rfl wc_M_222) <|
  zal_c (zi_lcmp (by decide +kernel) rfl) <|
  zal_c (zi_ifle (off := 7) (by decide +kernel) rfl rfl) <|
  zal_c (zi_lln (j := 1) (by decide +kernel) rfl rfl) <|
  zal_c (zi_goto (off := 19) (by decide +kernel) rfl) <|
  zal_c (zi_ldc2 (n := 224) (by decide +kernel) rfl wc_M_224) <|
  zal_c (zi_lln (j := 1) (by decide +kernel) rfl rfl) <|
  zal_c (zi_lmul (by decide +kernel) rfl) <|
  zal_c (zi_aln (j := 0) (by decide +kernel) rfl rfl) <|
  zal_c (zi_get (CN := RX5) (T := TX5) (N := 17) (index := 28) (by decide +kernel) rfl rfl (by decide) uw_X5 wf_M_28) <|
  zal_c (zi_iln (j := 3) (by decide +kernel) rfl rfl) <|
  zal_c (zi_iald (by decide +kernel) rfl) <|
  zal_c (zi_bipush (n := 96) (by decide +kernel) rfl rfl) <|
  zal_c (zi_isub (by decide +kernel) rfl) <|
  zal_c (zi_i2l (by decide +kernel) rfl) <|
  zal_c (zi_ladd (by decide +kernel) rfl) <|
  zal_c (zi_lsn (j := 1) (by decide +kernel) rfl rfl (Nat.le_of_ble_eq_true rfl)) <|
  zal_c (zi_inc (n := 1) (by decide +kernel) rfl rfl) <|
  zal_c (zi_goto (off := -40) (by decide +kernel) rfl) <|
  zal_c (zi_aln (j := 0) (by decide +kernel) rfl rfl) <|
  zal_c (zi_get (CN := RX5) (T := TX5) (N := 17) (index := 215) (by decide +kernel) rfl rfl (by decide) uw_X5 wf_M_215) <|
  zal_c (zi_ifne (off := 17) (by decide +kernel) rfl rfl) <|
  zal_c (zi_aln (j := 0) (by decide +kernel) rfl rfl) <|
  zal_c (zi_aln (j := 0) (by decide +kernel) rfl rfl) <|
  zal_c (zi_get (CN := RX5) (T := TX5) (N := 17) (index := 203) (by decide +kernel) rfl rfl (by decide) uw_X5 wf_M_203) <|
  zal_c (zi_cv (index := 206) (qc := (RX5, TX5, 17)) (by decide +kernel) rfl mk_M_byteAt rfl wm_M_206 wq_M_byteAt ww_M_byteAt ⟨rfl, rfl⟩ ⟨Nat.le_of_ble_eq_true rfl, Nat.le_of_ble_eq_true rfl⟩) <|
  zal_c (zi_cs (index := 209) (by decide +kernel) rfl mk_M_isLetter wm_M_209 wq_M_isLetter ⟨rfl, rfl⟩ ⟨Nat.le_of_ble_eq_true rfl, Nat.le_of_ble_eq_true rfl⟩) <|
  zal_c (zi_ifne (off := 7) (by decide +kernel) rfl rfl) <|
  zal_c (zi_lconst (n := 0) (by decide +kernel) rfl rfl) <|
  zal_c (zi_goto (off := 4) (by decide +kernel) rfl) <|
  zal_c (zi_lln (j := 1) (by decide +kernel) rfl rfl) <|
  zal_c (zi_lr (by decide +kernel) rfl) <|
  zal_n
set_option maxRecDepth 100000 in
set_option maxHeartbeats 4000000 in
theorem sn_M_number (l : Launch) : zAl l 160 tb_M_number :=
  zal_c (zi_aln (j := 0) (by decide +kernel) rfl rfl) <|
  zal_c (zi_get (CN := RX5) (T := TX5) (N := 17) (index := 215) (by decide +kernel) rfl rfl (by decide) uw_X5 wf_M_215) <|
  zal_c (zi_ifeq (off := 4) (by decide +kernel) rfl rfl) <|
  zal_c (zi_vr (by decide +kernel) rfl) <|
  zal_c (zi_aln (j := 0) (by decide +kernel) rfl rfl) <|
  zal_c (zi_aln (j := 0) (by decide +kernel) rfl rfl) <|
  zal_c (zi_get (CN := RX5) (T := TX5) (N := 17) (index := 203) (by decide +kernel) rfl rfl (by decide) uw_X5 wf_M_203) <|
  zal_c (zi_cv (index := 206) (qc := (RX5, TX5, 17)) (by decide +kernel) rfl mk_M_byteAt rfl wm_M_206 wq_M_byteAt ww_M_byteAt ⟨rfl, rfl⟩ ⟨Nat.le_of_ble_eq_true rfl, Nat.le_of_ble_eq_true rfl⟩) <|
  zal_c (zi_cs (index := 212) (by decide +kernel) rfl mk_M_isDigit wm_M_212 wq_M_isDigit ⟨rfl, rfl⟩ ⟨Nat.le_of_ble_eq_true rfl, Nat.le_of_ble_eq_true rfl⟩) <|
  zal_c (zi_isn (j := 3) (by decide +kernel) rfl rfl (Nat.le_of_ble_eq_true rfl)) <|
  zal_c (zi_iconst (n := 0) (by decide +kernel) rfl rfl) <|
  zal_c (zi_is (by decide +kernel) rfl (Nat.le_of_ble_eq_true rfl)) <|
  zal_c (zi_aln (j := 0) (by decide +kernel) rfl rfl) <|
  zal_c (zi_get (CN := RX5) (T := TX5) (N := 17) (index := 203) (by decide +kernel) rfl rfl (by decide) uw_X5 wf_M_203) <|
  zal_c (zi_is (by decide +kernel) rfl (Nat.le_of_ble_eq_true rfl)) <|
  zal_c (zi_il (by decide +kernel) rfl) <|
  zal_c (zi_aln (j := 0) (by decide +kernel) rfl rfl) <|
  zal_c (zi_get (CN := RX5) (T := TX5) (N := 17) (index := 200) (by decide +kernel) rfl rfl (by decide) uw_X5 wf_M_200) <|
  zal_c (zi_cge (off := 44) (by decide +kernel) rfl rfl) <|
  zal_c (zi_iln (j := 3) (by decide +kernel) rfl rfl) <|
  zal_c (zi_ifeq (off := 40) (by decide +kernel) rfl rfl) <|
  zal_c (zi_il (by decide +kernel) rfl) <|
  zal_c (zi_sipush (n := 999) (by decide +kernel) rfl rfl) <|
  zal_c (zi_cle (off := 8) (by decide +kernel) rfl rfl) <|
  zal_c (zi_il (by decide +kernel) rfl) <|
  zal_c (zi_goto (off := 19) (by decide +kernel) rfl) <|
  zal_c (zi_bipush (n := 10) (by decide +kernel) rfl rfl) <|
  zal_c (zi_il (by decide +kernel) rfl) <|
  zal_c (zi_imul (by decide +kernel) rfl) <|
  zal_c (zi_aln (j := 0) (by decide +kernel) rfl rfl) <|
  zal_c (zi_get (CN := RX5) (T := TX5) (N := 17) (index := 28) (by decide +kernel) rfl rfl (by decide) uw_X5 wf_M_28) <|
  zal_c (zi_il (by decide +kernel) rfl) <|
  zal_c (zi_iald (by decide +kernel) rfl) <|
  zal_c (zi_iadd (by decide +kernel) rfl) <|
  zal_c (zi_bipush (n := 48) (by decide +kernel) rfl rfl) <|
  zal_c (zi_isub (by decide +kernel) rfl) <|
  zal_c (zi_is (by decide +kernel) rfl (Nat.le_of_ble_eq_true rfl)) <|
  zal_c (zi_inc (n := 1) (by decide +kernel) rfl rfl) <|
  zal_c (zi_goto (off := -47) (by decide +kernel) rfl) <|
  zal_c (zi_aln (j := 0) (by decide +kernel) rfl rfl) <|
  zal_c (zi_il (by decide +kernel) rfl) <|
  zal_c (zi_puti (CN := RX5) (T := TX5) (N := 17) (index := 226) (ty0 := tyX5) (by decide +kernel) rfl rfl (by decide) uw_X5 wf_M_226 tyX5_ok nmX5 rfl (by decide +kernel)) <|
  zal_c (zi_aln (j := 0) (by decide +kernel) rfl rfl) <|
  zal_c (zi_iln (j := 3) (by decide +kernel) rfl rfl) <|
  zal_c (zi_ifeq (off := 20) (by decide +kernel) rfl rfl) <|
  zal_c (zi_il (by decide +kernel) rfl) <|
  zal_c (zi_i2l (by decide +kernel) rfl) <|
  zal_c (zi_iln (j := 1) (by decide +kernel) rfl rfl) <|
  zal_c (zi_i2l (by decide +kernel) rfl) <|
  zal_c (zi_iln (j := 2) (by decide +kernel) rfl rfl) <|
  zal_c (zi_i2l (by decide +kernel) rfl) <|
  zal_c (zi_cs (index := 52) (by decide +kernel) rfl mk_M_in wm_M_52 wq_M_in ⟨rfl, rfl⟩ ⟨Nat.le_of_ble_eq_true rfl, Nat.le_of_ble_eq_true rfl⟩) <|
  zal_c (zi_ifeq (off := 7) (by decide +kernel) rfl rfl) <|
  zal_c (zi_iconst (n := 1) (by decide +kernel) rfl rfl) <|
  zal_c (zi_goto (off := 4) (by decide +kernel) rfl) <|
  zal_c (zi_iconst (n := 0) (by decide +kernel) rfl rfl) <|
  zal_c (zi_cv (index := 229) (qc := (RX5, TX5, 17)) (by decide +kernel) rfl mk_M_must rfl wm_M_229 wq_M_must ww_M_must ⟨rfl, rfl⟩ ⟨Nat.le_of_ble_eq_true rfl, Nat.le_of_ble_eq_true rfl⟩) <|
  zal_c (zi_vr (by decide +kernel) rfl) <|
  zal_n
set_option maxRecDepth 100000 in
set_option maxHeartbeats 4000000 in
theorem sn_M_kindHere (l : Launch) : zAl l 161 tb_M_kindHere :=
  zal_c (zi_aln (j := 0) (by decide +kernel) rfl rfl) <|
  zal_c (zi_cv (index := 233) (qc := (RX5, TX5, 17)) (by decide +kernel) rfl mk_M_word rfl wm_M_233 wq_M_word ww_M_word ⟨rfl, rfl⟩ ⟨Nat.le_of_ble_eq_true rfl, Nat.le_of_ble_eq_true rfl⟩) <|
  zal_c (zi_lsn (j := 1) (by decide +kernel) rfl rfl (Nat.le_of_ble_eq_true rfl)) <|
  zal_c (zi_lln (j := 1) (by decide +kernel) rfl rfl) <|
  zal_c (zi_ldc2 (n := 237) (by decide +kernel) rfl wc_M_237) <|
  zal_c (zi_lcmp (by decide +kernel) rfl) <|
  zal_c (zi_ifne (off := 7) (by decide +kernel) rfl rfl) <|
  zal_c (zi_iconst (n := 0) (by decide +kernel) rfl rfl) <|
  zal_c (zi_goto (off := 64) (by decide +kernel) rfl) <|
  zal_c (zi_lln (j := 1) (by decide +kernel) rfl rfl) <|
  zal_c (zi_ldc2 (n := 239) (by decide +kernel) rfl wc_M_239) <|
  zal_c (zi_lcmp (by decide +kernel) rfl) <|
  zal_c (zi_ifne (off := 7) (by decide +kernel) rfl rfl) <|
  zal_c (zi_iconst (n := 1) (by decide +kernel) rfl rfl) <|
  zal_c (zi_goto (off := 52) (by decide +kernel) rfl) <|
  zal_c (zi_lln (j := 1) (by decide +kernel) rfl rfl) <|
  zal_c (zi_ldc2 (n := 241) (by decide +kernel) rfl wc_M_241) <|
  zal_c (zi_lcmp (by decide +kernel) rfl) <|
  zal_c (zi_ifne (off := 7) (by decide +kernel) rfl rfl) <|
  zal_c (zi_iconst (n := 2) (by decide +kernel) rfl rfl) <|
  zal_c (zi_goto (off := 40) (by decide +kernel) rfl) <|
  zal_c (zi_lln (j := 1) (by decide +kernel) rfl rfl) <|
  zal_c (zi_ldc2 (n := 243) (by decide +kernel) rfl wc_M_243) <|
  zal_c (zi_lcmp (by decide +kernel) rfl) <|
  zal_c (zi_ifne (off := 7) (by decide +kernel) rfl rfl) <|
  zal_c (zi_iconst (n := 3) (by decide +kernel) rfl rfl) <|
  zal_c (zi_goto (off := 28) (by decide +kernel) rfl) <|
  zal_c (zi_lln (j := 1) (by decide +kernel) rfl rfl) <|
  zal_c (zi_ldc2 (n := 245) (by decide +kernel) rfl wc_M_245) <|
  zal_c (zi_lcmp (by decide +kernel) rfl) <|
  zal_c (zi_ifne (off := 7) (by decide +kernel) rfl rfl) <|
  zal_c (zi_iconst (n := 4) (by decide +kernel) rfl rfl) <|
  zal_c (zi_goto (off := 16) (by decide +kernel) rfl) <|
  zal_c (zi_lln (j := 1) (by decide +kernel) rfl rfl) <|
  zal_c (zi_ldc2 (n := 247) (by decide +kernel) rfl wc_M_247) <|
  zal_c (zi_lcmp (by decide +kernel) rfl) <|
  zal_c (zi_ifne (off := 7) (by decide +kernel) rfl rfl) <|
  zal_c (zi_iconst (n := 5) (by decide +kernel) rfl rfl) <|
  zal_c (zi_goto (off := 4) (by decide +kernel) rfl) <|
  zal_c (zi_iconst (n := -1) (by decide +kernel) rfl rfl) <|
  zal_c (zi_ir (by decide +kernel) rfl) <|
  zal_n
set_option maxRecDepth 100000 in
set_option maxHeartbeats 4000000 in
theorem sn_M_inlawItem (l : Launch) : zAl l 162 tb_M_inlawItem :=
  zal_c (zi_aln (j := 0) (by decide +kernel) rfl rfl) <|
  zal_c (zi_aln (j := 0) (by decide +kernel) rfl rfl) <|
  zal_c (zi_get (CN := RX5) (T := TX5) (N := 17) (index := 7) (by decide +kernel) rfl rfl (by decide) uw_X5 wf_M_7) <|
  zal_c (zi_iconst (n := 2) (by decide +kernel) rfl rfl) <|
  zal_c (zi_iald (by decide +kernel) rfl) <|
  zal_c (zi_bipush (n := 8) (by decide +kernel) rfl rfl) <|
  zal_c (zi_cge (off := 7) (by decide +kernel) rfl rfl) <|
  zal_c (zi_iconst (n := 1) (by decide +kernel) rfl rfl) <|
  zal_c (zi_goto (off := 4) (by decide +kernel) rfl) <|
  zal_c (zi_iconst (n := 0) (by decide +kernel) rfl rfl) <|
  zal_c (zi_cv (index := 229) (qc := (RX5, TX5, 17)) (by decide +kernel) rfl mk_M_must rfl wm_M_229 wq_M_must ww_M_must ⟨rfl, rfl⟩ ⟨Nat.le_of_ble_eq_true rfl, Nat.le_of_ble_eq_true rfl⟩) <|
  zal_c (zi_aln (j := 0) (by decide +kernel) rfl rfl) <|
  zal_c (zi_get (CN := RX5) (T := TX5) (N := 17) (index := 215) (by decide +kernel) rfl rfl (by decide) uw_X5 wf_M_215) <|
  zal_c (zi_ifeq (off := 4) (by decide +kernel) rfl rfl) <|
  zal_c (zi_vr (by decide +kernel) rfl) <|
  zal_c (zi_aln (j := 0) (by decide +kernel) rfl rfl) <|
  zal_c (zi_iln (j := 1) (by decide +kernel) rfl rfl) <|
  zal_c (zi_cv (index := 91) (qc := (RX5, TX5, 17)) (by decide +kernel) rfl mk_M_addsInlaw rfl wm_M_91 wq_M_addsInlaw ww_M_addsInlaw ⟨rfl, rfl⟩ ⟨Nat.le_of_ble_eq_true rfl, Nat.le_of_ble_eq_true rfl⟩) <|
  zal_c (zi_isn (j := 2) (by decide +kernel) rfl rfl (Nat.le_of_ble_eq_true rfl)) <|
  zal_c (zi_aln (j := 0) (by decide +kernel) rfl rfl) <|
  zal_c (zi_cv (index := 233) (qc := (RX5, TX5, 17)) (by decide +kernel) rfl mk_M_word rfl wm_M_233 wq_M_word ww_M_word ⟨rfl, rfl⟩ ⟨Nat.le_of_ble_eq_true rfl, Nat.le_of_ble_eq_true rfl⟩) <|
  zal_c (zi_ldc2 (n := 249) (by decide +kernel) rfl wc_M_249) <|
  zal_c (zi_lcmp (by decide +kernel) rfl) <|
  zal_c (zi_ifne (off := 29) (by decide +kernel) rfl rfl) <|
  zal_c (zi_aln (j := 0) (by decide +kernel) rfl rfl) <|
  zal_c (zi_iconst (n := 1) (by decide +kernel) rfl rfl) <|
  zal_c (zi_cv (index := 229) (qc := (RX5, TX5, 17)) (by decide +kernel) rfl mk_M_must rfl wm_M_229 wq_M_must ww_M_must ⟨rfl, rfl⟩ ⟨Nat.le_of_ble_eq_true rfl, Nat.le_of_ble_eq_true rfl⟩) <|
  zal_c (zi_aln (j := 0) (by decide +kernel) rfl rfl) <|
  zal_c (zi_iconst (n := 0) (by decide +kernel) rfl rfl) <|
  zal_c (zi_bipush (n := 99) (by decide +kernel) rfl rfl) <|
  zal_c (zi_cv (index := 251) (qc := (RX5, TX5, 17)) (by decide +kernel) rfl mk_M_number rfl wm_M_251 wq_M_number ww_M_number ⟨rfl, rfl⟩ ⟨Nat.le_of_ble_eq_true rfl, Nat.le_of_ble_eq_true rfl⟩) <|
  zal_c (zi_aln (j := 0) (by decide +kernel) rfl rfl) <|
  zal_c (zi_get (CN := RX5) (T := TX5) (N := 17) (index := 7) (by decide +kernel) rfl rfl (by decide) uw_X5 wf_M_7) <|
  zal_c (zi_iln (j := 2) (by decide +kernel) rfl rfl) <|
  zal_c (zi_iconst (n := 1) (by decide +kernel) rfl rfl) <|
  zal_c (zi_cs (index := 45) (by decide +kernel) rfl mk_M_spot wm_M_45 wq_M_spot ⟨rfl, rfl⟩ ⟨Nat.le_of_ble_eq_true rfl, Nat.le_of_ble_eq_true rfl⟩) <|
  zal_c (zi_aln (j := 0) (by decide +kernel) rfl rfl) <|
  zal_c (zi_get (CN := RX5) (T := TX5) (N := 17) (index := 226) (by decide +kernel) rfl rfl (by decide) uw_X5 wf_M_226) <|
  zal_c (zi_iast (by decide +kernel) rfl) <|
  zal_c (zi_aln (j := 0) (by decide +kernel) rfl rfl) <|
  zal_c (zi_cv (index := 233) (qc := (RX5, TX5, 17)) (by decide +kernel) rfl mk_M_word rfl wm_M_233 wq_M_word ww_M_word ⟨rfl, rfl⟩ ⟨Nat.le_of_ble_eq_true rfl, Nat.le_of_ble_eq_true rfl⟩) <|
  zal_c (zi_ldc2 (n := 254) (by decide +kernel) rfl wc_M_254) <|
  zal_c (zi_lcmp (by decide +kernel) rfl) <|
  zal_c (zi_ifne (off := 19) (by decide +kernel) rfl rfl) <|
  zal_c (zi_aln (j := 0) (by decide +kernel) rfl rfl) <|
  zal_c (zi_iconst (n := 1) (by decide +kernel) rfl rfl) <|
  zal_c (zi_cv (index := 229) (qc := (RX5, TX5, 17)) (by decide +kernel) rfl mk_M_must rfl wm_M_229 wq_M_must ww_M_must ⟨rfl, rfl⟩ ⟨Nat.le_of_ble_eq_true rfl, Nat.le_of_ble_eq_true rfl⟩) <|
  zal_c (zi_aln (j := 0) (by decide +kernel) rfl rfl) <|
  zal_c (zi_get (CN := RX5) (T := TX5) (N := 17) (index := 7) (by decide +kernel) rfl rfl (by decide) uw_X5 wf_M_7) <|
  zal_c (zi_iln (j := 2) (by decide +kernel) rfl rfl) <|
  zal_c (zi_iconst (n := 2) (by decide +kernel) rfl rfl) <|
  zal_c (zi_cs (index := 45) (by decide +kernel) rfl mk_M_spot wm_M_45 wq_M_spot ⟨rfl, rfl⟩ ⟨Nat.le_of_ble_eq_true rfl, Nat.le_of_ble_eq_true rfl⟩) <|
  zal_c (zi_iconst (n := 1) (by decide +kernel) rfl rfl) <|
  zal_c (zi_iast (by decide +kernel) rfl) <|
  zal_c (zi_vr (by decide +kernel) rfl) <|
  zal_n
set_option maxRecDepth 100000 in
set_option maxHeartbeats 4000000 in
theorem sn_M_coupleItem (l : Launch) : zAl l 163 tb_M_coupleItem :=
  zal_c (zi_aln (j := 0) (by decide +kernel) rfl rfl) <|
  zal_c (zi_aln (j := 0) (by decide +kernel) rfl rfl) <|
  zal_c (zi_get (CN := RX5) (T := TX5) (N := 17) (index := 7) (by decide +kernel) rfl rfl (by decide) uw_X5 wf_M_7) <|
  zal_c (zi_iconst (n := 3) (by decide +kernel) rfl rfl) <|
  zal_c (zi_iald (by decide +kernel) rfl) <|
  zal_c (zi_bipush (n := 8) (by decide +kernel) rfl rfl) <|
  zal_c (zi_cge (off := 7) (by decide +kernel) rfl rfl) <|
  zal_c (zi_iconst (n := 1) (by decide +kernel) rfl rfl) <|
  zal_c (zi_goto (off := 4) (by decide +kernel) rfl) <|
  zal_c (zi_iconst (n := 0) (by decide +kernel) rfl rfl) <|
  zal_c (zi_cv (index := 229) (qc := (RX5, TX5, 17)) (by decide +kernel) rfl mk_M_must rfl wm_M_229 wq_M_must ww_M_must ⟨rfl, rfl⟩ ⟨Nat.le_of_ble_eq_true rfl, Nat.le_of_ble_eq_true rfl⟩) <|
  zal_c (zi_aln (j := 0) (by decide +kernel) rfl rfl) <|
  zal_c (zi_iconst (n := 0) (by decide +kernel) rfl rfl) <|
  zal_c (zi_bipush (n := 9) (by decide +kernel) rfl rfl) <|
  zal_c (zi_cv (index := 251) (qc := (RX5, TX5, 17)) (by decide +kernel) rfl mk_M_number rfl wm_M_251 wq_M_number ww_M_number ⟨rfl, rfl⟩ ⟨Nat.le_of_ble_eq_true rfl, Nat.le_of_ble_eq_true rfl⟩) <|
  zal_c (zi_aln (j := 0) (by decide +kernel) rfl rfl) <|
  zal_c (zi_get (CN := RX5) (T := TX5) (N := 17) (index := 215) (by decide +kernel) rfl rfl (by decide) uw_X5 wf_M_215) <|
  zal_c (zi_ifeq (off := 4) (by decide +kernel) rfl rfl) <|
  zal_c (zi_vr (by decide +kernel) rfl) <|
  zal_c (zi_aln (j := 0) (by decide +kernel) rfl rfl) <|
  zal_c (zi_aln (j := 0) (by decide +kernel) rfl rfl) <|
  zal_c (zi_get (CN := RX5) (T := TX5) (N := 17) (index := 226) (by decide +kernel) rfl rfl (by decide) uw_X5 wf_M_226) <|
  zal_c (zi_cv (index := 127) (qc := (RX5, TX5, 17)) (by decide +kernel) rfl mk_M_addsCouple rfl wm_M_127 wq_M_addsCouple ww_M_addsCouple ⟨rfl, rfl⟩ ⟨Nat.le_of_ble_eq_true rfl, Nat.le_of_ble_eq_true rfl⟩) <|
  zal_c (zi_isn (j := 1) (by decide +kernel) rfl rfl (Nat.le_of_ble_eq_true rfl)) <|
  zal_c (zi_aln (j := 0) (by decide +kernel) rfl rfl) <|
  zal_c (zi_cv (index := 233) (qc := (RX5, TX5, 17)) (by decide +kernel) rfl mk_M_word rfl wm_M_233 wq_M_word ww_M_word ⟨rfl, rfl⟩ ⟨Nat.le_of_ble_eq_true rfl, Nat.le_of_ble_eq_true rfl⟩) <|
  zal_c (zi_ldc2 (n := 256) (by decide +kernel) rfl wc_M_256) <|
  zal_c (zi_lcmp (by decide +kernel) rfl) <|
  zal_c (zi_ifne (off := 35) (by decide +kernel) rfl rfl) <|
  zal_c (zi_aln (j := 0) (by decide +kernel) rfl rfl) <|
  zal_c (zi_iconst (n := 1) (by decide +kernel) rfl rfl) <|
  zal_c (zi_cv (index := 229) (qc := (RX5, TX5, 17)) (by decide +kernel) rfl mk_M_must rfl wm_M_229 wq_M_must ww_M_must ⟨rfl, rfl⟩ ⟨Nat.le_of_ble_eq_true rfl, Nat.le_of_ble_eq_true rfl⟩) <|
  zal_c (zi_aln (j := 0) (by decide +kernel) rfl rfl) <|
  zal_c (zi_iconst (n := 0) (by decide +kernel) rfl rfl) <|
  zal_c (zi_aln (j := 0) (by decide +kernel) rfl rfl) <|
  zal_c (zi_get (CN := RX5) (T := TX5) (N := 17) (index := 7) (by decide +kernel) rfl rfl (by decide) uw_X5 wf_M_7) <|
  zal_c (zi_iconst (n := 2) (by decide +kernel) rfl rfl) <|
  zal_c (zi_iald (by decide +kernel) rfl) <|
  zal_c (zi_iconst (n := 1) (by decide +kernel) rfl rfl) <|
  zal_c (zi_isub (by decide +kernel) rfl) <|
  zal_c (zi_cv (index := 251) (qc := (RX5, TX5, 17)) (by decide +kernel) rfl mk_M_number rfl wm_M_251 wq_M_number ww_M_number ⟨rfl, rfl⟩ ⟨Nat.le_of_ble_eq_true rfl, Nat.le_of_ble_eq_true rfl⟩) <|
  zal_c (zi_aln (j := 0) (by decide +kernel) rfl rfl) <|
  zal_c (zi_get (CN := RX5) (T := TX5) (N := 17) (index := 7) (by decide +kernel) rfl rfl (by decide) uw_X5 wf_M_7) <|
  zal_c (zi_iln (j := 1) (by decide +kernel) rfl rfl) <|
  zal_c (zi_iconst (n := 2) (by decide +kernel) rfl rfl) <|
  zal_c (zi_cs (index := 49) (by decide +kernel) rfl mk_M_coupleSpot wm_M_49 wq_M_coupleSpot ⟨rfl, rfl⟩ ⟨Nat.le_of_ble_eq_true rfl, Nat.le_of_ble_eq_true rfl⟩) <|
  zal_c (zi_aln (j := 0) (by decide +kernel) rfl rfl) <|
  zal_c (zi_get (CN := RX5) (T := TX5) (N := 17) (index := 226) (by decide +kernel) rfl rfl (by decide) uw_X5 wf_M_226) <|
  zal_c (zi_iast (by decide +kernel) rfl) <|
  zal_c (zi_vr (by decide +kernel) rfl) <|
  zal_n
set_option maxRecDepth 100000 in
set_option maxHeartbeats 4000000 in
theorem sn_M_fireItem (l : Launch) : zAl l 164 tb_M_fireItem :=
  zal_c (zi_aln (j := 0) (by decide +kernel) rfl rfl) <|
  zal_c (zi_iconst (n := 1) (by decide +kernel) rfl rfl) <|
  zal_c (zi_cv (index := 229) (qc := (RX5, TX5, 17)) (by decide +kernel) rfl mk_M_must rfl wm_M_229 wq_M_must ww_M_must ⟨rfl, rfl⟩ ⟨Nat.le_of_ble_eq_true rfl, Nat.le_of_ble_eq_true rfl⟩) <|
  zal_c (zi_aln (j := 0) (by decide +kernel) rfl rfl) <|
  zal_c (zi_iconst (n := 0) (by decide +kernel) rfl rfl) <|
  zal_c (zi_bipush (n := 20) (by decide +kernel) rfl rfl) <|
  zal_c (zi_cv (index := 251) (qc := (RX5, TX5, 17)) (by decide +kernel) rfl mk_M_number rfl wm_M_251 wq_M_number ww_M_number ⟨rfl, rfl⟩ ⟨Nat.le_of_ble_eq_true rfl, Nat.le_of_ble_eq_true rfl⟩) <|
  zal_c (zi_aln (j := 0) (by decide +kernel) rfl rfl) <|
  zal_c (zi_get (CN := RX5) (T := TX5) (N := 17) (index := 7) (by decide +kernel) rfl rfl (by decide) uw_X5 wf_M_7) <|
  zal_c (zi_iconst (n := 1) (by decide +kernel) rfl rfl) <|
  zal_c (zi_aln (j := 0) (by decide +kernel) rfl rfl) <|
  zal_c (zi_get (CN := RX5) (T := TX5) (N := 17) (index := 215) (by decide +kernel) rfl rfl (by decide) uw_X5 wf_M_215) <|
  zal_c (zi_ifeq (off := 12) (by decide +kernel) rfl rfl) <|
  zal_c (zi_aln (j := 0) (by decide +kernel) rfl rfl) <|
  zal_c (zi_get (CN := RX5) (T := TX5) (N := 17) (index := 7) (by decide +kernel) rfl rfl (by decide) uw_X5 wf_M_7) <|
  zal_c (zi_iconst (n := 1) (by decide +kernel) rfl rfl) <|
  zal_c (zi_iald (by decide +kernel) rfl) <|
  zal_c (zi_goto (off := 7) (by decide +kernel) rfl) <|
  zal_c (zi_aln (j := 0) (by decide +kernel) rfl rfl) <|
  zal_c (zi_get (CN := RX5) (T := TX5) (N := 17) (index := 226) (by decide +kernel) rfl rfl (by decide) uw_X5 wf_M_226) <|
  zal_c (zi_iast (by decide +kernel) rfl) <|
  zal_c (zi_vr (by decide +kernel) rfl) <|
  zal_n
set_option maxRecDepth 100000 in
set_option maxHeartbeats 4000000 in
theorem sn_M_sitItem (l : Launch) : zAl l 165 tb_M_sitItem :=
  zal_c (zi_aln (j := 0) (by decide +kernel) rfl rfl) <|
  zal_c (zi_iconst (n := 1) (by decide +kernel) rfl rfl) <|
  zal_c (zi_cv (index := 229) (qc := (RX5, TX5, 17)) (by decide +kernel) rfl mk_M_must rfl wm_M_229 wq_M_must ww_M_must ⟨rfl, rfl⟩ ⟨Nat.le_of_ble_eq_true rfl, Nat.le_of_ble_eq_true rfl⟩) <|
  zal_c (zi_aln (j := 0) (by decide +kernel) rfl rfl) <|
  zal_c (zi_iconst (n := 0) (by decide +kernel) rfl rfl) <|
  zal_c (zi_aln (j := 0) (by decide +kernel) rfl rfl) <|
  zal_c (zi_get (CN := RX5) (T := TX5) (N := 17) (index := 7) (by decide +kernel) rfl rfl (by decide) uw_X5 wf_M_7) <|
  zal_c (zi_iconst (n := 2) (by decide +kernel) rfl rfl) <|
  zal_c (zi_iald (by decide +kernel) rfl) <|
  zal_c (zi_iconst (n := 1) (by decide +kernel) rfl rfl) <|
  zal_c (zi_isub (by decide +kernel) rfl) <|
  zal_c (zi_cv (index := 251) (qc := (RX5, TX5, 17)) (by decide +kernel) rfl mk_M_number rfl wm_M_251 wq_M_number ww_M_number ⟨rfl, rfl⟩ ⟨Nat.le_of_ble_eq_true rfl, Nat.le_of_ble_eq_true rfl⟩) <|
  zal_c (zi_aln (j := 0) (by decide +kernel) rfl rfl) <|
  zal_c (zi_get (CN := RX5) (T := TX5) (N := 17) (index := 215) (by decide +kernel) rfl rfl (by decide) uw_X5 wf_M_215) <|
  zal_c (zi_ifne (off := 17) (by decide +kernel) rfl rfl) <|
  zal_c (zi_aln (j := 0) (by decide +kernel) rfl rfl) <|
  zal_c (zi_get (CN := RX5) (T := TX5) (N := 17) (index := 7) (by decide +kernel) rfl rfl (by decide) uw_X5 wf_M_7) <|
  zal_c (zi_aln (j := 0) (by decide +kernel) rfl rfl) <|
  zal_c (zi_get (CN := RX5) (T := TX5) (N := 17) (index := 226) (by decide +kernel) rfl rfl (by decide) uw_X5 wf_M_226) <|
  zal_c (zi_iconst (n := 2) (by decide +kernel) rfl rfl) <|
  zal_c (zi_cs (index := 45) (by decide +kernel) rfl mk_M_spot wm_M_45 wq_M_spot ⟨rfl, rfl⟩ ⟨Nat.le_of_ble_eq_true rfl, Nat.le_of_ble_eq_true rfl⟩) <|
  zal_c (zi_iconst (n := 1) (by decide +kernel) rfl rfl) <|
  zal_c (zi_iast (by decide +kernel) rfl) <|
  zal_c (zi_vr (by decide +kernel) rfl) <|
  zal_n
set_option maxRecDepth 100000 in
set_option maxHeartbeats 4000000 in
theorem sn_M_item (l : Launch) : zAl l 166 tb_M_item :=
  zal_c (zi_aln (j := 0) (by decide +kernel) rfl rfl) <|
  zal_c (zi_cv (index := 258) (qc := (RX5, TX5, 17)) (by decide +kernel) rfl mk_M_kindHere rfl wm_M_258 wq_M_kindHere ww_M_kindHere ⟨rfl, rfl⟩ ⟨Nat.le_of_ble_eq_true rfl, Nat.le_of_ble_eq_true rfl⟩) <|
  zal_c (zi_isn (j := 1) (by decide +kernel) rfl rfl (Nat.le_of_ble_eq_true rfl)) <|
  zal_c (zi_aln (j := 0) (by decide +kernel) rfl rfl) <|
  zal_c (zi_cv (index := 233) (qc := (RX5, TX5, 17)) (by decide +kernel) rfl mk_M_word rfl wm_M_233 wq_M_word ww_M_word ⟨rfl, rfl⟩ ⟨Nat.le_of_ble_eq_true rfl, Nat.le_of_ble_eq_true rfl⟩) <|
  zal_c (zi_lsn (j := 2) (by decide +kernel) rfl rfl (Nat.le_of_ble_eq_true rfl)) <|
  zal_c (zi_iln (j := 1) (by decide +kernel) rfl rfl) <|
  zal_c (zi_iflt (off := 11) (by decide +kernel) rfl rfl) <|
  zal_c (zi_aln (j := 0) (by decide +kernel) rfl rfl) <|
  zal_c (zi_iln (j := 1) (by decide +kernel) rfl rfl) <|
  zal_c (zi_cv (index := 261) (qc := (RX5, TX5, 17)) (by decide +kernel) rfl mk_M_inlawItem rfl wm_M_261 wq_M_inlawItem ww_M_inlawItem ⟨rfl, rfl⟩ ⟨Nat.le_of_ble_eq_true rfl, Nat.le_of_ble_eq_true rfl⟩) <|
  zal_c (zi_goto (off := 53) (by decide +kernel) rfl) <|
  zal_c (zi_lln (j := 2) (by decide +kernel) rfl rfl) <|
  zal_c (zi_ldc2 (n := 264) (by decide +kernel) rfl wc_M_264) <|
  zal_c (zi_lcmp (by decide +kernel) rfl) <|
  zal_c (zi_ifne (off := 10) (by decide +kernel) rfl rfl) <|
  zal_c (zi_aln (j := 0) (by decide +kernel) rfl rfl) <|
  zal_c (zi_cv (index := 266) (qc := (RX5, TX5, 17)) (by decide +kernel) rfl mk_M_coupleItem rfl wm_M_266 wq_M_coupleItem ww_M_coupleItem ⟨rfl, rfl⟩ ⟨Nat.le_of_ble_eq_true rfl, Nat.le_of_ble_eq_true rfl⟩) <|
  zal_c (zi_goto (off := 38) (by decide +kernel) rfl) <|
  zal_c (zi_lln (j := 2) (by decide +kernel) rfl rfl) <|
  zal_c (zi_ldc2 (n := 269) (by decide +kernel) rfl wc_M_269) <|
  zal_c (zi_lcmp (by decide +kernel) rfl) <|
  zal_c (zi_ifne (off := 10) (by decide +kernel) rfl rfl) <|
  zal_c (zi_aln (j := 0) (by decide +kernel) rfl rfl) <|
  zal_c (zi_cv (index := 271) (qc := (RX5, TX5, 17)) (by decide +kernel) rfl mk_M_fireItem rfl wm_M_271 wq_M_fireItem ww_M_fireItem ⟨rfl, rfl⟩ ⟨Nat.le_of_ble_eq_true rfl, Nat.le_of_ble_eq_true rfl⟩) <|
  zal_c (zi_goto (off := 23) (by decide +kernel) rfl) <|
  zal_c (zi_lln (j := 2) (by decide +kernel) rfl rfl) <|
  zal_c (zi_ldc2 (n := 274) (by decide +kernel) rfl wc_M_274) <|
  zal_c (zi_lcmp (by decide +kernel) rfl) <|
  zal_c (zi_ifne (off := 10) (by decide +kernel) rfl rfl) <|
  zal_c (zi_aln (j := 0) (by decide +kernel) rfl rfl) <|
  zal_c (zi_cv (index := 276) (qc := (RX5, TX5, 17)) (by decide +kernel) rfl mk_M_sitItem rfl wm_M_276 wq_M_sitItem ww_M_sitItem ⟨rfl, rfl⟩ ⟨Nat.le_of_ble_eq_true rfl, Nat.le_of_ble_eq_true rfl⟩) <|
  zal_c (zi_goto (off := 8) (by decide +kernel) rfl) <|
  zal_c (zi_aln (j := 0) (by decide +kernel) rfl rfl) <|
  zal_c (zi_iconst (n := 0) (by decide +kernel) rfl rfl) <|
  zal_c (zi_cv (index := 229) (qc := (RX5, TX5, 17)) (by decide +kernel) rfl mk_M_must rfl wm_M_229 wq_M_must ww_M_must ⟨rfl, rfl⟩ ⟨Nat.le_of_ble_eq_true rfl, Nat.le_of_ble_eq_true rfl⟩) <|
  zal_c (zi_vr (by decide +kernel) rfl) <|
  zal_n
set_option maxRecDepth 100000 in
set_option maxHeartbeats 4000000 in
theorem sn_M_institute (l : Launch) : zAl l 167 tb_M_institute :=
  zal_c (zi_aln (j := 0) (by decide +kernel) rfl rfl) <|
  zal_c (zi_cv (index := 279) (qc := (RX5, TX5, 17)) (by decide +kernel) rfl mk_M_saves rfl wm_M_279 wq_M_saves ww_M_saves ⟨rfl, rfl⟩ ⟨Nat.le_of_ble_eq_true rfl, Nat.le_of_ble_eq_true rfl⟩) <|
  zal_c (zi_aln (j := 0) (by decide +kernel) rfl rfl) <|
  zal_c (zi_iconst (n := 0) (by decide +kernel) rfl rfl) <|
  zal_c (zi_putz (CN := RX5) (T := TX5) (N := 17) (index := 215) (ty0 := tyX5) (by decide +kernel) rfl rfl (by decide) uw_X5 wf_M_215 tyX5_ok nmX5 rfl (by decide +kernel)) <|
  zal_c (zi_aln (j := 0) (by decide +kernel) rfl rfl) <|
  zal_c (zi_iconst (n := 0) (by decide +kernel) rfl rfl) <|
  zal_c (zi_puti (CN := RX5) (T := TX5) (N := 17) (index := 200) (ty0 := tyX5) (by decide +kernel) rfl rfl (by decide) uw_X5 wf_M_200 tyX5_ok nmX5 rfl (by decide +kernel)) <|
  zal_c (zi_aln (j := 0) (by decide +kernel) rfl rfl) <|
  zal_c (zi_cv (index := 219) (qc := (RX5, TX5, 17)) (by decide +kernel) rfl mk_M_token rfl wm_M_219 wq_M_token ww_M_token ⟨rfl, rfl⟩ ⟨Nat.le_of_ble_eq_true rfl, Nat.le_of_ble_eq_true rfl⟩) <|
  zal_c (zi_iconst (n := 1) (by decide +kernel) rfl rfl) <|
  zal_c (zi_isn (j := 1) (by decide +kernel) rfl rfl (Nat.le_of_ble_eq_true rfl)) <|
  zal_c (zi_aln (j := 0) (by decide +kernel) rfl rfl) <|
  zal_c (zi_cv (index := 282) (qc := (RX5, TX5, 17)) (by decide +kernel) rfl mk_M_item rfl wm_M_282 wq_M_item ww_M_item ⟨rfl, rfl⟩ ⟨Nat.le_of_ble_eq_true rfl, Nat.le_of_ble_eq_true rfl⟩) <|
  zal_c (zi_aln (j := 0) (by decide +kernel) rfl rfl) <|
  zal_c (zi_get (CN := RX5) (T := TX5) (N := 17) (index := 215) (by decide +kernel) rfl rfl (by decide) uw_X5 wf_M_215) <|
  zal_c (zi_ifne (off := 31) (by decide +kernel) rfl rfl) <|
  zal_c (zi_aln (j := 0) (by decide +kernel) rfl rfl) <|
  zal_c (zi_aln (j := 0) (by decide +kernel) rfl rfl) <|
  zal_c (zi_get (CN := RX5) (T := TX5) (N := 17) (index := 203) (by decide +kernel) rfl rfl (by decide) uw_X5 wf_M_203) <|
  zal_c (zi_cv (index := 206) (qc := (RX5, TX5, 17)) (by decide +kernel) rfl mk_M_byteAt rfl wm_M_206 wq_M_byteAt ww_M_byteAt ⟨rfl, rfl⟩ ⟨Nat.le_of_ble_eq_true rfl, Nat.le_of_ble_eq_true rfl⟩) <|
  zal_c (zi_bipush (n := 59) (by decide +kernel) rfl rfl) <|
  zal_c (zi_cne (off := 18) (by decide +kernel) rfl rfl) <|
  zal_c (zi_aln (j := 0) (by decide +kernel) rfl rfl) <|
  zal_c (zi_iconst (n := 1) (by decide +kernel) rfl rfl) <|
  zal_c (zi_cv (index := 229) (qc := (RX5, TX5, 17)) (by decide +kernel) rfl mk_M_must rfl wm_M_229 wq_M_must ww_M_must ⟨rfl, rfl⟩ ⟨Nat.le_of_ble_eq_true rfl, Nat.le_of_ble_eq_true rfl⟩) <|
  zal_c (zi_aln (j := 0) (by decide +kernel) rfl rfl) <|
  zal_c (zi_cv (index := 282) (qc := (RX5, TX5, 17)) (by decide +kernel) rfl mk_M_item rfl wm_M_282 wq_M_item ww_M_item ⟨rfl, rfl⟩ ⟨Nat.le_of_ble_eq_true rfl, Nat.le_of_ble_eq_true rfl⟩) <|
  zal_c (zi_inc (n := 1) (by decide +kernel) rfl rfl) <|
  zal_c (zi_goto (off := -32) (by decide +kernel) rfl) <|
  zal_c (zi_aln (j := 0) (by decide +kernel) rfl rfl) <|
  zal_c (zi_aln (j := 0) (by decide +kernel) rfl rfl) <|
  zal_c (zi_get (CN := RX5) (T := TX5) (N := 17) (index := 215) (by decide +kernel) rfl rfl (by decide) uw_X5 wf_M_215) <|
  zal_c (zi_ifne (off := 14) (by decide +kernel) rfl rfl) <|
  zal_c (zi_aln (j := 0) (by decide +kernel) rfl rfl) <|
  zal_c (zi_get (CN := RX5) (T := TX5) (N := 17) (index := 203) (by decide +kernel) rfl rfl (by decide) uw_X5 wf_M_203) <|
  zal_c (zi_aln (j := 0) (by decide +kernel) rfl rfl) <|
  zal_c (zi_get (CN := RX5) (T := TX5) (N := 17) (index := 188) (by decide +kernel) rfl rfl (by decide) uw_X5 wf_M_188) <|
  zal_c (zi_cge (off := 7) (by decide +kernel) rfl rfl) <|
  zal_c (zi_iconst (n := 1) (by decide +kernel) rfl rfl) <|
  zal_c (zi_goto (off := 4) (by decide +kernel) rfl) <|
  zal_c (zi_iconst (n := 0) (by decide +kernel) rfl rfl) <|
  zal_c (zi_putz (CN := RX5) (T := TX5) (N := 17) (index := 215) (ty0 := tyX5) (by decide +kernel) rfl rfl (by decide) uw_X5 wf_M_215 tyX5_ok nmX5 rfl (by decide +kernel)) <|
  zal_c (zi_aln (j := 0) (by decide +kernel) rfl rfl) <|
  zal_c (zi_get (CN := RX5) (T := TX5) (N := 17) (index := 215) (by decide +kernel) rfl rfl (by decide) uw_X5 wf_M_215) <|
  zal_c (zi_ifeq (off := 7) (by decide +kernel) rfl rfl) <|
  zal_c (zi_aln (j := 0) (by decide +kernel) rfl rfl) <|
  zal_c (zi_cv (index := 285) (qc := (RX5, TX5, 17)) (by decide +kernel) rfl mk_M_putsBack rfl wm_M_285 wq_M_putsBack ww_M_putsBack ⟨rfl, rfl⟩ ⟨Nat.le_of_ble_eq_true rfl, Nat.le_of_ble_eq_true rfl⟩) <|
  zal_c (zi_aln (j := 0) (by decide +kernel) rfl rfl) <|
  zal_c (zi_iconst (n := 0) (by decide +kernel) rfl rfl) <|
  zal_c (zi_puti (CN := RX5) (T := TX5) (N := 17) (index := 188) (ty0 := tyX5) (by decide +kernel) rfl rfl (by decide) uw_X5 wf_M_188 tyX5_ok nmX5 rfl (by decide +kernel)) <|
  zal_c (zi_aln (j := 0) (by decide +kernel) rfl rfl) <|
  zal_c (zi_get (CN := RX5) (T := TX5) (N := 17) (index := 215) (by decide +kernel) rfl rfl (by decide) uw_X5 wf_M_215) <|
  zal_c (zi_ifeq (off := 12) (by decide +kernel) rfl rfl) <|
  zal_c (zi_iconst (n := -1) (by decide +kernel) rfl rfl) <|
  zal_c (zi_aln (j := 0) (by decide +kernel) rfl rfl) <|
  zal_c (zi_get (CN := RX5) (T := TX5) (N := 17) (index := 203) (by decide +kernel) rfl rfl (by decide) uw_X5 wf_M_203) <|
  zal_c (zi_isub (by decide +kernel) rfl) <|
  zal_c (zi_goto (off := 4) (by decide +kernel) rfl) <|
  zal_c (zi_iln (j := 1) (by decide +kernel) rfl rfl) <|
  zal_c (zi_ir (by decide +kernel) rfl) <|
  zal_n
set_option maxRecDepth 100000 in
set_option maxHeartbeats 4000000 in
theorem sn_M_isOne (l : Launch) : zAl l 168 tb_M_isOne :=
  zal_c (zi_iln (j := 0) (by decide +kernel) rfl rfl) <|
  zal_c (zi_i2l (by decide +kernel) rfl) <|
  zal_c (zi_lconst (n := 0) (by decide +kernel) rfl rfl) <|
  zal_c (zi_ldc2 (n := 139) (by decide +kernel) rfl wc_M_139) <|
  zal_c (zi_cs (index := 52) (by decide +kernel) rfl mk_M_in wm_M_52 wq_M_in ⟨rfl, rfl⟩ ⟨Nat.le_of_ble_eq_true rfl, Nat.le_of_ble_eq_true rfl⟩) <|
  zal_c (zi_zr (by decide +kernel) rfl) <|
  zal_n
set_option maxRecDepth 100000 in
set_option maxHeartbeats 4000000 in
theorem sn_M_sheet (l : Launch) : zAl l 169 tb_M_sheet :=
  zal_c (zi_iln (j := 1) (by decide +kernel) rfl rfl) <|
  zal_c (zi_cs (index := 288) (by decide +kernel) rfl mk_M_isOne wm_M_288 wq_M_isOne ⟨rfl, rfl⟩ ⟨Nat.le_of_ble_eq_true rfl, Nat.le_of_ble_eq_true rfl⟩) <|
  zal_c (zi_ifeq (off := 25) (by decide +kernel) rfl rfl) <|
  zal_c (zi_iln (j := 2) (by decide +kernel) rfl rfl) <|
  zal_c (zi_ifeq (off := 28) (by decide +kernel) rfl rfl) <|
  zal_c (zi_iln (j := 2) (by decide +kernel) rfl rfl) <|
  zal_c (zi_bipush (n := 8) (by decide +kernel) rfl rfl) <|
  zal_c (zi_ceq (off := 22) (by decide +kernel) rfl rfl) <|
  zal_c (zi_iln (j := 2) (by decide +kernel) rfl rfl) <|
  zal_c (zi_bipush (n := 16) (by decide +kernel) rfl rfl) <|
  zal_c (zi_ceq (off := 16) (by decide +kernel) rfl rfl) <|
  zal_c (zi_iln (j := 2) (by decide +kernel) rfl rfl) <|
  zal_c (zi_bipush (n := 64) (by decide +kernel) rfl rfl) <|
  zal_c (zi_ceq (off := 10) (by decide +kernel) rfl rfl) <|
  zal_c (zi_aln (j := 0) (by decide +kernel) rfl rfl) <|
  zal_c (zi_ldc (n := 44) (by decide +kernel) rfl wc_M_44) <|
  zal_c (zi_cv (index := 69) (qc := (RX5, TX5, 17)) (by decide +kernel) rfl mk_M_finds rfl wm_M_69 wq_M_finds ww_M_finds ⟨rfl, rfl⟩ ⟨Nat.le_of_ble_eq_true rfl, Nat.le_of_ble_eq_true rfl⟩) <|
  zal_c (zi_ir (by decide +kernel) rfl) <|
  zal_c (zi_iln (j := 3) (by decide +kernel) rfl rfl) <|
  zal_c (zi_ifge (off := 11) (by decide +kernel) rfl rfl) <|
  zal_c (zi_aln (j := 0) (by decide +kernel) rfl rfl) <|
  zal_c (zi_ldcw (n := 291) (by decide +kernel) rfl wc_M_291) <|
  zal_c (zi_cv (index := 69) (qc := (RX5, TX5, 17)) (by decide +kernel) rfl mk_M_finds rfl wm_M_69 wq_M_finds ww_M_finds ⟨rfl, rfl⟩ ⟨Nat.le_of_ble_eq_true rfl, Nat.le_of_ble_eq_true rfl⟩) <|
  zal_c (zi_ir (by decide +kernel) rfl) <|
  zal_c (zi_iln (j := 3) (by decide +kernel) rfl rfl) <|
  zal_c (zi_bipush (n := 40) (by decide +kernel) rfl rfl) <|
  zal_c (zi_cle (off := 10) (by decide +kernel) rfl rfl) <|
  zal_c (zi_aln (j := 0) (by decide +kernel) rfl rfl) <|
  zal_c (zi_ldc (n := 44) (by decide +kernel) rfl wc_M_44) <|
  zal_c (zi_cv (index := 69) (qc := (RX5, TX5, 17)) (by decide +kernel) rfl mk_M_finds rfl wm_M_69 wq_M_finds ww_M_finds ⟨rfl, rfl⟩ ⟨Nat.le_of_ble_eq_true rfl, Nat.le_of_ble_eq_true rfl⟩) <|
  zal_c (zi_ir (by decide +kernel) rfl) <|
  zal_c (zi_aln (j := 0) (by decide +kernel) rfl rfl) <|
  zal_c (zi_get (CN := RX5) (T := TX5) (N := 17) (index := 31) (by decide +kernel) rfl rfl (by decide) uw_X5 wf_M_31) <|
  zal_c (zi_iln (j := 1) (by decide +kernel) rfl rfl) <|
  zal_c (zi_iln (j := 2) (by decide +kernel) rfl rfl) <|
  zal_c (zi_iast (by decide +kernel) rfl) <|
  zal_c (zi_aln (j := 0) (by decide +kernel) rfl rfl) <|
  zal_c (zi_get (CN := RX5) (T := TX5) (N := 17) (index := 34) (by decide +kernel) rfl rfl (by decide) uw_X5 wf_M_34) <|
  zal_c (zi_iln (j := 1) (by decide +kernel) rfl rfl) <|
  zal_c (zi_iln (j := 2) (by decide +kernel) rfl rfl) <|
  zal_c (zi_ifne (off := 7) (by decide +kernel) rfl rfl) <|
  zal_c (zi_iconst (n := 0) (by decide +kernel) rfl rfl) <|
  zal_c (zi_goto (off := 4) (by decide +kernel) rfl) <|
  zal_c (zi_iln (j := 3) (by decide +kernel) rfl rfl) <|
  zal_c (zi_iast (by decide +kernel) rfl) <|
  zal_c (zi_iconst (n := 0) (by decide +kernel) rfl rfl) <|
  zal_c (zi_is (by decide +kernel) rfl (Nat.le_of_ble_eq_true rfl)) <|
  zal_c (zi_il (by decide +kernel) rfl) <|
  zal_c (zi_bipush (n := 40) (by decide +kernel) rfl rfl) <|
  zal_c (zi_cge (off := 22) (by decide +kernel) rfl rfl) <|
  zal_c (zi_aln (j := 0) (by decide +kernel) rfl rfl) <|
  zal_c (zi_get (CN := RX5) (T := TX5) (N := 17) (index := 37) (by decide +kernel) rfl rfl (by decide) uw_X5 wf_M_37) <|
  zal_c (zi_bipush (n := 40) (by decide +kernel) rfl rfl) <|
  zal_c (zi_iln (j := 1) (by decide +kernel) rfl rfl) <|
  zal_c (zi_imul (by decide +kernel) rfl) <|
  zal_c (zi_il (by decide +kernel) rfl) <|
  zal_c (zi_iadd (by decide +kernel) rfl) <|
  zal_c (zi_lconst (n := 0) (by decide +kernel) rfl rfl) <|
  zal_c (zi_last (by decide +kernel) rfl) <|
  zal_c (zi_inc (n := 1) (by decide +kernel) rfl rfl) <|
  zal_c (zi_goto (off := -23) (by decide +kernel) rfl) <|
  zal_c (zi_aln (j := 0) (by decide +kernel) rfl rfl) <|
  zal_c (zi_get (CN := RX5) (T := TX5) (N := 17) (index := 34) (by decide +kernel) rfl rfl (by decide) uw_X5 wf_M_34) <|
  zal_c (zi_iln (j := 1) (by decide +kernel) rfl rfl) <|
  zal_c (zi_iald (by decide +kernel) rfl) <|
  zal_c (zi_ir (by decide +kernel) rfl) <|
  zal_n
set_option maxRecDepth 100000 in
set_option maxHeartbeats 4000000 in
theorem sn_M_narrowed (l : Launch) : zAl l 170 tb_M_narrowed :=
  zal_c (zi_iln (j := 0) (by decide +kernel) rfl rfl) <|
  zal_c (zi_bipush (n := 8) (by decide +kernel) rfl rfl) <|
  zal_c (zi_cne (off := 10) (by decide +kernel) rfl rfl) <|
  zal_c (zi_lln (j := 1) (by decide +kernel) rfl rfl) <|
  zal_c (zi_l2i (by decide +kernel) rfl) <|
  zal_c (zi_i2b (by decide +kernel) rfl) <|
  zal_c (zi_i2l (by decide +kernel) rfl) <|
  zal_c (zi_goto (off := 17) (by decide +kernel) rfl) <|
  zal_c (zi_iln (j := 0) (by decide +kernel) rfl rfl) <|
  zal_c (zi_bipush (n := 16) (by decide +kernel) rfl rfl) <|
  zal_c (zi_cne (off := 10) (by decide +kernel) rfl rfl) <|
  zal_c (zi_lln (j := 1) (by decide +kernel) rfl rfl) <|
  zal_c (zi_l2i (by decide +kernel) rfl) <|
  zal_c (zi_i2s (by decide +kernel) rfl) <|
  zal_c (zi_i2l (by decide +kernel) rfl) <|
  zal_c (zi_goto (off := 4) (by decide +kernel) rfl) <|
  zal_c (zi_lln (j := 1) (by decide +kernel) rfl rfl) <|
  zal_c (zi_lr (by decide +kernel) rfl) <|
  zal_n
set_option maxRecDepth 100000 in
set_option maxHeartbeats 4000000 in
theorem sn_M_wrongSheet (l : Launch) : zAl l 171 tb_M_wrongSheet :=
  zal_c (zi_iln (j := 1) (by decide +kernel) rfl rfl) <|
  zal_c (zi_cs (index := 288) (by decide +kernel) rfl mk_M_isOne wm_M_288 wq_M_isOne ⟨rfl, rfl⟩ ⟨Nat.le_of_ble_eq_true rfl, Nat.le_of_ble_eq_true rfl⟩) <|
  zal_c (zi_ifne (off := 8) (by decide +kernel) rfl rfl) <|
  zal_c (zi_ldc (n := 44) (by decide +kernel) rfl wc_M_44) <|
  zal_c (zi_goto (off := 19) (by decide +kernel) rfl) <|
  zal_c (zi_aln (j := 0) (by decide +kernel) rfl rfl) <|
  zal_c (zi_get (CN := RX5) (T := TX5) (N := 17) (index := 31) (by decide +kernel) rfl rfl (by decide) uw_X5 wf_M_31) <|
  zal_c (zi_iln (j := 1) (by decide +kernel) rfl rfl) <|
  zal_c (zi_iald (by decide +kernel) rfl) <|
  zal_c (zi_ifne (off := 9) (by decide +kernel) rfl rfl) <|
  zal_c (zi_ldcw (n := 292) (by decide +kernel) rfl wc_M_292) <|
  zal_c (zi_goto (off := 4) (by decide +kernel) rfl) <|
  zal_c (zi_iconst (n := 0) (by decide +kernel) rfl rfl) <|
  zal_c (zi_ir (by decide +kernel) rfl) <|
  zal_n
set_option maxRecDepth 100000 in
set_option maxHeartbeats 4000000 in
theorem sn_M_write (l : Launch) : zAl l 172 tb_M_write :=
  zal_c (zi_aln (j := 0) (by decide +kernel) rfl rfl) <|
  zal_c (zi_iln (j := 1) (by decide +kernel) rfl rfl) <|
  zal_c (zi_cv (index := 293) (qc := (RX5, TX5, 17)) (by decide +kernel) rfl mk_M_wrongSheet rfl wm_M_293 wq_M_wrongSheet ww_M_wrongSheet ⟨rfl, rfl⟩ ⟨Nat.le_of_ble_eq_true rfl, Nat.le_of_ble_eq_true rfl⟩) <|
  zal_c (zi_is (by decide +kernel) rfl (Nat.le_of_ble_eq_true rfl)) <|
  zal_c (zi_il (by decide +kernel) rfl) <|
  zal_c (zi_ifeq (off := 11) (by decide +kernel) rfl rfl) <|
  zal_c (zi_aln (j := 0) (by decide +kernel) rfl rfl) <|
  zal_c (zi_il (by decide +kernel) rfl) <|
  zal_c (zi_cv (index := 69) (qc := (RX5, TX5, 17)) (by decide +kernel) rfl mk_M_finds rfl wm_M_69 wq_M_finds ww_M_finds ⟨rfl, rfl⟩ ⟨Nat.le_of_ble_eq_true rfl, Nat.le_of_ble_eq_true rfl⟩) <|
  zal_c (zi_i2l (by decide +kernel) rfl) <|
  zal_c (zi_lr (by decide +kernel) rfl) <|
  zal_c (zi_iln (j := 2) (by decide +kernel) rfl rfl) <|
  zal_c (zi_i2l (by decide +kernel) rfl) <|
  zal_c (zi_lconst (n := 0) (by decide +kernel) rfl rfl) <|
  zal_c (zi_aln (j := 0) (by decide +kernel) rfl rfl) <|
  zal_c (zi_get (CN := RX5) (T := TX5) (N := 17) (index := 34) (by decide +kernel) rfl rfl (by decide) uw_X5 wf_M_34) <|
  zal_c (zi_iln (j := 1) (by decide +kernel) rfl rfl) <|
  zal_c (zi_iald (by decide +kernel) rfl) <|
  zal_c (zi_iconst (n := 1) (by decide +kernel) rfl rfl) <|
  zal_c (zi_isub (by decide +kernel) rfl) <|
  zal_c (zi_i2l (by decide +kernel) rfl) <|
  zal_c (zi_cs (index := 52) (by decide +kernel) rfl mk_M_in wm_M_52 wq_M_in ⟨rfl, rfl⟩ ⟨Nat.le_of_ble_eq_true rfl, Nat.le_of_ble_eq_true rfl⟩) <|
  zal_c (zi_ifne (off := 11) (by decide +kernel) rfl rfl) <|
  zal_c (zi_aln (j := 0) (by decide +kernel) rfl rfl) <|
  zal_c (zi_ldc (n := 44) (by decide +kernel) rfl wc_M_44) <|
  zal_c (zi_cv (index := 69) (qc := (RX5, TX5, 17)) (by decide +kernel) rfl mk_M_finds rfl wm_M_69 wq_M_finds ww_M_finds ⟨rfl, rfl⟩ ⟨Nat.le_of_ble_eq_true rfl, Nat.le_of_ble_eq_true rfl⟩) <|
  zal_c (zi_i2l (by decide +kernel) rfl) <|
  zal_c (zi_lr (by decide +kernel) rfl) <|
  zal_c (zi_aln (j := 0) (by decide +kernel) rfl rfl) <|
  zal_c (zi_get (CN := RX5) (T := TX5) (N := 17) (index := 37) (by decide +kernel) rfl rfl (by decide) uw_X5 wf_M_37) <|
  zal_c (zi_bipush (n := 40) (by decide +kernel) rfl rfl) <|
  zal_c (zi_iln (j := 1) (by decide +kernel) rfl rfl) <|
  zal_c (zi_imul (by decide +kernel) rfl) <|
  zal_c (zi_iln (j := 2) (by decide +kernel) rfl rfl) <|
  zal_c (zi_iadd (by decide +kernel) rfl) <|
  zal_c (zi_lald (by decide +kernel) rfl) <|
  zal_c (zi_ls (by decide +kernel) rfl (Nat.le_of_ble_eq_true rfl)) <|
  zal_c (zi_aln (j := 0) (by decide +kernel) rfl rfl) <|
  zal_c (zi_get (CN := RX5) (T := TX5) (N := 17) (index := 37) (by decide +kernel) rfl rfl (by decide) uw_X5 wf_M_37) <|
  zal_c (zi_bipush (n := 40) (by decide +kernel) rfl rfl) <|
  zal_c (zi_iln (j := 1) (by decide +kernel) rfl rfl) <|
  zal_c (zi_imul (by decide +kernel) rfl) <|
  zal_c (zi_iln (j := 2) (by decide +kernel) rfl rfl) <|
  zal_c (zi_iadd (by decide +kernel) rfl) <|
  zal_c (zi_aln (j := 0) (by decide +kernel) rfl rfl) <|
  zal_c (zi_get (CN := RX5) (T := TX5) (N := 17) (index := 31) (by decide +kernel) rfl rfl (by decide) uw_X5 wf_M_31) <|
  zal_c (zi_iln (j := 1) (by decide +kernel) rfl rfl) <|
  zal_c (zi_iald (by decide +kernel) rfl) <|
  zal_c (zi_lln (j := 3) (by decide +kernel) rfl rfl) <|
  zal_c (zi_cs (index := 296) (by decide +kernel) rfl mk_M_narrowed wm_M_296 wq_M_narrowed ⟨rfl, rfl⟩ ⟨Nat.le_of_ble_eq_true rfl, Nat.le_of_ble_eq_true rfl⟩) <|
  zal_c (zi_last (by decide +kernel) rfl) <|
  zal_c (zi_ll (by decide +kernel) rfl) <|
  zal_c (zi_lr (by decide +kernel) rfl) <|
  zal_n
set_option maxRecDepth 100000 in
set_option maxHeartbeats 4000000 in
theorem sn_M_copy (l : Launch) : zAl l 173 tb_M_copy :=
  zal_c (zi_iln (j := 1) (by decide +kernel) rfl rfl) <|
  zal_c (zi_cs (index := 288) (by decide +kernel) rfl mk_M_isOne wm_M_288 wq_M_isOne ⟨rfl, rfl⟩ ⟨Nat.le_of_ble_eq_true rfl, Nat.le_of_ble_eq_true rfl⟩) <|
  zal_c (zi_ifeq (off := 10) (by decide +kernel) rfl rfl) <|
  zal_c (zi_iln (j := 3) (by decide +kernel) rfl rfl) <|
  zal_c (zi_cs (index := 288) (by decide +kernel) rfl mk_M_isOne wm_M_288 wq_M_isOne ⟨rfl, rfl⟩ ⟨Nat.le_of_ble_eq_true rfl, Nat.le_of_ble_eq_true rfl⟩) <|
  zal_c (zi_ifne (off := 10) (by decide +kernel) rfl rfl) <|
  zal_c (zi_aln (j := 0) (by decide +kernel) rfl rfl) <|
  zal_c (zi_ldc (n := 44) (by decide +kernel) rfl wc_M_44) <|
  zal_c (zi_cv (index := 69) (qc := (RX5, TX5, 17)) (by decide +kernel) rfl mk_M_finds rfl wm_M_69 wq_M_finds ww_M_finds ⟨rfl, rfl⟩ ⟨Nat.le_of_ble_eq_true rfl, Nat.le_of_ble_eq_true rfl⟩) <|
  zal_c (zi_ir (by decide +kernel) rfl) <|
  zal_c (zi_aln (j := 0) (by decide +kernel) rfl rfl) <|
  zal_c (zi_get (CN := RX5) (T := TX5) (N := 17) (index := 31) (by decide +kernel) rfl rfl (by decide) uw_X5 wf_M_31) <|
  zal_c (zi_iln (j := 1) (by decide +kernel) rfl rfl) <|
  zal_c (zi_iald (by decide +kernel) rfl) <|
  zal_c (zi_ifeq (off := 12) (by decide +kernel) rfl rfl) <|
  zal_c (zi_aln (j := 0) (by decide +kernel) rfl rfl) <|
  zal_c (zi_get (CN := RX5) (T := TX5) (N := 17) (index := 31) (by decide +kernel) rfl rfl (by decide) uw_X5 wf_M_31) <|
  zal_c (zi_iln (j := 3) (by decide +kernel) rfl rfl) <|
  zal_c (zi_iald (by decide +kernel) rfl) <|
  zal_c (zi_ifne (off := 11) (by decide +kernel) rfl rfl) <|
  zal_c (zi_aln (j := 0) (by decide +kernel) rfl rfl) <|
  zal_c (zi_ldcw (n := 292) (by decide +kernel) rfl wc_M_292) <|
  zal_c (zi_cv (index := 69) (qc := (RX5, TX5, 17)) (by decide +kernel) rfl mk_M_finds rfl wm_M_69 wq_M_finds ww_M_finds ⟨rfl, rfl⟩ ⟨Nat.le_of_ble_eq_true rfl, Nat.le_of_ble_eq_true rfl⟩) <|
  zal_c (zi_ir (by decide +kernel) rfl) <|
  zal_c (zi_aln (j := 0) (by decide +kernel) rfl rfl) <|
  zal_c (zi_get (CN := RX5) (T := TX5) (N := 17) (index := 31) (by decide +kernel) rfl rfl (by decide) uw_X5 wf_M_31) <|
  zal_c (zi_iln (j := 1) (by decide +kernel) rfl rfl) <|
  zal_c (zi_iald (by decide +kernel) rfl) <|
  zal_c (zi_aln (j := 0) (by decide +kernel) rfl rfl) <|
  zal_c (zi_get (CN := RX5) (T := TX5) (N := 17) (index := 31) (by decide +kernel) rfl rfl (by decide) uw_X5 wf_M_31) <|
  zal_c (zi_iln (j := 3) (by decide +kernel) rfl rfl) <|
  zal_c (zi_iald (by decide +kernel) rfl) <|
  zal_c (zi_ceq (off := 10) (by decide +kernel) rfl rfl) <|
  zal_c (zi_aln (j := 0) (by decide +kernel) rfl rfl) <|
  zal_c (zi_ldc (n := 124) (by decide +kernel) rfl wc_M_124) <|
  zal_c (zi_cv (index := 69) (qc := (RX5, TX5, 17)) (by decide +kernel) rfl mk_M_finds rfl wm_M_69 wq_M_finds ww_M_finds ⟨rfl, rfl⟩ ⟨Nat.le_of_ble_eq_true rfl, Nat.le_of_ble_eq_true rfl⟩) <|
  zal_c (zi_ir (by decide +kernel) rfl) <|
  zal_c (zi_iln (j := 2) (by decide +kernel) rfl rfl) <|
  zal_c (zi_iflt (off := 40) (by decide +kernel) rfl rfl) <|
  zal_c (zi_il (by decide +kernel) rfl) <|
  zal_c (zi_iflt (off := 35) (by decide +kernel) rfl rfl) <|
  zal_c (zi_il (by decide +kernel) rfl) <|
  zal_c (zi_iflt (off := 30) (by decide +kernel) rfl rfl) <|
  zal_c (zi_il (by decide +kernel) rfl) <|
  zal_c (zi_aln (j := 0) (by decide +kernel) rfl rfl) <|
  zal_c (zi_get (CN := RX5) (T := TX5) (N := 17) (index := 34) (by decide +kernel) rfl rfl (by decide) uw_X5 wf_M_34) <|
  zal_c (zi_iln (j := 1) (by decide +kernel) rfl rfl) <|
  zal_c (zi_iald (by decide +kernel) rfl) <|
  zal_c (zi_iln (j := 2) (by decide +kernel) rfl rfl) <|
  zal_c (zi_isub (by decide +kernel) rfl) <|
  zal_c (zi_cgt (off := 17) (by decide +kernel) rfl rfl) <|
  zal_c (zi_il (by decide +kernel) rfl) <|
  zal_c (zi_aln (j := 0) (by decide +kernel) rfl rfl) <|
  zal_c (zi_get (CN := RX5) (T := TX5) (N := 17) (index := 34) (by decide +kernel) rfl rfl (by decide) uw_X5 wf_M_34) <|
  zal_c (zi_iln (j := 3) (by decide +kernel) rfl rfl) <|
  zal_c (zi_iald (by decide +kernel) rfl) <|
  zal_c (zi_il (by decide +kernel) rfl) <|
  zal_c (zi_isub (by decide +kernel) rfl) <|
  zal_c (zi_cle (off := 10) (by decide +kernel) rfl rfl) <|
  zal_c (zi_aln (j := 0) (by decide +kernel) rfl rfl) <|
  zal_c (zi_ldc (n := 44) (by decide +kernel) rfl wc_M_44) <|
  zal_c (zi_cv (index := 69) (qc := (RX5, TX5, 17)) (by decide +kernel) rfl mk_M_finds rfl wm_M_69 wq_M_finds ww_M_finds ⟨rfl, rfl⟩ ⟨Nat.le_of_ble_eq_true rfl, Nat.le_of_ble_eq_true rfl⟩) <|
  zal_c (zi_ir (by decide +kernel) rfl) <|
  zal_c (zi_iconst (n := 0) (by decide +kernel) rfl rfl) <|
  zal_c (zi_is (by decide +kernel) rfl (Nat.le_of_ble_eq_true rfl)) <|
  zal_c (zi_il (by decide +kernel) rfl) <|
  zal_c (zi_il (by decide +kernel) rfl) <|
  zal_c (zi_cge (off := 30) (by decide +kernel) rfl rfl) <|
  zal_c (zi_aln (j := 0) (by decide +kernel) rfl rfl) <|
  zal_c (zi_get (CN := RX5) (T := TX5) (N := 17) (index := 41) (by decide +kernel) rfl rfl (by decide) uw_X5 wf_M_41) <|
  zal_c (zi_il (by decide +kernel) rfl) <|
  zal_c (zi_aln (j := 0) (by decide +kernel) rfl rfl) <|
  zal_c (zi_get (CN := RX5) (T := TX5) (N := 17) (index := 37) (by decide +kernel) rfl rfl (by decide) uw_X5 wf_M_37) <|
  zal_c (zi_bipush (n := 40) (by decide +kernel) rfl rfl) <|
  zal_c (zi_iln (j := 1) (by decide +kernel) rfl rfl) <|
  zal_c (zi_imul (by decide +kernel) rfl) <|
  zal_c (zi_iln (j := 2) (by decide +kernel) rfl rfl) <|
  zal_c (zi_iadd (by decide +kernel) rfl) <|
  zal_c (zi_il (by decide +kernel) rfl) <|
  zal_c (zi_iadd (by decide +kernel) rfl) <|
  zal_c (zi_lald (by decide +kernel) rfl) <|
  zal_c (zi_last (by decide +kernel) rfl) <|
  zal_c (zi_inc (n := 1) (by decide +kernel) rfl rfl) <|
  zal_c (zi_goto (off := -31) (by decide +kernel) rfl) <|
  zal_c (zi_iconst (n := 0) (by decide +kernel) rfl rfl) <|
  zal_c (zi_is (by decide +kernel) rfl (Nat.le_of_ble_eq_true rfl)) <|
  zal_c (zi_il (by decide +kernel) rfl) <|
  zal_c (zi_il (by decide +kernel) rfl) <|
  zal_c (zi_cge (off := 31) (by decide +kernel) rfl rfl) <|
  zal_c (zi_aln (j := 0) (by decide +kernel) rfl rfl) <|
  zal_c (zi_get (CN := RX5) (T := TX5) (N := 17) (index := 37) (by decide +kernel) rfl rfl (by decide) uw_X5 wf_M_37) <|
  zal_c (zi_bipush (n := 40) (by decide +kernel) rfl rfl) <|
  zal_c (zi_iln (j := 3) (by decide +kernel) rfl rfl) <|
  zal_c (zi_imul (by decide +kernel) rfl) <|
  zal_c (zi_il (by decide +kernel) rfl) <|
  zal_c (zi_iadd (by decide +kernel) rfl) <|
  zal_c (zi_il (by decide +kernel) rfl) <|
  zal_c (zi_iadd (by decide +kernel) rfl) <|
  zal_c (zi_aln (j := 0) (by decide +kernel) rfl rfl) <|
  zal_c (zi_get (CN := RX5) (T := TX5) (N := 17) (index := 41) (by decide +kernel) rfl rfl (by decide) uw_X5 wf_M_41) <|
  zal_c (zi_il (by decide +kernel) rfl) <|
  zal_c (zi_lald (by decide +kernel) rfl) <|
  zal_c (zi_last (by decide +kernel) rfl) <|
  zal_c (zi_inc (n := 1) (by decide +kernel) rfl rfl) <|
  zal_c (zi_goto (off := -32) (by decide +kernel) rfl) <|
  zal_c (zi_il (by decide +kernel) rfl) <|
  zal_c (zi_ir (by decide +kernel) rfl) <|
  zal_n
set_option maxRecDepth 100000 in
set_option maxHeartbeats 4000000 in
theorem sn_M_lays (l : Launch) : zAl l 174 tb_M_lays :=
  zal_c (zi_aln (j := 0) (by decide +kernel) rfl rfl) <|
  zal_c (zi_iln (j := 1) (by decide +kernel) rfl rfl) <|
  zal_c (zi_cv (index := 293) (qc := (RX5, TX5, 17)) (by decide +kernel) rfl mk_M_wrongSheet rfl wm_M_293 wq_M_wrongSheet ww_M_wrongSheet ⟨rfl, rfl⟩ ⟨Nat.le_of_ble_eq_true rfl, Nat.le_of_ble_eq_true rfl⟩) <|
  zal_c (zi_isn (j := 2) (by decide +kernel) rfl rfl (Nat.le_of_ble_eq_true rfl)) <|
  zal_c (zi_iln (j := 2) (by decide +kernel) rfl rfl) <|
  zal_c (zi_ifeq (off := 9) (by decide +kernel) rfl rfl) <|
  zal_c (zi_aln (j := 0) (by decide +kernel) rfl rfl) <|
  zal_c (zi_iln (j := 2) (by decide +kernel) rfl rfl) <|
  zal_c (zi_cv (index := 69) (qc := (RX5, TX5, 17)) (by decide +kernel) rfl mk_M_finds rfl wm_M_69 wq_M_finds ww_M_finds ⟨rfl, rfl⟩ ⟨Nat.le_of_ble_eq_true rfl, Nat.le_of_ble_eq_true rfl⟩) <|
  zal_c (zi_ir (by decide +kernel) rfl) <|
  zal_c (zi_iconst (n := 0) (by decide +kernel) rfl rfl) <|
  zal_c (zi_isn (j := 3) (by decide +kernel) rfl rfl (Nat.le_of_ble_eq_true rfl)) <|
  zal_c (zi_iconst (n := 0) (by decide +kernel) rfl rfl) <|
  zal_c (zi_is (by decide +kernel) rfl (Nat.le_of_ble_eq_true rfl)) <|
  zal_c (zi_il (by decide +kernel) rfl) <|
  zal_c (zi_aln (j := 0) (by decide +kernel) rfl rfl) <|
  zal_c (zi_get (CN := RX5) (T := TX5) (N := 17) (index := 34) (by decide +kernel) rfl rfl (by decide) uw_X5 wf_M_34) <|
  zal_c (zi_iln (j := 1) (by decide +kernel) rfl rfl) <|
  zal_c (zi_iald (by decide +kernel) rfl) <|
  zal_c (zi_cge (off := 93) (by decide +kernel) rfl rfl) <|
  zal_c (zi_il (by decide +kernel) rfl) <|
  zal_c (zi_aln (j := 0) (by decide +kernel) rfl rfl) <|
  zal_c (zi_get (CN := RX5) (T := TX5) (N := 17) (index := 7) (by decide +kernel) rfl rfl (by decide) uw_X5 wf_M_7) <|
  zal_c (zi_iconst (n := 2) (by decide +kernel) rfl rfl) <|
  zal_c (zi_iald (by decide +kernel) rfl) <|
  zal_c (zi_cge (off := 82) (by decide +kernel) rfl rfl) <|
  zal_c (zi_aln (j := 0) (by decide +kernel) rfl rfl) <|
  zal_c (zi_get (CN := RX5) (T := TX5) (N := 17) (index := 37) (by decide +kernel) rfl rfl (by decide) uw_X5 wf_M_37) <|
  zal_c (zi_bipush (n := 40) (by decide +kernel) rfl rfl) <|
  zal_c (zi_iln (j := 1) (by decide +kernel) rfl rfl) <|
  zal_c (zi_imul (by decide +kernel) rfl) <|
  zal_c (zi_il (by decide +kernel) rfl) <|
  zal_c (zi_iadd (by decide +kernel) rfl) <|
  zal_c (zi_lald (by decide +kernel) rfl) <|
  zal_c (zi_lconst (n := 0) (by decide +kernel) rfl rfl) <|
  zal_c (zi_ldc2 (n := 116) (by decide +kernel) rfl wc_M_116) <|
  zal_c (zi_cs (index := 52) (by decide +kernel) rfl mk_M_in wm_M_52 wq_M_in ⟨rfl, rfl⟩ ⟨Nat.le_of_ble_eq_true rfl, Nat.le_of_ble_eq_true rfl⟩) <|
  zal_c (zi_is (by decide +kernel) rfl (Nat.le_of_ble_eq_true rfl)) <|
  zal_c (zi_aln (j := 0) (by decide +kernel) rfl rfl) <|
  zal_c (zi_get (CN := RX5) (T := TX5) (N := 17) (index := 7) (by decide +kernel) rfl rfl (by decide) uw_X5 wf_M_7) <|
  zal_c (zi_il (by decide +kernel) rfl) <|
  zal_c (zi_iconst (n := 1) (by decide +kernel) rfl rfl) <|
  zal_c (zi_cs (index := 45) (by decide +kernel) rfl mk_M_spot wm_M_45 wq_M_spot ⟨rfl, rfl⟩ ⟨Nat.le_of_ble_eq_true rfl, Nat.le_of_ble_eq_true rfl⟩) <|
  zal_c (zi_il (by decide +kernel) rfl) <|
  zal_c (zi_ifeq (off := 19) (by decide +kernel) rfl rfl) <|
  zal_c (zi_aln (j := 0) (by decide +kernel) rfl rfl) <|
  zal_c (zi_get (CN := RX5) (T := TX5) (N := 17) (index := 37) (by decide +kernel) rfl rfl (by decide) uw_X5 wf_M_37) <|
  zal_c (zi_bipush (n := 40) (by decide +kernel) rfl rfl) <|
  zal_c (zi_iln (j := 1) (by decide +kernel) rfl rfl) <|
  zal_c (zi_imul (by decide +kernel) rfl) <|
  zal_c (zi_il (by decide +kernel) rfl) <|
  zal_c (zi_iadd (by decide +kernel) rfl) <|
  zal_c (zi_lald (by decide +kernel) rfl) <|
  zal_c (zi_l2i (by decide +kernel) rfl) <|
  zal_c (zi_goto (off := 10) (by decide +kernel) rfl) <|
  zal_c (zi_aln (j := 0) (by decide +kernel) rfl rfl) <|
  zal_c (zi_il (by decide +kernel) rfl) <|
  zal_c (zi_iconst (n := 1) (by decide +kernel) rfl rfl) <|
  zal_c (zi_cv (index := 58) (qc := (RX5, TX5, 17)) (by decide +kernel) rfl mk_M_its rfl wm_M_58 wq_M_its ww_M_its ⟨rfl, rfl⟩ ⟨Nat.le_of_ble_eq_true rfl, Nat.le_of_ble_eq_true rfl⟩) <|
  zal_c (zi_iast (by decide +kernel) rfl) <|
  zal_c (zi_iln (j := 3) (by decide +kernel) rfl rfl) <|
  zal_c (zi_il (by decide +kernel) rfl) <|
  zal_c (zi_ifeq (off := 7) (by decide +kernel) rfl rfl) <|
  zal_c (zi_iconst (n := 1) (by decide +kernel) rfl rfl) <|
  zal_c (zi_goto (off := 4) (by decide +kernel) rfl) <|
  zal_c (zi_iconst (n := 0) (by decide +kernel) rfl rfl) <|
  zal_c (zi_iadd (by decide +kernel) rfl) <|
  zal_c (zi_isn (j := 3) (by decide +kernel) rfl rfl (Nat.le_of_ble_eq_true rfl)) <|
  zal_c (zi_inc (n := 1) (by decide +kernel) rfl rfl) <|
  zal_c (zi_goto (off := -98) (by decide +kernel) rfl) <|
  zal_c (zi_iln (j := 3) (by decide +kernel) rfl rfl) <|
  zal_c (zi_ir (by decide +kernel) rfl) <|
  zal_n
set_option maxRecDepth 100000 in
set_option maxHeartbeats 4000000 in
theorem sn_M_book (l : Launch) : zAl l 175 tb_M_book :=
  zal_c (zi_aln (j := 0) (by decide +kernel) rfl rfl) <|
  zal_c (zi_iln (j := 1) (by decide +kernel) rfl rfl) <|
  zal_c (zi_cv (index := 293) (qc := (RX5, TX5, 17)) (by decide +kernel) rfl mk_M_wrongSheet rfl wm_M_293 wq_M_wrongSheet ww_M_wrongSheet ⟨rfl, rfl⟩ ⟨Nat.le_of_ble_eq_true rfl, Nat.le_of_ble_eq_true rfl⟩) <|
  zal_c (zi_isn (j := 3) (by decide +kernel) rfl rfl (Nat.le_of_ble_eq_true rfl)) <|
  zal_c (zi_iln (j := 3) (by decide +kernel) rfl rfl) <|
  zal_c (zi_ifeq (off := 9) (by decide +kernel) rfl rfl) <|
  zal_c (zi_aln (j := 0) (by decide +kernel) rfl rfl) <|
  zal_c (zi_iln (j := 3) (by decide +kernel) rfl rfl) <|
  zal_c (zi_cv (index := 69) (qc := (RX5, TX5, 17)) (by decide +kernel) rfl mk_M_finds rfl wm_M_69 wq_M_finds ww_M_finds ⟨rfl, rfl⟩ ⟨Nat.le_of_ble_eq_true rfl, Nat.le_of_ble_eq_true rfl⟩) <|
  zal_c (zi_ir (by decide +kernel) rfl) <|
  zal_c (zi_aln (j := 0) (by decide +kernel) rfl rfl) <|
  zal_c (zi_iln (j := 2) (by decide +kernel) rfl rfl) <|
  zal_c (zi_cv (index := 100) (qc := (RX5, TX5, 17)) (by decide +kernel) rfl mk_M_isCouple rfl wm_M_100 wq_M_isCouple ww_M_isCouple ⟨rfl, rfl⟩ ⟨Nat.le_of_ble_eq_true rfl, Nat.le_of_ble_eq_true rfl⟩) <|
  zal_c (zi_ifne (off := 10) (by decide +kernel) rfl rfl) <|
  zal_c (zi_aln (j := 0) (by decide +kernel) rfl rfl) <|
  zal_c (zi_ldc (n := 44) (by decide +kernel) rfl wc_M_44) <|
  zal_c (zi_cv (index := 69) (qc := (RX5, TX5, 17)) (by decide +kernel) rfl mk_M_finds rfl wm_M_69 wq_M_finds ww_M_finds ⟨rfl, rfl⟩ ⟨Nat.le_of_ble_eq_true rfl, Nat.le_of_ble_eq_true rfl⟩) <|
  zal_c (zi_ir (by decide +kernel) rfl) <|
  zal_c (zi_aln (j := 0) (by decide +kernel) rfl rfl) <|
  zal_c (zi_cv (index := 130) (qc := (RX5, TX5, 17)) (by decide +kernel) rfl mk_M_laysAside rfl wm_M_130 wq_M_laysAside ww_M_laysAside ⟨rfl, rfl⟩ ⟨Nat.le_of_ble_eq_true rfl, Nat.le_of_ble_eq_true rfl⟩) <|
  zal_c (zi_iconst (n := 0) (by decide +kernel) rfl rfl) <|
  zal_c (zi_is (by decide +kernel) rfl (Nat.le_of_ble_eq_true rfl)) <|
  zal_c (zi_il (by decide +kernel) rfl) <|
  zal_c (zi_aln (j := 0) (by decide +kernel) rfl rfl) <|
  zal_c (zi_get (CN := RX5) (T := TX5) (N := 17) (index := 34) (by decide +kernel) rfl rfl (by decide) uw_X5 wf_M_34) <|
  zal_c (zi_iln (j := 1) (by decide +kernel) rfl rfl) <|
  zal_c (zi_iald (by decide +kernel) rfl) <|
  zal_c (zi_cge (off := 41) (by decide +kernel) rfl rfl) <|
  zal_c (zi_aln (j := 0) (by decide +kernel) rfl rfl) <|
  zal_c (zi_get (CN := RX5) (T := TX5) (N := 17) (index := 37) (by decide +kernel) rfl rfl (by decide) uw_X5 wf_M_37) <|
  zal_c (zi_bipush (n := 40) (by decide +kernel) rfl rfl) <|
  zal_c (zi_iln (j := 1) (by decide +kernel) rfl rfl) <|
  zal_c (zi_imul (by decide +kernel) rfl) <|
  zal_c (zi_il (by decide +kernel) rfl) <|
  zal_c (zi_iadd (by decide +kernel) rfl) <|
  zal_c (zi_aln (j := 0) (by decide +kernel) rfl rfl) <|
  zal_c (zi_get (CN := RX5) (T := TX5) (N := 17) (index := 31) (by decide +kernel) rfl rfl (by decide) uw_X5 wf_M_31) <|
  zal_c (zi_iln (j := 1) (by decide +kernel) rfl rfl) <|
  zal_c (zi_iald (by decide +kernel) rfl) <|
  zal_c (zi_aln (j := 0) (by decide +kernel) rfl rfl) <|
  zal_c (zi_iln (j := 2) (by decide +kernel) rfl rfl) <|
  zal_c (zi_iconst (n := 1) (by decide +kernel) rfl rfl) <|
  zal_c (zi_cv (index := 61) (qc := (RX5, TX5, 17)) (by decide +kernel) rfl mk_M_theirs rfl wm_M_61 wq_M_theirs ww_M_theirs ⟨rfl, rfl⟩ ⟨Nat.le_of_ble_eq_true rfl, Nat.le_of_ble_eq_true rfl⟩) <|
  zal_c (zi_i2l (by decide +kernel) rfl) <|
  zal_c (zi_cs (index := 296) (by decide +kernel) rfl mk_M_narrowed wm_M_296 wq_M_narrowed ⟨rfl, rfl⟩ ⟨Nat.le_of_ble_eq_true rfl, Nat.le_of_ble_eq_true rfl⟩) <|
  zal_c (zi_last (by decide +kernel) rfl) <|
  zal_c (zi_aln (j := 0) (by decide +kernel) rfl rfl) <|
  zal_c (zi_cv (index := 133) (qc := (RX5, TX5, 17)) (by decide +kernel) rfl mk_M_sunday rfl wm_M_133 wq_M_sunday ww_M_sunday ⟨rfl, rfl⟩ ⟨Nat.le_of_ble_eq_true rfl, Nat.le_of_ble_eq_true rfl⟩) <|
  zal_c (zi_inc (n := 1) (by decide +kernel) rfl rfl) <|
  zal_c (zi_goto (off := -46) (by decide +kernel) rfl) <|
  zal_c (zi_aln (j := 0) (by decide +kernel) rfl rfl) <|
  zal_c (zi_aln (j := 0) (by decide +kernel) rfl rfl) <|
  zal_c (zi_get (CN := RX5) (T := TX5) (N := 17) (index := 34) (by decide +kernel) rfl rfl (by decide) uw_X5 wf_M_34) <|
  zal_c (zi_iln (j := 1) (by decide +kernel) rfl rfl) <|
  zal_c (zi_iald (by decide +kernel) rfl) <|
  zal_c (zi_cv (index := 136) (qc := (RX5, TX5, 17)) (by decide +kernel) rfl mk_M_takesBack rfl wm_M_136 wq_M_takesBack ww_M_takesBack ⟨rfl, rfl⟩ ⟨Nat.le_of_ble_eq_true rfl, Nat.le_of_ble_eq_true rfl⟩) <|
  zal_c (zi_ir (by decide +kernel) rfl) <|
  zal_n
set_option maxRecDepth 100000 in
set_option maxHeartbeats 4000000 in
theorem sn_M_isBook (l : Launch) : zAl l 176 tb_M_isBook :=
  zal_c (zi_iconst (n := 0) (by decide +kernel) rfl rfl) <|
  zal_c (zi_isn (j := 3) (by decide +kernel) rfl rfl (Nat.le_of_ble_eq_true rfl)) <|
  zal_c (zi_iln (j := 3) (by decide +kernel) rfl rfl) <|
  zal_c (zi_aln (j := 0) (by decide +kernel) rfl rfl) <|
  zal_c (zi_get (CN := RX5) (T := TX5) (N := 17) (index := 34) (by decide +kernel) rfl rfl (by decide) uw_X5 wf_M_34) <|
  zal_c (zi_iln (j := 1) (by decide +kernel) rfl rfl) <|
  zal_c (zi_iald (by decide +kernel) rfl) <|
  zal_c (zi_cge (off := 37) (by decide +kernel) rfl rfl) <|
  zal_c (zi_aln (j := 0) (by decide +kernel) rfl rfl) <|
  zal_c (zi_get (CN := RX5) (T := TX5) (N := 17) (index := 37) (by decide +kernel) rfl rfl (by decide) uw_X5 wf_M_37) <|
  zal_c (zi_bipush (n := 40) (by decide +kernel) rfl rfl) <|
  zal_c (zi_iln (j := 1) (by decide +kernel) rfl rfl) <|
  zal_c (zi_imul (by decide +kernel) rfl) <|
  zal_c (zi_iln (j := 3) (by decide +kernel) rfl rfl) <|
  zal_c (zi_iadd (by decide +kernel) rfl) <|
  zal_c (zi_lald (by decide +kernel) rfl) <|
  zal_c (zi_aln (j := 0) (by decide +kernel) rfl rfl) <|
  zal_c (zi_iln (j := 2) (by decide +kernel) rfl rfl) <|
  zal_c (zi_iconst (n := 1) (by decide +kernel) rfl rfl) <|
  zal_c (zi_cv (index := 61) (qc := (RX5, TX5, 17)) (by decide +kernel) rfl mk_M_theirs rfl wm_M_61 wq_M_theirs ww_M_theirs ⟨rfl, rfl⟩ ⟨Nat.le_of_ble_eq_true rfl, Nat.le_of_ble_eq_true rfl⟩) <|
  zal_c (zi_i2l (by decide +kernel) rfl) <|
  zal_c (zi_lcmp (by decide +kernel) rfl) <|
  zal_c (zi_ifeq (off := 5) (by decide +kernel) rfl rfl) <|
  zal_c (zi_iconst (n := 0) (by decide +kernel) rfl rfl) <|
  zal_c (zi_zr (by decide +kernel) rfl) <|
  zal_c (zi_aln (j := 0) (by decide +kernel) rfl rfl) <|
  zal_c (zi_cv (index := 133) (qc := (RX5, TX5, 17)) (by decide +kernel) rfl mk_M_sunday rfl wm_M_133 wq_M_sunday ww_M_sunday ⟨rfl, rfl⟩ ⟨Nat.le_of_ble_eq_true rfl, Nat.le_of_ble_eq_true rfl⟩) <|
  zal_c (zi_inc (n := 1) (by decide +kernel) rfl rfl) <|
  zal_c (zi_goto (off := -41) (by decide +kernel) rfl) <|
  zal_c (zi_iconst (n := 1) (by decide +kernel) rfl rfl) <|
  zal_c (zi_zr (by decide +kernel) rfl) <|
  zal_n
set_option maxRecDepth 100000 in
set_option maxHeartbeats 4000000 in
theorem sn_M_read (l : Launch) : zAl l 177 tb_M_read :=
  zal_c (zi_aln (j := 0) (by decide +kernel) rfl rfl) <|
  zal_c (zi_iln (j := 1) (by decide +kernel) rfl rfl) <|
  zal_c (zi_cv (index := 293) (qc := (RX5, TX5, 17)) (by decide +kernel) rfl mk_M_wrongSheet rfl wm_M_293 wq_M_wrongSheet ww_M_wrongSheet ⟨rfl, rfl⟩ ⟨Nat.le_of_ble_eq_true rfl, Nat.le_of_ble_eq_true rfl⟩) <|
  zal_c (zi_is (by decide +kernel) rfl (Nat.le_of_ble_eq_true rfl)) <|
  zal_c (zi_il (by decide +kernel) rfl) <|
  zal_c (zi_ifeq (off := 10) (by decide +kernel) rfl rfl) <|
  zal_c (zi_aln (j := 0) (by decide +kernel) rfl rfl) <|
  zal_c (zi_il (by decide +kernel) rfl) <|
  zal_c (zi_cv (index := 69) (qc := (RX5, TX5, 17)) (by decide +kernel) rfl mk_M_finds rfl wm_M_69 wq_M_finds ww_M_finds ⟨rfl, rfl⟩ ⟨Nat.le_of_ble_eq_true rfl, Nat.le_of_ble_eq_true rfl⟩) <|
  zal_c (zi_ir (by decide +kernel) rfl) <|
  zal_c (zi_aln (j := 0) (by decide +kernel) rfl rfl) <|
  zal_c (zi_iln (j := 2) (by decide +kernel) rfl rfl) <|
  zal_c (zi_cv (index := 100) (qc := (RX5, TX5, 17)) (by decide +kernel) rfl mk_M_isCouple rfl wm_M_100 wq_M_isCouple ww_M_isCouple ⟨rfl, rfl⟩ ⟨Nat.le_of_ble_eq_true rfl, Nat.le_of_ble_eq_true rfl⟩) <|
  zal_c (zi_ifeq (off := 11) (by decide +kernel) rfl rfl) <|
  zal_c (zi_aln (j := 0) (by decide +kernel) rfl rfl) <|
  zal_c (zi_iln (j := 3) (by decide +kernel) rfl rfl) <|
  zal_c (zi_cv (index := 94) (qc := (RX5, TX5, 17)) (by decide +kernel) rfl mk_M_isInlaw rfl wm_M_94 wq_M_isInlaw ww_M_isInlaw ⟨rfl, rfl⟩ ⟨Nat.le_of_ble_eq_true rfl, Nat.le_of_ble_eq_true rfl⟩) <|
  zal_c (zi_ifne (off := 10) (by decide +kernel) rfl rfl) <|
  zal_c (zi_aln (j := 0) (by decide +kernel) rfl rfl) <|
  zal_c (zi_ldc (n := 44) (by decide +kernel) rfl wc_M_44) <|
  zal_c (zi_cv (index := 69) (qc := (RX5, TX5, 17)) (by decide +kernel) rfl mk_M_finds rfl wm_M_69 wq_M_finds ww_M_finds ⟨rfl, rfl⟩ ⟨Nat.le_of_ble_eq_true rfl, Nat.le_of_ble_eq_true rfl⟩) <|
  zal_c (zi_ir (by decide +kernel) rfl) <|
  zal_c (zi_aln (j := 0) (by decide +kernel) rfl rfl) <|
  zal_c (zi_cv (index := 130) (qc := (RX5, TX5, 17)) (by decide +kernel) rfl mk_M_laysAside rfl wm_M_130 wq_M_laysAside ww_M_laysAside ⟨rfl, rfl⟩ ⟨Nat.le_of_ble_eq_true rfl, Nat.le_of_ble_eq_true rfl⟩) <|
  zal_c (zi_iconst (n := 0) (by decide +kernel) rfl rfl) <|
  zal_c (zi_is (by decide +kernel) rfl (Nat.le_of_ble_eq_true rfl)) <|
  zal_c (zi_iconst (n := 0) (by decide +kernel) rfl rfl) <|
  zal_c (zi_is (by decide +kernel) rfl (Nat.le_of_ble_eq_true rfl)) <|
  zal_c (zi_il (by decide +kernel) rfl) <|
  zal_c (zi_bipush (n := 60) (by decide +kernel) rfl rfl) <|
  zal_c (zi_cge (off := 62) (by decide +kernel) rfl rfl) <|
  zal_c (zi_aln (j := 0) (by decide +kernel) rfl rfl) <|
  zal_c (zi_get (CN := RX5) (T := TX5) (N := 17) (index := 7) (by decide +kernel) rfl rfl (by decide) uw_X5 wf_M_7) <|
  zal_c (zi_iln (j := 3) (by decide +kernel) rfl rfl) <|
  zal_c (zi_iconst (n := 0) (by decide +kernel) rfl rfl) <|
  zal_c (zi_cs (index := 45) (by decide +kernel) rfl mk_M_spot wm_M_45 wq_M_spot ⟨rfl, rfl⟩ ⟨Nat.le_of_ble_eq_true rfl, Nat.le_of_ble_eq_true rfl⟩) <|
  zal_c (zi_il (by decide +kernel) rfl) <|
  zal_c (zi_bipush (n := 10) (by decide +kernel) rfl rfl) <|
  zal_c (zi_idiv (by decide +kernel) rfl) <|
  zal_c (zi_iast (by decide +kernel) rfl) <|
  zal_c (zi_aln (j := 0) (by decide +kernel) rfl rfl) <|
  zal_c (zi_get (CN := RX5) (T := TX5) (N := 17) (index := 7) (by decide +kernel) rfl rfl (by decide) uw_X5 wf_M_7) <|
  zal_c (zi_iln (j := 2) (by decide +kernel) rfl rfl) <|
  zal_c (zi_iconst (n := 0) (by decide +kernel) rfl rfl) <|
  zal_c (zi_cs (index := 49) (by decide +kernel) rfl mk_M_coupleSpot wm_M_49 wq_M_coupleSpot ⟨rfl, rfl⟩ ⟨Nat.le_of_ble_eq_true rfl, Nat.le_of_ble_eq_true rfl⟩) <|
  zal_c (zi_il (by decide +kernel) rfl) <|
  zal_c (zi_bipush (n := 10) (by decide +kernel) rfl rfl) <|
  zal_c (zi_irem (by decide +kernel) rfl) <|
  zal_c (zi_iast (by decide +kernel) rfl) <|
  zal_c (zi_aln (j := 0) (by decide +kernel) rfl rfl) <|
  zal_c (zi_il (by decide +kernel) rfl) <|
  zal_c (zi_aln (j := 0) (by decide +kernel) rfl rfl) <|
  zal_c (zi_iln (j := 1) (by decide +kernel) rfl rfl) <|
  zal_c (zi_iln (j := 2) (by decide +kernel) rfl rfl) <|
  zal_c (zi_cv (index := 300) (qc := (RX5, TX5, 17)) (by decide +kernel) rfl mk_M_isBook rfl wm_M_300 wq_M_isBook ww_M_isBook ⟨rfl, rfl⟩ ⟨Nat.le_of_ble_eq_true rfl, Nat.le_of_ble_eq_true rfl⟩) <|
  zal_c (zi_ifeq (off := 7) (by decide +kernel) rfl rfl) <|
  zal_c (zi_iconst (n := 1) (by decide +kernel) rfl rfl) <|
  zal_c (zi_goto (off := 4) (by decide +kernel) rfl) <|
  zal_c (zi_iconst (n := 0) (by decide +kernel) rfl rfl) <|
  zal_c (zi_iadd (by decide +kernel) rfl) <|
  zal_c (zi_cv (index := 136) (qc := (RX5, TX5, 17)) (by decide +kernel) rfl mk_M_takesBack rfl wm_M_136 wq_M_takesBack ww_M_takesBack ⟨rfl, rfl⟩ ⟨Nat.le_of_ble_eq_true rfl, Nat.le_of_ble_eq_true rfl⟩) <|
  zal_c (zi_is (by decide +kernel) rfl (Nat.le_of_ble_eq_true rfl)) <|
  zal_c (zi_inc (n := 1) (by decide +kernel) rfl rfl) <|
  zal_c (zi_goto (off := -63) (by decide +kernel) rfl) <|
  zal_c (zi_il (by decide +kernel) rfl) <|
  zal_c (zi_ir (by decide +kernel) rfl) <|
  zal_n
set_option maxRecDepth 100000 in
set_option maxHeartbeats 4000000 in
theorem sn_M_image (l : Launch) : zAl l 178 tb_M_image :=
  zal_c (zi_iconst (n := 0) (by decide +kernel) rfl rfl) <|
  zal_c (zi_isn (j := 1) (by decide +kernel) rfl rfl (Nat.le_of_ble_eq_true rfl)) <|
  zal_c (zi_iln (j := 1) (by decide +kernel) rfl rfl) <|
  zal_c (zi_bipush (n := 68) (by decide +kernel) rfl rfl) <|
  zal_c (zi_cge (off := 21) (by decide +kernel) rfl rfl) <|
  zal_c (zi_aln (j := 0) (by decide +kernel) rfl rfl) <|
  zal_c (zi_get (CN := RX5) (T := TX5) (N := 17) (index := 13) (by decide +kernel) rfl rfl (by decide) uw_X5 wf_M_13) <|
  zal_c (zi_iln (j := 1) (by decide +kernel) rfl rfl) <|
  zal_c (zi_aln (j := 0) (by decide +kernel) rfl rfl) <|
  zal_c (zi_get (CN := RX5) (T := TX5) (N := 17) (index := 7) (by decide +kernel) rfl rfl (by decide) uw_X5 wf_M_7) <|
  zal_c (zi_iln (j := 1) (by decide +kernel) rfl rfl) <|
  zal_c (zi_iald (by decide +kernel) rfl) <|
  zal_c (zi_iast (by decide +kernel) rfl) <|
  zal_c (zi_inc (n := 1) (by decide +kernel) rfl rfl) <|
  zal_c (zi_goto (off := -21) (by decide +kernel) rfl) <|
  zal_c (zi_aln (j := 0) (by decide +kernel) rfl rfl) <|
  zal_c (zi_iconst (n := 1) (by decide +kernel) rfl rfl) <|
  zal_c (zi_putz (CN := RX5) (T := TX5) (N := 17) (index := 303) (ty0 := tyX5) (by decide +kernel) rfl rfl (by decide) uw_X5 wf_M_303 tyX5_ok nmX5 rfl (by decide +kernel)) <|
  zal_c (zi_iconst (n := 1) (by decide +kernel) rfl rfl) <|
  zal_c (zi_ir (by decide +kernel) rfl) <|
  zal_n
set_option maxRecDepth 100000 in
set_option maxHeartbeats 4000000 in
theorem sn_M_undo (l : Launch) : zAl l 179 tb_M_undo :=
  zal_c (zi_aln (j := 0) (by decide +kernel) rfl rfl) <|
  zal_c (zi_get (CN := RX5) (T := TX5) (N := 17) (index := 303) (by decide +kernel) rfl rfl (by decide) uw_X5 wf_M_303) <|
  zal_c (zi_ifne (off := 10) (by decide +kernel) rfl rfl) <|
  zal_c (zi_aln (j := 0) (by decide +kernel) rfl rfl) <|
  zal_c (zi_ldc (n := 179) (by decide +kernel) rfl wc_M_179) <|
  zal_c (zi_cv (index := 69) (qc := (RX5, TX5, 17)) (by decide +kernel) rfl mk_M_finds rfl wm_M_69 wq_M_finds ww_M_finds ⟨rfl, rfl⟩ ⟨Nat.le_of_ble_eq_true rfl, Nat.le_of_ble_eq_true rfl⟩) <|
  zal_c (zi_ir (by decide +kernel) rfl) <|
  zal_c (zi_iconst (n := 0) (by decide +kernel) rfl rfl) <|
  zal_c (zi_isn (j := 1) (by decide +kernel) rfl rfl (Nat.le_of_ble_eq_true rfl)) <|
  zal_c (zi_iln (j := 1) (by decide +kernel) rfl rfl) <|
  zal_c (zi_bipush (n := 68) (by decide +kernel) rfl rfl) <|
  zal_c (zi_cge (off := 21) (by decide +kernel) rfl rfl) <|
  zal_c (zi_aln (j := 0) (by decide +kernel) rfl rfl) <|
  zal_c (zi_get (CN := RX5) (T := TX5) (N := 17) (index := 7) (by decide +kernel) rfl rfl (by decide) uw_X5 wf_M_7) <|
  zal_c (zi_iln (j := 1) (by decide +kernel) rfl rfl) <|
  zal_c (zi_aln (j := 0) (by decide +kernel) rfl rfl) <|
  zal_c (zi_get (CN := RX5) (T := TX5) (N := 17) (index := 13) (by decide +kernel) rfl rfl (by decide) uw_X5 wf_M_13) <|
  zal_c (zi_iln (j := 1) (by decide +kernel) rfl rfl) <|
  zal_c (zi_iald (by decide +kernel) rfl) <|
  zal_c (zi_iast (by decide +kernel) rfl) <|
  zal_c (zi_inc (n := 1) (by decide +kernel) rfl rfl) <|
  zal_c (zi_goto (off := -21) (by decide +kernel) rfl) <|
  zal_c (zi_aln (j := 0) (by decide +kernel) rfl rfl) <|
  zal_c (zi_get (CN := RX5) (T := TX5) (N := 17) (index := 7) (by decide +kernel) rfl rfl (by decide) uw_X5 wf_M_7) <|
  zal_c (zi_iconst (n := 2) (by decide +kernel) rfl rfl) <|
  zal_c (zi_iald (by decide +kernel) rfl) <|
  zal_c (zi_ir (by decide +kernel) rfl) <|
  zal_n
set_option maxRecDepth 100000 in
set_option maxHeartbeats 4000000 in
theorem sn_M_tear (l : Launch) : zAl l 180 tb_M_tear :=
  zal_c (zi_aln (j := 0) (by decide +kernel) rfl rfl) <|
  zal_c (zi_get (CN := RX5) (T := TX5) (N := 17) (index := 303) (by decide +kernel) rfl rfl (by decide) uw_X5 wf_M_303) <|
  zal_c (zi_ifeq (off := 7) (by decide +kernel) rfl rfl) <|
  zal_c (zi_iconst (n := 1) (by decide +kernel) rfl rfl) <|
  zal_c (zi_goto (off := 4) (by decide +kernel) rfl) <|
  zal_c (zi_iconst (n := 0) (by decide +kernel) rfl rfl) <|
  zal_c (zi_isn (j := 1) (by decide +kernel) rfl rfl (Nat.le_of_ble_eq_true rfl)) <|
  zal_c (zi_aln (j := 0) (by decide +kernel) rfl rfl) <|
  zal_c (zi_iconst (n := 0) (by decide +kernel) rfl rfl) <|
  zal_c (zi_putz (CN := RX5) (T := TX5) (N := 17) (index := 303) (ty0 := tyX5) (by decide +kernel) rfl rfl (by decide) uw_X5 wf_M_303 tyX5_ok nmX5 rfl (by decide +kernel)) <|
  zal_c (zi_iln (j := 1) (by decide +kernel) rfl rfl) <|
  zal_c (zi_ir (by decide +kernel) rfl) <|
  zal_n
set_option maxRecDepth 100000 in
set_option maxHeartbeats 4000000 in
theorem sn_M_count (l : Launch) : zAl l 181 tb_M_count :=
  zal_c (zi_iln (j := 1) (by decide +kernel) rfl rfl) <|
  zal_c (zi_sw (dflt := 56) (lo := 0) (hi := 3) (offs := #[31, 38, 45, 50]) (len := 31) 0 (by decide +kernel) rfl rfl (by decide) rfl (zsw_of (by decide +kernel))) <|
  zal_c (zi_aln (j := 0) (by decide +kernel) rfl rfl) <|
  zal_c (zi_get (CN := RX5) (T := TX5) (N := 17) (index := 7) (by decide +kernel) rfl rfl (by decide) uw_X5 wf_M_7) <|
  zal_c (zi_iconst (n := 2) (by decide +kernel) rfl rfl) <|
  zal_c (zi_iald (by decide +kernel) rfl) <|
  zal_c (zi_ir (by decide +kernel) rfl) <|
  zal_c (zi_aln (j := 0) (by decide +kernel) rfl rfl) <|
  zal_c (zi_get (CN := RX5) (T := TX5) (N := 17) (index := 7) (by decide +kernel) rfl rfl (by decide) uw_X5 wf_M_7) <|
  zal_c (zi_iconst (n := 3) (by decide +kernel) rfl rfl) <|
  zal_c (zi_iald (by decide +kernel) rfl) <|
  zal_c (zi_ir (by decide +kernel) rfl) <|
  zal_c (zi_aln (j := 0) (by decide +kernel) rfl rfl) <|
  zal_c (zi_get (CN := RX5) (T := TX5) (N := 17) (index := 188) (by decide +kernel) rfl rfl (by decide) uw_X5 wf_M_188) <|
  zal_c (zi_ir (by decide +kernel) rfl) <|
  zal_c (zi_aln (j := 0) (by decide +kernel) rfl rfl) <|
  zal_c (zi_iconst (n := 4) (by decide +kernel) rfl rfl) <|
  zal_c (zi_cv (index := 83) (qc := (RX5, TX5, 17)) (by decide +kernel) rfl mk_M_together rfl wm_M_83 wq_M_together ww_M_together ⟨rfl, rfl⟩ ⟨Nat.le_of_ble_eq_true rfl, Nat.le_of_ble_eq_true rfl⟩) <|
  zal_c (zi_ir (by decide +kernel) rfl) <|
  zal_c (zi_aln (j := 0) (by decide +kernel) rfl rfl) <|
  zal_c (zi_ldc (n := 44) (by decide +kernel) rfl wc_M_44) <|
  zal_c (zi_cv (index := 69) (qc := (RX5, TX5, 17)) (by decide +kernel) rfl mk_M_finds rfl wm_M_69 wq_M_finds ww_M_finds ⟨rfl, rfl⟩ ⟨Nat.le_of_ble_eq_true rfl, Nat.le_of_ble_eq_true rfl⟩) <|
  zal_c (zi_ir (by decide +kernel) rfl) <|
  zal_n
set_option maxRecDepth 100000 in
set_option maxHeartbeats 4000000 in
theorem sn_M_status (l : Launch) : zAl l 182 tb_M_status :=
  zal_c (zi_iln (j := 1) (by decide +kernel) rfl rfl) <|
  zal_c (zi_i2l (by decide +kernel) rfl) <|
  zal_c (zi_ldc2 (n := 148) (by decide +kernel) rfl wc_M_148) <|
  zal_c (zi_ldc2 (n := 306) (by decide +kernel) rfl wc_M_306) <|
  zal_c (zi_cs (index := 52) (by decide +kernel) rfl mk_M_in wm_M_52 wq_M_in ⟨rfl, rfl⟩ ⟨Nat.le_of_ble_eq_true rfl, Nat.le_of_ble_eq_true rfl⟩) <|
  zal_c (zi_ifne (off := 10) (by decide +kernel) rfl rfl) <|
  zal_c (zi_aln (j := 0) (by decide +kernel) rfl rfl) <|
  zal_c (zi_ldc (n := 44) (by decide +kernel) rfl wc_M_44) <|
  zal_c (zi_cv (index := 69) (qc := (RX5, TX5, 17)) (by decide +kernel) rfl mk_M_finds rfl wm_M_69 wq_M_finds ww_M_finds ⟨rfl, rfl⟩ ⟨Nat.le_of_ble_eq_true rfl, Nat.le_of_ble_eq_true rfl⟩) <|
  zal_c (zi_ir (by decide +kernel) rfl) <|
  zal_c (zi_iconst (n := 0) (by decide +kernel) rfl rfl) <|
  zal_c (zi_isn (j := 2) (by decide +kernel) rfl rfl (Nat.le_of_ble_eq_true rfl)) <|
  zal_c (zi_iconst (n := 0) (by decide +kernel) rfl rfl) <|
  zal_c (zi_isn (j := 3) (by decide +kernel) rfl rfl (Nat.le_of_ble_eq_true rfl)) <|
  zal_c (zi_iln (j := 3) (by decide +kernel) rfl rfl) <|
  zal_c (zi_bipush (n := 7) (by decide +kernel) rfl rfl) <|
  zal_c (zi_cge (off := 31) (by decide +kernel) rfl rfl) <|
  zal_c (zi_iln (j := 2) (by decide +kernel) rfl rfl) <|
  zal_c (zi_iln (j := 1) (by decide +kernel) rfl rfl) <|
  zal_c (zi_iflt (off := 8) (by decide +kernel) rfl rfl) <|
  zal_c (zi_iln (j := 3) (by decide +kernel) rfl rfl) <|
  zal_c (zi_iln (j := 1) (by decide +kernel) rfl rfl) <|
  zal_c (zi_cne (off := 12) (by decide +kernel) rfl rfl) <|
  zal_c (zi_aln (j := 0) (by decide +kernel) rfl rfl) <|
  zal_c (zi_get (CN := RX5) (T := TX5) (N := 17) (index := 22) (by decide +kernel) rfl rfl (by decide) uw_X5 wf_M_22) <|
  zal_c (zi_iln (j := 3) (by decide +kernel) rfl rfl) <|
  zal_c (zi_iald (by decide +kernel) rfl) <|
  zal_c (zi_goto (off := 4) (by decide +kernel) rfl) <|
  zal_c (zi_iconst (n := 0) (by decide +kernel) rfl rfl) <|
  zal_c (zi_iadd (by decide +kernel) rfl) <|
  zal_c (zi_isn (j := 2) (by decide +kernel) rfl rfl (Nat.le_of_ble_eq_true rfl)) <|
  zal_c (zi_inc (n := 1) (by decide +kernel) rfl rfl) <|
  zal_c (zi_goto (off := -31) (by decide +kernel) rfl) <|
  zal_c (zi_iln (j := 2) (by decide +kernel) rfl rfl) <|
  zal_c (zi_ir (by decide +kernel) rfl) <|
  zal_n
