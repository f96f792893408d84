/-! EACH METHOD'S TABLE IS SOUND (by program) -/
set_option maxRecDepth 100000 in
set_option maxHeartbeats 4000000 in
theorem sn_X_set (l : Launch) : zAl l 52 tb_X_set :=
  zal_c (zi_aln (j := 0) (by decide +kernel) rfl rfl) <|
  zal_c (zi_iln (j := 1) (by decide +kernel) rfl rfl) <|
  zal_c (zi_cv (index := 84) (qc := (RX4, TX4, 7)) (by decide +kernel) rfl mk_X_isNoInlaw rfl wm_X_84 wq_X_isNoInlaw ww_X_isNoInlaw ⟨rfl, rfl⟩ ⟨Nat.le_of_ble_eq_true rfl, Nat.le_of_ble_eq_true rfl⟩) <|
  zal_c (zi_ifeq (off := 10) (by decide +kernel) rfl rfl) <|
  zal_c (zi_aln (j := 0) (by decide +kernel) rfl rfl) <|
  zal_c (zi_ldc (n := 48) (by decide +kernel) rfl wc_X_48) <|
  zal_c (zi_cv (index := 49) (qc := (RX4, TX4, 7)) (by decide +kernel) rfl mk_X_tell rfl wm_X_49 wq_X_tell ww_X_tell ⟨rfl, rfl⟩ ⟨Nat.le_of_ble_eq_true rfl, Nat.le_of_ble_eq_true rfl⟩) <|
  zal_c (zi_ir (by decide +kernel) rfl) <|
  zal_c (zi_iln (j := 2) (by decide +kernel) rfl rfl) <|
  zal_c (zi_sw (dflt := 101) (lo := 1) (hi := 4) (offs := #[32, 49, 65, 83]) (len := 32) 1 (by decide +kernel) rfl rfl (by decide) rfl (zsw_of (by decide +kernel))) <|
  zal_c (zi_aln (j := 0) (by decide +kernel) rfl rfl) <|
  zal_c (zi_aln (j := 0) (by decide +kernel) rfl rfl) <|
  zal_c (zi_get (CN := RX4) (T := TX4) (N := 7) (index := 10) (by decide +kernel) rfl rfl (by decide) uw_X4 wf_X_10) <|
  zal_c (zi_get (CN := RX0) (T := TX0) (N := 14) (index := 90) (by decide +kernel) rfl rfl (by decide) uw_X0 wf_X_90) <|
  zal_c (zi_iln (j := 1) (by decide +kernel) rfl rfl) <|
  zal_c (zi_iln (j := 3) (by decide +kernel) rfl rfl) <|
  zal_c (zi_iconst (n := 0) (by decide +kernel) rfl rfl) <|
  zal_c (zi_bipush (n := 99) (by decide +kernel) rfl rfl) <|
  zal_c (zi_cv (index := 118) (qc := (RX4, TX4, 7)) (by decide +kernel) rfl mk_X_put rfl wm_X_118 wq_X_put ww_X_put ⟨rfl, rfl⟩ ⟨Nat.le_of_ble_eq_true rfl, Nat.le_of_ble_eq_true rfl⟩) <|
  zal_c (zi_ir (by decide +kernel) rfl) <|
  zal_c (zi_aln (j := 0) (by decide +kernel) rfl rfl) <|
  zal_c (zi_aln (j := 0) (by decide +kernel) rfl rfl) <|
  zal_c (zi_get (CN := RX4) (T := TX4) (N := 7) (index := 10) (by decide +kernel) rfl rfl (by decide) uw_X4 wf_X_10) <|
  zal_c (zi_get (CN := RX0) (T := TX0) (N := 14) (index := 93) (by decide +kernel) rfl rfl (by decide) uw_X0 wf_X_93) <|
  zal_c (zi_iln (j := 1) (by decide +kernel) rfl rfl) <|
  zal_c (zi_iln (j := 3) (by decide +kernel) rfl rfl) <|
  zal_c (zi_iconst (n := 0) (by decide +kernel) rfl rfl) <|
  zal_c (zi_iconst (n := 1) (by decide +kernel) rfl rfl) <|
  zal_c (zi_cv (index := 118) (qc := (RX4, TX4, 7)) (by decide +kernel) rfl mk_X_put rfl wm_X_118 wq_X_put ww_X_put ⟨rfl, rfl⟩ ⟨Nat.le_of_ble_eq_true rfl, Nat.le_of_ble_eq_true rfl⟩) <|
  zal_c (zi_ir (by decide +kernel) rfl) <|
  zal_c (zi_aln (j := 0) (by decide +kernel) rfl rfl) <|
  zal_c (zi_aln (j := 0) (by decide +kernel) rfl rfl) <|
  zal_c (zi_get (CN := RX4) (T := TX4) (N := 7) (index := 10) (by decide +kernel) rfl rfl (by decide) uw_X4 wf_X_10) <|
  zal_c (zi_get (CN := RX0) (T := TX0) (N := 14) (index := 96) (by decide +kernel) rfl rfl (by decide) uw_X0 wf_X_96) <|
  zal_c (zi_iln (j := 1) (by decide +kernel) rfl rfl) <|
  zal_c (zi_iln (j := 3) (by decide +kernel) rfl rfl) <|
  zal_c (zi_iconst (n := 0) (by decide +kernel) rfl rfl) <|
  zal_c (zi_sipush (n := 9999) (by decide +kernel) rfl rfl) <|
  zal_c (zi_cv (index := 118) (qc := (RX4, TX4, 7)) (by decide +kernel) rfl mk_X_put rfl wm_X_118 wq_X_put ww_X_put ⟨rfl, rfl⟩ ⟨Nat.le_of_ble_eq_true rfl, Nat.le_of_ble_eq_true rfl⟩) <|
  zal_c (zi_ir (by decide +kernel) rfl) <|
  zal_c (zi_aln (j := 0) (by decide +kernel) rfl rfl) <|
  zal_c (zi_aln (j := 0) (by decide +kernel) rfl rfl) <|
  zal_c (zi_get (CN := RX4) (T := TX4) (N := 7) (index := 10) (by decide +kernel) rfl rfl (by decide) uw_X4 wf_X_10) <|
  zal_c (zi_get (CN := RX0) (T := TX0) (N := 14) (index := 99) (by decide +kernel) rfl rfl (by decide) uw_X0 wf_X_99) <|
  zal_c (zi_iln (j := 1) (by decide +kernel) rfl rfl) <|
  zal_c (zi_iln (j := 3) (by decide +kernel) rfl rfl) <|
  zal_c (zi_iconst (n := 0) (by decide +kernel) rfl rfl) <|
  zal_c (zi_sipush (n := 9999) (by decide +kernel) rfl rfl) <|
  zal_c (zi_cv (index := 118) (qc := (RX4, TX4, 7)) (by decide +kernel) rfl mk_X_put rfl wm_X_118 wq_X_put ww_X_put ⟨rfl, rfl⟩ ⟨Nat.le_of_ble_eq_true rfl, Nat.le_of_ble_eq_true rfl⟩) <|
  zal_c (zi_ir (by decide +kernel) rfl) <|
  zal_c (zi_aln (j := 0) (by decide +kernel) rfl rfl) <|
  zal_c (zi_ldc (n := 48) (by decide +kernel) rfl wc_X_48) <|
  zal_c (zi_cv (index := 49) (qc := (RX4, TX4, 7)) (by decide +kernel) rfl mk_X_tell rfl wm_X_49 wq_X_tell ww_X_tell ⟨rfl, rfl⟩ ⟨Nat.le_of_ble_eq_true rfl, Nat.le_of_ble_eq_true rfl⟩) <|
  zal_c (zi_ir (by decide +kernel) rfl) <|
  zal_n
set_option maxRecDepth 100000 in
set_option maxHeartbeats 4000000 in
theorem sn_X_turn (l : Launch) : zAl l 53 tb_X_turn :=
  zal_c (zi_aln (j := 0) (by decide +kernel) rfl rfl) <|
  zal_c (zi_iln (j := 1) (by decide +kernel) rfl rfl) <|
  zal_c (zi_cv (index := 84) (qc := (RX4, TX4, 7)) (by decide +kernel) rfl mk_X_isNoInlaw rfl wm_X_84 wq_X_isNoInlaw ww_X_isNoInlaw ⟨rfl, rfl⟩ ⟨Nat.le_of_ble_eq_true rfl, Nat.le_of_ble_eq_true rfl⟩) <|
  zal_c (zi_ifeq (off := 10) (by decide +kernel) rfl rfl) <|
  zal_c (zi_aln (j := 0) (by decide +kernel) rfl rfl) <|
  zal_c (zi_ldc (n := 48) (by decide +kernel) rfl wc_X_48) <|
  zal_c (zi_cv (index := 49) (qc := (RX4, TX4, 7)) (by decide +kernel) rfl mk_X_tell rfl wm_X_49 wq_X_tell ww_X_tell ⟨rfl, rfl⟩ ⟨Nat.le_of_ble_eq_true rfl, Nat.le_of_ble_eq_true rfl⟩) <|
  zal_c (zi_ir (by decide +kernel) rfl) <|
  zal_c (zi_aln (j := 0) (by decide +kernel) rfl rfl) <|
  zal_c (zi_aln (j := 0) (by decide +kernel) rfl rfl) <|
  zal_c (zi_get (CN := RX4) (T := TX4) (N := 7) (index := 10) (by decide +kernel) rfl rfl (by decide) uw_X4 wf_X_10) <|
  zal_c (zi_get (CN := RX0) (T := TX0) (N := 14) (index := 87) (by decide +kernel) rfl rfl (by decide) uw_X0 wf_X_87) <|
  zal_c (zi_iln (j := 1) (by decide +kernel) rfl rfl) <|
  zal_c (zi_iln (j := 2) (by decide +kernel) rfl rfl) <|
  zal_c (zi_iconst (n := 0) (by decide +kernel) rfl rfl) <|
  zal_c (zi_iconst (n := 5) (by decide +kernel) rfl rfl) <|
  zal_c (zi_cv (index := 118) (qc := (RX4, TX4, 7)) (by decide +kernel) rfl mk_X_put rfl wm_X_118 wq_X_put ww_X_put ⟨rfl, rfl⟩ ⟨Nat.le_of_ble_eq_true rfl, Nat.le_of_ble_eq_true rfl⟩) <|
  zal_c (zi_ir (by decide +kernel) rfl) <|
  zal_n
set_option maxRecDepth 100000 in
set_option maxHeartbeats 4000000 in
theorem sn_X_as (l : Launch) : zAl l 54 tb_X_as :=
  zal_c (zi_aln (j := 0) (by decide +kernel) rfl rfl) <|
  zal_c (zi_iln (j := 1) (by decide +kernel) rfl rfl) <|
  zal_c (zi_cv (index := 84) (qc := (RX4, TX4, 7)) (by decide +kernel) rfl mk_X_isNoInlaw rfl wm_X_84 wq_X_isNoInlaw ww_X_isNoInlaw ⟨rfl, rfl⟩ ⟨Nat.le_of_ble_eq_true rfl, Nat.le_of_ble_eq_true rfl⟩) <|
  zal_c (zi_ifne (off := 10) (by decide +kernel) rfl rfl) <|
  zal_c (zi_iln (j := 2) (by decide +kernel) rfl rfl) <|
  zal_c (zi_cs (index := 73) (by decide +kernel) rfl mk_X_isNoKind wm_X_73 wq_X_isNoKind ⟨rfl, rfl⟩ ⟨Nat.le_of_ble_eq_true rfl, Nat.le_of_ble_eq_true rfl⟩) <|
  zal_c (zi_ifeq (off := 10) (by decide +kernel) rfl rfl) <|
  zal_c (zi_aln (j := 0) (by decide +kernel) rfl rfl) <|
  zal_c (zi_ldc (n := 48) (by decide +kernel) rfl wc_X_48) <|
  zal_c (zi_cv (index := 49) (qc := (RX4, TX4, 7)) (by decide +kernel) rfl mk_X_tell rfl wm_X_49 wq_X_tell ww_X_tell ⟨rfl, rfl⟩ ⟨Nat.le_of_ble_eq_true rfl, Nat.le_of_ble_eq_true rfl⟩) <|
  zal_c (zi_ir (by decide +kernel) rfl) <|
  zal_c (zi_aln (j := 0) (by decide +kernel) rfl rfl) <|
  zal_c (zi_get (CN := RX4) (T := TX4) (N := 7) (index := 10) (by decide +kernel) rfl rfl (by decide) uw_X4 wf_X_10) <|
  zal_c (zi_get (CN := RX0) (T := TX0) (N := 14) (index := 87) (by decide +kernel) rfl rfl (by decide) uw_X0 wf_X_87) <|
  zal_c (zi_iln (j := 1) (by decide +kernel) rfl rfl) <|
  zal_c (zi_iald (by decide +kernel) rfl) <|
  zal_c (zi_iln (j := 2) (by decide +kernel) rfl rfl) <|
  zal_c (zi_cs (index := 124) (by decide +kernel) rfl mk_K_isUnder wm_X_124 wq_K_isUnder ⟨rfl, rfl⟩ ⟨Nat.le_of_ble_eq_true rfl, Nat.le_of_ble_eq_true rfl⟩) <|
  zal_c (zi_ifne (off := 10) (by decide +kernel) rfl rfl) <|
  zal_c (zi_aln (j := 0) (by decide +kernel) rfl rfl) <|
  zal_c (zi_ldc (n := 128) (by decide +kernel) rfl wc_X_128) <|
  zal_c (zi_cv (index := 49) (qc := (RX4, TX4, 7)) (by decide +kernel) rfl mk_X_tell rfl wm_X_49 wq_X_tell ww_X_tell ⟨rfl, rfl⟩ ⟨Nat.le_of_ble_eq_true rfl, Nat.le_of_ble_eq_true rfl⟩) <|
  zal_c (zi_ir (by decide +kernel) rfl) <|
  zal_c (zi_aln (j := 0) (by decide +kernel) rfl rfl) <|
  zal_c (zi_get (CN := RX4) (T := TX4) (N := 7) (index := 10) (by decide +kernel) rfl rfl (by decide) uw_X4 wf_X_10) <|
  zal_c (zi_get (CN := RX0) (T := TX0) (N := 14) (index := 90) (by decide +kernel) rfl rfl (by decide) uw_X0 wf_X_90) <|
  zal_c (zi_iln (j := 1) (by decide +kernel) rfl rfl) <|
  zal_c (zi_iald (by decide +kernel) rfl) <|
  zal_c (zi_ir (by decide +kernel) rfl) <|
  zal_n
set_option maxRecDepth 100000 in
set_option maxHeartbeats 4000000 in
theorem sn_X_couple (l : Launch) : zAl l 55 tb_X_couple :=
  zal_c (zi_iln (j := 1) (by decide +kernel) rfl rfl) <|
  zal_c (zi_iconst (n := 0) (by decide +kernel) rfl rfl) <|
  zal_c (zi_bipush (n := 9) (by decide +kernel) rfl rfl) <|
  zal_c (zi_cs (index := 44) (by decide +kernel) rfl mk_X_isOutside wm_X_44 wq_X_isOutside ⟨rfl, rfl⟩ ⟨Nat.le_of_ble_eq_true rfl, Nat.le_of_ble_eq_true rfl⟩) <|
  zal_c (zi_ifeq (off := 10) (by decide +kernel) rfl rfl) <|
  zal_c (zi_aln (j := 0) (by decide +kernel) rfl rfl) <|
  zal_c (zi_ldc (n := 48) (by decide +kernel) rfl wc_X_48) <|
  zal_c (zi_cv (index := 49) (qc := (RX4, TX4, 7)) (by decide +kernel) rfl mk_X_tell rfl wm_X_49 wq_X_tell ww_X_tell ⟨rfl, rfl⟩ ⟨Nat.le_of_ble_eq_true rfl, Nat.le_of_ble_eq_true rfl⟩) <|
  zal_c (zi_ir (by decide +kernel) rfl) <|
  zal_c (zi_aln (j := 0) (by decide +kernel) rfl rfl) <|
  zal_c (zi_get (CN := RX4) (T := TX4) (N := 7) (index := 10) (by decide +kernel) rfl rfl (by decide) uw_X4 wf_X_10) <|
  zal_c (zi_get (CN := RX0) (T := TX0) (N := 14) (index := 129) (by decide +kernel) rfl rfl (by decide) uw_X0 wf_X_129) <|
  zal_c (zi_bipush (n := 8) (by decide +kernel) rfl rfl) <|
  zal_c (zi_clt (off := 10) (by decide +kernel) rfl rfl) <|
  zal_c (zi_aln (j := 0) (by decide +kernel) rfl rfl) <|
  zal_c (zi_ldc (n := 80) (by decide +kernel) rfl wc_X_80) <|
  zal_c (zi_cv (index := 49) (qc := (RX4, TX4, 7)) (by decide +kernel) rfl mk_X_tell rfl wm_X_49 wq_X_tell ww_X_tell ⟨rfl, rfl⟩ ⟨Nat.le_of_ble_eq_true rfl, Nat.le_of_ble_eq_true rfl⟩) <|
  zal_c (zi_ir (by decide +kernel) rfl) <|
  zal_c (zi_aln (j := 0) (by decide +kernel) rfl rfl) <|
  zal_c (zi_get (CN := RX4) (T := TX4) (N := 7) (index := 10) (by decide +kernel) rfl rfl (by decide) uw_X4 wf_X_10) <|
  zal_c (zi_iln (j := 1) (by decide +kernel) rfl rfl) <|
  zal_c (zi_cv (index := 132) (qc := (RX0, TX0, 14)) (by decide +kernel) rfl mk_H_addCouple rfl wm_X_132 wq_H_addCouple ww_H_addCouple ⟨rfl, rfl⟩ ⟨Nat.le_of_ble_eq_true rfl, Nat.le_of_ble_eq_true rfl⟩) <|
  zal_c (zi_ir (by decide +kernel) rfl) <|
  zal_n
set_option maxRecDepth 100000 in
set_option maxHeartbeats 4000000 in
theorem sn_X_coupleOf (l : Launch) : zAl l 56 tb_X_coupleOf :=
  zal_c (zi_aln (j := 0) (by decide +kernel) rfl rfl) <|
  zal_c (zi_iln (j := 1) (by decide +kernel) rfl rfl) <|
  zal_c (zi_cv (index := 105) (qc := (RX4, TX4, 7)) (by decide +kernel) rfl mk_X_isNoCouple rfl wm_X_105 wq_X_isNoCouple ww_X_isNoCouple ⟨rfl, rfl⟩ ⟨Nat.le_of_ble_eq_true rfl, Nat.le_of_ble_eq_true rfl⟩) <|
  zal_c (zi_ifeq (off := 10) (by decide +kernel) rfl rfl) <|
  zal_c (zi_aln (j := 0) (by decide +kernel) rfl rfl) <|
  zal_c (zi_ldc (n := 48) (by decide +kernel) rfl wc_X_48) <|
  zal_c (zi_cv (index := 49) (qc := (RX4, TX4, 7)) (by decide +kernel) rfl mk_X_tell rfl wm_X_49 wq_X_tell ww_X_tell ⟨rfl, rfl⟩ ⟨Nat.le_of_ble_eq_true rfl, Nat.le_of_ble_eq_true rfl⟩) <|
  zal_c (zi_ir (by decide +kernel) rfl) <|
  zal_c (zi_iln (j := 2) (by decide +kernel) rfl rfl) <|
  zal_c (zi_sw (dflt := 94) (lo := 0) (hi := 3) (offs := #[32, 42, 56, 66]) (len := 32) 0 (by decide +kernel) rfl rfl (by decide) rfl (zsw_of (by decide +kernel))) <|
  zal_c (zi_aln (j := 0) (by decide +kernel) rfl rfl) <|
  zal_c (zi_get (CN := RX4) (T := TX4) (N := 7) (index := 10) (by decide +kernel) rfl rfl (by decide) uw_X4 wf_X_10) <|
  zal_c (zi_get (CN := RX0) (T := TX0) (N := 14) (index := 135) (by decide +kernel) rfl rfl (by decide) uw_X0 wf_X_135) <|
  zal_c (zi_iln (j := 1) (by decide +kernel) rfl rfl) <|
  zal_c (zi_iald (by decide +kernel) rfl) <|
  zal_c (zi_ir (by decide +kernel) rfl) <|
  zal_c (zi_sipush (n := 10000) (by decide +kernel) rfl rfl) <|
  zal_c (zi_aln (j := 0) (by decide +kernel) rfl rfl) <|
  zal_c (zi_get (CN := RX4) (T := TX4) (N := 7) (index := 10) (by decide +kernel) rfl rfl (by decide) uw_X4 wf_X_10) <|
  zal_c (zi_get (CN := RX0) (T := TX0) (N := 14) (index := 138) (by decide +kernel) rfl rfl (by decide) uw_X0 wf_X_138) <|
  zal_c (zi_iln (j := 1) (by decide +kernel) rfl rfl) <|
  zal_c (zi_iald (by decide +kernel) rfl) <|
  zal_c (zi_iadd (by decide +kernel) rfl) <|
  zal_c (zi_ir (by decide +kernel) rfl) <|
  zal_c (zi_aln (j := 0) (by decide +kernel) rfl rfl) <|
  zal_c (zi_get (CN := RX4) (T := TX4) (N := 7) (index := 10) (by decide +kernel) rfl rfl (by decide) uw_X4 wf_X_10) <|
  zal_c (zi_get (CN := RX0) (T := TX0) (N := 14) (index := 141) (by decide +kernel) rfl rfl (by decide) uw_X0 wf_X_141) <|
  zal_c (zi_iln (j := 1) (by decide +kernel) rfl rfl) <|
  zal_c (zi_iald (by decide +kernel) rfl) <|
  zal_c (zi_ir (by decide +kernel) rfl) <|
  zal_c (zi_aln (j := 0) (by decide +kernel) rfl rfl) <|
  zal_c (zi_get (CN := RX4) (T := TX4) (N := 7) (index := 16) (by decide +kernel) rfl rfl (by decide) uw_X4 wf_X_16) <|
  zal_c (zi_aln (j := 0) (by decide +kernel) rfl rfl) <|
  zal_c (zi_get (CN := RX4) (T := TX4) (N := 7) (index := 10) (by decide +kernel) rfl rfl (by decide) uw_X4 wf_X_10) <|
  zal_c (zi_cv (index := 144) (qc := (RX0, TX0, 14)) (by decide +kernel) rfl mk_H_become rfl wm_X_144 wq_H_become ww_H_become ⟨rfl, rfl⟩ ⟨Nat.le_of_ble_eq_true rfl, Nat.le_of_ble_eq_true rfl⟩) <|
  zal_c (zi_aln (j := 0) (by decide +kernel) rfl rfl) <|
  zal_c (zi_get (CN := RX4) (T := TX4) (N := 7) (index := 16) (by decide +kernel) rfl rfl (by decide) uw_X4 wf_X_16) <|
  zal_c (zi_cv (index := 148) (qc := (RX0, TX0, 14)) (by decide +kernel) rfl mk_H_goOneSunday rfl wm_X_148 wq_H_goOneSunday ww_H_goOneSunday ⟨rfl, rfl⟩ ⟨Nat.le_of_ble_eq_true rfl, Nat.le_of_ble_eq_true rfl⟩) <|
  zal_c (zi_aln (j := 0) (by decide +kernel) rfl rfl) <|
  zal_c (zi_get (CN := RX4) (T := TX4) (N := 7) (index := 16) (by decide +kernel) rfl rfl (by decide) uw_X4 wf_X_16) <|
  zal_c (zi_get (CN := RX0) (T := TX0) (N := 14) (index := 151) (by decide +kernel) rfl rfl (by decide) uw_X0 wf_X_151) <|
  zal_c (zi_iln (j := 1) (by decide +kernel) rfl rfl) <|
  zal_c (zi_iald (by decide +kernel) rfl) <|
  zal_c (zi_ir (by decide +kernel) rfl) <|
  zal_c (zi_aln (j := 0) (by decide +kernel) rfl rfl) <|
  zal_c (zi_ldc (n := 48) (by decide +kernel) rfl wc_X_48) <|
  zal_c (zi_cv (index := 49) (qc := (RX4, TX4, 7)) (by decide +kernel) rfl mk_X_tell rfl wm_X_49 wq_X_tell ww_X_tell ⟨rfl, rfl⟩ ⟨Nat.le_of_ble_eq_true rfl, Nat.le_of_ble_eq_true rfl⟩) <|
  zal_c (zi_ir (by decide +kernel) rfl) <|
  zal_n
set_option maxRecDepth 100000 in
set_option maxHeartbeats 4000000 in
theorem sn_X_give (l : Launch) : zAl l 57 tb_X_give :=
  zal_c (zi_aln (j := 0) (by decide +kernel) rfl rfl) <|
  zal_c (zi_iln (j := 1) (by decide +kernel) rfl rfl) <|
  zal_c (zi_cv (index := 105) (qc := (RX4, TX4, 7)) (by decide +kernel) rfl mk_X_isNoCouple rfl wm_X_105 wq_X_isNoCouple ww_X_isNoCouple ⟨rfl, rfl⟩ ⟨Nat.le_of_ble_eq_true rfl, Nat.le_of_ble_eq_true rfl⟩) <|
  zal_c (zi_ifeq (off := 10) (by decide +kernel) rfl rfl) <|
  zal_c (zi_aln (j := 0) (by decide +kernel) rfl rfl) <|
  zal_c (zi_ldc (n := 48) (by decide +kernel) rfl wc_X_48) <|
  zal_c (zi_cv (index := 49) (qc := (RX4, TX4, 7)) (by decide +kernel) rfl mk_X_tell rfl wm_X_49 wq_X_tell ww_X_tell ⟨rfl, rfl⟩ ⟨Nat.le_of_ble_eq_true rfl, Nat.le_of_ble_eq_true rfl⟩) <|
  zal_c (zi_ir (by decide +kernel) rfl) <|
  zal_c (zi_iln (j := 2) (by decide +kernel) rfl rfl) <|
  zal_c (zi_sw (dflt := 89) (lo := 0) (hi := 2) (offs := #[28, 45, 65]) (len := 28) 0 (by decide +kernel) rfl rfl (by decide) rfl (zsw_of (by decide +kernel))) <|
  zal_c (zi_aln (j := 0) (by decide +kernel) rfl rfl) <|
  zal_c (zi_aln (j := 0) (by decide +kernel) rfl rfl) <|
  zal_c (zi_get (CN := RX4) (T := TX4) (N := 7) (index := 10) (by decide +kernel) rfl rfl (by decide) uw_X4 wf_X_10) <|
  zal_c (zi_get (CN := RX0) (T := TX0) (N := 14) (index := 135) (by decide +kernel) rfl rfl (by decide) uw_X0 wf_X_135) <|
  zal_c (zi_iln (j := 1) (by decide +kernel) rfl rfl) <|
  zal_c (zi_iln (j := 3) (by decide +kernel) rfl rfl) <|
  zal_c (zi_iconst (n := 0) (by decide +kernel) rfl rfl) <|
  zal_c (zi_bipush (n := 9) (by decide +kernel) rfl rfl) <|
  zal_c (zi_cv (index := 118) (qc := (RX4, TX4, 7)) (by decide +kernel) rfl mk_X_put rfl wm_X_118 wq_X_put ww_X_put ⟨rfl, rfl⟩ ⟨Nat.le_of_ble_eq_true rfl, Nat.le_of_ble_eq_true rfl⟩) <|
  zal_c (zi_ir (by decide +kernel) rfl) <|
  zal_c (zi_aln (j := 0) (by decide +kernel) rfl rfl) <|
  zal_c (zi_aln (j := 0) (by decide +kernel) rfl rfl) <|
  zal_c (zi_get (CN := RX4) (T := TX4) (N := 7) (index := 10) (by decide +kernel) rfl rfl (by decide) uw_X4 wf_X_10) <|
  zal_c (zi_get (CN := RX0) (T := TX0) (N := 14) (index := 138) (by decide +kernel) rfl rfl (by decide) uw_X0 wf_X_138) <|
  zal_c (zi_iln (j := 1) (by decide +kernel) rfl rfl) <|
  zal_c (zi_iln (j := 3) (by decide +kernel) rfl rfl) <|
  zal_c (zi_sipush (n := -999) (by decide +kernel) rfl rfl) <|
  zal_c (zi_sipush (n := 999) (by decide +kernel) rfl rfl) <|
  zal_c (zi_cv (index := 118) (qc := (RX4, TX4, 7)) (by decide +kernel) rfl mk_X_put rfl wm_X_118 wq_X_put ww_X_put ⟨rfl, rfl⟩ ⟨Nat.le_of_ble_eq_true rfl, Nat.le_of_ble_eq_true rfl⟩) <|
  zal_c (zi_ir (by decide +kernel) rfl) <|
  zal_c (zi_aln (j := 0) (by decide +kernel) rfl rfl) <|
  zal_c (zi_aln (j := 0) (by decide +kernel) rfl rfl) <|
  zal_c (zi_get (CN := RX4) (T := TX4) (N := 7) (index := 10) (by decide +kernel) rfl rfl (by decide) uw_X4 wf_X_10) <|
  zal_c (zi_get (CN := RX0) (T := TX0) (N := 14) (index := 141) (by decide +kernel) rfl rfl (by decide) uw_X0 wf_X_141) <|
  zal_c (zi_iln (j := 1) (by decide +kernel) rfl rfl) <|
  zal_c (zi_iln (j := 3) (by decide +kernel) rfl rfl) <|
  zal_c (zi_iconst (n := -1) (by decide +kernel) rfl rfl) <|
  zal_c (zi_aln (j := 0) (by decide +kernel) rfl rfl) <|
  zal_c (zi_get (CN := RX4) (T := TX4) (N := 7) (index := 10) (by decide +kernel) rfl rfl (by decide) uw_X4 wf_X_10) <|
  zal_c (zi_get (CN := RX0) (T := TX0) (N := 14) (index := 77) (by decide +kernel) rfl rfl (by decide) uw_X0 wf_X_77) <|
  zal_c (zi_iconst (n := 1) (by decide +kernel) rfl rfl) <|
  zal_c (zi_isub (by decide +kernel) rfl) <|
  zal_c (zi_cv (index := 118) (qc := (RX4, TX4, 7)) (by decide +kernel) rfl mk_X_put rfl wm_X_118 wq_X_put ww_X_put ⟨rfl, rfl⟩ ⟨Nat.le_of_ble_eq_true rfl, Nat.le_of_ble_eq_true rfl⟩) <|
  zal_c (zi_ir (by decide +kernel) rfl) <|
  zal_c (zi_aln (j := 0) (by decide +kernel) rfl rfl) <|
  zal_c (zi_ldc (n := 48) (by decide +kernel) rfl wc_X_48) <|
  zal_c (zi_cv (index := 49) (qc := (RX4, TX4, 7)) (by decide +kernel) rfl mk_X_tell rfl wm_X_49 wq_X_tell ww_X_tell ⟨rfl, rfl⟩ ⟨Nat.le_of_ble_eq_true rfl, Nat.le_of_ble_eq_true rfl⟩) <|
  zal_c (zi_ir (by decide +kernel) rfl) <|
  zal_n
set_option maxRecDepth 100000 in
set_option maxHeartbeats 4000000 in
theorem sn_X_sundays (l : Launch) : zAl l 58 tb_X_sundays :=
  zal_c (zi_iln (j := 1) (by decide +kernel) rfl rfl) <|
  zal_c (zi_iconst (n := 1) (by decide +kernel) rfl rfl) <|
  zal_c (zi_bipush (n := 60) (by decide +kernel) rfl rfl) <|
  zal_c (zi_cs (index := 44) (by decide +kernel) rfl mk_X_isOutside wm_X_44 wq_X_isOutside ⟨rfl, rfl⟩ ⟨Nat.le_of_ble_eq_true rfl, Nat.le_of_ble_eq_true rfl⟩) <|
  zal_c (zi_ifeq (off := 10) (by decide +kernel) rfl rfl) <|
  zal_c (zi_aln (j := 0) (by decide +kernel) rfl rfl) <|
  zal_c (zi_ldc (n := 48) (by decide +kernel) rfl wc_X_48) <|
  zal_c (zi_cv (index := 49) (qc := (RX4, TX4, 7)) (by decide +kernel) rfl mk_X_tell rfl wm_X_49 wq_X_tell ww_X_tell ⟨rfl, rfl⟩ ⟨Nat.le_of_ble_eq_true rfl, Nat.le_of_ble_eq_true rfl⟩) <|
  zal_c (zi_ir (by decide +kernel) rfl) <|
  zal_c (zi_aln (j := 0) (by decide +kernel) rfl rfl) <|
  zal_c (zi_get (CN := RX4) (T := TX4) (N := 7) (index := 10) (by decide +kernel) rfl rfl (by decide) uw_X4 wf_X_10) <|
  zal_c (zi_get (CN := RX0) (T := TX0) (N := 14) (index := 57) (by decide +kernel) rfl rfl (by decide) uw_X0 wf_X_57) <|
  zal_c (zi_iln (j := 1) (by decide +kernel) rfl rfl) <|
  zal_c (zi_iadd (by decide +kernel) rfl) <|
  zal_c (zi_sipush (n := 9999) (by decide +kernel) rfl rfl) <|
  zal_c (zi_cle (off := 10) (by decide +kernel) rfl rfl) <|
  zal_c (zi_aln (j := 0) (by decide +kernel) rfl rfl) <|
  zal_c (zi_ldc (n := 154) (by decide +kernel) rfl wc_X_154) <|
  zal_c (zi_cv (index := 49) (qc := (RX4, TX4, 7)) (by decide +kernel) rfl mk_X_tell rfl wm_X_49 wq_X_tell ww_X_tell ⟨rfl, rfl⟩ ⟨Nat.le_of_ble_eq_true rfl, Nat.le_of_ble_eq_true rfl⟩) <|
  zal_c (zi_ir (by decide +kernel) rfl) <|
  zal_c (zi_aln (j := 0) (by decide +kernel) rfl rfl) <|
  zal_c (zi_get (CN := RX4) (T := TX4) (N := 7) (index := 10) (by decide +kernel) rfl rfl (by decide) uw_X4 wf_X_10) <|
  zal_c (zi_iln (j := 1) (by decide +kernel) rfl rfl) <|
  zal_c (zi_cv (index := 155) (qc := (RX0, TX0, 14)) (by decide +kernel) rfl mk_H_goSundays rfl wm_X_155 wq_H_goSundays ww_H_goSundays ⟨rfl, rfl⟩ ⟨Nat.le_of_ble_eq_true rfl, Nat.le_of_ble_eq_true rfl⟩) <|
  zal_c (zi_aln (j := 0) (by decide +kernel) rfl rfl) <|
  zal_c (zi_get (CN := RX4) (T := TX4) (N := 7) (index := 10) (by decide +kernel) rfl rfl (by decide) uw_X4 wf_X_10) <|
  zal_c (zi_cv (index := 70) (qc := (RX0, TX0, 14)) (by decide +kernel) rfl mk_H_warmOfAll rfl wm_X_70 wq_H_warmOfAll ww_H_warmOfAll ⟨rfl, rfl⟩ ⟨Nat.le_of_ble_eq_true rfl, Nat.le_of_ble_eq_true rfl⟩) <|
  zal_c (zi_ir (by decide +kernel) rfl) <|
  zal_n
set_option maxRecDepth 100000 in
set_option maxHeartbeats 4000000 in
theorem sn_X_on (l : Launch) : zAl l 59 tb_X_on :=
  zal_c (zi_aln (j := 0) (by decide +kernel) rfl rfl) <|
  zal_c (zi_iln (j := 1) (by decide +kernel) rfl rfl) <|
  zal_c (zi_cv (index := 105) (qc := (RX4, TX4, 7)) (by decide +kernel) rfl mk_X_isNoCouple rfl wm_X_105 wq_X_isNoCouple ww_X_isNoCouple ⟨rfl, rfl⟩ ⟨Nat.le_of_ble_eq_true rfl, Nat.le_of_ble_eq_true rfl⟩) <|
  zal_c (zi_ifne (off := 22) (by decide +kernel) rfl rfl) <|
  zal_c (zi_iln (j := 2) (by decide +kernel) rfl rfl) <|
  zal_c (zi_iconst (n := 0) (by decide +kernel) rfl rfl) <|
  zal_c (zi_bipush (n := 100) (by decide +kernel) rfl rfl) <|
  zal_c (zi_cs (index := 44) (by decide +kernel) rfl mk_X_isOutside wm_X_44 wq_X_isOutside ⟨rfl, rfl⟩ ⟨Nat.le_of_ble_eq_true rfl, Nat.le_of_ble_eq_true rfl⟩) <|
  zal_c (zi_ifne (off := 12) (by decide +kernel) rfl rfl) <|
  zal_c (zi_iln (j := 3) (by decide +kernel) rfl rfl) <|
  zal_c (zi_iconst (n := 0) (by decide +kernel) rfl rfl) <|
  zal_c (zi_iconst (n := 1) (by decide +kernel) rfl rfl) <|
  zal_c (zi_cs (index := 44) (by decide +kernel) rfl mk_X_isOutside wm_X_44 wq_X_isOutside ⟨rfl, rfl⟩ ⟨Nat.le_of_ble_eq_true rfl, Nat.le_of_ble_eq_true rfl⟩) <|
  zal_c (zi_ifeq (off := 10) (by decide +kernel) rfl rfl) <|
  zal_c (zi_aln (j := 0) (by decide +kernel) rfl rfl) <|
  zal_c (zi_ldc (n := 48) (by decide +kernel) rfl wc_X_48) <|
  zal_c (zi_cv (index := 49) (qc := (RX4, TX4, 7)) (by decide +kernel) rfl mk_X_tell rfl wm_X_49 wq_X_tell ww_X_tell ⟨rfl, rfl⟩ ⟨Nat.le_of_ble_eq_true rfl, Nat.le_of_ble_eq_true rfl⟩) <|
  zal_c (zi_ir (by decide +kernel) rfl) <|
  zal_c (zi_aln (j := 0) (by decide +kernel) rfl rfl) <|
  zal_c (zi_get (CN := RX4) (T := TX4) (N := 7) (index := 16) (by decide +kernel) rfl rfl (by decide) uw_X4 wf_X_16) <|
  zal_c (zi_aln (j := 0) (by decide +kernel) rfl rfl) <|
  zal_c (zi_get (CN := RX4) (T := TX4) (N := 7) (index := 10) (by decide +kernel) rfl rfl (by decide) uw_X4 wf_X_10) <|
  zal_c (zi_cv (index := 144) (qc := (RX0, TX0, 14)) (by decide +kernel) rfl mk_H_become rfl wm_X_144 wq_H_become ww_H_become ⟨rfl, rfl⟩ ⟨Nat.le_of_ble_eq_true rfl, Nat.le_of_ble_eq_true rfl⟩) <|
  zal_c (zi_aln (j := 0) (by decide +kernel) rfl rfl) <|
  zal_c (zi_get (CN := RX4) (T := TX4) (N := 7) (index := 16) (by decide +kernel) rfl rfl (by decide) uw_X4 wf_X_16) <|
  zal_c (zi_iln (j := 2) (by decide +kernel) rfl rfl) <|
  zal_c (zi_cv (index := 155) (qc := (RX0, TX0, 14)) (by decide +kernel) rfl mk_H_goSundays rfl wm_X_155 wq_H_goSundays ww_H_goSundays ⟨rfl, rfl⟩ ⟨Nat.le_of_ble_eq_true rfl, Nat.le_of_ble_eq_true rfl⟩) <|
  zal_c (zi_iln (j := 3) (by decide +kernel) rfl rfl) <|
  zal_c (zi_ifne (off := 15) (by decide +kernel) rfl rfl) <|
  zal_c (zi_aln (j := 0) (by decide +kernel) rfl rfl) <|
  zal_c (zi_get (CN := RX4) (T := TX4) (N := 7) (index := 16) (by decide +kernel) rfl rfl (by decide) uw_X4 wf_X_16) <|
  zal_c (zi_get (CN := RX0) (T := TX0) (N := 14) (index := 138) (by decide +kernel) rfl rfl (by decide) uw_X0 wf_X_138) <|
  zal_c (zi_iln (j := 1) (by decide +kernel) rfl rfl) <|
  zal_c (zi_iald (by decide +kernel) rfl) <|
  zal_c (zi_goto (off := 12) (by decide +kernel) rfl) <|
  zal_c (zi_aln (j := 0) (by decide +kernel) rfl rfl) <|
  zal_c (zi_get (CN := RX4) (T := TX4) (N := 7) (index := 16) (by decide +kernel) rfl rfl (by decide) uw_X4 wf_X_16) <|
  zal_c (zi_get (CN := RX0) (T := TX0) (N := 14) (index := 141) (by decide +kernel) rfl rfl (by decide) uw_X0 wf_X_141) <|
  zal_c (zi_iln (j := 1) (by decide +kernel) rfl rfl) <|
  zal_c (zi_iald (by decide +kernel) rfl) <|
  zal_c (zi_ir (by decide +kernel) rfl) <|
  zal_n
set_option maxRecDepth 100000 in
set_option maxHeartbeats 4000000 in
theorem sn_X_then (l : Launch) : zAl l 60 tb_X_then :=
  zal_c (zi_aln (j := 0) (by decide +kernel) rfl rfl) <|
  zal_c (zi_iln (j := 1) (by decide +kernel) rfl rfl) <|
  zal_c (zi_cv (index := 84) (qc := (RX4, TX4, 7)) (by decide +kernel) rfl mk_X_isNoInlaw rfl wm_X_84 wq_X_isNoInlaw ww_X_isNoInlaw ⟨rfl, rfl⟩ ⟨Nat.le_of_ble_eq_true rfl, Nat.le_of_ble_eq_true rfl⟩) <|
  zal_c (zi_ifne (off := 22) (by decide +kernel) rfl rfl) <|
  zal_c (zi_iln (j := 2) (by decide +kernel) rfl rfl) <|
  zal_c (zi_iconst (n := 0) (by decide +kernel) rfl rfl) <|
  zal_c (zi_bipush (n := 100) (by decide +kernel) rfl rfl) <|
  zal_c (zi_cs (index := 44) (by decide +kernel) rfl mk_X_isOutside wm_X_44 wq_X_isOutside ⟨rfl, rfl⟩ ⟨Nat.le_of_ble_eq_true rfl, Nat.le_of_ble_eq_true rfl⟩) <|
  zal_c (zi_ifne (off := 12) (by decide +kernel) rfl rfl) <|
  zal_c (zi_iln (j := 3) (by decide +kernel) rfl rfl) <|
  zal_c (zi_iconst (n := 0) (by decide +kernel) rfl rfl) <|
  zal_c (zi_iconst (n := 2) (by decide +kernel) rfl rfl) <|
  zal_c (zi_cs (index := 44) (by decide +kernel) rfl mk_X_isOutside wm_X_44 wq_X_isOutside ⟨rfl, rfl⟩ ⟨Nat.le_of_ble_eq_true rfl, Nat.le_of_ble_eq_true rfl⟩) <|
  zal_c (zi_ifeq (off := 10) (by decide +kernel) rfl rfl) <|
  zal_c (zi_aln (j := 0) (by decide +kernel) rfl rfl) <|
  zal_c (zi_ldc (n := 48) (by decide +kernel) rfl wc_X_48) <|
  zal_c (zi_cv (index := 49) (qc := (RX4, TX4, 7)) (by decide +kernel) rfl mk_X_tell rfl wm_X_49 wq_X_tell ww_X_tell ⟨rfl, rfl⟩ ⟨Nat.le_of_ble_eq_true rfl, Nat.le_of_ble_eq_true rfl⟩) <|
  zal_c (zi_ir (by decide +kernel) rfl) <|
  zal_c (zi_aln (j := 0) (by decide +kernel) rfl rfl) <|
  zal_c (zi_get (CN := RX4) (T := TX4) (N := 7) (index := 16) (by decide +kernel) rfl rfl (by decide) uw_X4 wf_X_16) <|
  zal_c (zi_aln (j := 0) (by decide +kernel) rfl rfl) <|
  zal_c (zi_get (CN := RX4) (T := TX4) (N := 7) (index := 10) (by decide +kernel) rfl rfl (by decide) uw_X4 wf_X_10) <|
  zal_c (zi_cv (index := 144) (qc := (RX0, TX0, 14)) (by decide +kernel) rfl mk_H_become rfl wm_X_144 wq_H_become ww_H_become ⟨rfl, rfl⟩ ⟨Nat.le_of_ble_eq_true rfl, Nat.le_of_ble_eq_true rfl⟩) <|
  zal_c (zi_aln (j := 0) (by decide +kernel) rfl rfl) <|
  zal_c (zi_get (CN := RX4) (T := TX4) (N := 7) (index := 16) (by decide +kernel) rfl rfl (by decide) uw_X4 wf_X_16) <|
  zal_c (zi_iln (j := 2) (by decide +kernel) rfl rfl) <|
  zal_c (zi_cv (index := 155) (qc := (RX0, TX0, 14)) (by decide +kernel) rfl mk_H_goSundays rfl wm_X_155 wq_H_goSundays ww_H_goSundays ⟨rfl, rfl⟩ ⟨Nat.le_of_ble_eq_true rfl, Nat.le_of_ble_eq_true rfl⟩) <|
  zal_c (zi_iln (j := 3) (by decide +kernel) rfl rfl) <|
  zal_c (zi_ifne (off := 13) (by decide +kernel) rfl rfl) <|
  zal_c (zi_aln (j := 0) (by decide +kernel) rfl rfl) <|
  zal_c (zi_get (CN := RX4) (T := TX4) (N := 7) (index := 16) (by decide +kernel) rfl rfl (by decide) uw_X4 wf_X_16) <|
  zal_c (zi_get (CN := RX0) (T := TX0) (N := 14) (index := 90) (by decide +kernel) rfl rfl (by decide) uw_X0 wf_X_90) <|
  zal_c (zi_iln (j := 1) (by decide +kernel) rfl rfl) <|
  zal_c (zi_iald (by decide +kernel) rfl) <|
  zal_c (zi_ir (by decide +kernel) rfl) <|
  zal_c (zi_iln (j := 3) (by decide +kernel) rfl rfl) <|
  zal_c (zi_iconst (n := 1) (by decide +kernel) rfl rfl) <|
  zal_c (zi_cne (off := 15) (by decide +kernel) rfl rfl) <|
  zal_c (zi_aln (j := 0) (by decide +kernel) rfl rfl) <|
  zal_c (zi_get (CN := RX4) (T := TX4) (N := 7) (index := 16) (by decide +kernel) rfl rfl (by decide) uw_X4 wf_X_16) <|
  zal_c (zi_get (CN := RX0) (T := TX0) (N := 14) (index := 96) (by decide +kernel) rfl rfl (by decide) uw_X0 wf_X_96) <|
  zal_c (zi_iln (j := 1) (by decide +kernel) rfl rfl) <|
  zal_c (zi_iald (by decide +kernel) rfl) <|
  zal_c (zi_goto (off := 12) (by decide +kernel) rfl) <|
  zal_c (zi_aln (j := 0) (by decide +kernel) rfl rfl) <|
  zal_c (zi_get (CN := RX4) (T := TX4) (N := 7) (index := 16) (by decide +kernel) rfl rfl (by decide) uw_X4 wf_X_16) <|
  zal_c (zi_get (CN := RX0) (T := TX0) (N := 14) (index := 99) (by decide +kernel) rfl rfl (by decide) uw_X0 wf_X_99) <|
  zal_c (zi_iln (j := 1) (by decide +kernel) rfl rfl) <|
  zal_c (zi_iald (by decide +kernel) rfl) <|
  zal_c (zi_ir (by decide +kernel) rfl) <|
  zal_n
set_option maxRecDepth 100000 in
set_option maxHeartbeats 4000000 in
theorem sn_X_meets (l : Launch) : zAl l 61 tb_X_meets :=
  zal_c (zi_aln (j := 0) (by decide +kernel) rfl rfl) <|
  zal_c (zi_iln (j := 1) (by decide +kernel) rfl rfl) <|
  zal_c (zi_cv (index := 105) (qc := (RX4, TX4, 7)) (by decide +kernel) rfl mk_X_isNoCouple rfl wm_X_105 wq_X_isNoCouple ww_X_isNoCouple ⟨rfl, rfl⟩ ⟨Nat.le_of_ble_eq_true rfl, Nat.le_of_ble_eq_true rfl⟩) <|
  zal_c (zi_ifne (off := 11) (by decide +kernel) rfl rfl) <|
  zal_c (zi_aln (j := 0) (by decide +kernel) rfl rfl) <|
  zal_c (zi_iln (j := 2) (by decide +kernel) rfl rfl) <|
  zal_c (zi_cv (index := 84) (qc := (RX4, TX4, 7)) (by decide +kernel) rfl mk_X_isNoInlaw rfl wm_X_84 wq_X_isNoInlaw ww_X_isNoInlaw ⟨rfl, rfl⟩ ⟨Nat.le_of_ble_eq_true rfl, Nat.le_of_ble_eq_true rfl⟩) <|
  zal_c (zi_ifeq (off := 10) (by decide +kernel) rfl rfl) <|
  zal_c (zi_aln (j := 0) (by decide +kernel) rfl rfl) <|
  zal_c (zi_ldc (n := 48) (by decide +kernel) rfl wc_X_48) <|
  zal_c (zi_cv (index := 49) (qc := (RX4, TX4, 7)) (by decide +kernel) rfl mk_X_tell rfl wm_X_49 wq_X_tell ww_X_tell ⟨rfl, rfl⟩ ⟨Nat.le_of_ble_eq_true rfl, Nat.le_of_ble_eq_true rfl⟩) <|
  zal_c (zi_ir (by decide +kernel) rfl) <|
  zal_c (zi_aln (j := 0) (by decide +kernel) rfl rfl) <|
  zal_c (zi_get (CN := RX4) (T := TX4) (N := 7) (index := 16) (by decide +kernel) rfl rfl (by decide) uw_X4 wf_X_16) <|
  zal_c (zi_aln (j := 0) (by decide +kernel) rfl rfl) <|
  zal_c (zi_get (CN := RX4) (T := TX4) (N := 7) (index := 10) (by decide +kernel) rfl rfl (by decide) uw_X4 wf_X_10) <|
  zal_c (zi_cv (index := 144) (qc := (RX0, TX0, 14)) (by decide +kernel) rfl mk_H_become rfl wm_X_144 wq_H_become ww_H_become ⟨rfl, rfl⟩ ⟨Nat.le_of_ble_eq_true rfl, Nat.le_of_ble_eq_true rfl⟩) <|
  zal_c (zi_iconst (n := 1) (by decide +kernel) rfl rfl) <|
  zal_c (zi_isn (j := 3) (by decide +kernel) rfl rfl (Nat.le_of_ble_eq_true rfl)) <|
  zal_c (zi_iln (j := 3) (by decide +kernel) rfl rfl) <|
  zal_c (zi_bipush (n := 100) (by decide +kernel) rfl rfl) <|
  zal_c (zi_cgt (off := 31) (by decide +kernel) rfl rfl) <|
  zal_c (zi_aln (j := 0) (by decide +kernel) rfl rfl) <|
  zal_c (zi_get (CN := RX4) (T := TX4) (N := 7) (index := 16) (by decide +kernel) rfl rfl (by decide) uw_X4 wf_X_16) <|
  zal_c (zi_cv (index := 148) (qc := (RX0, TX0, 14)) (by decide +kernel) rfl mk_H_goOneSunday rfl wm_X_148 wq_H_goOneSunday ww_H_goOneSunday ⟨rfl, rfl⟩ ⟨Nat.le_of_ble_eq_true rfl, Nat.le_of_ble_eq_true rfl⟩) <|
  zal_c (zi_aln (j := 0) (by decide +kernel) rfl rfl) <|
  zal_c (zi_get (CN := RX4) (T := TX4) (N := 7) (index := 16) (by decide +kernel) rfl rfl (by decide) uw_X4 wf_X_16) <|
  zal_c (zi_get (CN := RX0) (T := TX0) (N := 14) (index := 151) (by decide +kernel) rfl rfl (by decide) uw_X0 wf_X_151) <|
  zal_c (zi_iln (j := 1) (by decide +kernel) rfl rfl) <|
  zal_c (zi_iald (by decide +kernel) rfl) <|
  zal_c (zi_iln (j := 2) (by decide +kernel) rfl rfl) <|
  zal_c (zi_cne (off := 5) (by decide +kernel) rfl rfl) <|
  zal_c (zi_iln (j := 3) (by decide +kernel) rfl rfl) <|
  zal_c (zi_ir (by decide +kernel) rfl) <|
  zal_c (zi_inc (n := 1) (by decide +kernel) rfl rfl) <|
  zal_c (zi_goto (off := -31) (by decide +kernel) rfl) <|
  zal_c (zi_aln (j := 0) (by decide +kernel) rfl rfl) <|
  zal_c (zi_ldc (n := 159) (by decide +kernel) rfl wc_X_159) <|
  zal_c (zi_cv (index := 49) (qc := (RX4, TX4, 7)) (by decide +kernel) rfl mk_X_tell rfl wm_X_49 wq_X_tell ww_X_tell ⟨rfl, rfl⟩ ⟨Nat.le_of_ble_eq_true rfl, Nat.le_of_ble_eq_true rfl⟩) <|
  zal_c (zi_ir (by decide +kernel) rfl) <|
  zal_n
set_option maxRecDepth 100000 in
set_option maxHeartbeats 4000000 in
theorem sn_X_well (l : Launch) : zAl l 62 tb_X_well :=
  zal_c (zi_aln (j := 0) (by decide +kernel) rfl rfl) <|
  zal_c (zi_iln (j := 1) (by decide +kernel) rfl rfl) <|
  zal_c (zi_cv (index := 105) (qc := (RX4, TX4, 7)) (by decide +kernel) rfl mk_X_isNoCouple rfl wm_X_105 wq_X_isNoCouple ww_X_isNoCouple ⟨rfl, rfl⟩ ⟨Nat.le_of_ble_eq_true rfl, Nat.le_of_ble_eq_true rfl⟩) <|
  zal_c (zi_ifne (off := 16) (by decide +kernel) rfl rfl) <|
  zal_c (zi_iln (j := 2) (by decide +kernel) rfl rfl) <|
  zal_c (zi_sipush (n := -999) (by decide +kernel) rfl rfl) <|
  zal_c (zi_sipush (n := 999) (by decide +kernel) rfl rfl) <|
  zal_c (zi_cs (index := 44) (by decide +kernel) rfl mk_X_isOutside wm_X_44 wq_X_isOutside ⟨rfl, rfl⟩ ⟨Nat.le_of_ble_eq_true rfl, Nat.le_of_ble_eq_true rfl⟩) <|
  zal_c (zi_ifeq (off := 10) (by decide +kernel) rfl rfl) <|
  zal_c (zi_aln (j := 0) (by decide +kernel) rfl rfl) <|
  zal_c (zi_ldc (n := 48) (by decide +kernel) rfl wc_X_48) <|
  zal_c (zi_cv (index := 49) (qc := (RX4, TX4, 7)) (by decide +kernel) rfl mk_X_tell rfl wm_X_49 wq_X_tell ww_X_tell ⟨rfl, rfl⟩ ⟨Nat.le_of_ble_eq_true rfl, Nat.le_of_ble_eq_true rfl⟩) <|
  zal_c (zi_ir (by decide +kernel) rfl) <|
  zal_c (zi_aln (j := 0) (by decide +kernel) rfl rfl) <|
  zal_c (zi_get (CN := RX4) (T := TX4) (N := 7) (index := 16) (by decide +kernel) rfl rfl (by decide) uw_X4 wf_X_16) <|
  zal_c (zi_aln (j := 0) (by decide +kernel) rfl rfl) <|
  zal_c (zi_get (CN := RX4) (T := TX4) (N := 7) (index := 10) (by decide +kernel) rfl rfl (by decide) uw_X4 wf_X_10) <|
  zal_c (zi_cv (index := 144) (qc := (RX0, TX0, 14)) (by decide +kernel) rfl mk_H_become rfl wm_X_144 wq_H_become ww_H_become ⟨rfl, rfl⟩ ⟨Nat.le_of_ble_eq_true rfl, Nat.le_of_ble_eq_true rfl⟩) <|
  zal_c (zi_iconst (n := 0) (by decide +kernel) rfl rfl) <|
  zal_c (zi_isn (j := 3) (by decide +kernel) rfl rfl (Nat.le_of_ble_eq_true rfl)) <|
  zal_c (zi_iln (j := 3) (by decide +kernel) rfl rfl) <|
  zal_c (zi_bipush (n := 100) (by decide +kernel) rfl rfl) <|
  zal_c (zi_cgt (off := 31) (by decide +kernel) rfl rfl) <|
  zal_c (zi_aln (j := 0) (by decide +kernel) rfl rfl) <|
  zal_c (zi_get (CN := RX4) (T := TX4) (N := 7) (index := 16) (by decide +kernel) rfl rfl (by decide) uw_X4 wf_X_16) <|
  zal_c (zi_get (CN := RX0) (T := TX0) (N := 14) (index := 138) (by decide +kernel) rfl rfl (by decide) uw_X0 wf_X_138) <|
  zal_c (zi_iln (j := 1) (by decide +kernel) rfl rfl) <|
  zal_c (zi_iald (by decide +kernel) rfl) <|
  zal_c (zi_iln (j := 2) (by decide +kernel) rfl rfl) <|
  zal_c (zi_clt (off := 5) (by decide +kernel) rfl rfl) <|
  zal_c (zi_iln (j := 3) (by decide +kernel) rfl rfl) <|
  zal_c (zi_ir (by decide +kernel) rfl) <|
  zal_c (zi_aln (j := 0) (by decide +kernel) rfl rfl) <|
  zal_c (zi_get (CN := RX4) (T := TX4) (N := 7) (index := 16) (by decide +kernel) rfl rfl (by decide) uw_X4 wf_X_16) <|
  zal_c (zi_cv (index := 148) (qc := (RX0, TX0, 14)) (by decide +kernel) rfl mk_H_goOneSunday rfl wm_X_148 wq_H_goOneSunday ww_H_goOneSunday ⟨rfl, rfl⟩ ⟨Nat.le_of_ble_eq_true rfl, Nat.le_of_ble_eq_true rfl⟩) <|
  zal_c (zi_inc (n := 1) (by decide +kernel) rfl rfl) <|
  zal_c (zi_goto (off := -31) (by decide +kernel) rfl) <|
  zal_c (zi_aln (j := 0) (by decide +kernel) rfl rfl) <|
  zal_c (zi_ldc (n := 159) (by decide +kernel) rfl wc_X_159) <|
  zal_c (zi_cv (index := 49) (qc := (RX4, TX4, 7)) (by decide +kernel) rfl mk_X_tell rfl wm_X_49 wq_X_tell ww_X_tell ⟨rfl, rfl⟩ ⟨Nat.le_of_ble_eq_true rfl, Nat.le_of_ble_eq_true rfl⟩) <|
  zal_c (zi_ir (by decide +kernel) rfl) <|
  zal_n
set_option maxRecDepth 100000 in
set_option maxHeartbeats 4000000 in
theorem sn_X_cold (l : Launch) : zAl l 63 tb_X_cold :=
  zal_c (zi_aln (j := 0) (by decide +kernel) rfl rfl) <|
  zal_c (zi_iln (j := 1) (by decide +kernel) rfl rfl) <|
  zal_c (zi_cv (index := 84) (qc := (RX4, TX4, 7)) (by decide +kernel) rfl mk_X_isNoInlaw rfl wm_X_84 wq_X_isNoInlaw ww_X_isNoInlaw ⟨rfl, rfl⟩ ⟨Nat.le_of_ble_eq_true rfl, Nat.le_of_ble_eq_true rfl⟩) <|
  zal_c (zi_ifeq (off := 10) (by decide +kernel) rfl rfl) <|
  zal_c (zi_aln (j := 0) (by decide +kernel) rfl rfl) <|
  zal_c (zi_ldc (n := 48) (by decide +kernel) rfl wc_X_48) <|
  zal_c (zi_cv (index := 49) (qc := (RX4, TX4, 7)) (by decide +kernel) rfl mk_X_tell rfl wm_X_49 wq_X_tell ww_X_tell ⟨rfl, rfl⟩ ⟨Nat.le_of_ble_eq_true rfl, Nat.le_of_ble_eq_true rfl⟩) <|
  zal_c (zi_ir (by decide +kernel) rfl) <|
  zal_c (zi_aln (j := 0) (by decide +kernel) rfl rfl) <|
  zal_c (zi_get (CN := RX4) (T := TX4) (N := 7) (index := 16) (by decide +kernel) rfl rfl (by decide) uw_X4 wf_X_16) <|
  zal_c (zi_aln (j := 0) (by decide +kernel) rfl rfl) <|
  zal_c (zi_get (CN := RX4) (T := TX4) (N := 7) (index := 10) (by decide +kernel) rfl rfl (by decide) uw_X4 wf_X_10) <|
  zal_c (zi_cv (index := 144) (qc := (RX0, TX0, 14)) (by decide +kernel) rfl mk_H_become rfl wm_X_144 wq_H_become ww_H_become ⟨rfl, rfl⟩ ⟨Nat.le_of_ble_eq_true rfl, Nat.le_of_ble_eq_true rfl⟩) <|
  zal_c (zi_iconst (n := 0) (by decide +kernel) rfl rfl) <|
  zal_c (zi_isn (j := 2) (by decide +kernel) rfl rfl (Nat.le_of_ble_eq_true rfl)) <|
  zal_c (zi_iln (j := 2) (by decide +kernel) rfl rfl) <|
  zal_c (zi_bipush (n := 100) (by decide +kernel) rfl rfl) <|
  zal_c (zi_cgt (off := 30) (by decide +kernel) rfl rfl) <|
  zal_c (zi_aln (j := 0) (by decide +kernel) rfl rfl) <|
  zal_c (zi_get (CN := RX4) (T := TX4) (N := 7) (index := 16) (by decide +kernel) rfl rfl (by decide) uw_X4 wf_X_16) <|
  zal_c (zi_get (CN := RX0) (T := TX0) (N := 14) (index := 90) (by decide +kernel) rfl rfl (by decide) uw_X0 wf_X_90) <|
  zal_c (zi_iln (j := 1) (by decide +kernel) rfl rfl) <|
  zal_c (zi_iald (by decide +kernel) rfl) <|
  zal_c (zi_ifne (off := 5) (by decide +kernel) rfl rfl) <|
  zal_c (zi_iln (j := 2) (by decide +kernel) rfl rfl) <|
  zal_c (zi_ir (by decide +kernel) rfl) <|
  zal_c (zi_aln (j := 0) (by decide +kernel) rfl rfl) <|
  zal_c (zi_get (CN := RX4) (T := TX4) (N := 7) (index := 16) (by decide +kernel) rfl rfl (by decide) uw_X4 wf_X_16) <|
  zal_c (zi_cv (index := 148) (qc := (RX0, TX0, 14)) (by decide +kernel) rfl mk_H_goOneSunday rfl wm_X_148 wq_H_goOneSunday ww_H_goOneSunday ⟨rfl, rfl⟩ ⟨Nat.le_of_ble_eq_true rfl, Nat.le_of_ble_eq_true rfl⟩) <|
  zal_c (zi_inc (n := 1) (by decide +kernel) rfl rfl) <|
  zal_c (zi_goto (off := -30) (by decide +kernel) rfl) <|
  zal_c (zi_aln (j := 0) (by decide +kernel) rfl rfl) <|
  zal_c (zi_ldc (n := 159) (by decide +kernel) rfl wc_X_159) <|
  zal_c (zi_cv (index := 49) (qc := (RX4, TX4, 7)) (by decide +kernel) rfl mk_X_tell rfl wm_X_49 wq_X_tell ww_X_tell ⟨rfl, rfl⟩ ⟨Nat.le_of_ble_eq_true rfl, Nat.le_of_ble_eq_true rfl⟩) <|
  zal_c (zi_ir (by decide +kernel) rfl) <|
  zal_n
set_option maxRecDepth 100000 in
set_option maxHeartbeats 4000000 in
theorem sn_X_kind (l : Launch) : zAl l 64 tb_X_kind :=
  zal_c (zi_aln (j := 0) (by decide +kernel) rfl rfl) <|
  zal_c (zi_iln (j := 1) (by decide +kernel) rfl rfl) <|
  zal_c (zi_cv (index := 84) (qc := (RX4, TX4, 7)) (by decide +kernel) rfl mk_X_isNoInlaw rfl wm_X_84 wq_X_isNoInlaw ww_X_isNoInlaw ⟨rfl, rfl⟩ ⟨Nat.le_of_ble_eq_true rfl, Nat.le_of_ble_eq_true rfl⟩) <|
  zal_c (zi_ifne (off := 13) (by decide +kernel) rfl rfl) <|
  zal_c (zi_iln (j := 2) (by decide +kernel) rfl rfl) <|
  zal_c (zi_iconst (n := 1) (by decide +kernel) rfl rfl) <|
  zal_c (zi_bipush (n := 60) (by decide +kernel) rfl rfl) <|
  zal_c (zi_cs (index := 44) (by decide +kernel) rfl mk_X_isOutside wm_X_44 wq_X_isOutside ⟨rfl, rfl⟩ ⟨Nat.le_of_ble_eq_true rfl, Nat.le_of_ble_eq_true rfl⟩) <|
  zal_c (zi_ifeq (off := 10) (by decide +kernel) rfl rfl) <|
  zal_c (zi_aln (j := 0) (by decide +kernel) rfl rfl) <|
  zal_c (zi_ldc (n := 48) (by decide +kernel) rfl wc_X_48) <|
  zal_c (zi_cv (index := 49) (qc := (RX4, TX4, 7)) (by decide +kernel) rfl mk_X_tell rfl wm_X_49 wq_X_tell ww_X_tell ⟨rfl, rfl⟩ ⟨Nat.le_of_ble_eq_true rfl, Nat.le_of_ble_eq_true rfl⟩) <|
  zal_c (zi_ir (by decide +kernel) rfl) <|
  zal_c (zi_iconst (n := 0) (by decide +kernel) rfl rfl) <|
  zal_c (zi_isn (j := 3) (by decide +kernel) rfl rfl (Nat.le_of_ble_eq_true rfl)) <|
  zal_c (zi_iconst (n := -1) (by decide +kernel) rfl rfl) <|
  zal_c (zi_is (by decide +kernel) rfl (Nat.le_of_ble_eq_true rfl)) <|
  zal_c (zi_iconst (n := 0) (by decide +kernel) rfl rfl) <|
  zal_c (zi_is (by decide +kernel) rfl (Nat.le_of_ble_eq_true rfl)) <|
  zal_c (zi_il (by decide +kernel) rfl) <|
  zal_c (zi_bipush (n := 6) (by decide +kernel) rfl rfl) <|
  zal_c (zi_cge (off := 67) (by decide +kernel) rfl rfl) <|
  zal_c (zi_aln (j := 0) (by decide +kernel) rfl rfl) <|
  zal_c (zi_get (CN := RX4) (T := TX4) (N := 7) (index := 16) (by decide +kernel) rfl rfl (by decide) uw_X4 wf_X_16) <|
  zal_c (zi_aln (j := 0) (by decide +kernel) rfl rfl) <|
  zal_c (zi_get (CN := RX4) (T := TX4) (N := 7) (index := 10) (by decide +kernel) rfl rfl (by decide) uw_X4 wf_X_10) <|
  zal_c (zi_cv (index := 144) (qc := (RX0, TX0, 14)) (by decide +kernel) rfl mk_H_become rfl wm_X_144 wq_H_become ww_H_become ⟨rfl, rfl⟩ ⟨Nat.le_of_ble_eq_true rfl, Nat.le_of_ble_eq_true rfl⟩) <|
  zal_c (zi_aln (j := 0) (by decide +kernel) rfl rfl) <|
  zal_c (zi_get (CN := RX4) (T := TX4) (N := 7) (index := 16) (by decide +kernel) rfl rfl (by decide) uw_X4 wf_X_16) <|
  zal_c (zi_get (CN := RX0) (T := TX0) (N := 14) (index := 87) (by decide +kernel) rfl rfl (by decide) uw_X0 wf_X_87) <|
  zal_c (zi_iln (j := 1) (by decide +kernel) rfl rfl) <|
  zal_c (zi_il (by decide +kernel) rfl) <|
  zal_c (zi_iast (by decide +kernel) rfl) <|
  zal_c (zi_aln (j := 0) (by decide +kernel) rfl rfl) <|
  zal_c (zi_get (CN := RX4) (T := TX4) (N := 7) (index := 16) (by decide +kernel) rfl rfl (by decide) uw_X4 wf_X_16) <|
  zal_c (zi_iln (j := 2) (by decide +kernel) rfl rfl) <|
  zal_c (zi_cv (index := 155) (qc := (RX0, TX0, 14)) (by decide +kernel) rfl mk_H_goSundays rfl wm_X_155 wq_H_goSundays ww_H_goSundays ⟨rfl, rfl⟩ ⟨Nat.le_of_ble_eq_true rfl, Nat.le_of_ble_eq_true rfl⟩) <|
  zal_c (zi_aln (j := 0) (by decide +kernel) rfl rfl) <|
  zal_c (zi_get (CN := RX4) (T := TX4) (N := 7) (index := 16) (by decide +kernel) rfl rfl (by decide) uw_X4 wf_X_16) <|
  zal_c (zi_get (CN := RX0) (T := TX0) (N := 14) (index := 99) (by decide +kernel) rfl rfl (by decide) uw_X0 wf_X_99) <|
  zal_c (zi_iln (j := 1) (by decide +kernel) rfl rfl) <|
  zal_c (zi_iald (by decide +kernel) rfl) <|
  zal_c (zi_il (by decide +kernel) rfl) <|
  zal_c (zi_cle (off := 17) (by decide +kernel) rfl rfl) <|
  zal_c (zi_il (by decide +kernel) rfl) <|
  zal_c (zi_isn (j := 3) (by decide +kernel) rfl rfl (Nat.le_of_ble_eq_true rfl)) <|
  zal_c (zi_aln (j := 0) (by decide +kernel) rfl rfl) <|
  zal_c (zi_get (CN := RX4) (T := TX4) (N := 7) (index := 16) (by decide +kernel) rfl rfl (by decide) uw_X4 wf_X_16) <|
  zal_c (zi_get (CN := RX0) (T := TX0) (N := 14) (index := 99) (by decide +kernel) rfl rfl (by decide) uw_X0 wf_X_99) <|
  zal_c (zi_iln (j := 1) (by decide +kernel) rfl rfl) <|
  zal_c (zi_iald (by decide +kernel) rfl) <|
  zal_c (zi_is (by decide +kernel) rfl (Nat.le_of_ble_eq_true rfl)) <|
  zal_c (zi_inc (n := 1) (by decide +kernel) rfl rfl) <|
  zal_c (zi_goto (off := -68) (by decide +kernel) rfl) <|
  zal_c (zi_iln (j := 3) (by decide +kernel) rfl rfl) <|
  zal_c (zi_ir (by decide +kernel) rfl) <|
  zal_n
set_option maxRecDepth 100000 in
set_option maxHeartbeats 4000000 in
theorem sn_X_warm (l : Launch) : zAl l 65 tb_X_warm :=
  zal_c (zi_aln (j := 0) (by decide +kernel) rfl rfl) <|
  zal_c (zi_iln (j := 1) (by decide +kernel) rfl rfl) <|
  zal_c (zi_cv (index := 84) (qc := (RX4, TX4, 7)) (by decide +kernel) rfl mk_X_isNoInlaw rfl wm_X_84 wq_X_isNoInlaw ww_X_isNoInlaw ⟨rfl, rfl⟩ ⟨Nat.le_of_ble_eq_true rfl, Nat.le_of_ble_eq_true rfl⟩) <|
  zal_c (zi_ifne (off := 24) (by decide +kernel) rfl rfl) <|
  zal_c (zi_iln (j := 2) (by decide +kernel) rfl rfl) <|
  zal_c (zi_iconst (n := 1) (by decide +kernel) rfl rfl) <|
  zal_c (zi_bipush (n := 60) (by decide +kernel) rfl rfl) <|
  zal_c (zi_cs (index := 44) (by decide +kernel) rfl mk_X_isOutside wm_X_44 wq_X_isOutside ⟨rfl, rfl⟩ ⟨Nat.le_of_ble_eq_true rfl, Nat.le_of_ble_eq_true rfl⟩) <|
  zal_c (zi_ifne (off := 14) (by decide +kernel) rfl rfl) <|
  zal_c (zi_iln (j := 3) (by decide +kernel) rfl rfl) <|
  zal_c (zi_iconst (n := 0) (by decide +kernel) rfl rfl) <|
  zal_c (zi_sipush (n := 9999) (by decide +kernel) rfl rfl) <|
  zal_c (zi_cs (index := 44) (by decide +kernel) rfl mk_X_isOutside wm_X_44 wq_X_isOutside ⟨rfl, rfl⟩ ⟨Nat.le_of_ble_eq_true rfl, Nat.le_of_ble_eq_true rfl⟩) <|
  zal_c (zi_ifeq (off := 10) (by decide +kernel) rfl rfl) <|
  zal_c (zi_aln (j := 0) (by decide +kernel) rfl rfl) <|
  zal_c (zi_ldc (n := 48) (by decide +kernel) rfl wc_X_48) <|
  zal_c (zi_cv (index := 49) (qc := (RX4, TX4, 7)) (by decide +kernel) rfl mk_X_tell rfl wm_X_49 wq_X_tell ww_X_tell ⟨rfl, rfl⟩ ⟨Nat.le_of_ble_eq_true rfl, Nat.le_of_ble_eq_true rfl⟩) <|
  zal_c (zi_ir (by decide +kernel) rfl) <|
  zal_c (zi_iconst (n := 0) (by decide +kernel) rfl rfl) <|
  zal_c (zi_is (by decide +kernel) rfl (Nat.le_of_ble_eq_true rfl)) <|
  zal_c (zi_il (by decide +kernel) rfl) <|
  zal_c (zi_bipush (n := 99) (by decide +kernel) rfl rfl) <|
  zal_c (zi_cgt (off := 55) (by decide +kernel) rfl rfl) <|
  zal_c (zi_aln (j := 0) (by decide +kernel) rfl rfl) <|
  zal_c (zi_get (CN := RX4) (T := TX4) (N := 7) (index := 16) (by decide +kernel) rfl rfl (by decide) uw_X4 wf_X_16) <|
  zal_c (zi_aln (j := 0) (by decide +kernel) rfl rfl) <|
  zal_c (zi_get (CN := RX4) (T := TX4) (N := 7) (index := 10) (by decide +kernel) rfl rfl (by decide) uw_X4 wf_X_10) <|
  zal_c (zi_cv (index := 144) (qc := (RX0, TX0, 14)) (by decide +kernel) rfl mk_H_become rfl wm_X_144 wq_H_become ww_H_become ⟨rfl, rfl⟩ ⟨Nat.le_of_ble_eq_true rfl, Nat.le_of_ble_eq_true rfl⟩) <|
  zal_c (zi_aln (j := 0) (by decide +kernel) rfl rfl) <|
  zal_c (zi_get (CN := RX4) (T := TX4) (N := 7) (index := 16) (by decide +kernel) rfl rfl (by decide) uw_X4 wf_X_16) <|
  zal_c (zi_get (CN := RX0) (T := TX0) (N := 14) (index := 90) (by decide +kernel) rfl rfl (by decide) uw_X0 wf_X_90) <|
  zal_c (zi_iln (j := 1) (by decide +kernel) rfl rfl) <|
  zal_c (zi_il (by decide +kernel) rfl) <|
  zal_c (zi_iast (by decide +kernel) rfl) <|
  zal_c (zi_aln (j := 0) (by decide +kernel) rfl rfl) <|
  zal_c (zi_get (CN := RX4) (T := TX4) (N := 7) (index := 16) (by decide +kernel) rfl rfl (by decide) uw_X4 wf_X_16) <|
  zal_c (zi_iln (j := 2) (by decide +kernel) rfl rfl) <|
  zal_c (zi_cv (index := 155) (qc := (RX0, TX0, 14)) (by decide +kernel) rfl mk_H_goSundays rfl wm_X_155 wq_H_goSundays ww_H_goSundays ⟨rfl, rfl⟩ ⟨Nat.le_of_ble_eq_true rfl, Nat.le_of_ble_eq_true rfl⟩) <|
  zal_c (zi_aln (j := 0) (by decide +kernel) rfl rfl) <|
  zal_c (zi_get (CN := RX4) (T := TX4) (N := 7) (index := 16) (by decide +kernel) rfl rfl (by decide) uw_X4 wf_X_16) <|
  zal_c (zi_get (CN := RX0) (T := TX0) (N := 14) (index := 99) (by decide +kernel) rfl rfl (by decide) uw_X0 wf_X_99) <|
  zal_c (zi_iln (j := 1) (by decide +kernel) rfl rfl) <|
  zal_c (zi_iald (by decide +kernel) rfl) <|
  zal_c (zi_iln (j := 3) (by decide +kernel) rfl rfl) <|
  zal_c (zi_clt (off := 6) (by decide +kernel) rfl rfl) <|
  zal_c (zi_il (by decide +kernel) rfl) <|
  zal_c (zi_ir (by decide +kernel) rfl) <|
  zal_c (zi_inc (n := 1) (by decide +kernel) rfl rfl) <|
  zal_c (zi_goto (off := -56) (by decide +kernel) rfl) <|
  zal_c (zi_aln (j := 0) (by decide +kernel) rfl rfl) <|
  zal_c (zi_ldc (n := 159) (by decide +kernel) rfl wc_X_159) <|
  zal_c (zi_cv (index := 49) (qc := (RX4, TX4, 7)) (by decide +kernel) rfl mk_X_tell rfl wm_X_49 wq_X_tell ww_X_tell ⟨rfl, rfl⟩ ⟨Nat.le_of_ble_eq_true rfl, Nat.le_of_ble_eq_true rfl⟩) <|
  zal_c (zi_ir (by decide +kernel) rfl) <|
  zal_n
set_option maxRecDepth 100000 in
set_option maxHeartbeats 4000000 in
theorem sn_X_sit (l : Launch) : zAl l 66 tb_X_sit :=
  zal_c (zi_iln (j := 1) (by decide +kernel) rfl rfl) <|
  zal_c (zi_iconst (n := 1) (by decide +kernel) rfl rfl) <|
  zal_c (zi_bipush (n := 60) (by decide +kernel) rfl rfl) <|
  zal_c (zi_cs (index := 44) (by decide +kernel) rfl mk_X_isOutside wm_X_44 wq_X_isOutside ⟨rfl, rfl⟩ ⟨Nat.le_of_ble_eq_true rfl, Nat.le_of_ble_eq_true rfl⟩) <|
  zal_c (zi_ifeq (off := 10) (by decide +kernel) rfl rfl) <|
  zal_c (zi_aln (j := 0) (by decide +kernel) rfl rfl) <|
  zal_c (zi_ldc (n := 48) (by decide +kernel) rfl wc_X_48) <|
  zal_c (zi_cv (index := 49) (qc := (RX4, TX4, 7)) (by decide +kernel) rfl mk_X_tell rfl wm_X_49 wq_X_tell ww_X_tell ⟨rfl, rfl⟩ ⟨Nat.le_of_ble_eq_true rfl, Nat.le_of_ble_eq_true rfl⟩) <|
  zal_c (zi_ir (by decide +kernel) rfl) <|
  zal_c (zi_iconst (n := -1) (by decide +kernel) rfl rfl) <|
  zal_c (zi_isn (j := 2) (by decide +kernel) rfl rfl (Nat.le_of_ble_eq_true rfl)) <|
  zal_c (zi_iconst (n := 0) (by decide +kernel) rfl rfl) <|
  zal_c (zi_isn (j := 3) (by decide +kernel) rfl rfl (Nat.le_of_ble_eq_true rfl)) <|
  zal_c (zi_iconst (n := 0) (by decide +kernel) rfl rfl) <|
  zal_c (zi_is (by decide +kernel) rfl (Nat.le_of_ble_eq_true rfl)) <|
  zal_c (zi_il (by decide +kernel) rfl) <|
  zal_c (zi_aln (j := 0) (by decide +kernel) rfl rfl) <|
  zal_c (zi_get (CN := RX4) (T := TX4) (N := 7) (index := 10) (by decide +kernel) rfl rfl (by decide) uw_X4 wf_X_10) <|
  zal_c (zi_get (CN := RX0) (T := TX0) (N := 14) (index := 77) (by decide +kernel) rfl rfl (by decide) uw_X0 wf_X_77) <|
  zal_c (zi_cge (off := 78) (by decide +kernel) rfl rfl) <|
  zal_c (zi_aln (j := 0) (by decide +kernel) rfl rfl) <|
  zal_c (zi_get (CN := RX4) (T := TX4) (N := 7) (index := 10) (by decide +kernel) rfl rfl (by decide) uw_X4 wf_X_10) <|
  zal_c (zi_get (CN := RX0) (T := TX0) (N := 14) (index := 93) (by decide +kernel) rfl rfl (by decide) uw_X0 wf_X_93) <|
  zal_c (zi_il (by decide +kernel) rfl) <|
  zal_c (zi_iald (by decide +kernel) rfl) <|
  zal_c (zi_ifne (off := 59) (by decide +kernel) rfl rfl) <|
  zal_c (zi_aln (j := 0) (by decide +kernel) rfl rfl) <|
  zal_c (zi_get (CN := RX4) (T := TX4) (N := 7) (index := 16) (by decide +kernel) rfl rfl (by decide) uw_X4 wf_X_16) <|
  zal_c (zi_aln (j := 0) (by decide +kernel) rfl rfl) <|
  zal_c (zi_get (CN := RX4) (T := TX4) (N := 7) (index := 10) (by decide +kernel) rfl rfl (by decide) uw_X4 wf_X_10) <|
  zal_c (zi_cv (index := 144) (qc := (RX0, TX0, 14)) (by decide +kernel) rfl mk_H_become rfl wm_X_144 wq_H_become ww_H_become ⟨rfl, rfl⟩ ⟨Nat.le_of_ble_eq_true rfl, Nat.le_of_ble_eq_true rfl⟩) <|
  zal_c (zi_aln (j := 0) (by decide +kernel) rfl rfl) <|
  zal_c (zi_get (CN := RX4) (T := TX4) (N := 7) (index := 16) (by decide +kernel) rfl rfl (by decide) uw_X4 wf_X_16) <|
  zal_c (zi_get (CN := RX0) (T := TX0) (N := 14) (index := 93) (by decide +kernel) rfl rfl (by decide) uw_X0 wf_X_93) <|
  zal_c (zi_il (by decide +kernel) rfl) <|
  zal_c (zi_iconst (n := 1) (by decide +kernel) rfl rfl) <|
  zal_c (zi_iast (by decide +kernel) rfl) <|
  zal_c (zi_aln (j := 0) (by decide +kernel) rfl rfl) <|
  zal_c (zi_get (CN := RX4) (T := TX4) (N := 7) (index := 16) (by decide +kernel) rfl rfl (by decide) uw_X4 wf_X_16) <|
  zal_c (zi_iln (j := 1) (by decide +kernel) rfl rfl) <|
  zal_c (zi_cv (index := 155) (qc := (RX0, TX0, 14)) (by decide +kernel) rfl mk_H_goSundays rfl wm_X_155 wq_H_goSundays ww_H_goSundays ⟨rfl, rfl⟩ ⟨Nat.le_of_ble_eq_true rfl, Nat.le_of_ble_eq_true rfl⟩) <|
  zal_c (zi_aln (j := 0) (by decide +kernel) rfl rfl) <|
  zal_c (zi_get (CN := RX4) (T := TX4) (N := 7) (index := 16) (by decide +kernel) rfl rfl (by decide) uw_X4 wf_X_16) <|
  zal_c (zi_cv (index := 67) (qc := (RX0, TX0, 14)) (by decide +kernel) rfl mk_H_wellOfAll rfl wm_X_67 wq_H_wellOfAll ww_H_wellOfAll ⟨rfl, rfl⟩ ⟨Nat.le_of_ble_eq_true rfl, Nat.le_of_ble_eq_true rfl⟩) <|
  zal_c (zi_is (by decide +kernel) rfl (Nat.le_of_ble_eq_true rfl)) <|
  zal_c (zi_iln (j := 2) (by decide +kernel) rfl rfl) <|
  zal_c (zi_iconst (n := -1) (by decide +kernel) rfl rfl) <|
  zal_c (zi_ceq (off := 9) (by decide +kernel) rfl rfl) <|
  zal_c (zi_il (by decide +kernel) rfl) <|
  zal_c (zi_iln (j := 3) (by decide +kernel) rfl rfl) <|
  zal_c (zi_cle (off := 9) (by decide +kernel) rfl rfl) <|
  zal_c (zi_il (by decide +kernel) rfl) <|
  zal_c (zi_isn (j := 2) (by decide +kernel) rfl rfl (Nat.le_of_ble_eq_true rfl)) <|
  zal_c (zi_il (by decide +kernel) rfl) <|
  zal_c (zi_isn (j := 3) (by decide +kernel) rfl rfl (Nat.le_of_ble_eq_true rfl)) <|
  zal_c (zi_inc (n := 1) (by decide +kernel) rfl rfl) <|
  zal_c (zi_goto (off := -84) (by decide +kernel) rfl) <|
  zal_c (zi_iln (j := 2) (by decide +kernel) rfl rfl) <|
  zal_c (zi_iconst (n := -1) (by decide +kernel) rfl rfl) <|
  zal_c (zi_cne (off := 12) (by decide +kernel) rfl rfl) <|
  zal_c (zi_aln (j := 0) (by decide +kernel) rfl rfl) <|
  zal_c (zi_ldc (n := 159) (by decide +kernel) rfl wc_X_159) <|
  zal_c (zi_cv (index := 49) (qc := (RX4, TX4, 7)) (by decide +kernel) rfl mk_X_tell rfl wm_X_49 wq_X_tell ww_X_tell ⟨rfl, rfl⟩ ⟨Nat.le_of_ble_eq_true rfl, Nat.le_of_ble_eq_true rfl⟩) <|
  zal_c (zi_goto (off := 4) (by decide +kernel) rfl) <|
  zal_c (zi_iln (j := 2) (by decide +kernel) rfl rfl) <|
  zal_c (zi_ir (by decide +kernel) rfl) <|
  zal_n
set_option maxRecDepth 100000 in
set_option maxHeartbeats 4000000 in
theorem sn_X_loud (l : Launch) : zAl l 67 tb_X_loud :=
  zal_c (zi_aln (j := 0) (by decide +kernel) rfl rfl) <|
  zal_c (zi_iln (j := 1) (by decide +kernel) rfl rfl) <|
  zal_c (zi_cv (index := 105) (qc := (RX4, TX4, 7)) (by decide +kernel) rfl mk_X_isNoCouple rfl wm_X_105 wq_X_isNoCouple ww_X_isNoCouple ⟨rfl, rfl⟩ ⟨Nat.le_of_ble_eq_true rfl, Nat.le_of_ble_eq_true rfl⟩) <|
  zal_c (zi_ifne (off := 13) (by decide +kernel) rfl rfl) <|
  zal_c (zi_iln (j := 2) (by decide +kernel) rfl rfl) <|
  zal_c (zi_iconst (n := 1) (by decide +kernel) rfl rfl) <|
  zal_c (zi_bipush (n := 60) (by decide +kernel) rfl rfl) <|
  zal_c (zi_cs (index := 44) (by decide +kernel) rfl mk_X_isOutside wm_X_44 wq_X_isOutside ⟨rfl, rfl⟩ ⟨Nat.le_of_ble_eq_true rfl, Nat.le_of_ble_eq_true rfl⟩) <|
  zal_c (zi_ifeq (off := 10) (by decide +kernel) rfl rfl) <|
  zal_c (zi_aln (j := 0) (by decide +kernel) rfl rfl) <|
  zal_c (zi_ldc (n := 48) (by decide +kernel) rfl wc_X_48) <|
  zal_c (zi_cv (index := 49) (qc := (RX4, TX4, 7)) (by decide +kernel) rfl mk_X_tell rfl wm_X_49 wq_X_tell ww_X_tell ⟨rfl, rfl⟩ ⟨Nat.le_of_ble_eq_true rfl, Nat.le_of_ble_eq_true rfl⟩) <|
  zal_c (zi_ir (by decide +kernel) rfl) <|
  zal_c (zi_iconst (n := 0) (by decide +kernel) rfl rfl) <|
  zal_c (zi_isn (j := 3) (by decide +kernel) rfl rfl (Nat.le_of_ble_eq_true rfl)) <|
  zal_c (zi_sipush (n := -1000) (by decide +kernel) rfl rfl) <|
  zal_c (zi_is (by decide +kernel) rfl (Nat.le_of_ble_eq_true rfl)) <|
  zal_c (zi_iconst (n := 0) (by decide +kernel) rfl rfl) <|
  zal_c (zi_is (by decide +kernel) rfl (Nat.le_of_ble_eq_true rfl)) <|
  zal_c (zi_il (by decide +kernel) rfl) <|
  zal_c (zi_bipush (n := 9) (by decide +kernel) rfl rfl) <|
  zal_c (zi_cgt (off := 67) (by decide +kernel) rfl rfl) <|
  zal_c (zi_aln (j := 0) (by decide +kernel) rfl rfl) <|
  zal_c (zi_get (CN := RX4) (T := TX4) (N := 7) (index := 16) (by decide +kernel) rfl rfl (by decide) uw_X4 wf_X_16) <|
  zal_c (zi_aln (j := 0) (by decide +kernel) rfl rfl) <|
  zal_c (zi_get (CN := RX4) (T := TX4) (N := 7) (index := 10) (by decide +kernel) rfl rfl (by decide) uw_X4 wf_X_10) <|
  zal_c (zi_cv (index := 144) (qc := (RX0, TX0, 14)) (by decide +kernel) rfl mk_H_become rfl wm_X_144 wq_H_become ww_H_become ⟨rfl, rfl⟩ ⟨Nat.le_of_ble_eq_true rfl, Nat.le_of_ble_eq_true rfl⟩) <|
  zal_c (zi_aln (j := 0) (by decide +kernel) rfl rfl) <|
  zal_c (zi_get (CN := RX4) (T := TX4) (N := 7) (index := 16) (by decide +kernel) rfl rfl (by decide) uw_X4 wf_X_16) <|
  zal_c (zi_get (CN := RX0) (T := TX0) (N := 14) (index := 135) (by decide +kernel) rfl rfl (by decide) uw_X0 wf_X_135) <|
  zal_c (zi_iln (j := 1) (by decide +kernel) rfl rfl) <|
  zal_c (zi_il (by decide +kernel) rfl) <|
  zal_c (zi_iast (by decide +kernel) rfl) <|
  zal_c (zi_aln (j := 0) (by decide +kernel) rfl rfl) <|
  zal_c (zi_get (CN := RX4) (T := TX4) (N := 7) (index := 16) (by decide +kernel) rfl rfl (by decide) uw_X4 wf_X_16) <|
  zal_c (zi_iln (j := 2) (by decide +kernel) rfl rfl) <|
  zal_c (zi_cv (index := 155) (qc := (RX0, TX0, 14)) (by decide +kernel) rfl mk_H_goSundays rfl wm_X_155 wq_H_goSundays ww_H_goSundays ⟨rfl, rfl⟩ ⟨Nat.le_of_ble_eq_true rfl, Nat.le_of_ble_eq_true rfl⟩) <|
  zal_c (zi_aln (j := 0) (by decide +kernel) rfl rfl) <|
  zal_c (zi_get (CN := RX4) (T := TX4) (N := 7) (index := 16) (by decide +kernel) rfl rfl (by decide) uw_X4 wf_X_16) <|
  zal_c (zi_get (CN := RX0) (T := TX0) (N := 14) (index := 138) (by decide +kernel) rfl rfl (by decide) uw_X0 wf_X_138) <|
  zal_c (zi_iln (j := 1) (by decide +kernel) rfl rfl) <|
  zal_c (zi_iald (by decide +kernel) rfl) <|
  zal_c (zi_il (by decide +kernel) rfl) <|
  zal_c (zi_cle (off := 17) (by decide +kernel) rfl rfl) <|
  zal_c (zi_il (by decide +kernel) rfl) <|
  zal_c (zi_isn (j := 3) (by decide +kernel) rfl rfl (Nat.le_of_ble_eq_true rfl)) <|
  zal_c (zi_aln (j := 0) (by decide +kernel) rfl rfl) <|
  zal_c (zi_get (CN := RX4) (T := TX4) (N := 7) (index := 16) (by decide +kernel) rfl rfl (by decide) uw_X4 wf_X_16) <|
  zal_c (zi_get (CN := RX0) (T := TX0) (N := 14) (index := 138) (by decide +kernel) rfl rfl (by decide) uw_X0 wf_X_138) <|
  zal_c (zi_iln (j := 1) (by decide +kernel) rfl rfl) <|
  zal_c (zi_iald (by decide +kernel) rfl) <|
  zal_c (zi_is (by decide +kernel) rfl (Nat.le_of_ble_eq_true rfl)) <|
  zal_c (zi_inc (n := 1) (by decide +kernel) rfl rfl) <|
  zal_c (zi_goto (off := -68) (by decide +kernel) rfl) <|
  zal_c (zi_iln (j := 3) (by decide +kernel) rfl rfl) <|
  zal_c (zi_ir (by decide +kernel) rfl) <|
  zal_n
set_option maxRecDepth 100000 in
set_option maxHeartbeats 4000000 in
theorem sn_X_stoke (l : Launch) : zAl l 68 tb_X_stoke :=
  zal_c (zi_iln (j := 1) (by decide +kernel) rfl rfl) <|
  zal_c (zi_iconst (n := 1) (by decide +kernel) rfl rfl) <|
  zal_c (zi_bipush (n := 60) (by decide +kernel) rfl rfl) <|
  zal_c (zi_cs (index := 44) (by decide +kernel) rfl mk_X_isOutside wm_X_44 wq_X_isOutside ⟨rfl, rfl⟩ ⟨Nat.le_of_ble_eq_true rfl, Nat.le_of_ble_eq_true rfl⟩) <|
  zal_c (zi_ifeq (off := 10) (by decide +kernel) rfl rfl) <|
  zal_c (zi_aln (j := 0) (by decide +kernel) rfl rfl) <|
  zal_c (zi_ldc (n := 48) (by decide +kernel) rfl wc_X_48) <|
  zal_c (zi_cv (index := 49) (qc := (RX4, TX4, 7)) (by decide +kernel) rfl mk_X_tell rfl wm_X_49 wq_X_tell ww_X_tell ⟨rfl, rfl⟩ ⟨Nat.le_of_ble_eq_true rfl, Nat.le_of_ble_eq_true rfl⟩) <|
  zal_c (zi_ir (by decide +kernel) rfl) <|
  zal_c (zi_iconst (n := 0) (by decide +kernel) rfl rfl) <|
  zal_c (zi_isn (j := 2) (by decide +kernel) rfl rfl (Nat.le_of_ble_eq_true rfl)) <|
  zal_c (zi_iconst (n := -1) (by decide +kernel) rfl rfl) <|
  zal_c (zi_isn (j := 3) (by decide +kernel) rfl rfl (Nat.le_of_ble_eq_true rfl)) <|
  zal_c (zi_iconst (n := 0) (by decide +kernel) rfl rfl) <|
  zal_c (zi_is (by decide +kernel) rfl (Nat.le_of_ble_eq_true rfl)) <|
  zal_c (zi_il (by decide +kernel) rfl) <|
  zal_c (zi_bipush (n := 20) (by decide +kernel) rfl rfl) <|
  zal_c (zi_cgt (off := 58) (by decide +kernel) rfl rfl) <|
  zal_c (zi_aln (j := 0) (by decide +kernel) rfl rfl) <|
  zal_c (zi_get (CN := RX4) (T := TX4) (N := 7) (index := 16) (by decide +kernel) rfl rfl (by decide) uw_X4 wf_X_16) <|
  zal_c (zi_aln (j := 0) (by decide +kernel) rfl rfl) <|
  zal_c (zi_get (CN := RX4) (T := TX4) (N := 7) (index := 10) (by decide +kernel) rfl rfl (by decide) uw_X4 wf_X_10) <|
  zal_c (zi_cv (index := 144) (qc := (RX0, TX0, 14)) (by decide +kernel) rfl mk_H_become rfl wm_X_144 wq_H_become ww_H_become ⟨rfl, rfl⟩ ⟨Nat.le_of_ble_eq_true rfl, Nat.le_of_ble_eq_true rfl⟩) <|
  zal_c (zi_aln (j := 0) (by decide +kernel) rfl rfl) <|
  zal_c (zi_get (CN := RX4) (T := TX4) (N := 7) (index := 16) (by decide +kernel) rfl rfl (by decide) uw_X4 wf_X_16) <|
  zal_c (zi_il (by decide +kernel) rfl) <|
  zal_c (zi_puti (CN := RX0) (T := TX0) (N := 14) (index := 53) (ty0 := tyX0) (by decide +kernel) rfl rfl (by decide) uw_X0 wf_X_53 tyX0_ok nmX0 rfl (by decide +kernel)) <|
  zal_c (zi_aln (j := 0) (by decide +kernel) rfl rfl) <|
  zal_c (zi_get (CN := RX4) (T := TX4) (N := 7) (index := 16) (by decide +kernel) rfl rfl (by decide) uw_X4 wf_X_16) <|
  zal_c (zi_iln (j := 1) (by decide +kernel) rfl rfl) <|
  zal_c (zi_cv (index := 155) (qc := (RX0, TX0, 14)) (by decide +kernel) rfl mk_H_goSundays rfl wm_X_155 wq_H_goSundays ww_H_goSundays ⟨rfl, rfl⟩ ⟨Nat.le_of_ble_eq_true rfl, Nat.le_of_ble_eq_true rfl⟩) <|
  zal_c (zi_aln (j := 0) (by decide +kernel) rfl rfl) <|
  zal_c (zi_get (CN := RX4) (T := TX4) (N := 7) (index := 16) (by decide +kernel) rfl rfl (by decide) uw_X4 wf_X_16) <|
  zal_c (zi_cv (index := 70) (qc := (RX0, TX0, 14)) (by decide +kernel) rfl mk_H_warmOfAll rfl wm_X_70 wq_H_warmOfAll ww_H_warmOfAll ⟨rfl, rfl⟩ ⟨Nat.le_of_ble_eq_true rfl, Nat.le_of_ble_eq_true rfl⟩) <|
  zal_c (zi_is (by decide +kernel) rfl (Nat.le_of_ble_eq_true rfl)) <|
  zal_c (zi_il (by decide +kernel) rfl) <|
  zal_c (zi_iln (j := 3) (by decide +kernel) rfl rfl) <|
  zal_c (zi_cle (off := 9) (by decide +kernel) rfl rfl) <|
  zal_c (zi_il (by decide +kernel) rfl) <|
  zal_c (zi_isn (j := 2) (by decide +kernel) rfl rfl (Nat.le_of_ble_eq_true rfl)) <|
  zal_c (zi_il (by decide +kernel) rfl) <|
  zal_c (zi_isn (j := 3) (by decide +kernel) rfl rfl (Nat.le_of_ble_eq_true rfl)) <|
  zal_c (zi_inc (n := 1) (by decide +kernel) rfl rfl) <|
  zal_c (zi_goto (off := -59) (by decide +kernel) rfl) <|
  zal_c (zi_iln (j := 2) (by decide +kernel) rfl rfl) <|
  zal_c (zi_ir (by decide +kernel) rfl) <|
  zal_n
set_option maxRecDepth 100000 in
set_option maxHeartbeats 4000000 in
theorem sn_X_lonely (l : Launch) : zAl l 69 tb_X_lonely :=
  zal_c (zi_iln (j := 1) (by decide +kernel) rfl rfl) <|
  zal_c (zi_iconst (n := 0) (by decide +kernel) rfl rfl) <|
  zal_c (zi_bipush (n := 100) (by decide +kernel) rfl rfl) <|
  zal_c (zi_cs (index := 44) (by decide +kernel) rfl mk_X_isOutside wm_X_44 wq_X_isOutside ⟨rfl, rfl⟩ ⟨Nat.le_of_ble_eq_true rfl, Nat.le_of_ble_eq_true rfl⟩) <|
  zal_c (zi_ifeq (off := 10) (by decide +kernel) rfl rfl) <|
  zal_c (zi_aln (j := 0) (by decide +kernel) rfl rfl) <|
  zal_c (zi_ldc (n := 48) (by decide +kernel) rfl wc_X_48) <|
  zal_c (zi_cv (index := 49) (qc := (RX4, TX4, 7)) (by decide +kernel) rfl mk_X_tell rfl wm_X_49 wq_X_tell ww_X_tell ⟨rfl, rfl⟩ ⟨Nat.le_of_ble_eq_true rfl, Nat.le_of_ble_eq_true rfl⟩) <|
  zal_c (zi_ir (by decide +kernel) rfl) <|
  zal_c (zi_aln (j := 0) (by decide +kernel) rfl rfl) <|
  zal_c (zi_get (CN := RX4) (T := TX4) (N := 7) (index := 10) (by decide +kernel) rfl rfl (by decide) uw_X4 wf_X_10) <|
  zal_c (zi_get (CN := RX0) (T := TX0) (N := 14) (index := 77) (by decide +kernel) rfl rfl (by decide) uw_X0 wf_X_77) <|
  zal_c (zi_ifne (off := 10) (by decide +kernel) rfl rfl) <|
  zal_c (zi_aln (j := 0) (by decide +kernel) rfl rfl) <|
  zal_c (zi_ldc (n := 159) (by decide +kernel) rfl wc_X_159) <|
  zal_c (zi_cv (index := 49) (qc := (RX4, TX4, 7)) (by decide +kernel) rfl mk_X_tell rfl wm_X_49 wq_X_tell ww_X_tell ⟨rfl, rfl⟩ ⟨Nat.le_of_ble_eq_true rfl, Nat.le_of_ble_eq_true rfl⟩) <|
  zal_c (zi_ir (by decide +kernel) rfl) <|
  zal_c (zi_aln (j := 0) (by decide +kernel) rfl rfl) <|
  zal_c (zi_get (CN := RX4) (T := TX4) (N := 7) (index := 16) (by decide +kernel) rfl rfl (by decide) uw_X4 wf_X_16) <|
  zal_c (zi_aln (j := 0) (by decide +kernel) rfl rfl) <|
  zal_c (zi_get (CN := RX4) (T := TX4) (N := 7) (index := 10) (by decide +kernel) rfl rfl (by decide) uw_X4 wf_X_10) <|
  zal_c (zi_cv (index := 144) (qc := (RX0, TX0, 14)) (by decide +kernel) rfl mk_H_become rfl wm_X_144 wq_H_become ww_H_become ⟨rfl, rfl⟩ ⟨Nat.le_of_ble_eq_true rfl, Nat.le_of_ble_eq_true rfl⟩) <|
  zal_c (zi_aln (j := 0) (by decide +kernel) rfl rfl) <|
  zal_c (zi_get (CN := RX4) (T := TX4) (N := 7) (index := 16) (by decide +kernel) rfl rfl (by decide) uw_X4 wf_X_16) <|
  zal_c (zi_iln (j := 1) (by decide +kernel) rfl rfl) <|
  zal_c (zi_cv (index := 155) (qc := (RX0, TX0, 14)) (by decide +kernel) rfl mk_H_goSundays rfl wm_X_155 wq_H_goSundays ww_H_goSundays ⟨rfl, rfl⟩ ⟨Nat.le_of_ble_eq_true rfl, Nat.le_of_ble_eq_true rfl⟩) <|
  zal_c (zi_iconst (n := 0) (by decide +kernel) rfl rfl) <|
  zal_c (zi_isn (j := 2) (by decide +kernel) rfl rfl (Nat.le_of_ble_eq_true rfl)) <|
  zal_c (zi_iconst (n := 1) (by decide +kernel) rfl rfl) <|
  zal_c (zi_isn (j := 3) (by decide +kernel) rfl rfl (Nat.le_of_ble_eq_true rfl)) <|
  zal_c (zi_iln (j := 3) (by decide +kernel) rfl rfl) <|
  zal_c (zi_aln (j := 0) (by decide +kernel) rfl rfl) <|
  zal_c (zi_get (CN := RX4) (T := TX4) (N := 7) (index := 16) (by decide +kernel) rfl rfl (by decide) uw_X4 wf_X_16) <|
  zal_c (zi_get (CN := RX0) (T := TX0) (N := 14) (index := 77) (by decide +kernel) rfl rfl (by decide) uw_X0 wf_X_77) <|
  zal_c (zi_cge (off := 32) (by decide +kernel) rfl rfl) <|
  zal_c (zi_aln (j := 0) (by decide +kernel) rfl rfl) <|
  zal_c (zi_get (CN := RX4) (T := TX4) (N := 7) (index := 16) (by decide +kernel) rfl rfl (by decide) uw_X4 wf_X_16) <|
  zal_c (zi_get (CN := RX0) (T := TX0) (N := 14) (index := 96) (by decide +kernel) rfl rfl (by decide) uw_X0 wf_X_96) <|
  zal_c (zi_iln (j := 3) (by decide +kernel) rfl rfl) <|
  zal_c (zi_iald (by decide +kernel) rfl) <|
  zal_c (zi_aln (j := 0) (by decide +kernel) rfl rfl) <|
  zal_c (zi_get (CN := RX4) (T := TX4) (N := 7) (index := 16) (by decide +kernel) rfl rfl (by decide) uw_X4 wf_X_16) <|
  zal_c (zi_get (CN := RX0) (T := TX0) (N := 14) (index := 96) (by decide +kernel) rfl rfl (by decide) uw_X0 wf_X_96) <|
  zal_c (zi_iln (j := 2) (by decide +kernel) rfl rfl) <|
  zal_c (zi_iald (by decide +kernel) rfl) <|
  zal_c (zi_cle (off := 5) (by decide +kernel) rfl rfl) <|
  zal_c (zi_iln (j := 3) (by decide +kernel) rfl rfl) <|
  zal_c (zi_isn (j := 2) (by decide +kernel) rfl rfl (Nat.le_of_ble_eq_true rfl)) <|
  zal_c (zi_inc (n := 1) (by decide +kernel) rfl rfl) <|
  zal_c (zi_goto (off := -37) (by decide +kernel) rfl) <|
  zal_c (zi_iln (j := 2) (by decide +kernel) rfl rfl) <|
  zal_c (zi_ir (by decide +kernel) rfl) <|
  zal_n
set_option maxRecDepth 100000 in
set_option maxHeartbeats 4000000 in
theorem sn_X_feed (l : Launch) : zAl l 70 tb_X_feed :=
  zal_c (zi_iln (j := 2) (by decide +kernel) rfl rfl) <|
  zal_c (zi_iconst (n := 1) (by decide +kernel) rfl rfl) <|
  zal_c (zi_iconst (n := 4) (by decide +kernel) rfl rfl) <|
  zal_c (zi_cs (index := 44) (by decide +kernel) rfl mk_X_isOutside wm_X_44 wq_X_isOutside ⟨rfl, rfl⟩ ⟨Nat.le_of_ble_eq_true rfl, Nat.le_of_ble_eq_true rfl⟩) <|
  zal_c (zi_ifeq (off := 10) (by decide +kernel) rfl rfl) <|
  zal_c (zi_aln (j := 0) (by decide +kernel) rfl rfl) <|
  zal_c (zi_ldc (n := 48) (by decide +kernel) rfl wc_X_48) <|
  zal_c (zi_cv (index := 49) (qc := (RX4, TX4, 7)) (by decide +kernel) rfl mk_X_tell rfl wm_X_49 wq_X_tell ww_X_tell ⟨rfl, rfl⟩ ⟨Nat.le_of_ble_eq_true rfl, Nat.le_of_ble_eq_true rfl⟩) <|
  zal_c (zi_ir (by decide +kernel) rfl) <|
  zal_c (zi_aln (j := 0) (by decide +kernel) rfl rfl) <|
  zal_c (zi_get (CN := RX4) (T := TX4) (N := 7) (index := 29) (by decide +kernel) rfl rfl (by decide) uw_X4 wf_X_29) <|
  zal_c (zi_get (CN := RX3) (T := TX3) (N := 6) (index := 160) (by decide +kernel) rfl rfl (by decide) uw_X3 wf_X_160) <|
  zal_c (zi_iln (j := 2) (by decide +kernel) rfl rfl) <|
  zal_c (zi_iadd (by decide +kernel) rfl) <|
  zal_c (zi_bipush (n := 120) (by decide +kernel) rfl rfl) <|
  zal_c (zi_cle (off := 10) (by decide +kernel) rfl rfl) <|
  zal_c (zi_aln (j := 0) (by decide +kernel) rfl rfl) <|
  zal_c (zi_ldc (n := 80) (by decide +kernel) rfl wc_X_80) <|
  zal_c (zi_cv (index := 49) (qc := (RX4, TX4, 7)) (by decide +kernel) rfl mk_X_tell rfl wm_X_49 wq_X_tell ww_X_tell ⟨rfl, rfl⟩ ⟨Nat.le_of_ble_eq_true rfl, Nat.le_of_ble_eq_true rfl⟩) <|
  zal_c (zi_ir (by decide +kernel) rfl) <|
  zal_c (zi_iln (j := 2) (by decide +kernel) rfl rfl) <|
  zal_c (zi_iconst (n := 1) (by decide +kernel) rfl rfl) <|
  zal_c (zi_isub (by decide +kernel) rfl) <|
  zal_c (zi_isn (j := 3) (by decide +kernel) rfl rfl (Nat.le_of_ble_eq_true rfl)) <|
  zal_c (zi_iln (j := 3) (by decide +kernel) rfl rfl) <|
  zal_c (zi_iflt (off := 47) (by decide +kernel) rfl rfl) <|
  zal_c (zi_aln (j := 0) (by decide +kernel) rfl rfl) <|
  zal_c (zi_get (CN := RX4) (T := TX4) (N := 7) (index := 29) (by decide +kernel) rfl rfl (by decide) uw_X4 wf_X_29) <|
  zal_c (zi_get (CN := RX3) (T := TX3) (N := 6) (index := 163) (by decide +kernel) rfl rfl (by decide) uw_X3 wf_X_163) <|
  zal_c (zi_aln (j := 0) (by decide +kernel) rfl rfl) <|
  zal_c (zi_get (CN := RX4) (T := TX4) (N := 7) (index := 29) (by decide +kernel) rfl rfl (by decide) uw_X4 wf_X_29) <|
  zal_c (zi_get (CN := RX3) (T := TX3) (N := 6) (index := 160) (by decide +kernel) rfl rfl (by decide) uw_X3 wf_X_160) <|
  zal_c (zi_iln (j := 1) (by decide +kernel) rfl rfl) <|
  zal_c (zi_bipush (n := 8) (by decide +kernel) rfl rfl) <|
  zal_c (zi_iln (j := 3) (by decide +kernel) rfl rfl) <|
  zal_c (zi_imul (by decide +kernel) rfl) <|
  zal_c (zi_ishr (by decide +kernel) rfl) <|
  zal_c (zi_sipush (n := 255) (by decide +kernel) rfl rfl) <|
  zal_c (zi_iand (by decide +kernel) rfl) <|
  zal_c (zi_iast (by decide +kernel) rfl) <|
  zal_c (zi_aln (j := 0) (by decide +kernel) rfl rfl) <|
  zal_c (zi_get (CN := RX4) (T := TX4) (N := 7) (index := 29) (by decide +kernel) rfl rfl (by decide) uw_X4 wf_X_29) <|
  zal_c (zi_dup (by decide +kernel) rfl) <|
  zal_c (zi_get (CN := RX3) (T := TX3) (N := 6) (index := 160) (by decide +kernel) rfl rfl (by decide) uw_X3 wf_X_160) <|
  zal_c (zi_iconst (n := 1) (by decide +kernel) rfl rfl) <|
  zal_c (zi_iadd (by decide +kernel) rfl) <|
  zal_c (zi_puti (CN := RX3) (T := TX3) (N := 6) (index := 160) (ty0 := tyX3) (by decide +kernel) rfl rfl (by decide) uw_X3 wf_X_160 tyX3_ok nmX3 rfl (by decide +kernel)) <|
  zal_c (zi_inc (n := -1) (by decide +kernel) rfl rfl) <|
  zal_c (zi_goto (off := -45) (by decide +kernel) rfl) <|
  zal_c (zi_aln (j := 0) (by decide +kernel) rfl rfl) <|
  zal_c (zi_get (CN := RX4) (T := TX4) (N := 7) (index := 29) (by decide +kernel) rfl rfl (by decide) uw_X4 wf_X_29) <|
  zal_c (zi_get (CN := RX3) (T := TX3) (N := 6) (index := 160) (by decide +kernel) rfl rfl (by decide) uw_X3 wf_X_160) <|
  zal_c (zi_ir (by decide +kernel) rfl) <|
  zal_n
set_option maxRecDepth 100000 in
set_option maxHeartbeats 4000000 in
theorem sn_X_wipe (l : Launch) : zAl l 71 tb_X_wipe :=
  zal_c (zi_aln (j := 0) (by decide +kernel) rfl rfl) <|
  zal_c (zi_get (CN := RX4) (T := TX4) (N := 7) (index := 29) (by decide +kernel) rfl rfl (by decide) uw_X4 wf_X_29) <|
  zal_c (zi_get (CN := RX3) (T := TX3) (N := 6) (index := 160) (by decide +kernel) rfl rfl (by decide) uw_X3 wf_X_160) <|
  zal_c (zi_isn (j := 1) (by decide +kernel) rfl rfl (Nat.le_of_ble_eq_true rfl)) <|
  zal_c (zi_aln (j := 0) (by decide +kernel) rfl rfl) <|
  zal_c (zi_get (CN := RX4) (T := TX4) (N := 7) (index := 29) (by decide +kernel) rfl rfl (by decide) uw_X4 wf_X_29) <|
  zal_c (zi_iconst (n := 0) (by decide +kernel) rfl rfl) <|
  zal_c (zi_puti (CN := RX3) (T := TX3) (N := 6) (index := 160) (ty0 := tyX3) (by decide +kernel) rfl rfl (by decide) uw_X3 wf_X_160 tyX3_ok nmX3 rfl (by decide +kernel)) <|
  zal_c (zi_iln (j := 1) (by decide +kernel) rfl rfl) <|
  zal_c (zi_ir (by decide +kernel) rfl) <|
  zal_n
set_option maxRecDepth 100000 in
set_option maxHeartbeats 4000000 in
theorem sn_X_institute (l : Launch) : zAl l 72 tb_X_institute :=
  zal_c (zi_aln (j := 0) (by decide +kernel) rfl rfl) <|
  zal_c (zi_get (CN := RX4) (T := TX4) (N := 7) (index := 16) (by decide +kernel) rfl rfl (by decide) uw_X4 wf_X_16) <|
  zal_c (zi_aln (j := 0) (by decide +kernel) rfl rfl) <|
  zal_c (zi_get (CN := RX4) (T := TX4) (N := 7) (index := 10) (by decide +kernel) rfl rfl (by decide) uw_X4 wf_X_10) <|
  zal_c (zi_cv (index := 144) (qc := (RX0, TX0, 14)) (by decide +kernel) rfl mk_H_become rfl wm_X_144 wq_H_become ww_H_become ⟨rfl, rfl⟩ ⟨Nat.le_of_ble_eq_true rfl, Nat.le_of_ble_eq_true rfl⟩) <|
  zal_c (zi_aln (j := 0) (by decide +kernel) rfl rfl) <|
  zal_c (zi_get (CN := RX4) (T := TX4) (N := 7) (index := 29) (by decide +kernel) rfl rfl (by decide) uw_X4 wf_X_29) <|
  zal_c (zi_aln (j := 0) (by decide +kernel) rfl rfl) <|
  zal_c (zi_get (CN := RX4) (T := TX4) (N := 7) (index := 16) (by decide +kernel) rfl rfl (by decide) uw_X4 wf_X_16) <|
  zal_c (zi_cv (index := 166) (qc := (RX3, TX3, 6)) (by decide +kernel) rfl mk_T_tellTo rfl wm_X_166 wq_T_tellTo ww_T_tellTo ⟨rfl, rfl⟩ ⟨Nat.le_of_ble_eq_true rfl, Nat.le_of_ble_eq_true rfl⟩) <|
  zal_c (zi_isn (j := 1) (by decide +kernel) rfl rfl (Nat.le_of_ble_eq_true rfl)) <|
  zal_c (zi_iln (j := 1) (by decide +kernel) rfl rfl) <|
  zal_c (zi_iflt (off := 14) (by decide +kernel) rfl rfl) <|
  zal_c (zi_aln (j := 0) (by decide +kernel) rfl rfl) <|
  zal_c (zi_get (CN := RX4) (T := TX4) (N := 7) (index := 10) (by decide +kernel) rfl rfl (by decide) uw_X4 wf_X_10) <|
  zal_c (zi_aln (j := 0) (by decide +kernel) rfl rfl) <|
  zal_c (zi_get (CN := RX4) (T := TX4) (N := 7) (index := 16) (by decide +kernel) rfl rfl (by decide) uw_X4 wf_X_16) <|
  zal_c (zi_cv (index := 144) (qc := (RX0, TX0, 14)) (by decide +kernel) rfl mk_H_become rfl wm_X_144 wq_H_become ww_H_become ⟨rfl, rfl⟩ ⟨Nat.le_of_ble_eq_true rfl, Nat.le_of_ble_eq_true rfl⟩) <|
  zal_c (zi_aln (j := 0) (by decide +kernel) rfl rfl) <|
  zal_c (zi_get (CN := RX4) (T := TX4) (N := 7) (index := 29) (by decide +kernel) rfl rfl (by decide) uw_X4 wf_X_29) <|
  zal_c (zi_iconst (n := 0) (by decide +kernel) rfl rfl) <|
  zal_c (zi_puti (CN := RX3) (T := TX3) (N := 6) (index := 160) (ty0 := tyX3) (by decide +kernel) rfl rfl (by decide) uw_X3 wf_X_160 tyX3_ok nmX3 rfl (by decide +kernel)) <|
  zal_c (zi_iln (j := 1) (by decide +kernel) rfl rfl) <|
  zal_c (zi_ir (by decide +kernel) rfl) <|
  zal_n
set_option maxRecDepth 100000 in
set_option maxHeartbeats 4000000 in
theorem sn_X_sheet (l : Launch) : zAl l 73 tb_X_sheet :=
  zal_c (zi_iln (j := 1) (by decide +kernel) rfl rfl) <|
  zal_c (zi_cs (index := 170) (by decide +kernel) rfl mk_X_isNoSheet wm_X_170 wq_X_isNoSheet ⟨rfl, rfl⟩ ⟨Nat.le_of_ble_eq_true rfl, Nat.le_of_ble_eq_true rfl⟩) <|
  zal_c (zi_ifne (off := 25) (by decide +kernel) rfl rfl) <|
  zal_c (zi_iln (j := 2) (by decide +kernel) rfl rfl) <|
  zal_c (zi_ifeq (off := 28) (by decide +kernel) rfl rfl) <|
  zal_c (zi_iln (j := 2) (by decide +kernel) rfl rfl) <|
  zal_c (zi_bipush (n := 8) (by decide +kernel) rfl rfl) <|
  zal_c (zi_ceq (off := 22) (by decide +kernel) rfl rfl) <|
  zal_c (zi_iln (j := 2) (by decide +kernel) rfl rfl) <|
  zal_c (zi_bipush (n := 16) (by decide +kernel) rfl rfl) <|
  zal_c (zi_ceq (off := 16) (by decide +kernel) rfl rfl) <|
  zal_c (zi_iln (j := 2) (by decide +kernel) rfl rfl) <|
  zal_c (zi_bipush (n := 64) (by decide +kernel) rfl rfl) <|
  zal_c (zi_ceq (off := 10) (by decide +kernel) rfl rfl) <|
  zal_c (zi_aln (j := 0) (by decide +kernel) rfl rfl) <|
  zal_c (zi_ldc (n := 48) (by decide +kernel) rfl wc_X_48) <|
  zal_c (zi_cv (index := 49) (qc := (RX4, TX4, 7)) (by decide +kernel) rfl mk_X_tell rfl wm_X_49 wq_X_tell ww_X_tell ⟨rfl, rfl⟩ ⟨Nat.le_of_ble_eq_true rfl, Nat.le_of_ble_eq_true rfl⟩) <|
  zal_c (zi_ir (by decide +kernel) rfl) <|
  zal_c (zi_iln (j := 3) (by decide +kernel) rfl rfl) <|
  zal_c (zi_ifge (off := 10) (by decide +kernel) rfl rfl) <|
  zal_c (zi_aln (j := 0) (by decide +kernel) rfl rfl) <|
  zal_c (zi_ldc (n := 173) (by decide +kernel) rfl wc_X_173) <|
  zal_c (zi_cv (index := 49) (qc := (RX4, TX4, 7)) (by decide +kernel) rfl mk_X_tell rfl wm_X_49 wq_X_tell ww_X_tell ⟨rfl, rfl⟩ ⟨Nat.le_of_ble_eq_true rfl, Nat.le_of_ble_eq_true rfl⟩) <|
  zal_c (zi_ir (by decide +kernel) rfl) <|
  zal_c (zi_iln (j := 3) (by decide +kernel) rfl rfl) <|
  zal_c (zi_bipush (n := 40) (by decide +kernel) rfl rfl) <|
  zal_c (zi_cle (off := 10) (by decide +kernel) rfl rfl) <|
  zal_c (zi_aln (j := 0) (by decide +kernel) rfl rfl) <|
  zal_c (zi_ldc (n := 48) (by decide +kernel) rfl wc_X_48) <|
  zal_c (zi_cv (index := 49) (qc := (RX4, TX4, 7)) (by decide +kernel) rfl mk_X_tell rfl wm_X_49 wq_X_tell ww_X_tell ⟨rfl, rfl⟩ ⟨Nat.le_of_ble_eq_true rfl, Nat.le_of_ble_eq_true rfl⟩) <|
  zal_c (zi_ir (by decide +kernel) rfl) <|
  zal_c (zi_aln (j := 0) (by decide +kernel) rfl rfl) <|
  zal_c (zi_get (CN := RX4) (T := TX4) (N := 7) (index := 35) (by decide +kernel) rfl rfl (by decide) uw_X4 wf_X_35) <|
  zal_c (zi_iln (j := 1) (by decide +kernel) rfl rfl) <|
  zal_c (zi_aald (by decide +kernel) rfl) <|
  zal_c (zi_iln (j := 2) (by decide +kernel) rfl rfl) <|
  zal_c (zi_iln (j := 3) (by decide +kernel) rfl rfl) <|
  zal_c (zi_cv (index := 174) (qc := (RX2, TX2, 3)) (by decide +kernel) rfl mk_S_lay rfl wm_X_174 wq_S_lay ww_S_lay ⟨rfl, rfl⟩ ⟨Nat.le_of_ble_eq_true rfl, Nat.le_of_ble_eq_true rfl⟩) <|
  zal_c (zi_aln (j := 0) (by decide +kernel) rfl rfl) <|
  zal_c (zi_get (CN := RX4) (T := TX4) (N := 7) (index := 35) (by decide +kernel) rfl rfl (by decide) uw_X4 wf_X_35) <|
  zal_c (zi_iln (j := 1) (by decide +kernel) rfl rfl) <|
  zal_c (zi_aald (by decide +kernel) rfl) <|
  zal_c (zi_get (CN := RX2) (T := TX2) (N := 3) (index := 178) (by decide +kernel) rfl rfl (by decide) uw_X2 wf_X_178) <|
  zal_c (zi_ir (by decide +kernel) rfl) <|
  zal_n
set_option maxRecDepth 100000 in
set_option maxHeartbeats 4000000 in
theorem sn_X_write (l : Launch) : zAl l 74 tb_X_write :=
  zal_c (zi_iln (j := 1) (by decide +kernel) rfl rfl) <|
  zal_c (zi_cs (index := 170) (by decide +kernel) rfl mk_X_isNoSheet wm_X_170 wq_X_isNoSheet ⟨rfl, rfl⟩ ⟨Nat.le_of_ble_eq_true rfl, Nat.le_of_ble_eq_true rfl⟩) <|
  zal_c (zi_ifeq (off := 11) (by decide +kernel) rfl rfl) <|
  zal_c (zi_aln (j := 0) (by decide +kernel) rfl rfl) <|
  zal_c (zi_ldc (n := 48) (by decide +kernel) rfl wc_X_48) <|
  zal_c (zi_cv (index := 49) (qc := (RX4, TX4, 7)) (by decide +kernel) rfl mk_X_tell rfl wm_X_49 wq_X_tell ww_X_tell ⟨rfl, rfl⟩ ⟨Nat.le_of_ble_eq_true rfl, Nat.le_of_ble_eq_true rfl⟩) <|
  zal_c (zi_i2l (by decide +kernel) rfl) <|
  zal_c (zi_lr (by decide +kernel) rfl) <|
  zal_c (zi_aln (j := 0) (by decide +kernel) rfl rfl) <|
  zal_c (zi_get (CN := RX4) (T := TX4) (N := 7) (index := 35) (by decide +kernel) rfl rfl (by decide) uw_X4 wf_X_35) <|
  zal_c (zi_iln (j := 1) (by decide +kernel) rfl rfl) <|
  zal_c (zi_aald (by decide +kernel) rfl) <|
  zal_c (zi_as (by decide +kernel) rfl (Nat.le_of_ble_eq_true rfl)) <|
  zal_c (zi_al (by decide +kernel) rfl) <|
  zal_c (zi_cv (index := 181) (qc := (RX2, TX2, 3)) (by decide +kernel) rfl mk_S_isMissing rfl wm_X_181 wq_S_isMissing ww_S_isMissing ⟨rfl, rfl⟩ ⟨Nat.le_of_ble_eq_true rfl, Nat.le_of_ble_eq_true rfl⟩) <|
  zal_c (zi_ifeq (off := 11) (by decide +kernel) rfl rfl) <|
  zal_c (zi_aln (j := 0) (by decide +kernel) rfl rfl) <|
  zal_c (zi_ldc (n := 185) (by decide +kernel) rfl wc_X_185) <|
  zal_c (zi_cv (index := 49) (qc := (RX4, TX4, 7)) (by decide +kernel) rfl mk_X_tell rfl wm_X_49 wq_X_tell ww_X_tell ⟨rfl, rfl⟩ ⟨Nat.le_of_ble_eq_true rfl, Nat.le_of_ble_eq_true rfl⟩) <|
  zal_c (zi_i2l (by decide +kernel) rfl) <|
  zal_c (zi_lr (by decide +kernel) rfl) <|
  zal_c (zi_iln (j := 2) (by decide +kernel) rfl rfl) <|
  zal_c (zi_iconst (n := 0) (by decide +kernel) rfl rfl) <|
  zal_c (zi_al (by decide +kernel) rfl) <|
  zal_c (zi_get (CN := RX2) (T := TX2) (N := 3) (index := 178) (by decide +kernel) rfl rfl (by decide) uw_X2 wf_X_178) <|
  zal_c (zi_iconst (n := 1) (by decide +kernel) rfl rfl) <|
  zal_c (zi_isub (by decide +kernel) rfl) <|
  zal_c (zi_cs (index := 44) (by decide +kernel) rfl mk_X_isOutside wm_X_44 wq_X_isOutside ⟨rfl, rfl⟩ ⟨Nat.le_of_ble_eq_true rfl, Nat.le_of_ble_eq_true rfl⟩) <|
  zal_c (zi_ifeq (off := 11) (by decide +kernel) rfl rfl) <|
  zal_c (zi_aln (j := 0) (by decide +kernel) rfl rfl) <|
  zal_c (zi_ldc (n := 48) (by decide +kernel) rfl wc_X_48) <|
  zal_c (zi_cv (index := 49) (qc := (RX4, TX4, 7)) (by decide +kernel) rfl mk_X_tell rfl wm_X_49 wq_X_tell ww_X_tell ⟨rfl, rfl⟩ ⟨Nat.le_of_ble_eq_true rfl, Nat.le_of_ble_eq_true rfl⟩) <|
  zal_c (zi_i2l (by decide +kernel) rfl) <|
  zal_c (zi_lr (by decide +kernel) rfl) <|
  zal_c (zi_al (by decide +kernel) rfl) <|
  zal_c (zi_get (CN := RX2) (T := TX2) (N := 3) (index := 186) (by decide +kernel) rfl rfl (by decide) uw_X2 wf_X_186) <|
  zal_c (zi_iln (j := 2) (by decide +kernel) rfl rfl) <|
  zal_c (zi_lald (by decide +kernel) rfl) <|
  zal_c (zi_ls (by decide +kernel) rfl (Nat.le_of_ble_eq_true rfl)) <|
  zal_c (zi_al (by decide +kernel) rfl) <|
  zal_c (zi_iln (j := 2) (by decide +kernel) rfl rfl) <|
  zal_c (zi_lln (j := 3) (by decide +kernel) rfl rfl) <|
  zal_c (zi_cv (index := 190) (qc := (RX2, TX2, 3)) (by decide +kernel) rfl mk_S_put rfl wm_X_190 wq_S_put ww_S_put ⟨rfl, rfl⟩ ⟨Nat.le_of_ble_eq_true rfl, Nat.le_of_ble_eq_true rfl⟩) <|
  zal_c (zi_ll (by decide +kernel) rfl) <|
  zal_c (zi_lr (by decide +kernel) rfl) <|
  zal_n
set_option maxRecDepth 100000 in
set_option maxHeartbeats 4000000 in
theorem sn_X_copy (l : Launch) : zAl l 75 tb_X_copy :=
  zal_c (zi_iln (j := 1) (by decide +kernel) rfl rfl) <|
  zal_c (zi_cs (index := 170) (by decide +kernel) rfl mk_X_isNoSheet wm_X_170 wq_X_isNoSheet ⟨rfl, rfl⟩ ⟨Nat.le_of_ble_eq_true rfl, Nat.le_of_ble_eq_true rfl⟩) <|
  zal_c (zi_ifne (off := 10) (by decide +kernel) rfl rfl) <|
  zal_c (zi_iln (j := 3) (by decide +kernel) rfl rfl) <|
  zal_c (zi_cs (index := 170) (by decide +kernel) rfl mk_X_isNoSheet wm_X_170 wq_X_isNoSheet ⟨rfl, rfl⟩ ⟨Nat.le_of_ble_eq_true rfl, Nat.le_of_ble_eq_true rfl⟩) <|
  zal_c (zi_ifeq (off := 10) (by decide +kernel) rfl rfl) <|
  zal_c (zi_aln (j := 0) (by decide +kernel) rfl rfl) <|
  zal_c (zi_ldc (n := 48) (by decide +kernel) rfl wc_X_48) <|
  zal_c (zi_cv (index := 49) (qc := (RX4, TX4, 7)) (by decide +kernel) rfl mk_X_tell rfl wm_X_49 wq_X_tell ww_X_tell ⟨rfl, rfl⟩ ⟨Nat.le_of_ble_eq_true rfl, Nat.le_of_ble_eq_true rfl⟩) <|
  zal_c (zi_ir (by decide +kernel) rfl) <|
  zal_c (zi_aln (j := 0) (by decide +kernel) rfl rfl) <|
  zal_c (zi_get (CN := RX4) (T := TX4) (N := 7) (index := 35) (by decide +kernel) rfl rfl (by decide) uw_X4 wf_X_35) <|
  zal_c (zi_iln (j := 1) (by decide +kernel) rfl rfl) <|
  zal_c (zi_aald (by decide +kernel) rfl) <|
  zal_c (zi_as (by decide +kernel) rfl (Nat.le_of_ble_eq_true rfl)) <|
  zal_c (zi_aln (j := 0) (by decide +kernel) rfl rfl) <|
  zal_c (zi_get (CN := RX4) (T := TX4) (N := 7) (index := 35) (by decide +kernel) rfl rfl (by decide) uw_X4 wf_X_35) <|
  zal_c (zi_iln (j := 3) (by decide +kernel) rfl rfl) <|
  zal_c (zi_aald (by decide +kernel) rfl) <|
  zal_c (zi_as (by decide +kernel) rfl (Nat.le_of_ble_eq_true rfl)) <|
  zal_c (zi_al (by decide +kernel) rfl) <|
  zal_c (zi_cv (index := 181) (qc := (RX2, TX2, 3)) (by decide +kernel) rfl mk_S_isMissing rfl wm_X_181 wq_S_isMissing ww_S_isMissing ⟨rfl, rfl⟩ ⟨Nat.le_of_ble_eq_true rfl, Nat.le_of_ble_eq_true rfl⟩) <|
  zal_c (zi_ifne (off := 11) (by decide +kernel) rfl rfl) <|
  zal_c (zi_al (by decide +kernel) rfl) <|
  zal_c (zi_cv (index := 181) (qc := (RX2, TX2, 3)) (by decide +kernel) rfl mk_S_isMissing rfl wm_X_181 wq_S_isMissing ww_S_isMissing ⟨rfl, rfl⟩ ⟨Nat.le_of_ble_eq_true rfl, Nat.le_of_ble_eq_true rfl⟩) <|
  zal_c (zi_ifeq (off := 10) (by decide +kernel) rfl rfl) <|
  zal_c (zi_aln (j := 0) (by decide +kernel) rfl rfl) <|
  zal_c (zi_ldc (n := 185) (by decide +kernel) rfl wc_X_185) <|
  zal_c (zi_cv (index := 49) (qc := (RX4, TX4, 7)) (by decide +kernel) rfl mk_X_tell rfl wm_X_49 wq_X_tell ww_X_tell ⟨rfl, rfl⟩ ⟨Nat.le_of_ble_eq_true rfl, Nat.le_of_ble_eq_true rfl⟩) <|
  zal_c (zi_ir (by decide +kernel) rfl) <|
  zal_c (zi_al (by decide +kernel) rfl) <|
  zal_c (zi_get (CN := RX2) (T := TX2) (N := 3) (index := 193) (by decide +kernel) rfl rfl (by decide) uw_X2 wf_X_193) <|
  zal_c (zi_al (by decide +kernel) rfl) <|
  zal_c (zi_get (CN := RX2) (T := TX2) (N := 3) (index := 193) (by decide +kernel) rfl rfl (by decide) uw_X2 wf_X_193) <|
  zal_c (zi_ceq (off := 10) (by decide +kernel) rfl rfl) <|
  zal_c (zi_aln (j := 0) (by decide +kernel) rfl rfl) <|
  zal_c (zi_ldc (n := 128) (by decide +kernel) rfl wc_X_128) <|
  zal_c (zi_cv (index := 49) (qc := (RX4, TX4, 7)) (by decide +kernel) rfl mk_X_tell rfl wm_X_49 wq_X_tell ww_X_tell ⟨rfl, rfl⟩ ⟨Nat.le_of_ble_eq_true rfl, Nat.le_of_ble_eq_true rfl⟩) <|
  zal_c (zi_ir (by decide +kernel) rfl) <|
  zal_c (zi_al (by decide +kernel) rfl) <|
  zal_c (zi_iln (j := 2) (by decide +kernel) rfl rfl) <|
  zal_c (zi_il (by decide +kernel) rfl) <|
  zal_c (zi_cv (index := 196) (qc := (RX2, TX2, 3)) (by decide +kernel) rfl mk_S_hasRun rfl wm_X_196 wq_S_hasRun ww_S_hasRun ⟨rfl, rfl⟩ ⟨Nat.le_of_ble_eq_true rfl, Nat.le_of_ble_eq_true rfl⟩) <|
  zal_c (zi_ifeq (off := 15) (by decide +kernel) rfl rfl) <|
  zal_c (zi_al (by decide +kernel) rfl) <|
  zal_c (zi_il (by decide +kernel) rfl) <|
  zal_c (zi_il (by decide +kernel) rfl) <|
  zal_c (zi_cv (index := 196) (qc := (RX2, TX2, 3)) (by decide +kernel) rfl mk_S_hasRun rfl wm_X_196 wq_S_hasRun ww_S_hasRun ⟨rfl, rfl⟩ ⟨Nat.le_of_ble_eq_true rfl, Nat.le_of_ble_eq_true rfl⟩) <|
  zal_c (zi_ifne (off := 10) (by decide +kernel) rfl rfl) <|
  zal_c (zi_aln (j := 0) (by decide +kernel) rfl rfl) <|
  zal_c (zi_ldc (n := 48) (by decide +kernel) rfl wc_X_48) <|
  zal_c (zi_cv (index := 49) (qc := (RX4, TX4, 7)) (by decide +kernel) rfl mk_X_tell rfl wm_X_49 wq_X_tell ww_X_tell ⟨rfl, rfl⟩ ⟨Nat.le_of_ble_eq_true rfl, Nat.le_of_ble_eq_true rfl⟩) <|
  zal_c (zi_ir (by decide +kernel) rfl) <|
  zal_c (zi_al (by decide +kernel) rfl) <|
  zal_c (zi_get (CN := RX2) (T := TX2) (N := 3) (index := 186) (by decide +kernel) rfl rfl (by decide) uw_X2 wf_X_186) <|
  zal_c (zi_iln (j := 2) (by decide +kernel) rfl rfl) <|
  zal_c (zi_al (by decide +kernel) rfl) <|
  zal_c (zi_get (CN := RX2) (T := TX2) (N := 3) (index := 186) (by decide +kernel) rfl rfl (by decide) uw_X2 wf_X_186) <|
  zal_c (zi_il (by decide +kernel) rfl) <|
  zal_c (zi_il (by decide +kernel) rfl) <|
  zal_c (zi_cpl (index := 199) (by decide +kernel) rfl wm_X_199 wy_n wy_s wy_i ⟨Nat.le_of_ble_eq_true rfl, Nat.le_of_ble_eq_true rfl⟩) <|
  zal_c (zi_il (by decide +kernel) rfl) <|
  zal_c (zi_ir (by decide +kernel) rfl) <|
  zal_n
set_option maxRecDepth 100000 in
set_option maxHeartbeats 4000000 in
theorem sn_X_lays (l : Launch) : zAl l 76 tb_X_lays :=
  zal_c (zi_iln (j := 1) (by decide +kernel) rfl rfl) <|
  zal_c (zi_cs (index := 170) (by decide +kernel) rfl mk_X_isNoSheet wm_X_170 wq_X_isNoSheet ⟨rfl, rfl⟩ ⟨Nat.le_of_ble_eq_true rfl, Nat.le_of_ble_eq_true rfl⟩) <|
  zal_c (zi_ifeq (off := 10) (by decide +kernel) rfl rfl) <|
  zal_c (zi_aln (j := 0) (by decide +kernel) rfl rfl) <|
  zal_c (zi_ldc (n := 48) (by decide +kernel) rfl wc_X_48) <|
  zal_c (zi_cv (index := 49) (qc := (RX4, TX4, 7)) (by decide +kernel) rfl mk_X_tell rfl wm_X_49 wq_X_tell ww_X_tell ⟨rfl, rfl⟩ ⟨Nat.le_of_ble_eq_true rfl, Nat.le_of_ble_eq_true rfl⟩) <|
  zal_c (zi_ir (by decide +kernel) rfl) <|
  zal_c (zi_aln (j := 0) (by decide +kernel) rfl rfl) <|
  zal_c (zi_get (CN := RX4) (T := TX4) (N := 7) (index := 35) (by decide +kernel) rfl rfl (by decide) uw_X4 wf_X_35) <|
  zal_c (zi_iln (j := 1) (by decide +kernel) rfl rfl) <|
  zal_c (zi_aald (by decide +kernel) rfl) <|
  zal_c (zi_asn (j := 2) (by decide +kernel) rfl rfl (Nat.le_of_ble_eq_true rfl)) <|
  zal_c (zi_aln (j := 2) (by decide +kernel) rfl rfl) <|
  zal_c (zi_cv (index := 181) (qc := (RX2, TX2, 3)) (by decide +kernel) rfl mk_S_isMissing rfl wm_X_181 wq_S_isMissing ww_S_isMissing ⟨rfl, rfl⟩ ⟨Nat.le_of_ble_eq_true rfl, Nat.le_of_ble_eq_true rfl⟩) <|
  zal_c (zi_ifeq (off := 10) (by decide +kernel) rfl rfl) <|
  zal_c (zi_aln (j := 0) (by decide +kernel) rfl rfl) <|
  zal_c (zi_ldc (n := 185) (by decide +kernel) rfl wc_X_185) <|
  zal_c (zi_cv (index := 49) (qc := (RX4, TX4, 7)) (by decide +kernel) rfl mk_X_tell rfl wm_X_49 wq_X_tell ww_X_tell ⟨rfl, rfl⟩ ⟨Nat.le_of_ble_eq_true rfl, Nat.le_of_ble_eq_true rfl⟩) <|
  zal_c (zi_ir (by decide +kernel) rfl) <|
  zal_c (zi_iconst (n := 0) (by decide +kernel) rfl rfl) <|
  zal_c (zi_isn (j := 3) (by decide +kernel) rfl rfl (Nat.le_of_ble_eq_true rfl)) <|
  zal_c (zi_iconst (n := 0) (by decide +kernel) rfl rfl) <|
  zal_c (zi_is (by decide +kernel) rfl (Nat.le_of_ble_eq_true rfl)) <|
  zal_c (zi_il (by decide +kernel) rfl) <|
  zal_c (zi_aln (j := 2) (by decide +kernel) rfl rfl) <|
  zal_c (zi_get (CN := RX2) (T := TX2) (N := 3) (index := 178) (by decide +kernel) rfl rfl (by decide) uw_X2 wf_X_178) <|
  zal_c (zi_cge (off := 62) (by decide +kernel) rfl rfl) <|
  zal_c (zi_il (by decide +kernel) rfl) <|
  zal_c (zi_aln (j := 0) (by decide +kernel) rfl rfl) <|
  zal_c (zi_get (CN := RX4) (T := TX4) (N := 7) (index := 10) (by decide +kernel) rfl rfl (by decide) uw_X4 wf_X_10) <|
  zal_c (zi_get (CN := RX0) (T := TX0) (N := 14) (index := 77) (by decide +kernel) rfl rfl (by decide) uw_X0 wf_X_77) <|
  zal_c (zi_cge (off := 50) (by decide +kernel) rfl rfl) <|
  zal_c (zi_aln (j := 2) (by decide +kernel) rfl rfl) <|
  zal_c (zi_get (CN := RX2) (T := TX2) (N := 3) (index := 186) (by decide +kernel) rfl rfl (by decide) uw_X2 wf_X_186) <|
  zal_c (zi_il (by decide +kernel) rfl) <|
  zal_c (zi_lald (by decide +kernel) rfl) <|
  zal_c (zi_ls (by decide +kernel) rfl (Nat.le_of_ble_eq_true rfl)) <|
  zal_c (zi_ll (by decide +kernel) rfl) <|
  zal_c (zi_lconst (n := 0) (by decide +kernel) rfl rfl) <|
  zal_c (zi_lcmp (by decide +kernel) rfl) <|
  zal_c (zi_iflt (off := 28) (by decide +kernel) rfl rfl) <|
  zal_c (zi_ll (by decide +kernel) rfl) <|
  zal_c (zi_ldc2 (n := 205) (by decide +kernel) rfl wc_X_205) <|
  zal_c (zi_lcmp (by decide +kernel) rfl) <|
  zal_c (zi_ifgt (off := 19) (by decide +kernel) rfl rfl) <|
  zal_c (zi_aln (j := 0) (by decide +kernel) rfl rfl) <|
  zal_c (zi_get (CN := RX4) (T := TX4) (N := 7) (index := 10) (by decide +kernel) rfl rfl (by decide) uw_X4 wf_X_10) <|
  zal_c (zi_get (CN := RX0) (T := TX0) (N := 14) (index := 90) (by decide +kernel) rfl rfl (by decide) uw_X0 wf_X_90) <|
  zal_c (zi_il (by decide +kernel) rfl) <|
  zal_c (zi_ll (by decide +kernel) rfl) <|
  zal_c (zi_l2i (by decide +kernel) rfl) <|
  zal_c (zi_iast (by decide +kernel) rfl) <|
  zal_c (zi_inc (n := 1) (by decide +kernel) rfl rfl) <|
  zal_c (zi_inc (n := 1) (by decide +kernel) rfl rfl) <|
  zal_c (zi_goto (off := -65) (by decide +kernel) rfl) <|
  zal_c (zi_iln (j := 3) (by decide +kernel) rfl rfl) <|
  zal_c (zi_ir (by decide +kernel) rfl) <|
  zal_n
set_option maxRecDepth 100000 in
set_option maxHeartbeats 4000000 in
theorem sn_X_book (l : Launch) : zAl l 77 tb_X_book :=
  zal_c (zi_iln (j := 1) (by decide +kernel) rfl rfl) <|
  zal_c (zi_cs (index := 170) (by decide +kernel) rfl mk_X_isNoSheet wm_X_170 wq_X_isNoSheet ⟨rfl, rfl⟩ ⟨Nat.le_of_ble_eq_true rfl, Nat.le_of_ble_eq_true rfl⟩) <|
  zal_c (zi_ifeq (off := 10) (by decide +kernel) rfl rfl) <|
  zal_c (zi_aln (j := 0) (by decide +kernel) rfl rfl) <|
  zal_c (zi_ldc (n := 48) (by decide +kernel) rfl wc_X_48) <|
  zal_c (zi_cv (index := 49) (qc := (RX4, TX4, 7)) (by decide +kernel) rfl mk_X_tell rfl wm_X_49 wq_X_tell ww_X_tell ⟨rfl, rfl⟩ ⟨Nat.le_of_ble_eq_true rfl, Nat.le_of_ble_eq_true rfl⟩) <|
  zal_c (zi_ir (by decide +kernel) rfl) <|
  zal_c (zi_aln (j := 0) (by decide +kernel) rfl rfl) <|
  zal_c (zi_get (CN := RX4) (T := TX4) (N := 7) (index := 35) (by decide +kernel) rfl rfl (by decide) uw_X4 wf_X_35) <|
  zal_c (zi_iln (j := 1) (by decide +kernel) rfl rfl) <|
  zal_c (zi_aald (by decide +kernel) rfl) <|
  zal_c (zi_asn (j := 3) (by decide +kernel) rfl rfl (Nat.le_of_ble_eq_true rfl)) <|
  zal_c (zi_aln (j := 3) (by decide +kernel) rfl rfl) <|
  zal_c (zi_cv (index := 181) (qc := (RX2, TX2, 3)) (by decide +kernel) rfl mk_S_isMissing rfl wm_X_181 wq_S_isMissing ww_S_isMissing ⟨rfl, rfl⟩ ⟨Nat.le_of_ble_eq_true rfl, Nat.le_of_ble_eq_true rfl⟩) <|
  zal_c (zi_ifeq (off := 10) (by decide +kernel) rfl rfl) <|
  zal_c (zi_aln (j := 0) (by decide +kernel) rfl rfl) <|
  zal_c (zi_ldc (n := 185) (by decide +kernel) rfl wc_X_185) <|
  zal_c (zi_cv (index := 49) (qc := (RX4, TX4, 7)) (by decide +kernel) rfl mk_X_tell rfl wm_X_49 wq_X_tell ww_X_tell ⟨rfl, rfl⟩ ⟨Nat.le_of_ble_eq_true rfl, Nat.le_of_ble_eq_true rfl⟩) <|
  zal_c (zi_ir (by decide +kernel) rfl) <|
  zal_c (zi_aln (j := 0) (by decide +kernel) rfl rfl) <|
  zal_c (zi_iln (j := 2) (by decide +kernel) rfl rfl) <|
  zal_c (zi_cv (index := 105) (qc := (RX4, TX4, 7)) (by decide +kernel) rfl mk_X_isNoCouple rfl wm_X_105 wq_X_isNoCouple ww_X_isNoCouple ⟨rfl, rfl⟩ ⟨Nat.le_of_ble_eq_true rfl, Nat.le_of_ble_eq_true rfl⟩) <|
  zal_c (zi_ifeq (off := 10) (by decide +kernel) rfl rfl) <|
  zal_c (zi_aln (j := 0) (by decide +kernel) rfl rfl) <|
  zal_c (zi_ldc (n := 48) (by decide +kernel) rfl wc_X_48) <|
  zal_c (zi_cv (index := 49) (qc := (RX4, TX4, 7)) (by decide +kernel) rfl mk_X_tell rfl wm_X_49 wq_X_tell ww_X_tell ⟨rfl, rfl⟩ ⟨Nat.le_of_ble_eq_true rfl, Nat.le_of_ble_eq_true rfl⟩) <|
  zal_c (zi_ir (by decide +kernel) rfl) <|
  zal_c (zi_aln (j := 0) (by decide +kernel) rfl rfl) <|
  zal_c (zi_get (CN := RX4) (T := TX4) (N := 7) (index := 16) (by decide +kernel) rfl rfl (by decide) uw_X4 wf_X_16) <|
  zal_c (zi_aln (j := 0) (by decide +kernel) rfl rfl) <|
  zal_c (zi_get (CN := RX4) (T := TX4) (N := 7) (index := 10) (by decide +kernel) rfl rfl (by decide) uw_X4 wf_X_10) <|
  zal_c (zi_cv (index := 144) (qc := (RX0, TX0, 14)) (by decide +kernel) rfl mk_H_become rfl wm_X_144 wq_H_become ww_H_become ⟨rfl, rfl⟩ ⟨Nat.le_of_ble_eq_true rfl, Nat.le_of_ble_eq_true rfl⟩) <|
  zal_c (zi_iconst (n := 0) (by decide +kernel) rfl rfl) <|
  zal_c (zi_is (by decide +kernel) rfl (Nat.le_of_ble_eq_true rfl)) <|
  zal_c (zi_il (by decide +kernel) rfl) <|
  zal_c (zi_aln (j := 3) (by decide +kernel) rfl rfl) <|
  zal_c (zi_get (CN := RX2) (T := TX2) (N := 3) (index := 178) (by decide +kernel) rfl rfl (by decide) uw_X2 wf_X_178) <|
  zal_c (zi_cge (off := 32) (by decide +kernel) rfl rfl) <|
  zal_c (zi_aln (j := 3) (by decide +kernel) rfl rfl) <|
  zal_c (zi_il (by decide +kernel) rfl) <|
  zal_c (zi_aln (j := 0) (by decide +kernel) rfl rfl) <|
  zal_c (zi_get (CN := RX4) (T := TX4) (N := 7) (index := 16) (by decide +kernel) rfl rfl (by decide) uw_X4 wf_X_16) <|
  zal_c (zi_get (CN := RX0) (T := TX0) (N := 14) (index := 138) (by decide +kernel) rfl rfl (by decide) uw_X0 wf_X_138) <|
  zal_c (zi_iln (j := 2) (by decide +kernel) rfl rfl) <|
  zal_c (zi_iald (by decide +kernel) rfl) <|
  zal_c (zi_i2l (by decide +kernel) rfl) <|
  zal_c (zi_cv (index := 190) (qc := (RX2, TX2, 3)) (by decide +kernel) rfl mk_S_put rfl wm_X_190 wq_S_put ww_S_put ⟨rfl, rfl⟩ ⟨Nat.le_of_ble_eq_true rfl, Nat.le_of_ble_eq_true rfl⟩) <|
  zal_c (zi_aln (j := 0) (by decide +kernel) rfl rfl) <|
  zal_c (zi_get (CN := RX4) (T := TX4) (N := 7) (index := 16) (by decide +kernel) rfl rfl (by decide) uw_X4 wf_X_16) <|
  zal_c (zi_cv (index := 148) (qc := (RX0, TX0, 14)) (by decide +kernel) rfl mk_H_goOneSunday rfl wm_X_148 wq_H_goOneSunday ww_H_goOneSunday ⟨rfl, rfl⟩ ⟨Nat.le_of_ble_eq_true rfl, Nat.le_of_ble_eq_true rfl⟩) <|
  zal_c (zi_inc (n := 1) (by decide +kernel) rfl rfl) <|
  zal_c (zi_goto (off := -35) (by decide +kernel) rfl) <|
  zal_c (zi_aln (j := 3) (by decide +kernel) rfl rfl) <|
  zal_c (zi_get (CN := RX2) (T := TX2) (N := 3) (index := 178) (by decide +kernel) rfl rfl (by decide) uw_X2 wf_X_178) <|
  zal_c (zi_ir (by decide +kernel) rfl) <|
  zal_n
set_option maxRecDepth 100000 in
set_option maxHeartbeats 4000000 in
theorem sn_X_read (l : Launch) : zAl l 78 tb_X_read :=
  zal_c (zi_iln (j := 1) (by decide +kernel) rfl rfl) <|
  zal_c (zi_cs (index := 170) (by decide +kernel) rfl mk_X_isNoSheet wm_X_170 wq_X_isNoSheet ⟨rfl, rfl⟩ ⟨Nat.le_of_ble_eq_true rfl, Nat.le_of_ble_eq_true rfl⟩) <|
  zal_c (zi_ifeq (off := 10) (by decide +kernel) rfl rfl) <|
  zal_c (zi_aln (j := 0) (by decide +kernel) rfl rfl) <|
  zal_c (zi_ldc (n := 48) (by decide +kernel) rfl wc_X_48) <|
  zal_c (zi_cv (index := 49) (qc := (RX4, TX4, 7)) (by decide +kernel) rfl mk_X_tell rfl wm_X_49 wq_X_tell ww_X_tell ⟨rfl, rfl⟩ ⟨Nat.le_of_ble_eq_true rfl, Nat.le_of_ble_eq_true rfl⟩) <|
  zal_c (zi_ir (by decide +kernel) rfl) <|
  zal_c (zi_aln (j := 0) (by decide +kernel) rfl rfl) <|
  zal_c (zi_get (CN := RX4) (T := TX4) (N := 7) (index := 35) (by decide +kernel) rfl rfl (by decide) uw_X4 wf_X_35) <|
  zal_c (zi_iln (j := 1) (by decide +kernel) rfl rfl) <|
  zal_c (zi_aald (by decide +kernel) rfl) <|
  zal_c (zi_as (by decide +kernel) rfl (Nat.le_of_ble_eq_true rfl)) <|
  zal_c (zi_al (by decide +kernel) rfl) <|
  zal_c (zi_cv (index := 181) (qc := (RX2, TX2, 3)) (by decide +kernel) rfl mk_S_isMissing rfl wm_X_181 wq_S_isMissing ww_S_isMissing ⟨rfl, rfl⟩ ⟨Nat.le_of_ble_eq_true rfl, Nat.le_of_ble_eq_true rfl⟩) <|
  zal_c (zi_ifeq (off := 10) (by decide +kernel) rfl rfl) <|
  zal_c (zi_aln (j := 0) (by decide +kernel) rfl rfl) <|
  zal_c (zi_ldc (n := 185) (by decide +kernel) rfl wc_X_185) <|
  zal_c (zi_cv (index := 49) (qc := (RX4, TX4, 7)) (by decide +kernel) rfl mk_X_tell rfl wm_X_49 wq_X_tell ww_X_tell ⟨rfl, rfl⟩ ⟨Nat.le_of_ble_eq_true rfl, Nat.le_of_ble_eq_true rfl⟩) <|
  zal_c (zi_ir (by decide +kernel) rfl) <|
  zal_c (zi_aln (j := 0) (by decide +kernel) rfl rfl) <|
  zal_c (zi_iln (j := 2) (by decide +kernel) rfl rfl) <|
  zal_c (zi_cv (index := 105) (qc := (RX4, TX4, 7)) (by decide +kernel) rfl mk_X_isNoCouple rfl wm_X_105 wq_X_isNoCouple ww_X_isNoCouple ⟨rfl, rfl⟩ ⟨Nat.le_of_ble_eq_true rfl, Nat.le_of_ble_eq_true rfl⟩) <|
  zal_c (zi_ifne (off := 11) (by decide +kernel) rfl rfl) <|
  zal_c (zi_aln (j := 0) (by decide +kernel) rfl rfl) <|
  zal_c (zi_iln (j := 3) (by decide +kernel) rfl rfl) <|
  zal_c (zi_cv (index := 84) (qc := (RX4, TX4, 7)) (by decide +kernel) rfl mk_X_isNoInlaw rfl wm_X_84 wq_X_isNoInlaw ww_X_isNoInlaw ⟨rfl, rfl⟩ ⟨Nat.le_of_ble_eq_true rfl, Nat.le_of_ble_eq_true rfl⟩) <|
  zal_c (zi_ifeq (off := 10) (by decide +kernel) rfl rfl) <|
  zal_c (zi_aln (j := 0) (by decide +kernel) rfl rfl) <|
  zal_c (zi_ldc (n := 48) (by decide +kernel) rfl wc_X_48) <|
  zal_c (zi_cv (index := 49) (qc := (RX4, TX4, 7)) (by decide +kernel) rfl mk_X_tell rfl wm_X_49 wq_X_tell ww_X_tell ⟨rfl, rfl⟩ ⟨Nat.le_of_ble_eq_true rfl, Nat.le_of_ble_eq_true rfl⟩) <|
  zal_c (zi_ir (by decide +kernel) rfl) <|
  zal_c (zi_iconst (n := 0) (by decide +kernel) rfl rfl) <|
  zal_c (zi_is (by decide +kernel) rfl (Nat.le_of_ble_eq_true rfl)) <|
  zal_c (zi_iconst (n := 0) (by decide +kernel) rfl rfl) <|
  zal_c (zi_is (by decide +kernel) rfl (Nat.le_of_ble_eq_true rfl)) <|
  zal_c (zi_il (by decide +kernel) rfl) <|
  zal_c (zi_bipush (n := 6) (by decide +kernel) rfl rfl) <|
  zal_c (zi_cge (off := 71) (by decide +kernel) rfl rfl) <|
  zal_c (zi_iconst (n := 0) (by decide +kernel) rfl rfl) <|
  zal_c (zi_is (by decide +kernel) rfl (Nat.le_of_ble_eq_true rfl)) <|
  zal_c (zi_il (by decide +kernel) rfl) <|
  zal_c (zi_bipush (n := 9) (by decide +kernel) rfl rfl) <|
  zal_c (zi_cgt (off := 55) (by decide +kernel) rfl rfl) <|
  zal_c (zi_aln (j := 0) (by decide +kernel) rfl rfl) <|
  zal_c (zi_get (CN := RX4) (T := TX4) (N := 7) (index := 16) (by decide +kernel) rfl rfl (by decide) uw_X4 wf_X_16) <|
  zal_c (zi_aln (j := 0) (by decide +kernel) rfl rfl) <|
  zal_c (zi_get (CN := RX4) (T := TX4) (N := 7) (index := 10) (by decide +kernel) rfl rfl (by decide) uw_X4 wf_X_10) <|
  zal_c (zi_cv (index := 144) (qc := (RX0, TX0, 14)) (by decide +kernel) rfl mk_H_become rfl wm_X_144 wq_H_become ww_H_become ⟨rfl, rfl⟩ ⟨Nat.le_of_ble_eq_true rfl, Nat.le_of_ble_eq_true rfl⟩) <|
  zal_c (zi_aln (j := 0) (by decide +kernel) rfl rfl) <|
  zal_c (zi_get (CN := RX4) (T := TX4) (N := 7) (index := 16) (by decide +kernel) rfl rfl (by decide) uw_X4 wf_X_16) <|
  zal_c (zi_get (CN := RX0) (T := TX0) (N := 14) (index := 87) (by decide +kernel) rfl rfl (by decide) uw_X0 wf_X_87) <|
  zal_c (zi_iln (j := 3) (by decide +kernel) rfl rfl) <|
  zal_c (zi_il (by decide +kernel) rfl) <|
  zal_c (zi_iast (by decide +kernel) rfl) <|
  zal_c (zi_aln (j := 0) (by decide +kernel) rfl rfl) <|
  zal_c (zi_get (CN := RX4) (T := TX4) (N := 7) (index := 16) (by decide +kernel) rfl rfl (by decide) uw_X4 wf_X_16) <|
  zal_c (zi_get (CN := RX0) (T := TX0) (N := 14) (index := 135) (by decide +kernel) rfl rfl (by decide) uw_X0 wf_X_135) <|
  zal_c (zi_iln (j := 2) (by decide +kernel) rfl rfl) <|
  zal_c (zi_il (by decide +kernel) rfl) <|
  zal_c (zi_iast (by decide +kernel) rfl) <|
  zal_c (zi_aln (j := 0) (by decide +kernel) rfl rfl) <|
  zal_c (zi_al (by decide +kernel) rfl) <|
  zal_c (zi_iln (j := 2) (by decide +kernel) rfl rfl) <|
  zal_c (zi_cv (index := 207) (qc := (RX4, TX4, 7)) (by decide +kernel) rfl mk_X_goesAsBooked rfl wm_X_207 wq_X_goesAsBooked ww_X_goesAsBooked ⟨rfl, rfl⟩ ⟨Nat.le_of_ble_eq_true rfl, Nat.le_of_ble_eq_true rfl⟩) <|
  zal_c (zi_ifeq (off := 6) (by decide +kernel) rfl rfl) <|
  zal_c (zi_inc (n := 1) (by decide +kernel) rfl rfl) <|
  zal_c (zi_inc (n := 1) (by decide +kernel) rfl rfl) <|
  zal_c (zi_goto (off := -56) (by decide +kernel) rfl) <|
  zal_c (zi_inc (n := 1) (by decide +kernel) rfl rfl) <|
  zal_c (zi_goto (off := -72) (by decide +kernel) rfl) <|
  zal_c (zi_il (by decide +kernel) rfl) <|
  zal_c (zi_ir (by decide +kernel) rfl) <|
  zal_n
set_option maxRecDepth 100000 in
set_option maxHeartbeats 4000000 in
theorem sn_X_image (l : Launch) : zAl l 79 tb_X_image :=
  zal_c (zi_aln (j := 0) (by decide +kernel) rfl rfl) <|
  zal_c (zi_get (CN := RX4) (T := TX4) (N := 7) (index := 19) (by decide +kernel) rfl rfl (by decide) uw_X4 wf_X_19) <|
  zal_c (zi_aln (j := 0) (by decide +kernel) rfl rfl) <|
  zal_c (zi_get (CN := RX4) (T := TX4) (N := 7) (index := 10) (by decide +kernel) rfl rfl (by decide) uw_X4 wf_X_10) <|
  zal_c (zi_cv (index := 144) (qc := (RX0, TX0, 14)) (by decide +kernel) rfl mk_H_become rfl wm_X_144 wq_H_become ww_H_become ⟨rfl, rfl⟩ ⟨Nat.le_of_ble_eq_true rfl, Nat.le_of_ble_eq_true rfl⟩) <|
  zal_c (zi_aln (j := 0) (by decide +kernel) rfl rfl) <|
  zal_c (zi_iconst (n := 1) (by decide +kernel) rfl rfl) <|
  zal_c (zi_putz (CN := RX4) (T := TX4) (N := 7) (index := 22) (ty0 := tyX4) (by decide +kernel) rfl rfl (by decide) uw_X4 wf_X_22 tyX4_ok nmX4 rfl (by decide +kernel)) <|
  zal_c (zi_iconst (n := 1) (by decide +kernel) rfl rfl) <|
  zal_c (zi_ir (by decide +kernel) rfl) <|
  zal_n
set_option maxRecDepth 100000 in
set_option maxHeartbeats 4000000 in
theorem sn_X_undo (l : Launch) : zAl l 80 tb_X_undo :=
  zal_c (zi_aln (j := 0) (by decide +kernel) rfl rfl) <|
  zal_c (zi_get (CN := RX4) (T := TX4) (N := 7) (index := 22) (by decide +kernel) rfl rfl (by decide) uw_X4 wf_X_22) <|
  zal_c (zi_ifne (off := 10) (by decide +kernel) rfl rfl) <|
  zal_c (zi_aln (j := 0) (by decide +kernel) rfl rfl) <|
  zal_c (zi_ldc (n := 159) (by decide +kernel) rfl wc_X_159) <|
  zal_c (zi_cv (index := 49) (qc := (RX4, TX4, 7)) (by decide +kernel) rfl mk_X_tell rfl wm_X_49 wq_X_tell ww_X_tell ⟨rfl, rfl⟩ ⟨Nat.le_of_ble_eq_true rfl, Nat.le_of_ble_eq_true rfl⟩) <|
  zal_c (zi_ir (by decide +kernel) rfl) <|
  zal_c (zi_aln (j := 0) (by decide +kernel) rfl rfl) <|
  zal_c (zi_get (CN := RX4) (T := TX4) (N := 7) (index := 10) (by decide +kernel) rfl rfl (by decide) uw_X4 wf_X_10) <|
  zal_c (zi_aln (j := 0) (by decide +kernel) rfl rfl) <|
  zal_c (zi_get (CN := RX4) (T := TX4) (N := 7) (index := 19) (by decide +kernel) rfl rfl (by decide) uw_X4 wf_X_19) <|
  zal_c (zi_cv (index := 144) (qc := (RX0, TX0, 14)) (by decide +kernel) rfl mk_H_become rfl wm_X_144 wq_H_become ww_H_become ⟨rfl, rfl⟩ ⟨Nat.le_of_ble_eq_true rfl, Nat.le_of_ble_eq_true rfl⟩) <|
  zal_c (zi_aln (j := 0) (by decide +kernel) rfl rfl) <|
  zal_c (zi_get (CN := RX4) (T := TX4) (N := 7) (index := 10) (by decide +kernel) rfl rfl (by decide) uw_X4 wf_X_10) <|
  zal_c (zi_get (CN := RX0) (T := TX0) (N := 14) (index := 77) (by decide +kernel) rfl rfl (by decide) uw_X0 wf_X_77) <|
  zal_c (zi_ir (by decide +kernel) rfl) <|
  zal_n
set_option maxRecDepth 100000 in
set_option maxHeartbeats 4000000 in
theorem sn_X_tear (l : Launch) : zAl l 81 tb_X_tear :=
  zal_c (zi_aln (j := 0) (by decide +kernel) rfl rfl) <|
  zal_c (zi_get (CN := RX4) (T := TX4) (N := 7) (index := 22) (by decide +kernel) rfl rfl (by decide) uw_X4 wf_X_22) <|
  zal_c (zi_ifeq (off := 7) (by decide +kernel) rfl rfl) <|
  zal_c (zi_iconst (n := 1) (by decide +kernel) rfl rfl) <|
  zal_c (zi_goto (off := 4) (by decide +kernel) rfl) <|
  zal_c (zi_iconst (n := 0) (by decide +kernel) rfl rfl) <|
  zal_c (zi_isn (j := 1) (by decide +kernel) rfl rfl (Nat.le_of_ble_eq_true rfl)) <|
  zal_c (zi_aln (j := 0) (by decide +kernel) rfl rfl) <|
  zal_c (zi_iconst (n := 0) (by decide +kernel) rfl rfl) <|
  zal_c (zi_putz (CN := RX4) (T := TX4) (N := 7) (index := 22) (ty0 := tyX4) (by decide +kernel) rfl rfl (by decide) uw_X4 wf_X_22 tyX4_ok nmX4 rfl (by decide +kernel)) <|
  zal_c (zi_iln (j := 1) (by decide +kernel) rfl rfl) <|
  zal_c (zi_ir (by decide +kernel) rfl) <|
  zal_n
set_option maxRecDepth 100000 in
set_option maxHeartbeats 4000000 in
theorem sn_X_count (l : Launch) : zAl l 82 tb_X_count :=
  zal_c (zi_iln (j := 1) (by decide +kernel) rfl rfl) <|
  zal_c (zi_sw (dflt := 63) (lo := 0) (hi := 3) (offs := #[31, 39, 47, 55]) (len := 31) 0 (by decide +kernel) rfl rfl (by decide) rfl (zsw_of (by decide +kernel))) <|
  zal_c (zi_aln (j := 0) (by decide +kernel) rfl rfl) <|
  zal_c (zi_get (CN := RX4) (T := TX4) (N := 7) (index := 10) (by decide +kernel) rfl rfl (by decide) uw_X4 wf_X_10) <|
  zal_c (zi_get (CN := RX0) (T := TX0) (N := 14) (index := 77) (by decide +kernel) rfl rfl (by decide) uw_X0 wf_X_77) <|
  zal_c (zi_ir (by decide +kernel) rfl) <|
  zal_c (zi_aln (j := 0) (by decide +kernel) rfl rfl) <|
  zal_c (zi_get (CN := RX4) (T := TX4) (N := 7) (index := 10) (by decide +kernel) rfl rfl (by decide) uw_X4 wf_X_10) <|
  zal_c (zi_get (CN := RX0) (T := TX0) (N := 14) (index := 129) (by decide +kernel) rfl rfl (by decide) uw_X0 wf_X_129) <|
  zal_c (zi_ir (by decide +kernel) rfl) <|
  zal_c (zi_aln (j := 0) (by decide +kernel) rfl rfl) <|
  zal_c (zi_get (CN := RX4) (T := TX4) (N := 7) (index := 29) (by decide +kernel) rfl rfl (by decide) uw_X4 wf_X_29) <|
  zal_c (zi_get (CN := RX3) (T := TX3) (N := 6) (index := 160) (by decide +kernel) rfl rfl (by decide) uw_X3 wf_X_160) <|
  zal_c (zi_ir (by decide +kernel) rfl) <|
  zal_c (zi_aln (j := 0) (by decide +kernel) rfl rfl) <|
  zal_c (zi_get (CN := RX4) (T := TX4) (N := 7) (index := 10) (by decide +kernel) rfl rfl (by decide) uw_X4 wf_X_10) <|
  zal_c (zi_cv (index := 211) (qc := (RX0, TX0, 14)) (by decide +kernel) rfl mk_H_hadOfAll rfl wm_X_211 wq_H_hadOfAll ww_H_hadOfAll ⟨rfl, rfl⟩ ⟨Nat.le_of_ble_eq_true rfl, Nat.le_of_ble_eq_true rfl⟩) <|
  zal_c (zi_ir (by decide +kernel) rfl) <|
  zal_c (zi_aln (j := 0) (by decide +kernel) rfl rfl) <|
  zal_c (zi_ldc (n := 48) (by decide +kernel) rfl wc_X_48) <|
  zal_c (zi_cv (index := 49) (qc := (RX4, TX4, 7)) (by decide +kernel) rfl mk_X_tell rfl wm_X_49 wq_X_tell ww_X_tell ⟨rfl, rfl⟩ ⟨Nat.le_of_ble_eq_true rfl, Nat.le_of_ble_eq_true rfl⟩) <|
  zal_c (zi_ir (by decide +kernel) rfl) <|
  zal_n
set_option maxRecDepth 100000 in
set_option maxHeartbeats 4000000 in
theorem sn_X_status (l : Launch) : zAl l 83 tb_X_status :=
  zal_c (zi_iln (j := 1) (by decide +kernel) rfl rfl) <|
  zal_c (zi_iconst (n := -1) (by decide +kernel) rfl rfl) <|
  zal_c (zi_bipush (n := 6) (by decide +kernel) rfl rfl) <|
  zal_c (zi_cs (index := 44) (by decide +kernel) rfl mk_X_isOutside wm_X_44 wq_X_isOutside ⟨rfl, rfl⟩ ⟨Nat.le_of_ble_eq_true rfl, Nat.le_of_ble_eq_true rfl⟩) <|
  zal_c (zi_ifeq (off := 10) (by decide +kernel) rfl rfl) <|
  zal_c (zi_aln (j := 0) (by decide +kernel) rfl rfl) <|
  zal_c (zi_ldc (n := 48) (by decide +kernel) rfl wc_X_48) <|
  zal_c (zi_cv (index := 49) (qc := (RX4, TX4, 7)) (by decide +kernel) rfl mk_X_tell rfl wm_X_49 wq_X_tell ww_X_tell ⟨rfl, rfl⟩ ⟨Nat.le_of_ble_eq_true rfl, Nat.le_of_ble_eq_true rfl⟩) <|
  zal_c (zi_ir (by decide +kernel) rfl) <|
  zal_c (zi_iln (j := 1) (by decide +kernel) rfl rfl) <|
  zal_c (zi_iflt (off := 10) (by decide +kernel) rfl rfl) <|
  zal_c (zi_aln (j := 0) (by decide +kernel) rfl rfl) <|
  zal_c (zi_get (CN := RX4) (T := TX4) (N := 7) (index := 40) (by decide +kernel) rfl rfl (by decide) uw_X4 wf_X_40) <|
  zal_c (zi_iln (j := 1) (by decide +kernel) rfl rfl) <|
  zal_c (zi_iald (by decide +kernel) rfl) <|
  zal_c (zi_ir (by decide +kernel) rfl) <|
  zal_c (zi_iconst (n := 0) (by decide +kernel) rfl rfl) <|
  zal_c (zi_isn (j := 2) (by decide +kernel) rfl rfl (Nat.le_of_ble_eq_true rfl)) <|
  zal_c (zi_iconst (n := 0) (by decide +kernel) rfl rfl) <|
  zal_c (zi_isn (j := 3) (by decide +kernel) rfl rfl (Nat.le_of_ble_eq_true rfl)) <|
  zal_c (zi_iln (j := 3) (by decide +kernel) rfl rfl) <|
  zal_c (zi_bipush (n := 7) (by decide +kernel) rfl rfl) <|
  zal_c (zi_cge (off := 18) (by decide +kernel) rfl rfl) <|
  zal_c (zi_iln (j := 2) (by decide +kernel) rfl rfl) <|
  zal_c (zi_aln (j := 0) (by decide +kernel) rfl rfl) <|
  zal_c (zi_get (CN := RX4) (T := TX4) (N := 7) (index := 40) (by decide +kernel) rfl rfl (by decide) uw_X4 wf_X_40) <|
  zal_c (zi_iln (j := 3) (by decide +kernel) rfl rfl) <|
  zal_c (zi_iald (by decide +kernel) rfl) <|
  zal_c (zi_iadd (by decide +kernel) rfl) <|
  zal_c (zi_isn (j := 2) (by decide +kernel) rfl rfl (Nat.le_of_ble_eq_true rfl)) <|
  zal_c (zi_inc (n := 1) (by decide +kernel) rfl rfl) <|
  zal_c (zi_goto (off := -18) (by decide +kernel) rfl) <|
  zal_c (zi_iln (j := 2) (by decide +kernel) rfl rfl) <|
  zal_c (zi_ir (by decide +kernel) rfl) <|
  zal_n
set_option maxRecDepth 100000 in
set_option maxHeartbeats 4000000 in
theorem sn_X_tell (l : Launch) : zAl l 84 tb_X_tell :=
  zal_c (zi_ldc (n := 48) (by decide +kernel) rfl wc_X_48) <|
  zal_c (zi_iln (j := 1) (by decide +kernel) rfl rfl) <|
  zal_c (zi_isub (by decide +kernel) rfl) <|
  zal_c (zi_isn (j := 2) (by decide +kernel) rfl rfl (Nat.le_of_ble_eq_true rfl)) <|
  zal_c (zi_iln (j := 2) (by decide +kernel) rfl rfl) <|
  zal_c (zi_iconst (n := 0) (by decide +kernel) rfl rfl) <|
  zal_c (zi_bipush (n := 6) (by decide +kernel) rfl rfl) <|
  zal_c (zi_cs (index := 44) (by decide +kernel) rfl mk_X_isOutside wm_X_44 wq_X_isOutside ⟨rfl, rfl⟩ ⟨Nat.le_of_ble_eq_true rfl, Nat.le_of_ble_eq_true rfl⟩) <|
  zal_c (zi_ifne (off := 13) (by decide +kernel) rfl rfl) <|
  zal_c (zi_aln (j := 0) (by decide +kernel) rfl rfl) <|
  zal_c (zi_get (CN := RX4) (T := TX4) (N := 7) (index := 40) (by decide +kernel) rfl rfl (by decide) uw_X4 wf_X_40) <|
  zal_c (zi_iln (j := 2) (by decide +kernel) rfl rfl) <|
  zal_c (zi_dup2 (by decide +kernel) rfl) <|
  zal_c (zi_iald (by decide +kernel) rfl) <|
  zal_c (zi_iconst (n := 1) (by decide +kernel) rfl rfl) <|
  zal_c (zi_iadd (by decide +kernel) rfl) <|
  zal_c (zi_iast (by decide +kernel) rfl) <|
  zal_c (zi_iln (j := 1) (by decide +kernel) rfl rfl) <|
  zal_c (zi_ir (by decide +kernel) rfl) <|
  zal_n
set_option maxRecDepth 100000 in
set_option maxHeartbeats 4000000 in
theorem sn_X_put (l : Launch) : zAl l 85 tb_X_put :=
  zal_c (zi_iln (j := 3) (by decide +kernel) rfl rfl) <|
  zal_c (zi_il (by decide +kernel) rfl) <|
  zal_c (zi_il (by decide +kernel) rfl) <|
  zal_c (zi_cs (index := 44) (by decide +kernel) rfl mk_X_isOutside wm_X_44 wq_X_isOutside ⟨rfl, rfl⟩ ⟨Nat.le_of_ble_eq_true rfl, Nat.le_of_ble_eq_true rfl⟩) <|
  zal_c (zi_ifeq (off := 10) (by decide +kernel) rfl rfl) <|
  zal_c (zi_aln (j := 0) (by decide +kernel) rfl rfl) <|
  zal_c (zi_ldc (n := 48) (by decide +kernel) rfl wc_X_48) <|
  zal_c (zi_cv (index := 49) (qc := (RX4, TX4, 7)) (by decide +kernel) rfl mk_X_tell rfl wm_X_49 wq_X_tell ww_X_tell ⟨rfl, rfl⟩ ⟨Nat.le_of_ble_eq_true rfl, Nat.le_of_ble_eq_true rfl⟩) <|
  zal_c (zi_ir (by decide +kernel) rfl) <|
  zal_c (zi_aln (j := 1) (by decide +kernel) rfl rfl) <|
  zal_c (zi_iln (j := 2) (by decide +kernel) rfl rfl) <|
  zal_c (zi_iald (by decide +kernel) rfl) <|
  zal_c (zi_is (by decide +kernel) rfl (Nat.le_of_ble_eq_true rfl)) <|
  zal_c (zi_aln (j := 1) (by decide +kernel) rfl rfl) <|
  zal_c (zi_iln (j := 2) (by decide +kernel) rfl rfl) <|
  zal_c (zi_iln (j := 3) (by decide +kernel) rfl rfl) <|
  zal_c (zi_iast (by decide +kernel) rfl) <|
  zal_c (zi_il (by decide +kernel) rfl) <|
  zal_c (zi_ir (by decide +kernel) rfl) <|
  zal_n
set_option maxRecDepth 100000 in
set_option maxHeartbeats 4000000 in
theorem sn_X_goesAsBooked (l : Launch) : zAl l 86 tb_X_goesAsBooked :=
  zal_c (zi_iconst (n := 0) (by decide +kernel) rfl rfl) <|
  zal_c (zi_isn (j := 3) (by decide +kernel) rfl rfl (Nat.le_of_ble_eq_true rfl)) <|
  zal_c (zi_iln (j := 3) (by decide +kernel) rfl rfl) <|
  zal_c (zi_aln (j := 1) (by decide +kernel) rfl rfl) <|
  zal_c (zi_get (CN := RX2) (T := TX2) (N := 3) (index := 178) (by decide +kernel) rfl rfl (by decide) uw_X2 wf_X_178) <|
  zal_c (zi_cge (off := 38) (by decide +kernel) rfl rfl) <|
  zal_c (zi_aln (j := 0) (by decide +kernel) rfl rfl) <|
  zal_c (zi_get (CN := RX4) (T := TX4) (N := 7) (index := 16) (by decide +kernel) rfl rfl (by decide) uw_X4 wf_X_16) <|
  zal_c (zi_get (CN := RX0) (T := TX0) (N := 14) (index := 138) (by decide +kernel) rfl rfl (by decide) uw_X0 wf_X_138) <|
  zal_c (zi_iln (j := 2) (by decide +kernel) rfl rfl) <|
  zal_c (zi_iald (by decide +kernel) rfl) <|
  zal_c (zi_i2l (by decide +kernel) rfl) <|
  zal_c (zi_aln (j := 1) (by decide +kernel) rfl rfl) <|
  zal_c (zi_get (CN := RX2) (T := TX2) (N := 3) (index := 186) (by decide +kernel) rfl rfl (by decide) uw_X2 wf_X_186) <|
  zal_c (zi_iln (j := 3) (by decide +kernel) rfl rfl) <|
  zal_c (zi_lald (by decide +kernel) rfl) <|
  zal_c (zi_lcmp (by decide +kernel) rfl) <|
  zal_c (zi_ifeq (off := 5) (by decide +kernel) rfl rfl) <|
  zal_c (zi_iconst (n := 0) (by decide +kernel) rfl rfl) <|
  zal_c (zi_zr (by decide +kernel) rfl) <|
  zal_c (zi_aln (j := 0) (by decide +kernel) rfl rfl) <|
  zal_c (zi_get (CN := RX4) (T := TX4) (N := 7) (index := 16) (by decide +kernel) rfl rfl (by decide) uw_X4 wf_X_16) <|
  zal_c (zi_cv (index := 148) (qc := (RX0, TX0, 14)) (by decide +kernel) rfl mk_H_goOneSunday rfl wm_X_148 wq_H_goOneSunday ww_H_goOneSunday ⟨rfl, rfl⟩ ⟨Nat.le_of_ble_eq_true rfl, Nat.le_of_ble_eq_true rfl⟩) <|
  zal_c (zi_inc (n := 1) (by decide +kernel) rfl rfl) <|
  zal_c (zi_goto (off := -40) (by decide +kernel) rfl) <|
  zal_c (zi_iconst (n := 1) (by decide +kernel) rfl rfl) <|
  zal_c (zi_zr (by decide +kernel) rfl) <|
  zal_n
set_option maxRecDepth 100000 in
set_option maxHeartbeats 4000000 in
theorem sn_X_isNoInlaw (l : Launch) : zAl l 87 tb_X_isNoInlaw :=
  zal_c (zi_iln (j := 1) (by decide +kernel) rfl rfl) <|
  zal_c (zi_iconst (n := 0) (by decide +kernel) rfl rfl) <|
  zal_c (zi_aln (j := 0) (by decide +kernel) rfl rfl) <|
  zal_c (zi_get (CN := RX4) (T := TX4) (N := 7) (index := 10) (by decide +kernel) rfl rfl (by decide) uw_X4 wf_X_10) <|
  zal_c (zi_get (CN := RX0) (T := TX0) (N := 14) (index := 77) (by decide +kernel) rfl rfl (by decide) uw_X0 wf_X_77) <|
  zal_c (zi_iconst (n := 1) (by decide +kernel) rfl rfl) <|
  zal_c (zi_isub (by decide +kernel) rfl) <|
  zal_c (zi_cs (index := 44) (by decide +kernel) rfl mk_X_isOutside wm_X_44 wq_X_isOutside ⟨rfl, rfl⟩ ⟨Nat.le_of_ble_eq_true rfl, Nat.le_of_ble_eq_true rfl⟩) <|
  zal_c (zi_zr (by decide +kernel) rfl) <|
  zal_n
set_option maxRecDepth 100000 in
set_option maxHeartbeats 4000000 in
theorem sn_X_isNoCouple (l : Launch) : zAl l 88 tb_X_isNoCouple :=
  zal_c (zi_iln (j := 1) (by decide +kernel) rfl rfl) <|
  zal_c (zi_iconst (n := 0) (by decide +kernel) rfl rfl) <|
  zal_c (zi_aln (j := 0) (by decide +kernel) rfl rfl) <|
  zal_c (zi_get (CN := RX4) (T := TX4) (N := 7) (index := 10) (by decide +kernel) rfl rfl (by decide) uw_X4 wf_X_10) <|
  zal_c (zi_get (CN := RX0) (T := TX0) (N := 14) (index := 129) (by decide +kernel) rfl rfl (by decide) uw_X0 wf_X_129) <|
  zal_c (zi_iconst (n := 1) (by decide +kernel) rfl rfl) <|
  zal_c (zi_isub (by decide +kernel) rfl) <|
  zal_c (zi_cs (index := 44) (by decide +kernel) rfl mk_X_isOutside wm_X_44 wq_X_isOutside ⟨rfl, rfl⟩ ⟨Nat.le_of_ble_eq_true rfl, Nat.le_of_ble_eq_true rfl⟩) <|
  zal_c (zi_zr (by decide +kernel) rfl) <|
  zal_n
set_option maxRecDepth 100000 in
set_option maxHeartbeats 4000000 in
theorem sn_X_isNoKind (l : Launch) : zAl l 89 tb_X_isNoKind :=
  zal_c (zi_iln (j := 0) (by decide +kernel) rfl rfl) <|
  zal_c (zi_iconst (n := 0) (by decide +kernel) rfl rfl) <|
  zal_c (zi_iconst (n := 5) (by decide +kernel) rfl rfl) <|
  zal_c (zi_cs (index := 44) (by decide +kernel) rfl mk_X_isOutside wm_X_44 wq_X_isOutside ⟨rfl, rfl⟩ ⟨Nat.le_of_ble_eq_true rfl, Nat.le_of_ble_eq_true rfl⟩) <|
  zal_c (zi_zr (by decide +kernel) rfl) <|
  zal_n
set_option maxRecDepth 100000 in
set_option maxHeartbeats 4000000 in
theorem sn_X_isNoSheet (l : Launch) : zAl l 90 tb_X_isNoSheet :=
  zal_c (zi_iln (j := 0) (by decide +kernel) rfl rfl) <|
  zal_c (zi_iconst (n := 0) (by decide +kernel) rfl rfl) <|
  zal_c (zi_iconst (n := 3) (by decide +kernel) rfl rfl) <|
  zal_c (zi_cs (index := 44) (by decide +kernel) rfl mk_X_isOutside wm_X_44 wq_X_isOutside ⟨rfl, rfl⟩ ⟨Nat.le_of_ble_eq_true rfl, Nat.le_of_ble_eq_true rfl⟩) <|
  zal_c (zi_zr (by decide +kernel) rfl) <|
  zal_n
set_option maxRecDepth 100000 in
set_option maxHeartbeats 4000000 in
theorem sn_X_isOutside (l : Launch) : zAl l 91 tb_X_isOutside :=
  zal_c (zi_iln (j := 0) (by decide +kernel) rfl rfl) <|
  zal_c (zi_iln (j := 1) (by decide +kernel) rfl rfl) <|
  zal_c (zi_clt (off := 8) (by decide +kernel) rfl rfl) <|
  zal_c (zi_iln (j := 0) (by decide +kernel) rfl rfl) <|
  zal_c (zi_iln (j := 2) (by decide +kernel) rfl rfl) <|
  zal_c (zi_cle (off := 7) (by decide +kernel) rfl rfl) <|
  zal_c (zi_iconst (n := 1) (by decide +kernel) rfl rfl) <|
  zal_c (zi_goto (off := 4) (by decide +kernel) rfl) <|
  zal_c (zi_iconst (n := 0) (by decide +kernel) rfl rfl) <|
  zal_c (zi_zr (by decide +kernel) rfl) <|
  zal_n
set_option maxRecDepth 100000 in
set_option maxHeartbeats 4000000 in
theorem sn_M_init (l : Launch) : zAl l 92 tb_M_init :=
  zal_c (zi_aln (j := 0) (by decide +kernel) rfl rfl) <|
  zal_c (zi_obj (index := 1) (by decide +kernel) rfl wm_M_1 wo_i wo_c ⟨Nat.le_of_ble_eq_true rfl, Nat.le_of_ble_eq_true rfl⟩) <|
  zal_c (zi_aln (j := 0) (by decide +kernel) rfl rfl) <|
  zal_c (zi_bipush (n := 68) (by decide +kernel) rfl rfl) <|
  zal_c (zi_newi (by decide +kernel) rfl wa_int ⟨Nat.le_of_ble_eq_true rfl, Nat.le_of_ble_eq_true rfl⟩) <|
  zal_c (zi_puta (CN := RX5) (T := TX5) (N := 17) (index := 7) (ty0 := tyX5) (by decide +kernel) rfl rfl (by decide) uw_X5 wf_M_7 tyX5_ok nmX5 rfl rfl (ty := .array .int) (by decide +kernel) (fun _ => rfl) (fun _ => rfl) rfl) <|
  zal_c (zi_aln (j := 0) (by decide +kernel) rfl rfl) <|
  zal_c (zi_bipush (n := 68) (by decide +kernel) rfl rfl) <|
  zal_c (zi_newi (by decide +kernel) rfl wa_int ⟨Nat.le_of_ble_eq_true rfl, Nat.le_of_ble_eq_true rfl⟩) <|
  zal_c (zi_puta (CN := RX5) (T := TX5) (N := 17) (index := 13) (ty0 := tyX5) (by decide +kernel) rfl rfl (by decide) uw_X5 wf_M_13 tyX5_ok nmX5 rfl rfl (ty := .array .int) (by decide +kernel) (fun _ => rfl) (fun _ => rfl) rfl) <|
  zal_c (zi_aln (j := 0) (by decide +kernel) rfl rfl) <|
  zal_c (zi_bipush (n := 68) (by decide +kernel) rfl rfl) <|
  zal_c (zi_newi (by decide +kernel) rfl wa_int ⟨Nat.le_of_ble_eq_true rfl, Nat.le_of_ble_eq_true rfl⟩) <|
  zal_c (zi_puta (CN := RX5) (T := TX5) (N := 17) (index := 16) (ty0 := tyX5) (by decide +kernel) rfl rfl (by decide) uw_X5 wf_M_16 tyX5_ok nmX5 rfl rfl (ty := .array .int) (by decide +kernel) (fun _ => rfl) (fun _ => rfl) rfl) <|
  zal_c (zi_aln (j := 0) (by decide +kernel) rfl rfl) <|
  zal_c (zi_bipush (n := 68) (by decide +kernel) rfl rfl) <|
  zal_c (zi_newi (by decide +kernel) rfl wa_int ⟨Nat.le_of_ble_eq_true rfl, Nat.le_of_ble_eq_true rfl⟩) <|
  zal_c (zi_puta (CN := RX5) (T := TX5) (N := 17) (index := 19) (ty0 := tyX5) (by decide +kernel) rfl rfl (by decide) uw_X5 wf_M_19 tyX5_ok nmX5 rfl rfl (ty := .array .int) (by decide +kernel) (fun _ => rfl) (fun _ => rfl) rfl) <|
  zal_c (zi_aln (j := 0) (by decide +kernel) rfl rfl) <|
  zal_c (zi_bipush (n := 7) (by decide +kernel) rfl rfl) <|
  zal_c (zi_newi (by decide +kernel) rfl wa_int ⟨Nat.le_of_ble_eq_true rfl, Nat.le_of_ble_eq_true rfl⟩) <|
  zal_c (zi_puta (CN := RX5) (T := TX5) (N := 17) (index := 22) (ty0 := tyX5) (by decide +kernel) rfl rfl (by decide) uw_X5 wf_M_22 tyX5_ok nmX5 rfl rfl (ty := .array .int) (by decide +kernel) (fun _ => rfl) (fun _ => rfl) rfl) <|
  zal_c (zi_aln (j := 0) (by decide +kernel) rfl rfl) <|
  zal_c (zi_bipush (n := 8) (by decide +kernel) rfl rfl) <|
  zal_c (zi_newi (by decide +kernel) rfl wa_int ⟨Nat.le_of_ble_eq_true rfl, Nat.le_of_ble_eq_true rfl⟩) <|
  zal_c (zi_puta (CN := RX5) (T := TX5) (N := 17) (index := 25) (ty0 := tyX5) (by decide +kernel) rfl rfl (by decide) uw_X5 wf_M_25 tyX5_ok nmX5 rfl rfl (ty := .array .int) (by decide +kernel) (fun _ => rfl) (fun _ => rfl) rfl) <|
  zal_c (zi_aln (j := 0) (by decide +kernel) rfl rfl) <|
  zal_c (zi_bipush (n := 120) (by decide +kernel) rfl rfl) <|
  zal_c (zi_newi (by decide +kernel) rfl wa_int ⟨Nat.le_of_ble_eq_true rfl, Nat.le_of_ble_eq_true rfl⟩) <|
  zal_c (zi_puta (CN := RX5) (T := TX5) (N := 17) (index := 28) (ty0 := tyX5) (by decide +kernel) rfl rfl (by decide) uw_X5 wf_M_28 tyX5_ok nmX5 rfl rfl (ty := .array .int) (by decide +kernel) (fun _ => rfl) (fun _ => rfl) rfl) <|
  zal_c (zi_aln (j := 0) (by decide +kernel) rfl rfl) <|
  zal_c (zi_iconst (n := 4) (by decide +kernel) rfl rfl) <|
  zal_c (zi_newi (by decide +kernel) rfl wa_int ⟨Nat.le_of_ble_eq_true rfl, Nat.le_of_ble_eq_true rfl⟩) <|
  zal_c (zi_puta (CN := RX5) (T := TX5) (N := 17) (index := 31) (ty0 := tyX5) (by decide +kernel) rfl rfl (by decide) uw_X5 wf_M_31 tyX5_ok nmX5 rfl rfl (ty := .array .int) (by decide +kernel) (fun _ => rfl) (fun _ => rfl) rfl) <|
  zal_c (zi_aln (j := 0) (by decide +kernel) rfl rfl) <|
  zal_c (zi_iconst (n := 4) (by decide +kernel) rfl rfl) <|
  zal_c (zi_newi (by decide +kernel) rfl wa_int ⟨Nat.le_of_ble_eq_true rfl, Nat.le_of_ble_eq_true rfl⟩) <|
  zal_c (zi_puta (CN := RX5) (T := TX5) (N := 17) (index := 34) (ty0 := tyX5) (by decide +kernel) rfl rfl (by decide) uw_X5 wf_M_34 tyX5_ok nmX5 rfl rfl (ty := .array .int) (by decide +kernel) (fun _ => rfl) (fun _ => rfl) rfl) <|
  zal_c (zi_aln (j := 0) (by decide +kernel) rfl rfl) <|
  zal_c (zi_sipush (n := 160) (by decide +kernel) rfl rfl) <|
  zal_c (zi_newl (by decide +kernel) rfl wa_long ⟨Nat.le_of_ble_eq_true rfl, Nat.le_of_ble_eq_true rfl⟩) <|
  zal_c (zi_puta (CN := RX5) (T := TX5) (N := 17) (index := 37) (ty0 := tyX5) (by decide +kernel) rfl rfl (by decide) uw_X5 wf_M_37 tyX5_ok nmX5 rfl rfl (ty := .array .long) (by decide +kernel) (fun _ => rfl) (fun _ => rfl) rfl) <|
  zal_c (zi_aln (j := 0) (by decide +kernel) rfl rfl) <|
  zal_c (zi_bipush (n := 40) (by decide +kernel) rfl rfl) <|
  zal_c (zi_newl (by decide +kernel) rfl wa_long ⟨Nat.le_of_ble_eq_true rfl, Nat.le_of_ble_eq_true rfl⟩) <|
  zal_c (zi_puta (CN := RX5) (T := TX5) (N := 17) (index := 41) (ty0 := tyX5) (by decide +kernel) rfl rfl (by decide) uw_X5 wf_M_41 tyX5_ok nmX5 rfl rfl (ty := .array .long) (by decide +kernel) (fun _ => rfl) (fun _ => rfl) rfl) <|
  zal_c (zi_aln (j := 0) (by decide +kernel) rfl rfl) <|
  zal_c (zi_get (CN := RX5) (T := TX5) (N := 17) (index := 7) (by decide +kernel) rfl rfl (by decide) uw_X5 wf_M_7) <|
  zal_c (zi_iconst (n := 1) (by decide +kernel) rfl rfl) <|
  zal_c (zi_bipush (n := 10) (by decide +kernel) rfl rfl) <|
  zal_c (zi_iast (by decide +kernel) rfl) <|
  zal_c (zi_vr (by decide +kernel) rfl) <|
  zal_n
set_option maxRecDepth 100000 in
set_option maxHeartbeats 4000000 in
theorem sn_M_in (l : Launch) : zAl l 93 tb_M_in :=
  zal_c (zi_lln (j := 0) (by decide +kernel) rfl rfl) <|
  zal_c (zi_lln (j := 2) (by decide +kernel) rfl rfl) <|
  zal_c (zi_lcmp (by decide +kernel) rfl) <|
  zal_c (zi_iflt (off := 14) (by decide +kernel) rfl rfl) <|
  zal_c (zi_lln (j := 0) (by decide +kernel) rfl rfl) <|
  zal_c (zi_ll (by decide +kernel) rfl) <|
  zal_c (zi_lcmp (by decide +kernel) rfl) <|
  zal_c (zi_ifgt (off := 7) (by decide +kernel) rfl rfl) <|
  zal_c (zi_iconst (n := 1) (by decide +kernel) rfl rfl) <|
  zal_c (zi_goto (off := 4) (by decide +kernel) rfl) <|
  zal_c (zi_iconst (n := 0) (by decide +kernel) rfl rfl) <|
  zal_c (zi_zr (by decide +kernel) rfl) <|
  zal_n
set_option maxRecDepth 100000 in
set_option maxHeartbeats 4000000 in
theorem sn_M_finds (l : Launch) : zAl l 94 tb_M_finds :=
  zal_c (zi_aln (j := 0) (by decide +kernel) rfl rfl) <|
  zal_c (zi_get (CN := RX5) (T := TX5) (N := 17) (index := 22) (by decide +kernel) rfl rfl (by decide) uw_X5 wf_M_22) <|
  zal_c (zi_ldc (n := 44) (by decide +kernel) rfl wc_M_44) <|
  zal_c (zi_iln (j := 1) (by decide +kernel) rfl rfl) <|
  zal_c (zi_isub (by decide +kernel) rfl) <|
  zal_c (zi_dup2 (by decide +kernel) rfl) <|
  zal_c (zi_iald (by decide +kernel) rfl) <|
  zal_c (zi_iconst (n := 1) (by decide +kernel) rfl rfl) <|
  zal_c (zi_iadd (by decide +kernel) rfl) <|
  zal_c (zi_iast (by decide +kernel) rfl) <|
  zal_c (zi_iln (j := 1) (by decide +kernel) rfl rfl) <|
  zal_c (zi_ir (by decide +kernel) rfl) <|
  zal_n
set_option maxRecDepth 100000 in
set_option maxHeartbeats 4000000 in
theorem sn_M_saves (l : Launch) : zAl l 95 tb_M_saves :=
  zal_c (zi_iconst (n := 0) (by decide +kernel) rfl rfl) <|
  zal_c (zi_isn (j := 1) (by decide +kernel) rfl rfl (Nat.le_of_ble_eq_true rfl)) <|
  zal_c (zi_iln (j := 1) (by decide +kernel) rfl rfl) <|
  zal_c (zi_bipush (n := 68) (by decide +kernel) rfl rfl) <|
  zal_c (zi_cge (off := 21) (by decide +kernel) rfl rfl) <|
  zal_c (zi_aln (j := 0) (by decide +kernel) rfl rfl) <|
  zal_c (zi_get (CN := RX5) (T := TX5) (N := 17) (index := 16) (by decide +kernel) rfl rfl (by decide) uw_X5 wf_M_16) <|
  zal_c (zi_iln (j := 1) (by decide +kernel) rfl rfl) <|
  zal_c (zi_aln (j := 0) (by decide +kernel) rfl rfl) <|
  zal_c (zi_get (CN := RX5) (T := TX5) (N := 17) (index := 7) (by decide +kernel) rfl rfl (by decide) uw_X5 wf_M_7) <|
  zal_c (zi_iln (j := 1) (by decide +kernel) rfl rfl) <|
  zal_c (zi_iald (by decide +kernel) rfl) <|
  zal_c (zi_iast (by decide +kernel) rfl) <|
  zal_c (zi_inc (n := 1) (by decide +kernel) rfl rfl) <|
  zal_c (zi_goto (off := -21) (by decide +kernel) rfl) <|
  zal_c (zi_vr (by decide +kernel) rfl) <|
  zal_n
