/-! of each text: an answer's lines fill it (by c99999999999999995b.py) -/
theorem ql_nm {q : TQ} {a b : QT} {wa wb kp : Nat} (ha : QLk kp wa a) (hb : QLk kp wb b) : QLk kp (nmC q wa wb) (nmC q a b) := by
  unfold nmC
  by_cases h : q.2.2.1.1 = 14348907
  · rw [if_pos h, if_pos h]; exact ha
  · rw [if_neg h, if_neg h]; exact hb
theorem ql_n1 {q : TQ} {a b : QT} {wa kp : Nat} (ha : QLk kp wa a) (hb : QLk kp wa b) : QLk kp wa (nmC q a b) := by
  unfold nmC
  by_cases h : q.2.2.1.1 = 14348907
  · rw [if_pos h]; exact ha
  · rw [if_neg h]; exact hb
theorem nm_23 {q : TQ} : nmC q 2 3 ≤ 3 := by
  unfold nmC
  split <;> decide
theorem wg_150 : ∀ n, wg [0, 1, 2, 3] n ≤ 150
  | 0 => by decide
  | 1 => by decide
  | 2 => by decide
  | 3 => by decide
  | n + 4 => by show (0 : Nat) ≤ 150; decide
theorem fan_tan (σ : Nat → Nat) : FAn (F_tan σ) := by
  unfold F_tan
  exact fan_fA
theorem fan_tau (σ : Nat → Nat) : FAn (F_tau σ) := by
  unfold F_tau
  exact fan_fU
theorem fan_tb (σ : Nat → Nat) : FAn (F_tb σ) := by
  unfold F_tb
  exact fan_fB
theorem fan_drop (σ : Nat → Nat) : FAn (F_drop σ) := by
  unfold F_drop
  exact fan_f1 (fun q M i ln h => an_dr h)
theorem fan_gsum (σ : Nat → Nat) : FAn (F_gsum σ) := by
  unfold F_gsum
  exact fan_f1 (fun q M i ln h => an_get h (ql_n1 q0G_w q0G_w) (Nat.le_refl 150) (by decide))
theorem fan_pa0 (σ : Nat → Nat) : FAn (F_pa0 σ) := by
  unfold F_pa0
  exact fan_f1 (fun q M i ln h => an_put h)
theorem fan_pa1 (σ : Nat → Nat) : FAn (F_pa1 σ) := by
  unfold F_pa1
  exact fan_f1 (fun q M i ln h => an_put h)
theorem fan_pa2 (σ : Nat → Nat) : FAn (F_pa2 σ) := by
  unfold F_pa2
  exact fan_f1 (fun q M i ln h => an_put h)
theorem fan_bad (σ : Nat → Nat) : FAn (F_bad σ) := by
  unfold F_bad
  exact fan_fF
theorem fan_lo0 (σ : Nat → Nat) : FAn (F_lo0 σ) := by
  unfold F_lo0
  exact fan_f1 (fun q M i ln h => an_low h)
theorem fan_lo16 (σ : Nat → Nat) : FAn (F_lo16 σ) := by
  unfold F_lo16
  exact fan_f1 (fun q M i ln h => an_low h)
theorem fan_geach (σ : Nat → Nat) : FAn (F_geach σ) := by
  unfold F_geach
  exact fan_f1 (fun q M i ln h => an_get h (ql_n1 q0B_w q0B_w) (Nat.le_refl 150) (by decide))
theorem fan_gjoin (σ : Nat → Nat) : FAn (F_gjoin σ) := by
  unfold F_gjoin
  exact fan_f2 (fun q q2 M i ln h => an_get h qJB_w (Nat.le_refl 150) (by decide))
theorem fan_gby (σ : Nat → Nat) : FAn (F_gby σ) := by
  unfold F_gby
  exact fan_f1 (fun q M i ln h => an_get h (ql_n1 q0N_w q0N_w) (wg_150 _) (by decide))
theorem fan_glab (σ : Nat → Nat) : FAn (F_glab σ) := by
  unfold F_glab
  exact fan_f1 (fun q M i ln h => an_get h (ql_n1 q0B_w q0B_w) (Nat.le_refl 150) (by decide))
theorem fan_m1 (σ : Nat → Nat) : FAn (F_m1 σ) := by
  unfold F_m1
  exact fan_f1 (fun q M i ln h => an_get h q0B_w (Nat.le_refl 150) (by decide))
theorem fan_m2 (σ : Nat → Nat) : FAn (F_m2 σ) := by
  unfold F_m2
  exact fan_f2 (fun q q2 M i ln h => an_get h qJN_w (Nat.le_refl 150) (by decide))
theorem fan_m3 (σ : Nat → Nat) : FAn (F_m3 σ) := by
  unfold F_m3
  exact fan_f1 (fun q M i ln h => an_get h q0N_w (Nat.le_refl 150) (by decide))
theorem fan_pb00 (σ : Nat → Nat) : FAn (F_pb00 σ) := by
  unfold F_pb00
  exact fan_f1 (fun q M i ln h => an_put h)
theorem fan_pb01 (σ : Nat → Nat) : FAn (F_pb01 σ) := by
  unfold F_pb01
  exact fan_f1 (fun q M i ln h => an_put h)
theorem fan_pb02 (σ : Nat → Nat) : FAn (F_pb02 σ) := by
  unfold F_pb02
  exact fan_f1 (fun q M i ln h => an_put h)
theorem fan_pb10 (σ : Nat → Nat) : FAn (F_pb10 σ) := by
  unfold F_pb10
  exact fan_f1 (fun q M i ln h => an_put h)
theorem fan_pb11 (σ : Nat → Nat) : FAn (F_pb11 σ) := by
  unfold F_pb11
  exact fan_f1 (fun q M i ln h => an_put h)
theorem fan_pb12 (σ : Nat → Nat) : FAn (F_pb12 σ) := by
  unfold F_pb12
  exact fan_f1 (fun q M i ln h => an_put h)
theorem fan_pb20 (σ : Nat → Nat) : FAn (F_pb20 σ) := by
  unfold F_pb20
  exact fan_f1 (fun q M i ln h => an_put h)
theorem fan_pb21 (σ : Nat → Nat) : FAn (F_pb21 σ) := by
  unfold F_pb21
  exact fan_f1 (fun q M i ln h => an_put h)
theorem fan_pb22 (σ : Nat → Nat) : FAn (F_pb22 σ) := by
  unfold F_pb22
  exact fan_f1 (fun q M i ln h => an_put h)
theorem fan_c0 (σ : Nat → Nat) : FAn (F_c0 σ) := by
  unfold F_c0
  exact fan_f1 (fun q M i ln h => an_alt h)
theorem fan_c1 (σ : Nat → Nat) : FAn (F_c1 σ) := by
  unfold F_c1
  exact fan_f1 (fun q M i ln h => an_alt h)
theorem fan_c2 (σ : Nat → Nat) : FAn (F_c2 σ) := by
  unfold F_c2
  exact fan_f1 (fun q M i ln h => an_alt h)
theorem fan_c3 (σ : Nat → Nat) : FAn (F_c3 σ) := by
  unfold F_c3
  exact fan_f1 (fun q M i ln h => an_alt h)
theorem fan_s000 (σ : Nat → Nat) : FAn (F_s000 σ) := by
  unfold F_s000
  exact fan_f1 (fun q M i ln h => an_alt h)
theorem fan_s001 (σ : Nat → Nat) : FAn (F_s001 σ) := by
  unfold F_s001
  exact fan_f1 (fun q M i ln h => an_alt h)
theorem fan_s002 (σ : Nat → Nat) : FAn (F_s002 σ) := by
  unfold F_s002
  exact fan_f1 (fun q M i ln h => an_alt h)
theorem fan_s003 (σ : Nat → Nat) : FAn (F_s003 σ) := by
  unfold F_s003
  exact fan_f1 (fun q M i ln h => an_alt h)
theorem fan_s010 (σ : Nat → Nat) : FAn (F_s010 σ) := by
  unfold F_s010
  exact fan_f1 (fun q M i ln h => an_alt h)
theorem fan_s011 (σ : Nat → Nat) : FAn (F_s011 σ) := by
  unfold F_s011
  exact fan_f1 (fun q M i ln h => an_alt h)
theorem fan_s012 (σ : Nat → Nat) : FAn (F_s012 σ) := by
  unfold F_s012
  exact fan_f1 (fun q M i ln h => an_alt h)
theorem fan_s013 (σ : Nat → Nat) : FAn (F_s013 σ) := by
  unfold F_s013
  exact fan_f1 (fun q M i ln h => an_alt h)
theorem fan_s020 (σ : Nat → Nat) : FAn (F_s020 σ) := by
  unfold F_s020
  exact fan_f1 (fun q M i ln h => an_alt h)
theorem fan_s021 (σ : Nat → Nat) : FAn (F_s021 σ) := by
  unfold F_s021
  exact fan_f1 (fun q M i ln h => an_alt h)
theorem fan_s022 (σ : Nat → Nat) : FAn (F_s022 σ) := by
  unfold F_s022
  exact fan_f1 (fun q M i ln h => an_alt h)
theorem fan_s023 (σ : Nat → Nat) : FAn (F_s023 σ) := by
  unfold F_s023
  exact fan_f1 (fun q M i ln h => an_alt h)
theorem fan_s100 (σ : Nat → Nat) : FAn (F_s100 σ) := by
  unfold F_s100
  exact fan_f1 (fun q M i ln h => an_alt h)
theorem fan_s101 (σ : Nat → Nat) : FAn (F_s101 σ) := by
  unfold F_s101
  exact fan_f1 (fun q M i ln h => an_alt h)
theorem fan_s102 (σ : Nat → Nat) : FAn (F_s102 σ) := by
  unfold F_s102
  exact fan_f1 (fun q M i ln h => an_alt h)
theorem fan_s103 (σ : Nat → Nat) : FAn (F_s103 σ) := by
  unfold F_s103
  exact fan_f1 (fun q M i ln h => an_alt h)
theorem fan_s110 (σ : Nat → Nat) : FAn (F_s110 σ) := by
  unfold F_s110
  exact fan_f1 (fun q M i ln h => an_alt h)
theorem fan_s111 (σ : Nat → Nat) : FAn (F_s111 σ) := by
  unfold F_s111
  exact fan_f1 (fun q M i ln h => an_alt h)
theorem fan_s112 (σ : Nat → Nat) : FAn (F_s112 σ) := by
  unfold F_s112
  exact fan_f1 (fun q M i ln h => an_alt h)
theorem fan_s113 (σ : Nat → Nat) : FAn (F_s113 σ) := by
  unfold F_s113
  exact fan_f1 (fun q M i ln h => an_alt h)
theorem fan_s120 (σ : Nat → Nat) : FAn (F_s120 σ) := by
  unfold F_s120
  exact fan_f1 (fun q M i ln h => an_alt h)
theorem fan_s121 (σ : Nat → Nat) : FAn (F_s121 σ) := by
  unfold F_s121
  exact fan_f1 (fun q M i ln h => an_alt h)
theorem fan_s122 (σ : Nat → Nat) : FAn (F_s122 σ) := by
  unfold F_s122
  exact fan_f1 (fun q M i ln h => an_alt h)
theorem fan_s123 (σ : Nat → Nat) : FAn (F_s123 σ) := by
  unfold F_s123
  exact fan_f1 (fun q M i ln h => an_alt h)
theorem fan_ga00 (σ : Nat → Nat) : FAn (F_ga00 σ) := by
  unfold F_ga00
  exact fan_f1 (fun q M i ln h => an_get h (ql_nm q0A_w q0A_w) (Nat.le_refl 150) nm_23)
theorem fan_ga01 (σ : Nat → Nat) : FAn (F_ga01 σ) := by
  unfold F_ga01
  exact fan_f1 (fun q M i ln h => an_get h (ql_nm q0A_w q0A_w) (Nat.le_refl 150) nm_23)
theorem fan_ga10 (σ : Nat → Nat) : FAn (F_ga10 σ) := by
  unfold F_ga10
  exact fan_f1 (fun q M i ln h => an_get h (ql_nm q0A_w q0A_w) (Nat.le_refl 150) nm_23)
theorem fan_ga11 (σ : Nat → Nat) : FAn (F_ga11 σ) := by
  unfold F_ga11
  exact fan_f1 (fun q M i ln h => an_get h (ql_nm q0A_w q0A_w) (Nat.le_refl 150) nm_23)
theorem fan_ga20 (σ : Nat → Nat) : FAn (F_ga20 σ) := by
  unfold F_ga20
  exact fan_f1 (fun q M i ln h => an_get h (ql_nm q0A_w q0A_w) (Nat.le_refl 150) nm_23)
theorem fan_ga21 (σ : Nat → Nat) : FAn (F_ga21 σ) := by
  unfold F_ga21
  exact fan_f1 (fun q M i ln h => an_get h (ql_nm q0A_w q0A_w) (Nat.le_refl 150) nm_23)
theorem fan_ga30 (σ : Nat → Nat) : FAn (F_ga30 σ) := by
  unfold F_ga30
  exact fan_f1 (fun q M i ln h => an_get h (ql_nm q0A_w q0A_w) (Nat.le_refl 150) nm_23)
theorem fan_ga31 (σ : Nat → Nat) : FAn (F_ga31 σ) := by
  unfold F_ga31
  exact fan_f1 (fun q M i ln h => an_get h (ql_nm q0A_w q0A_w) (Nat.le_refl 150) nm_23)
