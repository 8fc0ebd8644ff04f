/-! of each text: a refusal's reason stands at the session (by c99999999999999997.py) -/
theorem frs_tan (σ : Nat → Nat) : FRs (F_tan σ) := by
  unfold F_tan
  exact frs_fA
theorem frs_tau (σ : Nat → Nat) : FRs (F_tau σ) := by
  unfold F_tau
  exact frs_fU
theorem frs_tb (σ : Nat → Nat) : FRs (F_tb σ) := by
  unfold F_tb
  exact frs_fB
theorem frs_drop (σ : Nat → Nat) : FRs (F_drop σ) := by
  unfold F_drop
  exact frs_f1 (fun q M i ln => rs_dr)
theorem frs_gsum (σ : Nat → Nat) : FRs (F_gsum σ) := by
  unfold F_gsum
  exact frs_f1 (fun q M i ln => rs_get)
theorem frs_pa0 (σ : Nat → Nat) : FRs (F_pa0 σ) := by
  unfold F_pa0
  exact frs_f1 (fun q M i ln => rs_put)
theorem frs_pa1 (σ : Nat → Nat) : FRs (F_pa1 σ) := by
  unfold F_pa1
  exact frs_f1 (fun q M i ln => rs_put)
theorem frs_pa2 (σ : Nat → Nat) : FRs (F_pa2 σ) := by
  unfold F_pa2
  exact frs_f1 (fun q M i ln => rs_put)
theorem frs_bad (σ : Nat → Nat) : FRs (F_bad σ) := by
  unfold F_bad
  exact frs_fF
theorem frs_lo0 (σ : Nat → Nat) : FRs (F_lo0 σ) := by
  unfold F_lo0
  exact frs_f1 (fun q M i ln => rs_low)
theorem frs_lo16 (σ : Nat → Nat) : FRs (F_lo16 σ) := by
  unfold F_lo16
  exact frs_f1 (fun q M i ln => rs_low)
theorem frs_geach (σ : Nat → Nat) : FRs (F_geach σ) := by
  unfold F_geach
  exact frs_f1 (fun q M i ln => rs_get)
theorem frs_gjoin (σ : Nat → Nat) : FRs (F_gjoin σ) := by
  unfold F_gjoin
  exact frs_f2
theorem frs_gby (σ : Nat → Nat) : FRs (F_gby σ) := by
  unfold F_gby
  exact frs_f1 (fun q M i ln => rs_get)
theorem frs_glab (σ : Nat → Nat) : FRs (F_glab σ) := by
  unfold F_glab
  exact frs_f1 (fun q M i ln => rs_get)
theorem frs_m1 (σ : Nat → Nat) : FRs (F_m1 σ) := by
  unfold F_m1
  exact frs_f1 (fun q M i ln => rs_get)
theorem frs_m2 (σ : Nat → Nat) : FRs (F_m2 σ) := by
  unfold F_m2
  exact frs_f2
theorem frs_m3 (σ : Nat → Nat) : FRs (F_m3 σ) := by
  unfold F_m3
  exact frs_f1 (fun q M i ln => rs_get)
theorem frs_pb00 (σ : Nat → Nat) : FRs (F_pb00 σ) := by
  unfold F_pb00
  exact frs_f1 (fun q M i ln => rs_put)
theorem frs_pb01 (σ : Nat → Nat) : FRs (F_pb01 σ) := by
  unfold F_pb01
  exact frs_f1 (fun q M i ln => rs_put)
theorem frs_pb02 (σ : Nat → Nat) : FRs (F_pb02 σ) := by
  unfold F_pb02
  exact frs_f1 (fun q M i ln => rs_put)
theorem frs_pb10 (σ : Nat → Nat) : FRs (F_pb10 σ) := by
  unfold F_pb10
  exact frs_f1 (fun q M i ln => rs_put)
theorem frs_pb11 (σ : Nat → Nat) : FRs (F_pb11 σ) := by
  unfold F_pb11
  exact frs_f1 (fun q M i ln => rs_put)
theorem frs_pb12 (σ : Nat → Nat) : FRs (F_pb12 σ) := by
  unfold F_pb12
  exact frs_f1 (fun q M i ln => rs_put)
theorem frs_pb20 (σ : Nat → Nat) : FRs (F_pb20 σ) := by
  unfold F_pb20
  exact frs_f1 (fun q M i ln => rs_put)
theorem frs_pb21 (σ : Nat → Nat) : FRs (F_pb21 σ) := by
  unfold F_pb21
  exact frs_f1 (fun q M i ln => rs_put)
theorem frs_pb22 (σ : Nat → Nat) : FRs (F_pb22 σ) := by
  unfold F_pb22
  exact frs_f1 (fun q M i ln => rs_put)
theorem frs_c0 (σ : Nat → Nat) : FRs (F_c0 σ) := by
  unfold F_c0
  exact frs_f1 (fun q M i ln => rs_alt)
theorem frs_c1 (σ : Nat → Nat) : FRs (F_c1 σ) := by
  unfold F_c1
  exact frs_f1 (fun q M i ln => rs_alt)
theorem frs_c2 (σ : Nat → Nat) : FRs (F_c2 σ) := by
  unfold F_c2
  exact frs_f1 (fun q M i ln => rs_alt)
theorem frs_c3 (σ : Nat → Nat) : FRs (F_c3 σ) := by
  unfold F_c3
  exact frs_f1 (fun q M i ln => rs_alt)
theorem frs_s000 (σ : Nat → Nat) : FRs (F_s000 σ) := by
  unfold F_s000
  exact frs_f1 (fun q M i ln => rs_alt)
theorem frs_s001 (σ : Nat → Nat) : FRs (F_s001 σ) := by
  unfold F_s001
  exact frs_f1 (fun q M i ln => rs_alt)
theorem frs_s002 (σ : Nat → Nat) : FRs (F_s002 σ) := by
  unfold F_s002
  exact frs_f1 (fun q M i ln => rs_alt)
theorem frs_s003 (σ : Nat → Nat) : FRs (F_s003 σ) := by
  unfold F_s003
  exact frs_f1 (fun q M i ln => rs_alt)
theorem frs_s010 (σ : Nat → Nat) : FRs (F_s010 σ) := by
  unfold F_s010
  exact frs_f1 (fun q M i ln => rs_alt)
theorem frs_s011 (σ : Nat → Nat) : FRs (F_s011 σ) := by
  unfold F_s011
  exact frs_f1 (fun q M i ln => rs_alt)
theorem frs_s012 (σ : Nat → Nat) : FRs (F_s012 σ) := by
  unfold F_s012
  exact frs_f1 (fun q M i ln => rs_alt)
theorem frs_s013 (σ : Nat → Nat) : FRs (F_s013 σ) := by
  unfold F_s013
  exact frs_f1 (fun q M i ln => rs_alt)
theorem frs_s020 (σ : Nat → Nat) : FRs (F_s020 σ) := by
  unfold F_s020
  exact frs_f1 (fun q M i ln => rs_alt)
theorem frs_s021 (σ : Nat → Nat) : FRs (F_s021 σ) := by
  unfold F_s021
  exact frs_f1 (fun q M i ln => rs_alt)
theorem frs_s022 (σ : Nat → Nat) : FRs (F_s022 σ) := by
  unfold F_s022
  exact frs_f1 (fun q M i ln => rs_alt)
theorem frs_s023 (σ : Nat → Nat) : FRs (F_s023 σ) := by
  unfold F_s023
  exact frs_f1 (fun q M i ln => rs_alt)
theorem frs_s100 (σ : Nat → Nat) : FRs (F_s100 σ) := by
  unfold F_s100
  exact frs_f1 (fun q M i ln => rs_alt)
theorem frs_s101 (σ : Nat → Nat) : FRs (F_s101 σ) := by
  unfold F_s101
  exact frs_f1 (fun q M i ln => rs_alt)
theorem frs_s102 (σ : Nat → Nat) : FRs (F_s102 σ) := by
  unfold F_s102
  exact frs_f1 (fun q M i ln => rs_alt)
theorem frs_s103 (σ : Nat → Nat) : FRs (F_s103 σ) := by
  unfold F_s103
  exact frs_f1 (fun q M i ln => rs_alt)
theorem frs_s110 (σ : Nat → Nat) : FRs (F_s110 σ) := by
  unfold F_s110
  exact frs_f1 (fun q M i ln => rs_alt)
theorem frs_s111 (σ : Nat → Nat) : FRs (F_s111 σ) := by
  unfold F_s111
  exact frs_f1 (fun q M i ln => rs_alt)
theorem frs_s112 (σ : Nat → Nat) : FRs (F_s112 σ) := by
  unfold F_s112
  exact frs_f1 (fun q M i ln => rs_alt)
theorem frs_s113 (σ : Nat → Nat) : FRs (F_s113 σ) := by
  unfold F_s113
  exact frs_f1 (fun q M i ln => rs_alt)
theorem frs_s120 (σ : Nat → Nat) : FRs (F_s120 σ) := by
  unfold F_s120
  exact frs_f1 (fun q M i ln => rs_alt)
theorem frs_s121 (σ : Nat → Nat) : FRs (F_s121 σ) := by
  unfold F_s121
  exact frs_f1 (fun q M i ln => rs_alt)
theorem frs_s122 (σ : Nat → Nat) : FRs (F_s122 σ) := by
  unfold F_s122
  exact frs_f1 (fun q M i ln => rs_alt)
theorem frs_s123 (σ : Nat → Nat) : FRs (F_s123 σ) := by
  unfold F_s123
  exact frs_f1 (fun q M i ln => rs_alt)
theorem frs_ga00 (σ : Nat → Nat) : FRs (F_ga00 σ) := by
  unfold F_ga00
  exact frs_f1 (fun q M i ln => rs_get)
theorem frs_ga01 (σ : Nat → Nat) : FRs (F_ga01 σ) := by
  unfold F_ga01
  exact frs_f1 (fun q M i ln => rs_get)
theorem frs_ga10 (σ : Nat → Nat) : FRs (F_ga10 σ) := by
  unfold F_ga10
  exact frs_f1 (fun q M i ln => rs_get)
theorem frs_ga11 (σ : Nat → Nat) : FRs (F_ga11 σ) := by
  unfold F_ga11
  exact frs_f1 (fun q M i ln => rs_get)
theorem frs_ga20 (σ : Nat → Nat) : FRs (F_ga20 σ) := by
  unfold F_ga20
  exact frs_f1 (fun q M i ln => rs_get)
theorem frs_ga21 (σ : Nat → Nat) : FRs (F_ga21 σ) := by
  unfold F_ga21
  exact frs_f1 (fun q M i ln => rs_get)
theorem frs_ga30 (σ : Nat → Nat) : FRs (F_ga30 σ) := by
  unfold F_ga30
  exact frs_f1 (fun q M i ln => rs_get)
theorem frs_ga31 (σ : Nat → Nat) : FRs (F_ga31 σ) := by
  unfold F_ga31
  exact frs_f1 (fun q M i ln => rs_get)
