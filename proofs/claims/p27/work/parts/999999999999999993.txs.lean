/-! of each text: all that the law asks (by g_tx.py) -/
theorem flz_tan (σ : Nat → Nat) : FLz (F_tan σ) := by
  unfold F_tan
  exact flz_fA
theorem flz_tau (σ : Nat → Nat) : FLz (F_tau σ) := by
  unfold F_tau
  exact flz_fU
theorem flz_tb (σ : Nat → Nat) : FLz (F_tb σ) := by
  unfold F_tb
  exact flz_fB
theorem flz_drop (σ : Nat → Nat) : FLz (F_drop σ) := by
  unfold F_drop
  exact flz_f1 (fun q M i ln h => lz_dr h)
theorem flz_gsum (σ : Nat → Nat) : FLz (F_gsum σ) := by
  unfold F_gsum
  exact flz_f1 (fun q M i ln h => lz_get h)
theorem flz_pa0 (σ : Nat → Nat) : FLz (F_pa0 σ) := by
  unfold F_pa0
  exact flz_f1 (fun q M i ln h => lz_put h)
theorem flz_pa1 (σ : Nat → Nat) : FLz (F_pa1 σ) := by
  unfold F_pa1
  exact flz_f1 (fun q M i ln h => lz_put h)
theorem flz_pa2 (σ : Nat → Nat) : FLz (F_pa2 σ) := by
  unfold F_pa2
  exact flz_f1 (fun q M i ln h => lz_put h)
theorem flz_bad (σ : Nat → Nat) : FLz (F_bad σ) := by
  unfold F_bad
  exact flz_fF
theorem flz_lo0 (σ : Nat → Nat) : FLz (F_lo0 σ) := by
  unfold F_lo0
  exact flz_f1 (fun q M i ln h => lz_low h)
theorem flz_lo16 (σ : Nat → Nat) : FLz (F_lo16 σ) := by
  unfold F_lo16
  exact flz_f1 (fun q M i ln h => lz_low h)
theorem flz_geach (σ : Nat → Nat) : FLz (F_geach σ) := by
  unfold F_geach
  exact flz_f1 (fun q M i ln h => lz_get h)
theorem flz_gjoin (σ : Nat → Nat) : FLz (F_gjoin σ) := by
  unfold F_gjoin
  exact flz_f2 (fun q q2 M i ln h => lz_get h)
theorem flz_gby (σ : Nat → Nat) : FLz (F_gby σ) := by
  unfold F_gby
  exact flz_f1 (fun q M i ln h => lz_get h)
theorem flz_glab (σ : Nat → Nat) : FLz (F_glab σ) := by
  unfold F_glab
  exact flz_f1 (fun q M i ln h => lz_get h)
theorem flz_m1 (σ : Nat → Nat) : FLz (F_m1 σ) := by
  unfold F_m1
  exact flz_f1 (fun q M i ln h => lz_get h)
theorem flz_m2 (σ : Nat → Nat) : FLz (F_m2 σ) := by
  unfold F_m2
  exact flz_f2 (fun q q2 M i ln h => lz_get h)
theorem flz_m3 (σ : Nat → Nat) : FLz (F_m3 σ) := by
  unfold F_m3
  exact flz_f1 (fun q M i ln h => lz_get h)
theorem flz_pb00 (σ : Nat → Nat) : FLz (F_pb00 σ) := by
  unfold F_pb00
  exact flz_f1 (fun q M i ln h => lz_put h)
theorem flz_pb01 (σ : Nat → Nat) : FLz (F_pb01 σ) := by
  unfold F_pb01
  exact flz_f1 (fun q M i ln h => lz_put h)
theorem flz_pb02 (σ : Nat → Nat) : FLz (F_pb02 σ) := by
  unfold F_pb02
  exact flz_f1 (fun q M i ln h => lz_put h)
theorem flz_pb10 (σ : Nat → Nat) : FLz (F_pb10 σ) := by
  unfold F_pb10
  exact flz_f1 (fun q M i ln h => lz_put h)
theorem flz_pb11 (σ : Nat → Nat) : FLz (F_pb11 σ) := by
  unfold F_pb11
  exact flz_f1 (fun q M i ln h => lz_put h)
theorem flz_pb12 (σ : Nat → Nat) : FLz (F_pb12 σ) := by
  unfold F_pb12
  exact flz_f1 (fun q M i ln h => lz_put h)
theorem flz_pb20 (σ : Nat → Nat) : FLz (F_pb20 σ) := by
  unfold F_pb20
  exact flz_f1 (fun q M i ln h => lz_put h)
theorem flz_pb21 (σ : Nat → Nat) : FLz (F_pb21 σ) := by
  unfold F_pb21
  exact flz_f1 (fun q M i ln h => lz_put h)
theorem flz_pb22 (σ : Nat → Nat) : FLz (F_pb22 σ) := by
  unfold F_pb22
  exact flz_f1 (fun q M i ln h => lz_put h)
theorem flz_c0 (σ : Nat → Nat) : FLz (F_c0 σ) := by
  unfold F_c0
  exact flz_f1 (fun q M i ln h => lz_alt h)
theorem flz_c1 (σ : Nat → Nat) : FLz (F_c1 σ) := by
  unfold F_c1
  exact flz_f1 (fun q M i ln h => lz_alt h)
theorem flz_c2 (σ : Nat → Nat) : FLz (F_c2 σ) := by
  unfold F_c2
  exact flz_f1 (fun q M i ln h => lz_alt h)
theorem flz_c3 (σ : Nat → Nat) : FLz (F_c3 σ) := by
  unfold F_c3
  exact flz_f1 (fun q M i ln h => lz_alt h)
theorem flz_s000 (σ : Nat → Nat) : FLz (F_s000 σ) := by
  unfold F_s000
  exact flz_f1 (fun q M i ln h => lz_alt h)
theorem flz_s001 (σ : Nat → Nat) : FLz (F_s001 σ) := by
  unfold F_s001
  exact flz_f1 (fun q M i ln h => lz_alt h)
theorem flz_s002 (σ : Nat → Nat) : FLz (F_s002 σ) := by
  unfold F_s002
  exact flz_f1 (fun q M i ln h => lz_alt h)
theorem flz_s003 (σ : Nat → Nat) : FLz (F_s003 σ) := by
  unfold F_s003
  exact flz_f1 (fun q M i ln h => lz_alt h)
theorem flz_s010 (σ : Nat → Nat) : FLz (F_s010 σ) := by
  unfold F_s010
  exact flz_f1 (fun q M i ln h => lz_alt h)
theorem flz_s011 (σ : Nat → Nat) : FLz (F_s011 σ) := by
  unfold F_s011
  exact flz_f1 (fun q M i ln h => lz_alt h)
theorem flz_s012 (σ : Nat → Nat) : FLz (F_s012 σ) := by
  unfold F_s012
  exact flz_f1 (fun q M i ln h => lz_alt h)
theorem flz_s013 (σ : Nat → Nat) : FLz (F_s013 σ) := by
  unfold F_s013
  exact flz_f1 (fun q M i ln h => lz_alt h)
theorem flz_s020 (σ : Nat → Nat) : FLz (F_s020 σ) := by
  unfold F_s020
  exact flz_f1 (fun q M i ln h => lz_alt h)
theorem flz_s021 (σ : Nat → Nat) : FLz (F_s021 σ) := by
  unfold F_s021
  exact flz_f1 (fun q M i ln h => lz_alt h)
theorem flz_s022 (σ : Nat → Nat) : FLz (F_s022 σ) := by
  unfold F_s022
  exact flz_f1 (fun q M i ln h => lz_alt h)
theorem flz_s023 (σ : Nat → Nat) : FLz (F_s023 σ) := by
  unfold F_s023
  exact flz_f1 (fun q M i ln h => lz_alt h)
theorem flz_s100 (σ : Nat → Nat) : FLz (F_s100 σ) := by
  unfold F_s100
  exact flz_f1 (fun q M i ln h => lz_alt h)
theorem flz_s101 (σ : Nat → Nat) : FLz (F_s101 σ) := by
  unfold F_s101
  exact flz_f1 (fun q M i ln h => lz_alt h)
theorem flz_s102 (σ : Nat → Nat) : FLz (F_s102 σ) := by
  unfold F_s102
  exact flz_f1 (fun q M i ln h => lz_alt h)
theorem flz_s103 (σ : Nat → Nat) : FLz (F_s103 σ) := by
  unfold F_s103
  exact flz_f1 (fun q M i ln h => lz_alt h)
theorem flz_s110 (σ : Nat → Nat) : FLz (F_s110 σ) := by
  unfold F_s110
  exact flz_f1 (fun q M i ln h => lz_alt h)
theorem flz_s111 (σ : Nat → Nat) : FLz (F_s111 σ) := by
  unfold F_s111
  exact flz_f1 (fun q M i ln h => lz_alt h)
theorem flz_s112 (σ : Nat → Nat) : FLz (F_s112 σ) := by
  unfold F_s112
  exact flz_f1 (fun q M i ln h => lz_alt h)
theorem flz_s113 (σ : Nat → Nat) : FLz (F_s113 σ) := by
  unfold F_s113
  exact flz_f1 (fun q M i ln h => lz_alt h)
theorem flz_s120 (σ : Nat → Nat) : FLz (F_s120 σ) := by
  unfold F_s120
  exact flz_f1 (fun q M i ln h => lz_alt h)
theorem flz_s121 (σ : Nat → Nat) : FLz (F_s121 σ) := by
  unfold F_s121
  exact flz_f1 (fun q M i ln h => lz_alt h)
theorem flz_s122 (σ : Nat → Nat) : FLz (F_s122 σ) := by
  unfold F_s122
  exact flz_f1 (fun q M i ln h => lz_alt h)
theorem flz_s123 (σ : Nat → Nat) : FLz (F_s123 σ) := by
  unfold F_s123
  exact flz_f1 (fun q M i ln h => lz_alt h)
theorem flz_ga00 (σ : Nat → Nat) : FLz (F_ga00 σ) := by
  unfold F_ga00
  exact flz_f1 (fun q M i ln h => lz_get h)
theorem flz_ga01 (σ : Nat → Nat) : FLz (F_ga01 σ) := by
  unfold F_ga01
  exact flz_f1 (fun q M i ln h => lz_get h)
theorem flz_ga10 (σ : Nat → Nat) : FLz (F_ga10 σ) := by
  unfold F_ga10
  exact flz_f1 (fun q M i ln h => lz_get h)
theorem flz_ga11 (σ : Nat → Nat) : FLz (F_ga11 σ) := by
  unfold F_ga11
  exact flz_f1 (fun q M i ln h => lz_get h)
theorem flz_ga20 (σ : Nat → Nat) : FLz (F_ga20 σ) := by
  unfold F_ga20
  exact flz_f1 (fun q M i ln h => lz_get h)
theorem flz_ga21 (σ : Nat → Nat) : FLz (F_ga21 σ) := by
  unfold F_ga21
  exact flz_f1 (fun q M i ln h => lz_get h)
theorem flz_ga30 (σ : Nat → Nat) : FLz (F_ga30 σ) := by
  unfold F_ga30
  exact flz_f1 (fun q M i ln h => lz_get h)
theorem flz_ga31 (σ : Nat → Nat) : FLz (F_ga31 σ) := by
  unfold F_ga31
  exact flz_f1 (fun q M i ln h => lz_get h)
theorem fbz_tan (σ : Nat → Nat) : FBz (F_tan σ) := by
  unfold F_tan
  exact fbz_fA
theorem fbz_tau (σ : Nat → Nat) : FBz (F_tau σ) := by
  unfold F_tau
  exact fbz_fU
theorem fbz_tb (σ : Nat → Nat) : FBz (F_tb σ) := by
  unfold F_tb
  exact fbz_fB
theorem fbz_drop (σ : Nat → Nat) : FBz (F_drop σ) := by
  unfold F_drop
  exact fbz_f1 (fun b9 q M i ln h => bz9_dr h)
theorem fbz_gsum (σ : Nat → Nat) : FBz (F_gsum σ) := by
  unfold F_gsum
  exact fbz_f1 (fun b9 q M i ln h => bz9_get h)
theorem fbz_pa0 (σ : Nat → Nat) : FBz (F_pa0 σ) := by
  unfold F_pa0
  exact fbz_f1 (fun b9 q M i ln h => bz9_put h)
theorem fbz_pa1 (σ : Nat → Nat) : FBz (F_pa1 σ) := by
  unfold F_pa1
  exact fbz_f1 (fun b9 q M i ln h => bz9_put h)
theorem fbz_pa2 (σ : Nat → Nat) : FBz (F_pa2 σ) := by
  unfold F_pa2
  exact fbz_f1 (fun b9 q M i ln h => bz9_put h)
theorem fbz_bad (σ : Nat → Nat) : FBz (F_bad σ) := by
  unfold F_bad
  exact fbz_fF
theorem fbz_lo0 (σ : Nat → Nat) : FBz (F_lo0 σ) := by
  unfold F_lo0
  exact fbz_f1 (fun b9 q M i ln h => bz9_low h)
theorem fbz_lo16 (σ : Nat → Nat) : FBz (F_lo16 σ) := by
  unfold F_lo16
  exact fbz_f1 (fun b9 q M i ln h => bz9_low h)
theorem fbz_geach (σ : Nat → Nat) : FBz (F_geach σ) := by
  unfold F_geach
  exact fbz_f1 (fun b9 q M i ln h => bz9_get h)
theorem fbz_gjoin (σ : Nat → Nat) : FBz (F_gjoin σ) := by
  unfold F_gjoin
  exact fbz_f2 (fun b9 q q2 M i ln h => bz9_get h)
theorem fbz_gby (σ : Nat → Nat) : FBz (F_gby σ) := by
  unfold F_gby
  exact fbz_f1 (fun b9 q M i ln h => bz9_get h)
theorem fbz_glab (σ : Nat → Nat) : FBz (F_glab σ) := by
  unfold F_glab
  exact fbz_f1 (fun b9 q M i ln h => bz9_get h)
theorem fbz_m1 (σ : Nat → Nat) : FBz (F_m1 σ) := by
  unfold F_m1
  exact fbz_f1 (fun b9 q M i ln h => bz9_get h)
theorem fbz_m2 (σ : Nat → Nat) : FBz (F_m2 σ) := by
  unfold F_m2
  exact fbz_f2 (fun b9 q q2 M i ln h => bz9_get h)
theorem fbz_m3 (σ : Nat → Nat) : FBz (F_m3 σ) := by
  unfold F_m3
  exact fbz_f1 (fun b9 q M i ln h => bz9_get h)
theorem fbz_pb00 (σ : Nat → Nat) : FBz (F_pb00 σ) := by
  unfold F_pb00
  exact fbz_f1 (fun b9 q M i ln h => bz9_put h)
theorem fbz_pb01 (σ : Nat → Nat) : FBz (F_pb01 σ) := by
  unfold F_pb01
  exact fbz_f1 (fun b9 q M i ln h => bz9_put h)
theorem fbz_pb02 (σ : Nat → Nat) : FBz (F_pb02 σ) := by
  unfold F_pb02
  exact fbz_f1 (fun b9 q M i ln h => bz9_put h)
theorem fbz_pb10 (σ : Nat → Nat) : FBz (F_pb10 σ) := by
  unfold F_pb10
  exact fbz_f1 (fun b9 q M i ln h => bz9_put h)
theorem fbz_pb11 (σ : Nat → Nat) : FBz (F_pb11 σ) := by
  unfold F_pb11
  exact fbz_f1 (fun b9 q M i ln h => bz9_put h)
theorem fbz_pb12 (σ : Nat → Nat) : FBz (F_pb12 σ) := by
  unfold F_pb12
  exact fbz_f1 (fun b9 q M i ln h => bz9_put h)
theorem fbz_pb20 (σ : Nat → Nat) : FBz (F_pb20 σ) := by
  unfold F_pb20
  exact fbz_f1 (fun b9 q M i ln h => bz9_put h)
theorem fbz_pb21 (σ : Nat → Nat) : FBz (F_pb21 σ) := by
  unfold F_pb21
  exact fbz_f1 (fun b9 q M i ln h => bz9_put h)
theorem fbz_pb22 (σ : Nat → Nat) : FBz (F_pb22 σ) := by
  unfold F_pb22
  exact fbz_f1 (fun b9 q M i ln h => bz9_put h)
theorem fbz_c0 (σ : Nat → Nat) : FBz (F_c0 σ) := by
  unfold F_c0
  exact fbz_f1 (fun b9 q M i ln h => bz9_alt h)
theorem fbz_c1 (σ : Nat → Nat) : FBz (F_c1 σ) := by
  unfold F_c1
  exact fbz_f1 (fun b9 q M i ln h => bz9_alt h)
theorem fbz_c2 (σ : Nat → Nat) : FBz (F_c2 σ) := by
  unfold F_c2
  exact fbz_f1 (fun b9 q M i ln h => bz9_alt h)
theorem fbz_c3 (σ : Nat → Nat) : FBz (F_c3 σ) := by
  unfold F_c3
  exact fbz_f1 (fun b9 q M i ln h => bz9_alt h)
theorem fbz_s000 (σ : Nat → Nat) : FBz (F_s000 σ) := by
  unfold F_s000
  exact fbz_f1 (fun b9 q M i ln h => bz9_alt h)
theorem fbz_s001 (σ : Nat → Nat) : FBz (F_s001 σ) := by
  unfold F_s001
  exact fbz_f1 (fun b9 q M i ln h => bz9_alt h)
theorem fbz_s002 (σ : Nat → Nat) : FBz (F_s002 σ) := by
  unfold F_s002
  exact fbz_f1 (fun b9 q M i ln h => bz9_alt h)
theorem fbz_s003 (σ : Nat → Nat) : FBz (F_s003 σ) := by
  unfold F_s003
  exact fbz_f1 (fun b9 q M i ln h => bz9_alt h)
theorem fbz_s010 (σ : Nat → Nat) : FBz (F_s010 σ) := by
  unfold F_s010
  exact fbz_f1 (fun b9 q M i ln h => bz9_alt h)
theorem fbz_s011 (σ : Nat → Nat) : FBz (F_s011 σ) := by
  unfold F_s011
  exact fbz_f1 (fun b9 q M i ln h => bz9_alt h)
theorem fbz_s012 (σ : Nat → Nat) : FBz (F_s012 σ) := by
  unfold F_s012
  exact fbz_f1 (fun b9 q M i ln h => bz9_alt h)
theorem fbz_s013 (σ : Nat → Nat) : FBz (F_s013 σ) := by
  unfold F_s013
  exact fbz_f1 (fun b9 q M i ln h => bz9_alt h)
theorem fbz_s020 (σ : Nat → Nat) : FBz (F_s020 σ) := by
  unfold F_s020
  exact fbz_f1 (fun b9 q M i ln h => bz9_alt h)
theorem fbz_s021 (σ : Nat → Nat) : FBz (F_s021 σ) := by
  unfold F_s021
  exact fbz_f1 (fun b9 q M i ln h => bz9_alt h)
theorem fbz_s022 (σ : Nat → Nat) : FBz (F_s022 σ) := by
  unfold F_s022
  exact fbz_f1 (fun b9 q M i ln h => bz9_alt h)
theorem fbz_s023 (σ : Nat → Nat) : FBz (F_s023 σ) := by
  unfold F_s023
  exact fbz_f1 (fun b9 q M i ln h => bz9_alt h)
theorem fbz_s100 (σ : Nat → Nat) : FBz (F_s100 σ) := by
  unfold F_s100
  exact fbz_f1 (fun b9 q M i ln h => bz9_alt h)
theorem fbz_s101 (σ : Nat → Nat) : FBz (F_s101 σ) := by
  unfold F_s101
  exact fbz_f1 (fun b9 q M i ln h => bz9_alt h)
theorem fbz_s102 (σ : Nat → Nat) : FBz (F_s102 σ) := by
  unfold F_s102
  exact fbz_f1 (fun b9 q M i ln h => bz9_alt h)
theorem fbz_s103 (σ : Nat → Nat) : FBz (F_s103 σ) := by
  unfold F_s103
  exact fbz_f1 (fun b9 q M i ln h => bz9_alt h)
theorem fbz_s110 (σ : Nat → Nat) : FBz (F_s110 σ) := by
  unfold F_s110
  exact fbz_f1 (fun b9 q M i ln h => bz9_alt h)
theorem fbz_s111 (σ : Nat → Nat) : FBz (F_s111 σ) := by
  unfold F_s111
  exact fbz_f1 (fun b9 q M i ln h => bz9_alt h)
theorem fbz_s112 (σ : Nat → Nat) : FBz (F_s112 σ) := by
  unfold F_s112
  exact fbz_f1 (fun b9 q M i ln h => bz9_alt h)
theorem fbz_s113 (σ : Nat → Nat) : FBz (F_s113 σ) := by
  unfold F_s113
  exact fbz_f1 (fun b9 q M i ln h => bz9_alt h)
theorem fbz_s120 (σ : Nat → Nat) : FBz (F_s120 σ) := by
  unfold F_s120
  exact fbz_f1 (fun b9 q M i ln h => bz9_alt h)
theorem fbz_s121 (σ : Nat → Nat) : FBz (F_s121 σ) := by
  unfold F_s121
  exact fbz_f1 (fun b9 q M i ln h => bz9_alt h)
theorem fbz_s122 (σ : Nat → Nat) : FBz (F_s122 σ) := by
  unfold F_s122
  exact fbz_f1 (fun b9 q M i ln h => bz9_alt h)
theorem fbz_s123 (σ : Nat → Nat) : FBz (F_s123 σ) := by
  unfold F_s123
  exact fbz_f1 (fun b9 q M i ln h => bz9_alt h)
theorem fbz_ga00 (σ : Nat → Nat) : FBz (F_ga00 σ) := by
  unfold F_ga00
  exact fbz_f1 (fun b9 q M i ln h => bz9_get h)
theorem fbz_ga01 (σ : Nat → Nat) : FBz (F_ga01 σ) := by
  unfold F_ga01
  exact fbz_f1 (fun b9 q M i ln h => bz9_get h)
theorem fbz_ga10 (σ : Nat → Nat) : FBz (F_ga10 σ) := by
  unfold F_ga10
  exact fbz_f1 (fun b9 q M i ln h => bz9_get h)
theorem fbz_ga11 (σ : Nat → Nat) : FBz (F_ga11 σ) := by
  unfold F_ga11
  exact fbz_f1 (fun b9 q M i ln h => bz9_get h)
theorem fbz_ga20 (σ : Nat → Nat) : FBz (F_ga20 σ) := by
  unfold F_ga20
  exact fbz_f1 (fun b9 q M i ln h => bz9_get h)
theorem fbz_ga21 (σ : Nat → Nat) : FBz (F_ga21 σ) := by
  unfold F_ga21
  exact fbz_f1 (fun b9 q M i ln h => bz9_get h)
theorem fbz_ga30 (σ : Nat → Nat) : FBz (F_ga30 σ) := by
  unfold F_ga30
  exact fbz_f1 (fun b9 q M i ln h => bz9_get h)
theorem fbz_ga31 (σ : Nat → Nat) : FBz (F_ga31 σ) := by
  unfold F_ga31
  exact fbz_f1 (fun b9 q M i ln h => bz9_get h)
theorem tx_tan {σ : Nat → Nat} {lw : Bool} {cs : List Nat} (h : eqT σ cs rt_tan) (ht : cs.take 5 = [116, 97, 98, 108, 101]) : TxOk lw cs := ⟨F_tan σ, h.2.1, (by rw [← h.2.2]; decide), (by rw [← h.2.2]; decide), tx_run (fun _ _ _ _ _ _ _ _ _ _ _ h hi hV hC hT hlab hmd hsl hshf ht hlen => sh_tan h hi hV hC hT hlab hmd hsl hshf ht hlen) fup_tan h (by decide) (by decide), frs_tan σ, (fok_tan σ).1, (fok_tan σ).2.1, ftl_tan σ, flz_tan σ, fbz_tan σ, Or.inr (fok_tan σ).2.2, Or.inr (Or.inl ht)⟩
theorem tx_tau {σ : Nat → Nat} {lw : Bool} {cs : List Nat} (h : eqT σ cs rt_tau) (ht : cs.take 5 = [116, 97, 98, 108, 101]) : TxOk lw cs := ⟨F_tau σ, h.2.1, (by rw [← h.2.2]; decide), (by rw [← h.2.2]; decide), tx_run (fun _ _ _ _ _ _ _ _ _ _ _ h hi hV hC hT hlab hmd hsl hshf ht hlen => sh_tau h hi hV hC hT hlab hmd hsl hshf ht hlen) fup_tau h (by decide) (by decide), frs_tau σ, (fok_tau σ).1, (fok_tau σ).2.1, ftl_tau σ, flz_tau σ, fbz_tau σ, Or.inr (fok_tau σ).2.2, Or.inr (Or.inl ht)⟩
theorem tx_tb {σ : Nat → Nat} {lw : Bool} {cs : List Nat} (h : eqT σ cs rt_tb) (ht : cs.take 5 = [116, 97, 98, 108, 101]) : TxOk lw cs := ⟨F_tb σ, h.2.1, (by rw [← h.2.2]; decide), (by rw [← h.2.2]; decide), tx_run (fun _ _ _ _ _ _ _ _ _ _ _ h hi hV hC hT hlab hmd hsl hshf ht hlen => sh_tb h hi hV hC hT hlab hmd hsl hshf ht hlen) fup_tb h (by decide) (by decide), frs_tb σ, (fok_tb σ).1, (fok_tb σ).2.1, ftl_tb σ, flz_tb σ, fbz_tb σ, Or.inr (fok_tb σ).2.2, Or.inr (Or.inl ht)⟩
theorem tx_drop {σ : Nat → Nat} {lw : Bool} {cs : List Nat} (h : eqT σ cs rt_drop) (ht : cs.take 4 = [100, 114, 111, 112]) : TxOk lw cs := ⟨F_drop σ, h.2.1, (by rw [← h.2.2]; decide), (by rw [← h.2.2]; decide), tx_run (fun _ _ _ _ _ _ _ _ _ _ _ h hi hV hC hT hlab hmd hsl hshf ht hlen => sh_drop h hi hV hC hT hlab hmd hsl hshf ht hlen) fup_drop h (by decide) (by decide), frs_drop σ, (fok_drop σ).1, (fok_drop σ).2.1, ftl_drop σ, flz_drop σ, fbz_drop σ, Or.inr (fok_drop σ).2.2, Or.inl ht⟩
theorem tx_gsum {σ : Nat → Nat} {lw : Bool} {cs : List Nat} (h : eqT σ cs rt_gsum) : TxOk lw cs := ⟨F_gsum σ, h.2.1, (by rw [← h.2.2]; decide), (by rw [← h.2.2]; decide), tx_run (fun _ _ _ _ _ _ _ _ _ _ _ h hi hV hC hT hlab hmd hsl hshf ht hlen => sh_gsum h hi hV hC hT hlab hmd hsl hshf ht hlen) fup_gsum h (by decide) (by decide), frs_gsum σ, (fok_gsum σ).1, (fok_gsum σ).2.1, ftl_gsum σ, flz_gsum σ, fbz_gsum σ, Or.inr (fok_gsum σ).2.2, Or.inr (Or.inr (fwt_gsum σ))⟩
theorem tx_pa0 {σ : Nat → Nat} {lw : Bool} {cs : List Nat} (h : eqT σ cs rt_pa0) : TxOk lw cs := ⟨F_pa0 σ, h.2.1, (by rw [← h.2.2]; decide), (by rw [← h.2.2]; decide), tx_run (fun _ _ _ _ _ _ _ _ _ _ _ h hi hV hC hT hlab hmd hsl hshf ht hlen => sh_pa0 h hi hV hC hT hlab hmd hsl hshf ht hlen) fup_pa0 h (by decide) (by decide), frs_pa0 σ, (fok_pa0 σ).1, (fok_pa0 σ).2.1, ftl_pa0 σ, flz_pa0 σ, fbz_pa0 σ, Or.inr (fok_pa0 σ).2.2, Or.inr (Or.inr (fwt_pa0 σ))⟩
theorem tx_pa1 {σ : Nat → Nat} {lw : Bool} {cs : List Nat} (h : eqT σ cs rt_pa1) : TxOk lw cs := ⟨F_pa1 σ, h.2.1, (by rw [← h.2.2]; decide), (by rw [← h.2.2]; decide), tx_run (fun _ _ _ _ _ _ _ _ _ _ _ h hi hV hC hT hlab hmd hsl hshf ht hlen => sh_pa1 h hi hV hC hT hlab hmd hsl hshf ht hlen) fup_pa1 h (by decide) (by decide), frs_pa1 σ, (fok_pa1 σ).1, (fok_pa1 σ).2.1, ftl_pa1 σ, flz_pa1 σ, fbz_pa1 σ, Or.inr (fok_pa1 σ).2.2, Or.inr (Or.inr (fwt_pa1 σ))⟩
theorem tx_pa2 {σ : Nat → Nat} {lw : Bool} {cs : List Nat} (h : eqT σ cs rt_pa2) : TxOk lw cs := ⟨F_pa2 σ, h.2.1, (by rw [← h.2.2]; decide), (by rw [← h.2.2]; decide), tx_run (fun _ _ _ _ _ _ _ _ _ _ _ h hi hV hC hT hlab hmd hsl hshf ht hlen => sh_pa2 h hi hV hC hT hlab hmd hsl hshf ht hlen) fup_pa2 h (by decide) (by decide), frs_pa2 σ, (fok_pa2 σ).1, (fok_pa2 σ).2.1, ftl_pa2 σ, flz_pa2 σ, fbz_pa2 σ, Or.inr (fok_pa2 σ).2.2, Or.inr (Or.inr (fwt_pa2 σ))⟩
theorem tx_bad {σ : Nat → Nat} {lw : Bool} {cs : List Nat} (h : eqT σ cs rt_bad) : TxOk lw cs := ⟨F_bad σ, h.2.1, (by rw [← h.2.2]; decide), (by rw [← h.2.2]; decide), tx_run (fun _ _ _ _ _ _ _ _ _ _ _ h hi hV hC hT hlab hmd hsl hshf ht hlen => sh_bad h hi hV hC hT hlab hmd hsl hshf ht hlen) fup_bad h (by decide) (by decide), frs_bad σ, (fok_bad σ).1, (fok_bad σ).2.1, ftl_bad σ, flz_bad σ, fbz_bad σ, Or.inr (fok_bad σ).2.2, Or.inr (Or.inr (fwt_bad σ))⟩
theorem tx_pbad {σ : Nat → Nat} {lw : Bool} {cs : List Nat} (h : eqT σ cs rt_pbad) : TxOk lw cs := ⟨F_pbad σ, h.2.1, (by rw [← h.2.2]; decide), (by rw [← h.2.2]; decide), tx_run (fun _ _ _ _ _ _ _ _ _ _ _ h hi hV hC hT hlab hmd hsl hshf ht hlen => sh_pbad h hi hV hC hT hlab hmd hsl hshf ht hlen) fup_pbad h (by decide) (by decide), frs_pbad σ, (fok_pbad σ).1, (fok_pbad σ).2.1, ftl_pbad σ, flz_pbad σ, fbz_pbad σ, Or.inr (fok_pbad σ).2.2, Or.inr (Or.inr (fwt_pbad σ))⟩
theorem tx_lo0 {σ : Nat → Nat} {cs : List Nat} (h : eqT σ cs rt_lo0) : TxOk true cs := ⟨F_lo0 σ, h.2.1, (by rw [← h.2.2]; decide), (by rw [← h.2.2]; decide), tx_run (fun _ _ _ _ _ _ _ _ _ _ _ h hi hV hC hT hlab hmd hsl hshf ht hlen => sh_lo0 h hi hV hC hT hlab hmd hsl hshf ht hlen) fup_lo0 h (by decide) (by decide), frs_lo0 σ, fwf_lo0 σ, flo_lo0 σ, ftl_lo0 σ, flz_lo0 σ, fbz_lo0 σ, Or.inl rfl, Or.inr (Or.inr (fwt_lo0 σ))⟩
theorem tx_lo16 {σ : Nat → Nat} {cs : List Nat} (h : eqT σ cs rt_lo16) : TxOk true cs := ⟨F_lo16 σ, h.2.1, (by rw [← h.2.2]; decide), (by rw [← h.2.2]; decide), tx_run (fun _ _ _ _ _ _ _ _ _ _ _ h hi hV hC hT hlab hmd hsl hshf ht hlen => sh_lo16 h hi hV hC hT hlab hmd hsl hshf ht hlen) fup_lo16 h (by decide) (by decide), frs_lo16 σ, fwf_lo16 σ, flo_lo16 σ, ftl_lo16 σ, flz_lo16 σ, fbz_lo16 σ, Or.inl rfl, Or.inr (Or.inr (fwt_lo16 σ))⟩
theorem tx_geach {σ : Nat → Nat} {lw : Bool} {cs : List Nat} (h : eqT σ cs rt_geach) : TxOk lw cs := ⟨F_geach σ, h.2.1, (by rw [← h.2.2]; decide), (by rw [← h.2.2]; decide), tx_run (fun _ _ _ _ _ _ _ _ _ _ _ h hi hV hC hT hlab hmd hsl hshf ht hlen => sh_geach h hi hV hC hT hlab hmd hsl hshf ht hlen) fup_geach h (by decide) (by decide), frs_geach σ, (fok_geach σ).1, (fok_geach σ).2.1, ftl_geach σ, flz_geach σ, fbz_geach σ, Or.inr (fok_geach σ).2.2, Or.inr (Or.inr (fwt_geach σ))⟩
theorem tx_gjoin {σ : Nat → Nat} {lw : Bool} {cs : List Nat} (h : eqT σ cs rt_gjoin) : TxOk lw cs := ⟨F_gjoin σ, h.2.1, (by rw [← h.2.2]; decide), (by rw [← h.2.2]; decide), tx_run (fun _ _ _ _ _ _ _ _ _ _ _ h hi hV hC hT hlab hmd hsl hshf ht hlen => sh_gjoin h hi hV hC hT hlab hmd hsl hshf ht hlen) fup_gjoin h (by decide) (by decide), frs_gjoin σ, (fok_gjoin σ).1, (fok_gjoin σ).2.1, ftl_gjoin σ, flz_gjoin σ, fbz_gjoin σ, Or.inr (fok_gjoin σ).2.2, Or.inr (Or.inr (fwt_gjoin σ))⟩
theorem tx_gby {σ : Nat → Nat} {lw : Bool} {cs : List Nat} (h : eqT σ cs rt_gby) : TxOk lw cs := ⟨F_gby σ, h.2.1, (by rw [← h.2.2]; decide), (by rw [← h.2.2]; decide), tx_run (fun _ _ _ _ _ _ _ _ _ _ _ h hi hV hC hT hlab hmd hsl hshf ht hlen => sh_gby h hi hV hC hT hlab hmd hsl hshf ht hlen) fup_gby h (by decide) (by decide), frs_gby σ, (fok_gby σ).1, (fok_gby σ).2.1, ftl_gby σ, flz_gby σ, fbz_gby σ, Or.inr (fok_gby σ).2.2, Or.inr (Or.inr (fwt_gby σ))⟩
theorem tx_glab {σ : Nat → Nat} {lw : Bool} {cs : List Nat} (h : eqT σ cs rt_glab) : TxOk lw cs := ⟨F_glab σ, h.2.1, (by rw [← h.2.2]; decide), (by rw [← h.2.2]; decide), tx_run (fun _ _ _ _ _ _ _ _ _ _ _ h hi hV hC hT hlab hmd hsl hshf ht hlen => sh_glab h hi hV hC hT hlab hmd hsl hshf ht hlen) fup_glab h (by decide) (by decide), frs_glab σ, (fok_glab σ).1, (fok_glab σ).2.1, ftl_glab σ, flz_glab σ, fbz_glab σ, Or.inr (fok_glab σ).2.2, Or.inr (Or.inr (fwt_glab σ))⟩
theorem tx_pb00 {σ : Nat → Nat} {lw : Bool} {cs : List Nat} (h : eqT σ cs rt_pb00) : TxOk lw cs := ⟨F_pb00 σ, h.2.1, (by rw [← h.2.2]; decide), (by rw [← h.2.2]; decide), tx_run (fun _ _ _ _ _ _ _ _ _ _ _ h hi hV hC hT hlab hmd hsl hshf ht hlen => sh_pb00 h hi hV hC hT hlab hmd hsl hshf ht hlen) fup_pb00 h (by decide) (by decide), frs_pb00 σ, (fok_pb00 σ).1, (fok_pb00 σ).2.1, ftl_pb00 σ, flz_pb00 σ, fbz_pb00 σ, Or.inr (fok_pb00 σ).2.2, Or.inr (Or.inr (fwt_pb00 σ))⟩
theorem tx_pb01 {σ : Nat → Nat} {lw : Bool} {cs : List Nat} (h : eqT σ cs rt_pb01) : TxOk lw cs := ⟨F_pb01 σ, h.2.1, (by rw [← h.2.2]; decide), (by rw [← h.2.2]; decide), tx_run (fun _ _ _ _ _ _ _ _ _ _ _ h hi hV hC hT hlab hmd hsl hshf ht hlen => sh_pb01 h hi hV hC hT hlab hmd hsl hshf ht hlen) fup_pb01 h (by decide) (by decide), frs_pb01 σ, (fok_pb01 σ).1, (fok_pb01 σ).2.1, ftl_pb01 σ, flz_pb01 σ, fbz_pb01 σ, Or.inr (fok_pb01 σ).2.2, Or.inr (Or.inr (fwt_pb01 σ))⟩
theorem tx_pb02 {σ : Nat → Nat} {lw : Bool} {cs : List Nat} (h : eqT σ cs rt_pb02) : TxOk lw cs := ⟨F_pb02 σ, h.2.1, (by rw [← h.2.2]; decide), (by rw [← h.2.2]; decide), tx_run (fun _ _ _ _ _ _ _ _ _ _ _ h hi hV hC hT hlab hmd hsl hshf ht hlen => sh_pb02 h hi hV hC hT hlab hmd hsl hshf ht hlen) fup_pb02 h (by decide) (by decide), frs_pb02 σ, (fok_pb02 σ).1, (fok_pb02 σ).2.1, ftl_pb02 σ, flz_pb02 σ, fbz_pb02 σ, Or.inr (fok_pb02 σ).2.2, Or.inr (Or.inr (fwt_pb02 σ))⟩
theorem tx_pb10 {σ : Nat → Nat} {lw : Bool} {cs : List Nat} (h : eqT σ cs rt_pb10) : TxOk lw cs := ⟨F_pb10 σ, h.2.1, (by rw [← h.2.2]; decide), (by rw [← h.2.2]; decide), tx_run (fun _ _ _ _ _ _ _ _ _ _ _ h hi hV hC hT hlab hmd hsl hshf ht hlen => sh_pb10 h hi hV hC hT hlab hmd hsl hshf ht hlen) fup_pb10 h (by decide) (by decide), frs_pb10 σ, (fok_pb10 σ).1, (fok_pb10 σ).2.1, ftl_pb10 σ, flz_pb10 σ, fbz_pb10 σ, Or.inr (fok_pb10 σ).2.2, Or.inr (Or.inr (fwt_pb10 σ))⟩
theorem tx_pb11 {σ : Nat → Nat} {lw : Bool} {cs : List Nat} (h : eqT σ cs rt_pb11) : TxOk lw cs := ⟨F_pb11 σ, h.2.1, (by rw [← h.2.2]; decide), (by rw [← h.2.2]; decide), tx_run (fun _ _ _ _ _ _ _ _ _ _ _ h hi hV hC hT hlab hmd hsl hshf ht hlen => sh_pb11 h hi hV hC hT hlab hmd hsl hshf ht hlen) fup_pb11 h (by decide) (by decide), frs_pb11 σ, (fok_pb11 σ).1, (fok_pb11 σ).2.1, ftl_pb11 σ, flz_pb11 σ, fbz_pb11 σ, Or.inr (fok_pb11 σ).2.2, Or.inr (Or.inr (fwt_pb11 σ))⟩
theorem tx_pb12 {σ : Nat → Nat} {lw : Bool} {cs : List Nat} (h : eqT σ cs rt_pb12) : TxOk lw cs := ⟨F_pb12 σ, h.2.1, (by rw [← h.2.2]; decide), (by rw [← h.2.2]; decide), tx_run (fun _ _ _ _ _ _ _ _ _ _ _ h hi hV hC hT hlab hmd hsl hshf ht hlen => sh_pb12 h hi hV hC hT hlab hmd hsl hshf ht hlen) fup_pb12 h (by decide) (by decide), frs_pb12 σ, (fok_pb12 σ).1, (fok_pb12 σ).2.1, ftl_pb12 σ, flz_pb12 σ, fbz_pb12 σ, Or.inr (fok_pb12 σ).2.2, Or.inr (Or.inr (fwt_pb12 σ))⟩
theorem tx_pb20 {σ : Nat → Nat} {lw : Bool} {cs : List Nat} (h : eqT σ cs rt_pb20) : TxOk lw cs := ⟨F_pb20 σ, h.2.1, (by rw [← h.2.2]; decide), (by rw [← h.2.2]; decide), tx_run (fun _ _ _ _ _ _ _ _ _ _ _ h hi hV hC hT hlab hmd hsl hshf ht hlen => sh_pb20 h hi hV hC hT hlab hmd hsl hshf ht hlen) fup_pb20 h (by decide) (by decide), frs_pb20 σ, (fok_pb20 σ).1, (fok_pb20 σ).2.1, ftl_pb20 σ, flz_pb20 σ, fbz_pb20 σ, Or.inr (fok_pb20 σ).2.2, Or.inr (Or.inr (fwt_pb20 σ))⟩
theorem tx_pb21 {σ : Nat → Nat} {lw : Bool} {cs : List Nat} (h : eqT σ cs rt_pb21) : TxOk lw cs := ⟨F_pb21 σ, h.2.1, (by rw [← h.2.2]; decide), (by rw [← h.2.2]; decide), tx_run (fun _ _ _ _ _ _ _ _ _ _ _ h hi hV hC hT hlab hmd hsl hshf ht hlen => sh_pb21 h hi hV hC hT hlab hmd hsl hshf ht hlen) fup_pb21 h (by decide) (by decide), frs_pb21 σ, (fok_pb21 σ).1, (fok_pb21 σ).2.1, ftl_pb21 σ, flz_pb21 σ, fbz_pb21 σ, Or.inr (fok_pb21 σ).2.2, Or.inr (Or.inr (fwt_pb21 σ))⟩
theorem tx_pb22 {σ : Nat → Nat} {lw : Bool} {cs : List Nat} (h : eqT σ cs rt_pb22) : TxOk lw cs := ⟨F_pb22 σ, h.2.1, (by rw [← h.2.2]; decide), (by rw [← h.2.2]; decide), tx_run (fun _ _ _ _ _ _ _ _ _ _ _ h hi hV hC hT hlab hmd hsl hshf ht hlen => sh_pb22 h hi hV hC hT hlab hmd hsl hshf ht hlen) fup_pb22 h (by decide) (by decide), frs_pb22 σ, (fok_pb22 σ).1, (fok_pb22 σ).2.1, ftl_pb22 σ, flz_pb22 σ, fbz_pb22 σ, Or.inr (fok_pb22 σ).2.2, Or.inr (Or.inr (fwt_pb22 σ))⟩
theorem tx_c0 {σ : Nat → Nat} {lw : Bool} {cs : List Nat} (h : eqT σ cs rt_c0) : TxOk lw cs := ⟨F_c0 σ, h.2.1, (by rw [← h.2.2]; decide), (by rw [← h.2.2]; decide), tx_run (fun _ _ _ _ _ _ _ _ _ _ _ h hi hV hC hT hlab hmd hsl hshf ht hlen => sh_c0 h hi hV hC hT hlab hmd hsl hshf ht hlen) fup_c0 h (by decide) (by decide), frs_c0 σ, (fok_c0 σ).1, (fok_c0 σ).2.1, ftl_c0 σ, flz_c0 σ, fbz_c0 σ, Or.inr (fok_c0 σ).2.2, Or.inr (Or.inr (fwt_c0 σ))⟩
theorem tx_c1 {σ : Nat → Nat} {lw : Bool} {cs : List Nat} (h : eqT σ cs rt_c1) : TxOk lw cs := ⟨F_c1 σ, h.2.1, (by rw [← h.2.2]; decide), (by rw [← h.2.2]; decide), tx_run (fun _ _ _ _ _ _ _ _ _ _ _ h hi hV hC hT hlab hmd hsl hshf ht hlen => sh_c1 h hi hV hC hT hlab hmd hsl hshf ht hlen) fup_c1 h (by decide) (by decide), frs_c1 σ, (fok_c1 σ).1, (fok_c1 σ).2.1, ftl_c1 σ, flz_c1 σ, fbz_c1 σ, Or.inr (fok_c1 σ).2.2, Or.inr (Or.inr (fwt_c1 σ))⟩
theorem tx_c2 {σ : Nat → Nat} {lw : Bool} {cs : List Nat} (h : eqT σ cs rt_c2) : TxOk lw cs := ⟨F_c2 σ, h.2.1, (by rw [← h.2.2]; decide), (by rw [← h.2.2]; decide), tx_run (fun _ _ _ _ _ _ _ _ _ _ _ h hi hV hC hT hlab hmd hsl hshf ht hlen => sh_c2 h hi hV hC hT hlab hmd hsl hshf ht hlen) fup_c2 h (by decide) (by decide), frs_c2 σ, (fok_c2 σ).1, (fok_c2 σ).2.1, ftl_c2 σ, flz_c2 σ, fbz_c2 σ, Or.inr (fok_c2 σ).2.2, Or.inr (Or.inr (fwt_c2 σ))⟩
theorem tx_c3 {σ : Nat → Nat} {lw : Bool} {cs : List Nat} (h : eqT σ cs rt_c3) : TxOk lw cs := ⟨F_c3 σ, h.2.1, (by rw [← h.2.2]; decide), (by rw [← h.2.2]; decide), tx_run (fun _ _ _ _ _ _ _ _ _ _ _ h hi hV hC hT hlab hmd hsl hshf ht hlen => sh_c3 h hi hV hC hT hlab hmd hsl hshf ht hlen) fup_c3 h (by decide) (by decide), frs_c3 σ, (fok_c3 σ).1, (fok_c3 σ).2.1, ftl_c3 σ, flz_c3 σ, fbz_c3 σ, Or.inr (fok_c3 σ).2.2, Or.inr (Or.inr (fwt_c3 σ))⟩
theorem tx_s000 {σ : Nat → Nat} {lw : Bool} {cs : List Nat} (h : eqT σ cs rt_s000) : TxOk lw cs := ⟨F_s000 σ, h.2.1, (by rw [← h.2.2]; decide), (by rw [← h.2.2]; decide), tx_run (fun _ _ _ _ _ _ _ _ _ _ _ h hi hV hC hT hlab hmd hsl hshf ht hlen => sh_s000 h hi hV hC hT hlab hmd hsl hshf ht hlen) fup_s000 h (by decide) (by decide), frs_s000 σ, (fok_s000 σ).1, (fok_s000 σ).2.1, ftl_s000 σ, flz_s000 σ, fbz_s000 σ, Or.inr (fok_s000 σ).2.2, Or.inr (Or.inr (fwt_s000 σ))⟩
theorem tx_s001 {σ : Nat → Nat} {lw : Bool} {cs : List Nat} (h : eqT σ cs rt_s001) : TxOk lw cs := ⟨F_s001 σ, h.2.1, (by rw [← h.2.2]; decide), (by rw [← h.2.2]; decide), tx_run (fun _ _ _ _ _ _ _ _ _ _ _ h hi hV hC hT hlab hmd hsl hshf ht hlen => sh_s001 h hi hV hC hT hlab hmd hsl hshf ht hlen) fup_s001 h (by decide) (by decide), frs_s001 σ, (fok_s001 σ).1, (fok_s001 σ).2.1, ftl_s001 σ, flz_s001 σ, fbz_s001 σ, Or.inr (fok_s001 σ).2.2, Or.inr (Or.inr (fwt_s001 σ))⟩
theorem tx_s002 {σ : Nat → Nat} {lw : Bool} {cs : List Nat} (h : eqT σ cs rt_s002) : TxOk lw cs := ⟨F_s002 σ, h.2.1, (by rw [← h.2.2]; decide), (by rw [← h.2.2]; decide), tx_run (fun _ _ _ _ _ _ _ _ _ _ _ h hi hV hC hT hlab hmd hsl hshf ht hlen => sh_s002 h hi hV hC hT hlab hmd hsl hshf ht hlen) fup_s002 h (by decide) (by decide), frs_s002 σ, (fok_s002 σ).1, (fok_s002 σ).2.1, ftl_s002 σ, flz_s002 σ, fbz_s002 σ, Or.inr (fok_s002 σ).2.2, Or.inr (Or.inr (fwt_s002 σ))⟩
theorem tx_s003 {σ : Nat → Nat} {lw : Bool} {cs : List Nat} (h : eqT σ cs rt_s003) : TxOk lw cs := ⟨F_s003 σ, h.2.1, (by rw [← h.2.2]; decide), (by rw [← h.2.2]; decide), tx_run (fun _ _ _ _ _ _ _ _ _ _ _ h hi hV hC hT hlab hmd hsl hshf ht hlen => sh_s003 h hi hV hC hT hlab hmd hsl hshf ht hlen) fup_s003 h (by decide) (by decide), frs_s003 σ, (fok_s003 σ).1, (fok_s003 σ).2.1, ftl_s003 σ, flz_s003 σ, fbz_s003 σ, Or.inr (fok_s003 σ).2.2, Or.inr (Or.inr (fwt_s003 σ))⟩
theorem tx_s010 {σ : Nat → Nat} {lw : Bool} {cs : List Nat} (h : eqT σ cs rt_s010) : TxOk lw cs := ⟨F_s010 σ, h.2.1, (by rw [← h.2.2]; decide), (by rw [← h.2.2]; decide), tx_run (fun _ _ _ _ _ _ _ _ _ _ _ h hi hV hC hT hlab hmd hsl hshf ht hlen => sh_s010 h hi hV hC hT hlab hmd hsl hshf ht hlen) fup_s010 h (by decide) (by decide), frs_s010 σ, (fok_s010 σ).1, (fok_s010 σ).2.1, ftl_s010 σ, flz_s010 σ, fbz_s010 σ, Or.inr (fok_s010 σ).2.2, Or.inr (Or.inr (fwt_s010 σ))⟩
theorem tx_s011 {σ : Nat → Nat} {lw : Bool} {cs : List Nat} (h : eqT σ cs rt_s011) : TxOk lw cs := ⟨F_s011 σ, h.2.1, (by rw [← h.2.2]; decide), (by rw [← h.2.2]; decide), tx_run (fun _ _ _ _ _ _ _ _ _ _ _ h hi hV hC hT hlab hmd hsl hshf ht hlen => sh_s011 h hi hV hC hT hlab hmd hsl hshf ht hlen) fup_s011 h (by decide) (by decide), frs_s011 σ, (fok_s011 σ).1, (fok_s011 σ).2.1, ftl_s011 σ, flz_s011 σ, fbz_s011 σ, Or.inr (fok_s011 σ).2.2, Or.inr (Or.inr (fwt_s011 σ))⟩
theorem tx_s012 {σ : Nat → Nat} {lw : Bool} {cs : List Nat} (h : eqT σ cs rt_s012) : TxOk lw cs := ⟨F_s012 σ, h.2.1, (by rw [← h.2.2]; decide), (by rw [← h.2.2]; decide), tx_run (fun _ _ _ _ _ _ _ _ _ _ _ h hi hV hC hT hlab hmd hsl hshf ht hlen => sh_s012 h hi hV hC hT hlab hmd hsl hshf ht hlen) fup_s012 h (by decide) (by decide), frs_s012 σ, (fok_s012 σ).1, (fok_s012 σ).2.1, ftl_s012 σ, flz_s012 σ, fbz_s012 σ, Or.inr (fok_s012 σ).2.2, Or.inr (Or.inr (fwt_s012 σ))⟩
theorem tx_s013 {σ : Nat → Nat} {lw : Bool} {cs : List Nat} (h : eqT σ cs rt_s013) : TxOk lw cs := ⟨F_s013 σ, h.2.1, (by rw [← h.2.2]; decide), (by rw [← h.2.2]; decide), tx_run (fun _ _ _ _ _ _ _ _ _ _ _ h hi hV hC hT hlab hmd hsl hshf ht hlen => sh_s013 h hi hV hC hT hlab hmd hsl hshf ht hlen) fup_s013 h (by decide) (by decide), frs_s013 σ, (fok_s013 σ).1, (fok_s013 σ).2.1, ftl_s013 σ, flz_s013 σ, fbz_s013 σ, Or.inr (fok_s013 σ).2.2, Or.inr (Or.inr (fwt_s013 σ))⟩
theorem tx_s020 {σ : Nat → Nat} {lw : Bool} {cs : List Nat} (h : eqT σ cs rt_s020) : TxOk lw cs := ⟨F_s020 σ, h.2.1, (by rw [← h.2.2]; decide), (by rw [← h.2.2]; decide), tx_run (fun _ _ _ _ _ _ _ _ _ _ _ h hi hV hC hT hlab hmd hsl hshf ht hlen => sh_s020 h hi hV hC hT hlab hmd hsl hshf ht hlen) fup_s020 h (by decide) (by decide), frs_s020 σ, (fok_s020 σ).1, (fok_s020 σ).2.1, ftl_s020 σ, flz_s020 σ, fbz_s020 σ, Or.inr (fok_s020 σ).2.2, Or.inr (Or.inr (fwt_s020 σ))⟩
theorem tx_s021 {σ : Nat → Nat} {lw : Bool} {cs : List Nat} (h : eqT σ cs rt_s021) : TxOk lw cs := ⟨F_s021 σ, h.2.1, (by rw [← h.2.2]; decide), (by rw [← h.2.2]; decide), tx_run (fun _ _ _ _ _ _ _ _ _ _ _ h hi hV hC hT hlab hmd hsl hshf ht hlen => sh_s021 h hi hV hC hT hlab hmd hsl hshf ht hlen) fup_s021 h (by decide) (by decide), frs_s021 σ, (fok_s021 σ).1, (fok_s021 σ).2.1, ftl_s021 σ, flz_s021 σ, fbz_s021 σ, Or.inr (fok_s021 σ).2.2, Or.inr (Or.inr (fwt_s021 σ))⟩
theorem tx_s022 {σ : Nat → Nat} {lw : Bool} {cs : List Nat} (h : eqT σ cs rt_s022) : TxOk lw cs := ⟨F_s022 σ, h.2.1, (by rw [← h.2.2]; decide), (by rw [← h.2.2]; decide), tx_run (fun _ _ _ _ _ _ _ _ _ _ _ h hi hV hC hT hlab hmd hsl hshf ht hlen => sh_s022 h hi hV hC hT hlab hmd hsl hshf ht hlen) fup_s022 h (by decide) (by decide), frs_s022 σ, (fok_s022 σ).1, (fok_s022 σ).2.1, ftl_s022 σ, flz_s022 σ, fbz_s022 σ, Or.inr (fok_s022 σ).2.2, Or.inr (Or.inr (fwt_s022 σ))⟩
theorem tx_s023 {σ : Nat → Nat} {lw : Bool} {cs : List Nat} (h : eqT σ cs rt_s023) : TxOk lw cs := ⟨F_s023 σ, h.2.1, (by rw [← h.2.2]; decide), (by rw [← h.2.2]; decide), tx_run (fun _ _ _ _ _ _ _ _ _ _ _ h hi hV hC hT hlab hmd hsl hshf ht hlen => sh_s023 h hi hV hC hT hlab hmd hsl hshf ht hlen) fup_s023 h (by decide) (by decide), frs_s023 σ, (fok_s023 σ).1, (fok_s023 σ).2.1, ftl_s023 σ, flz_s023 σ, fbz_s023 σ, Or.inr (fok_s023 σ).2.2, Or.inr (Or.inr (fwt_s023 σ))⟩
theorem tx_s100 {σ : Nat → Nat} {lw : Bool} {cs : List Nat} (h : eqT σ cs rt_s100) : TxOk lw cs := ⟨F_s100 σ, h.2.1, (by rw [← h.2.2]; decide), (by rw [← h.2.2]; decide), tx_run (fun _ _ _ _ _ _ _ _ _ _ _ h hi hV hC hT hlab hmd hsl hshf ht hlen => sh_s100 h hi hV hC hT hlab hmd hsl hshf ht hlen) fup_s100 h (by decide) (by decide), frs_s100 σ, (fok_s100 σ).1, (fok_s100 σ).2.1, ftl_s100 σ, flz_s100 σ, fbz_s100 σ, Or.inr (fok_s100 σ).2.2, Or.inr (Or.inr (fwt_s100 σ))⟩
theorem tx_s101 {σ : Nat → Nat} {lw : Bool} {cs : List Nat} (h : eqT σ cs rt_s101) : TxOk lw cs := ⟨F_s101 σ, h.2.1, (by rw [← h.2.2]; decide), (by rw [← h.2.2]; decide), tx_run (fun _ _ _ _ _ _ _ _ _ _ _ h hi hV hC hT hlab hmd hsl hshf ht hlen => sh_s101 h hi hV hC hT hlab hmd hsl hshf ht hlen) fup_s101 h (by decide) (by decide), frs_s101 σ, (fok_s101 σ).1, (fok_s101 σ).2.1, ftl_s101 σ, flz_s101 σ, fbz_s101 σ, Or.inr (fok_s101 σ).2.2, Or.inr (Or.inr (fwt_s101 σ))⟩
theorem tx_s102 {σ : Nat → Nat} {lw : Bool} {cs : List Nat} (h : eqT σ cs rt_s102) : TxOk lw cs := ⟨F_s102 σ, h.2.1, (by rw [← h.2.2]; decide), (by rw [← h.2.2]; decide), tx_run (fun _ _ _ _ _ _ _ _ _ _ _ h hi hV hC hT hlab hmd hsl hshf ht hlen => sh_s102 h hi hV hC hT hlab hmd hsl hshf ht hlen) fup_s102 h (by decide) (by decide), frs_s102 σ, (fok_s102 σ).1, (fok_s102 σ).2.1, ftl_s102 σ, flz_s102 σ, fbz_s102 σ, Or.inr (fok_s102 σ).2.2, Or.inr (Or.inr (fwt_s102 σ))⟩
theorem tx_s103 {σ : Nat → Nat} {lw : Bool} {cs : List Nat} (h : eqT σ cs rt_s103) : TxOk lw cs := ⟨F_s103 σ, h.2.1, (by rw [← h.2.2]; decide), (by rw [← h.2.2]; decide), tx_run (fun _ _ _ _ _ _ _ _ _ _ _ h hi hV hC hT hlab hmd hsl hshf ht hlen => sh_s103 h hi hV hC hT hlab hmd hsl hshf ht hlen) fup_s103 h (by decide) (by decide), frs_s103 σ, (fok_s103 σ).1, (fok_s103 σ).2.1, ftl_s103 σ, flz_s103 σ, fbz_s103 σ, Or.inr (fok_s103 σ).2.2, Or.inr (Or.inr (fwt_s103 σ))⟩
theorem tx_s110 {σ : Nat → Nat} {lw : Bool} {cs : List Nat} (h : eqT σ cs rt_s110) : TxOk lw cs := ⟨F_s110 σ, h.2.1, (by rw [← h.2.2]; decide), (by rw [← h.2.2]; decide), tx_run (fun _ _ _ _ _ _ _ _ _ _ _ h hi hV hC hT hlab hmd hsl hshf ht hlen => sh_s110 h hi hV hC hT hlab hmd hsl hshf ht hlen) fup_s110 h (by decide) (by decide), frs_s110 σ, (fok_s110 σ).1, (fok_s110 σ).2.1, ftl_s110 σ, flz_s110 σ, fbz_s110 σ, Or.inr (fok_s110 σ).2.2, Or.inr (Or.inr (fwt_s110 σ))⟩
theorem tx_s111 {σ : Nat → Nat} {lw : Bool} {cs : List Nat} (h : eqT σ cs rt_s111) : TxOk lw cs := ⟨F_s111 σ, h.2.1, (by rw [← h.2.2]; decide), (by rw [← h.2.2]; decide), tx_run (fun _ _ _ _ _ _ _ _ _ _ _ h hi hV hC hT hlab hmd hsl hshf ht hlen => sh_s111 h hi hV hC hT hlab hmd hsl hshf ht hlen) fup_s111 h (by decide) (by decide), frs_s111 σ, (fok_s111 σ).1, (fok_s111 σ).2.1, ftl_s111 σ, flz_s111 σ, fbz_s111 σ, Or.inr (fok_s111 σ).2.2, Or.inr (Or.inr (fwt_s111 σ))⟩
theorem tx_s112 {σ : Nat → Nat} {lw : Bool} {cs : List Nat} (h : eqT σ cs rt_s112) : TxOk lw cs := ⟨F_s112 σ, h.2.1, (by rw [← h.2.2]; decide), (by rw [← h.2.2]; decide), tx_run (fun _ _ _ _ _ _ _ _ _ _ _ h hi hV hC hT hlab hmd hsl hshf ht hlen => sh_s112 h hi hV hC hT hlab hmd hsl hshf ht hlen) fup_s112 h (by decide) (by decide), frs_s112 σ, (fok_s112 σ).1, (fok_s112 σ).2.1, ftl_s112 σ, flz_s112 σ, fbz_s112 σ, Or.inr (fok_s112 σ).2.2, Or.inr (Or.inr (fwt_s112 σ))⟩
theorem tx_s113 {σ : Nat → Nat} {lw : Bool} {cs : List Nat} (h : eqT σ cs rt_s113) : TxOk lw cs := ⟨F_s113 σ, h.2.1, (by rw [← h.2.2]; decide), (by rw [← h.2.2]; decide), tx_run (fun _ _ _ _ _ _ _ _ _ _ _ h hi hV hC hT hlab hmd hsl hshf ht hlen => sh_s113 h hi hV hC hT hlab hmd hsl hshf ht hlen) fup_s113 h (by decide) (by decide), frs_s113 σ, (fok_s113 σ).1, (fok_s113 σ).2.1, ftl_s113 σ, flz_s113 σ, fbz_s113 σ, Or.inr (fok_s113 σ).2.2, Or.inr (Or.inr (fwt_s113 σ))⟩
theorem tx_s120 {σ : Nat → Nat} {lw : Bool} {cs : List Nat} (h : eqT σ cs rt_s120) : TxOk lw cs := ⟨F_s120 σ, h.2.1, (by rw [← h.2.2]; decide), (by rw [← h.2.2]; decide), tx_run (fun _ _ _ _ _ _ _ _ _ _ _ h hi hV hC hT hlab hmd hsl hshf ht hlen => sh_s120 h hi hV hC hT hlab hmd hsl hshf ht hlen) fup_s120 h (by decide) (by decide), frs_s120 σ, (fok_s120 σ).1, (fok_s120 σ).2.1, ftl_s120 σ, flz_s120 σ, fbz_s120 σ, Or.inr (fok_s120 σ).2.2, Or.inr (Or.inr (fwt_s120 σ))⟩
theorem tx_s121 {σ : Nat → Nat} {lw : Bool} {cs : List Nat} (h : eqT σ cs rt_s121) : TxOk lw cs := ⟨F_s121 σ, h.2.1, (by rw [← h.2.2]; decide), (by rw [← h.2.2]; decide), tx_run (fun _ _ _ _ _ _ _ _ _ _ _ h hi hV hC hT hlab hmd hsl hshf ht hlen => sh_s121 h hi hV hC hT hlab hmd hsl hshf ht hlen) fup_s121 h (by decide) (by decide), frs_s121 σ, (fok_s121 σ).1, (fok_s121 σ).2.1, ftl_s121 σ, flz_s121 σ, fbz_s121 σ, Or.inr (fok_s121 σ).2.2, Or.inr (Or.inr (fwt_s121 σ))⟩
theorem tx_s122 {σ : Nat → Nat} {lw : Bool} {cs : List Nat} (h : eqT σ cs rt_s122) : TxOk lw cs := ⟨F_s122 σ, h.2.1, (by rw [← h.2.2]; decide), (by rw [← h.2.2]; decide), tx_run (fun _ _ _ _ _ _ _ _ _ _ _ h hi hV hC hT hlab hmd hsl hshf ht hlen => sh_s122 h hi hV hC hT hlab hmd hsl hshf ht hlen) fup_s122 h (by decide) (by decide), frs_s122 σ, (fok_s122 σ).1, (fok_s122 σ).2.1, ftl_s122 σ, flz_s122 σ, fbz_s122 σ, Or.inr (fok_s122 σ).2.2, Or.inr (Or.inr (fwt_s122 σ))⟩
theorem tx_s123 {σ : Nat → Nat} {lw : Bool} {cs : List Nat} (h : eqT σ cs rt_s123) : TxOk lw cs := ⟨F_s123 σ, h.2.1, (by rw [← h.2.2]; decide), (by rw [← h.2.2]; decide), tx_run (fun _ _ _ _ _ _ _ _ _ _ _ h hi hV hC hT hlab hmd hsl hshf ht hlen => sh_s123 h hi hV hC hT hlab hmd hsl hshf ht hlen) fup_s123 h (by decide) (by decide), frs_s123 σ, (fok_s123 σ).1, (fok_s123 σ).2.1, ftl_s123 σ, flz_s123 σ, fbz_s123 σ, Or.inr (fok_s123 σ).2.2, Or.inr (Or.inr (fwt_s123 σ))⟩
theorem tx_ga00 {σ : Nat → Nat} {lw : Bool} {cs : List Nat} (h : eqT σ cs rt_ga00) : TxOk lw cs := ⟨F_ga00 σ, h.2.1, (by rw [← h.2.2]; decide), (by rw [← h.2.2]; decide), tx_run (fun _ _ _ _ _ _ _ _ _ _ _ h hi hV hC hT hlab hmd hsl hshf ht hlen => sh_ga00 h hi hV hC hT hlab hmd hsl hshf ht hlen) fup_ga00 h (by decide) (by decide), frs_ga00 σ, (fok_ga00 σ).1, (fok_ga00 σ).2.1, ftl_ga00 σ, flz_ga00 σ, fbz_ga00 σ, Or.inr (fok_ga00 σ).2.2, Or.inr (Or.inr (fwt_ga00 σ))⟩
theorem tx_ga01 {σ : Nat → Nat} {lw : Bool} {cs : List Nat} (h : eqT σ cs rt_ga01) : TxOk lw cs := ⟨F_ga01 σ, h.2.1, (by rw [← h.2.2]; decide), (by rw [← h.2.2]; decide), tx_run (fun _ _ _ _ _ _ _ _ _ _ _ h hi hV hC hT hlab hmd hsl hshf ht hlen => sh_ga01 h hi hV hC hT hlab hmd hsl hshf ht hlen) fup_ga01 h (by decide) (by decide), frs_ga01 σ, (fok_ga01 σ).1, (fok_ga01 σ).2.1, ftl_ga01 σ, flz_ga01 σ, fbz_ga01 σ, Or.inr (fok_ga01 σ).2.2, Or.inr (Or.inr (fwt_ga01 σ))⟩
theorem tx_ga10 {σ : Nat → Nat} {lw : Bool} {cs : List Nat} (h : eqT σ cs rt_ga10) : TxOk lw cs := ⟨F_ga10 σ, h.2.1, (by rw [← h.2.2]; decide), (by rw [← h.2.2]; decide), tx_run (fun _ _ _ _ _ _ _ _ _ _ _ h hi hV hC hT hlab hmd hsl hshf ht hlen => sh_ga10 h hi hV hC hT hlab hmd hsl hshf ht hlen) fup_ga10 h (by decide) (by decide), frs_ga10 σ, (fok_ga10 σ).1, (fok_ga10 σ).2.1, ftl_ga10 σ, flz_ga10 σ, fbz_ga10 σ, Or.inr (fok_ga10 σ).2.2, Or.inr (Or.inr (fwt_ga10 σ))⟩
theorem tx_ga11 {σ : Nat → Nat} {lw : Bool} {cs : List Nat} (h : eqT σ cs rt_ga11) : TxOk lw cs := ⟨F_ga11 σ, h.2.1, (by rw [← h.2.2]; decide), (by rw [← h.2.2]; decide), tx_run (fun _ _ _ _ _ _ _ _ _ _ _ h hi hV hC hT hlab hmd hsl hshf ht hlen => sh_ga11 h hi hV hC hT hlab hmd hsl hshf ht hlen) fup_ga11 h (by decide) (by decide), frs_ga11 σ, (fok_ga11 σ).1, (fok_ga11 σ).2.1, ftl_ga11 σ, flz_ga11 σ, fbz_ga11 σ, Or.inr (fok_ga11 σ).2.2, Or.inr (Or.inr (fwt_ga11 σ))⟩
theorem tx_ga20 {σ : Nat → Nat} {lw : Bool} {cs : List Nat} (h : eqT σ cs rt_ga20) : TxOk lw cs := ⟨F_ga20 σ, h.2.1, (by rw [← h.2.2]; decide), (by rw [← h.2.2]; decide), tx_run (fun _ _ _ _ _ _ _ _ _ _ _ h hi hV hC hT hlab hmd hsl hshf ht hlen => sh_ga20 h hi hV hC hT hlab hmd hsl hshf ht hlen) fup_ga20 h (by decide) (by decide), frs_ga20 σ, (fok_ga20 σ).1, (fok_ga20 σ).2.1, ftl_ga20 σ, flz_ga20 σ, fbz_ga20 σ, Or.inr (fok_ga20 σ).2.2, Or.inr (Or.inr (fwt_ga20 σ))⟩
theorem tx_ga21 {σ : Nat → Nat} {lw : Bool} {cs : List Nat} (h : eqT σ cs rt_ga21) : TxOk lw cs := ⟨F_ga21 σ, h.2.1, (by rw [← h.2.2]; decide), (by rw [← h.2.2]; decide), tx_run (fun _ _ _ _ _ _ _ _ _ _ _ h hi hV hC hT hlab hmd hsl hshf ht hlen => sh_ga21 h hi hV hC hT hlab hmd hsl hshf ht hlen) fup_ga21 h (by decide) (by decide), frs_ga21 σ, (fok_ga21 σ).1, (fok_ga21 σ).2.1, ftl_ga21 σ, flz_ga21 σ, fbz_ga21 σ, Or.inr (fok_ga21 σ).2.2, Or.inr (Or.inr (fwt_ga21 σ))⟩
theorem tx_ga30 {σ : Nat → Nat} {lw : Bool} {cs : List Nat} (h : eqT σ cs rt_ga30) : TxOk lw cs := ⟨F_ga30 σ, h.2.1, (by rw [← h.2.2]; decide), (by rw [← h.2.2]; decide), tx_run (fun _ _ _ _ _ _ _ _ _ _ _ h hi hV hC hT hlab hmd hsl hshf ht hlen => sh_ga30 h hi hV hC hT hlab hmd hsl hshf ht hlen) fup_ga30 h (by decide) (by decide), frs_ga30 σ, (fok_ga30 σ).1, (fok_ga30 σ).2.1, ftl_ga30 σ, flz_ga30 σ, fbz_ga30 σ, Or.inr (fok_ga30 σ).2.2, Or.inr (Or.inr (fwt_ga30 σ))⟩
theorem tx_ga31 {σ : Nat → Nat} {lw : Bool} {cs : List Nat} (h : eqT σ cs rt_ga31) : TxOk lw cs := ⟨F_ga31 σ, h.2.1, (by rw [← h.2.2]; decide), (by rw [← h.2.2]; decide), tx_run (fun _ _ _ _ _ _ _ _ _ _ _ h hi hV hC hT hlab hmd hsl hshf ht hlen => sh_ga31 h hi hV hC hT hlab hmd hsl hshf ht hlen) fup_ga31 h (by decide) (by decide), frs_ga31 σ, (fok_ga31 σ).1, (fok_ga31 σ).2.1, ftl_ga31 σ, flz_ga31 σ, fbz_ga31 σ, Or.inr (fok_ga31 σ).2.2, Or.inr (Or.inr (fwt_ga31 σ))⟩
theorem tx_m1 {σ : Nat → Nat} {cs : List Nat} (h : eqT σ cs rt_m1) : TxRun cs (F_m1 σ) := tx_run (fun _ _ _ _ _ _ _ _ _ _ _ h hi hV hC hT hlab hmd hsl hshf ht hlen => sh_m1 h hi hV hC hT hlab hmd hsl hshf ht hlen) fup_m1 h (by decide) (by decide)
theorem tx_m2 {σ : Nat → Nat} {cs : List Nat} (h : eqT σ cs rt_m2) : TxRun cs (F_m2 σ) := tx_run (fun _ _ _ _ _ _ _ _ _ _ _ h hi hV hC hT hlab hmd hsl hshf ht hlen => sh_m2 h hi hV hC hT hlab hmd hsl hshf ht hlen) fup_m2 h (by decide) (by decide)
theorem tx_m3 {σ : Nat → Nat} {cs : List Nat} (h : eqT σ cs rt_m3) : TxRun cs (F_m3 σ) := tx_run (fun _ _ _ _ _ _ _ _ _ _ _ h hi hV hC hT hlab hmd hsl hshf ht hlen => sh_m3 h hi hV hC hT hlab hmd hsl hshf ht hlen) fup_m3 h (by decide) (by decide)
