/-! of each text: refused, it changes nothing; another transaction is not disturbed (by c999999999999999.py) -/
theorem ftl_tan (σ : Nat → Nat) : FTl (F_tan σ) := by
  unfold F_tan
  exact ftl_fA
theorem ftl_tau (σ : Nat → Nat) : FTl (F_tau σ) := by
  unfold F_tau
  exact ftl_fU
theorem ftl_tb (σ : Nat → Nat) : FTl (F_tb σ) := by
  unfold F_tb
  exact ftl_fB
theorem ftl_drop (σ : Nat → Nat) : FTl (F_drop σ) := by
  unfold F_drop
  exact ftl_f1 (fun q M i ln c d hM hi => tld_dr)
theorem ftl_gsum (σ : Nat → Nat) : FTl (F_gsum σ) := by
  unfold F_gsum
  exact ftl_f1 (fun q M i ln c d hM hi => tld_get)
theorem fwt_gsum (σ : Nat → Nat) : FWt (F_gsum σ) := by
  unfold F_gsum
  exact fwt_f1 (fun q M i ln => wt_get)
theorem ftl_pa0 (σ : Nat → Nat) : FTl (F_pa0 σ) := by
  unfold F_pa0
  exact ftl_f1 (fun q M i ln c d hM hi => tld_put)
theorem fwt_pa0 (σ : Nat → Nat) : FWt (F_pa0 σ) := by
  unfold F_pa0
  exact fwt_f1 (fun q M i ln => wt_put)
theorem ftl_pa1 (σ : Nat → Nat) : FTl (F_pa1 σ) := by
  unfold F_pa1
  exact ftl_f1 (fun q M i ln c d hM hi => tld_put)
theorem fwt_pa1 (σ : Nat → Nat) : FWt (F_pa1 σ) := by
  unfold F_pa1
  exact fwt_f1 (fun q M i ln => wt_put)
theorem ftl_pa2 (σ : Nat → Nat) : FTl (F_pa2 σ) := by
  unfold F_pa2
  exact ftl_f1 (fun q M i ln c d hM hi => tld_put)
theorem fwt_pa2 (σ : Nat → Nat) : FWt (F_pa2 σ) := by
  unfold F_pa2
  exact fwt_f1 (fun q M i ln => wt_put)
theorem ftl_bad (σ : Nat → Nat) : FTl (F_bad σ) := by
  unfold F_bad
  exact ftl_fF
theorem fwt_bad (σ : Nat → Nat) : FWt (F_bad σ) := by
  unfold F_bad
  exact fwt_fF
theorem ftl_lo0 (σ : Nat → Nat) : FTl (F_lo0 σ) := by
  unfold F_lo0
  exact ftl_f1 (fun q M i ln c d hM hi => tld_low)
theorem fwt_lo0 (σ : Nat → Nat) : FWt (F_lo0 σ) := by
  unfold F_lo0
  exact fwt_f1 (fun q M i ln => wt_low)
theorem ftl_lo16 (σ : Nat → Nat) : FTl (F_lo16 σ) := by
  unfold F_lo16
  exact ftl_f1 (fun q M i ln c d hM hi => tld_low)
theorem fwt_lo16 (σ : Nat → Nat) : FWt (F_lo16 σ) := by
  unfold F_lo16
  exact fwt_f1 (fun q M i ln => wt_low)
theorem ftl_geach (σ : Nat → Nat) : FTl (F_geach σ) := by
  unfold F_geach
  exact ftl_f1 (fun q M i ln c d hM hi => tld_get)
theorem fwt_geach (σ : Nat → Nat) : FWt (F_geach σ) := by
  unfold F_geach
  exact fwt_f1 (fun q M i ln => wt_get)
theorem ftl_gjoin (σ : Nat → Nat) : FTl (F_gjoin σ) := by
  unfold F_gjoin
  exact ftl_f2
theorem fwt_gjoin (σ : Nat → Nat) : FWt (F_gjoin σ) := by
  unfold F_gjoin
  exact fwt_f2
theorem ftl_gby (σ : Nat → Nat) : FTl (F_gby σ) := by
  unfold F_gby
  exact ftl_f1 (fun q M i ln c d hM hi => tld_get)
theorem fwt_gby (σ : Nat → Nat) : FWt (F_gby σ) := by
  unfold F_gby
  exact fwt_f1 (fun q M i ln => wt_get)
theorem ftl_glab (σ : Nat → Nat) : FTl (F_glab σ) := by
  unfold F_glab
  exact ftl_f1 (fun q M i ln c d hM hi => tld_get)
theorem fwt_glab (σ : Nat → Nat) : FWt (F_glab σ) := by
  unfold F_glab
  exact fwt_f1 (fun q M i ln => wt_get)
theorem ftl_m1 (σ : Nat → Nat) : FTl (F_m1 σ) := by
  unfold F_m1
  exact ftl_f1 (fun q M i ln c d hM hi => tld_get)
theorem fwt_m1 (σ : Nat → Nat) : FWt (F_m1 σ) := by
  unfold F_m1
  exact fwt_f1 (fun q M i ln => wt_get)
theorem ftl_m2 (σ : Nat → Nat) : FTl (F_m2 σ) := by
  unfold F_m2
  exact ftl_f2
theorem fwt_m2 (σ : Nat → Nat) : FWt (F_m2 σ) := by
  unfold F_m2
  exact fwt_f2
theorem ftl_m3 (σ : Nat → Nat) : FTl (F_m3 σ) := by
  unfold F_m3
  exact ftl_f1 (fun q M i ln c d hM hi => tld_get)
theorem fwt_m3 (σ : Nat → Nat) : FWt (F_m3 σ) := by
  unfold F_m3
  exact fwt_f1 (fun q M i ln => wt_get)
theorem ftl_pb00 (σ : Nat → Nat) : FTl (F_pb00 σ) := by
  unfold F_pb00
  exact ftl_f1 (fun q M i ln c d hM hi => tld_put)
theorem fwt_pb00 (σ : Nat → Nat) : FWt (F_pb00 σ) := by
  unfold F_pb00
  exact fwt_f1 (fun q M i ln => wt_put)
theorem ftl_pb01 (σ : Nat → Nat) : FTl (F_pb01 σ) := by
  unfold F_pb01
  exact ftl_f1 (fun q M i ln c d hM hi => tld_put)
theorem fwt_pb01 (σ : Nat → Nat) : FWt (F_pb01 σ) := by
  unfold F_pb01
  exact fwt_f1 (fun q M i ln => wt_put)
theorem ftl_pb02 (σ : Nat → Nat) : FTl (F_pb02 σ) := by
  unfold F_pb02
  exact ftl_f1 (fun q M i ln c d hM hi => tld_put)
theorem fwt_pb02 (σ : Nat → Nat) : FWt (F_pb02 σ) := by
  unfold F_pb02
  exact fwt_f1 (fun q M i ln => wt_put)
theorem ftl_pb10 (σ : Nat → Nat) : FTl (F_pb10 σ) := by
  unfold F_pb10
  exact ftl_f1 (fun q M i ln c d hM hi => tld_put)
theorem fwt_pb10 (σ : Nat → Nat) : FWt (F_pb10 σ) := by
  unfold F_pb10
  exact fwt_f1 (fun q M i ln => wt_put)
theorem ftl_pb11 (σ : Nat → Nat) : FTl (F_pb11 σ) := by
  unfold F_pb11
  exact ftl_f1 (fun q M i ln c d hM hi => tld_put)
theorem fwt_pb11 (σ : Nat → Nat) : FWt (F_pb11 σ) := by
  unfold F_pb11
  exact fwt_f1 (fun q M i ln => wt_put)
theorem ftl_pb12 (σ : Nat → Nat) : FTl (F_pb12 σ) := by
  unfold F_pb12
  exact ftl_f1 (fun q M i ln c d hM hi => tld_put)
theorem fwt_pb12 (σ : Nat → Nat) : FWt (F_pb12 σ) := by
  unfold F_pb12
  exact fwt_f1 (fun q M i ln => wt_put)
theorem ftl_pb20 (σ : Nat → Nat) : FTl (F_pb20 σ) := by
  unfold F_pb20
  exact ftl_f1 (fun q M i ln c d hM hi => tld_put)
theorem fwt_pb20 (σ : Nat → Nat) : FWt (F_pb20 σ) := by
  unfold F_pb20
  exact fwt_f1 (fun q M i ln => wt_put)
theorem ftl_pb21 (σ : Nat → Nat) : FTl (F_pb21 σ) := by
  unfold F_pb21
  exact ftl_f1 (fun q M i ln c d hM hi => tld_put)
theorem fwt_pb21 (σ : Nat → Nat) : FWt (F_pb21 σ) := by
  unfold F_pb21
  exact fwt_f1 (fun q M i ln => wt_put)
theorem ftl_pb22 (σ : Nat → Nat) : FTl (F_pb22 σ) := by
  unfold F_pb22
  exact ftl_f1 (fun q M i ln c d hM hi => tld_put)
theorem fwt_pb22 (σ : Nat → Nat) : FWt (F_pb22 σ) := by
  unfold F_pb22
  exact fwt_f1 (fun q M i ln => wt_put)
theorem ftl_c0 (σ : Nat → Nat) : FTl (F_c0 σ) := by
  unfold F_c0
  exact ftl_f1 (fun q M i ln c d hM hi => tld_alt (Nat.lt_of_le_of_lt (hM.cc hi).al (by decide)))
theorem fwt_c0 (σ : Nat → Nat) : FWt (F_c0 σ) := by
  unfold F_c0
  exact fwt_f1 (fun q M i ln => wt_alt)
theorem ftl_c1 (σ : Nat → Nat) : FTl (F_c1 σ) := by
  unfold F_c1
  exact ftl_f1 (fun q M i ln c d hM hi => tld_alt (Nat.lt_of_le_of_lt (hM.cc hi).al (by decide)))
theorem fwt_c1 (σ : Nat → Nat) : FWt (F_c1 σ) := by
  unfold F_c1
  exact fwt_f1 (fun q M i ln => wt_alt)
theorem ftl_c2 (σ : Nat → Nat) : FTl (F_c2 σ) := by
  unfold F_c2
  exact ftl_f1 (fun q M i ln c d hM hi => tld_alt (Nat.lt_of_le_of_lt (hM.cc hi).al (by decide)))
theorem fwt_c2 (σ : Nat → Nat) : FWt (F_c2 σ) := by
  unfold F_c2
  exact fwt_f1 (fun q M i ln => wt_alt)
theorem ftl_c3 (σ : Nat → Nat) : FTl (F_c3 σ) := by
  unfold F_c3
  exact ftl_f1 (fun q M i ln c d hM hi => tld_alt (Nat.lt_of_le_of_lt (hM.cc hi).al (by decide)))
theorem fwt_c3 (σ : Nat → Nat) : FWt (F_c3 σ) := by
  unfold F_c3
  exact fwt_f1 (fun q M i ln => wt_alt)
theorem ftl_s000 (σ : Nat → Nat) : FTl (F_s000 σ) := by
  unfold F_s000
  exact ftl_f1 (fun q M i ln c d hM hi => tld_alt (Nat.lt_of_le_of_lt (hM.cc hi).al (by decide)))
theorem fwt_s000 (σ : Nat → Nat) : FWt (F_s000 σ) := by
  unfold F_s000
  exact fwt_f1 (fun q M i ln => wt_alt)
theorem ftl_s001 (σ : Nat → Nat) : FTl (F_s001 σ) := by
  unfold F_s001
  exact ftl_f1 (fun q M i ln c d hM hi => tld_alt (Nat.lt_of_le_of_lt (hM.cc hi).al (by decide)))
theorem fwt_s001 (σ : Nat → Nat) : FWt (F_s001 σ) := by
  unfold F_s001
  exact fwt_f1 (fun q M i ln => wt_alt)
theorem ftl_s002 (σ : Nat → Nat) : FTl (F_s002 σ) := by
  unfold F_s002
  exact ftl_f1 (fun q M i ln c d hM hi => tld_alt (Nat.lt_of_le_of_lt (hM.cc hi).al (by decide)))
theorem fwt_s002 (σ : Nat → Nat) : FWt (F_s002 σ) := by
  unfold F_s002
  exact fwt_f1 (fun q M i ln => wt_alt)
theorem ftl_s003 (σ : Nat → Nat) : FTl (F_s003 σ) := by
  unfold F_s003
  exact ftl_f1 (fun q M i ln c d hM hi => tld_alt (Nat.lt_of_le_of_lt (hM.cc hi).al (by decide)))
theorem fwt_s003 (σ : Nat → Nat) : FWt (F_s003 σ) := by
  unfold F_s003
  exact fwt_f1 (fun q M i ln => wt_alt)
theorem ftl_s010 (σ : Nat → Nat) : FTl (F_s010 σ) := by
  unfold F_s010
  exact ftl_f1 (fun q M i ln c d hM hi => tld_alt (Nat.lt_of_le_of_lt (hM.cc hi).al (by decide)))
theorem fwt_s010 (σ : Nat → Nat) : FWt (F_s010 σ) := by
  unfold F_s010
  exact fwt_f1 (fun q M i ln => wt_alt)
theorem ftl_s011 (σ : Nat → Nat) : FTl (F_s011 σ) := by
  unfold F_s011
  exact ftl_f1 (fun q M i ln c d hM hi => tld_alt (Nat.lt_of_le_of_lt (hM.cc hi).al (by decide)))
theorem fwt_s011 (σ : Nat → Nat) : FWt (F_s011 σ) := by
  unfold F_s011
  exact fwt_f1 (fun q M i ln => wt_alt)
theorem ftl_s012 (σ : Nat → Nat) : FTl (F_s012 σ) := by
  unfold F_s012
  exact ftl_f1 (fun q M i ln c d hM hi => tld_alt (Nat.lt_of_le_of_lt (hM.cc hi).al (by decide)))
theorem fwt_s012 (σ : Nat → Nat) : FWt (F_s012 σ) := by
  unfold F_s012
  exact fwt_f1 (fun q M i ln => wt_alt)
theorem ftl_s013 (σ : Nat → Nat) : FTl (F_s013 σ) := by
  unfold F_s013
  exact ftl_f1 (fun q M i ln c d hM hi => tld_alt (Nat.lt_of_le_of_lt (hM.cc hi).al (by decide)))
theorem fwt_s013 (σ : Nat → Nat) : FWt (F_s013 σ) := by
  unfold F_s013
  exact fwt_f1 (fun q M i ln => wt_alt)
theorem ftl_s020 (σ : Nat → Nat) : FTl (F_s020 σ) := by
  unfold F_s020
  exact ftl_f1 (fun q M i ln c d hM hi => tld_alt (Nat.lt_of_le_of_lt (hM.cc hi).al (by decide)))
theorem fwt_s020 (σ : Nat → Nat) : FWt (F_s020 σ) := by
  unfold F_s020
  exact fwt_f1 (fun q M i ln => wt_alt)
theorem ftl_s021 (σ : Nat → Nat) : FTl (F_s021 σ) := by
  unfold F_s021
  exact ftl_f1 (fun q M i ln c d hM hi => tld_alt (Nat.lt_of_le_of_lt (hM.cc hi).al (by decide)))
theorem fwt_s021 (σ : Nat → Nat) : FWt (F_s021 σ) := by
  unfold F_s021
  exact fwt_f1 (fun q M i ln => wt_alt)
theorem ftl_s022 (σ : Nat → Nat) : FTl (F_s022 σ) := by
  unfold F_s022
  exact ftl_f1 (fun q M i ln c d hM hi => tld_alt (Nat.lt_of_le_of_lt (hM.cc hi).al (by decide)))
theorem fwt_s022 (σ : Nat → Nat) : FWt (F_s022 σ) := by
  unfold F_s022
  exact fwt_f1 (fun q M i ln => wt_alt)
theorem ftl_s023 (σ : Nat → Nat) : FTl (F_s023 σ) := by
  unfold F_s023
  exact ftl_f1 (fun q M i ln c d hM hi => tld_alt (Nat.lt_of_le_of_lt (hM.cc hi).al (by decide)))
theorem fwt_s023 (σ : Nat → Nat) : FWt (F_s023 σ) := by
  unfold F_s023
  exact fwt_f1 (fun q M i ln => wt_alt)
theorem ftl_s100 (σ : Nat → Nat) : FTl (F_s100 σ) := by
  unfold F_s100
  exact ftl_f1 (fun q M i ln c d hM hi => tld_alt (Nat.lt_of_le_of_lt (hM.cc hi).al (by decide)))
theorem fwt_s100 (σ : Nat → Nat) : FWt (F_s100 σ) := by
  unfold F_s100
  exact fwt_f1 (fun q M i ln => wt_alt)
theorem ftl_s101 (σ : Nat → Nat) : FTl (F_s101 σ) := by
  unfold F_s101
  exact ftl_f1 (fun q M i ln c d hM hi => tld_alt (Nat.lt_of_le_of_lt (hM.cc hi).al (by decide)))
theorem fwt_s101 (σ : Nat → Nat) : FWt (F_s101 σ) := by
  unfold F_s101
  exact fwt_f1 (fun q M i ln => wt_alt)
theorem ftl_s102 (σ : Nat → Nat) : FTl (F_s102 σ) := by
  unfold F_s102
  exact ftl_f1 (fun q M i ln c d hM hi => tld_alt (Nat.lt_of_le_of_lt (hM.cc hi).al (by decide)))
theorem fwt_s102 (σ : Nat → Nat) : FWt (F_s102 σ) := by
  unfold F_s102
  exact fwt_f1 (fun q M i ln => wt_alt)
theorem ftl_s103 (σ : Nat → Nat) : FTl (F_s103 σ) := by
  unfold F_s103
  exact ftl_f1 (fun q M i ln c d hM hi => tld_alt (Nat.lt_of_le_of_lt (hM.cc hi).al (by decide)))
theorem fwt_s103 (σ : Nat → Nat) : FWt (F_s103 σ) := by
  unfold F_s103
  exact fwt_f1 (fun q M i ln => wt_alt)
theorem ftl_s110 (σ : Nat → Nat) : FTl (F_s110 σ) := by
  unfold F_s110
  exact ftl_f1 (fun q M i ln c d hM hi => tld_alt (Nat.lt_of_le_of_lt (hM.cc hi).al (by decide)))
theorem fwt_s110 (σ : Nat → Nat) : FWt (F_s110 σ) := by
  unfold F_s110
  exact fwt_f1 (fun q M i ln => wt_alt)
theorem ftl_s111 (σ : Nat → Nat) : FTl (F_s111 σ) := by
  unfold F_s111
  exact ftl_f1 (fun q M i ln c d hM hi => tld_alt (Nat.lt_of_le_of_lt (hM.cc hi).al (by decide)))
theorem fwt_s111 (σ : Nat → Nat) : FWt (F_s111 σ) := by
  unfold F_s111
  exact fwt_f1 (fun q M i ln => wt_alt)
theorem ftl_s112 (σ : Nat → Nat) : FTl (F_s112 σ) := by
  unfold F_s112
  exact ftl_f1 (fun q M i ln c d hM hi => tld_alt (Nat.lt_of_le_of_lt (hM.cc hi).al (by decide)))
theorem fwt_s112 (σ : Nat → Nat) : FWt (F_s112 σ) := by
  unfold F_s112
  exact fwt_f1 (fun q M i ln => wt_alt)
theorem ftl_s113 (σ : Nat → Nat) : FTl (F_s113 σ) := by
  unfold F_s113
  exact ftl_f1 (fun q M i ln c d hM hi => tld_alt (Nat.lt_of_le_of_lt (hM.cc hi).al (by decide)))
theorem fwt_s113 (σ : Nat → Nat) : FWt (F_s113 σ) := by
  unfold F_s113
  exact fwt_f1 (fun q M i ln => wt_alt)
theorem ftl_s120 (σ : Nat → Nat) : FTl (F_s120 σ) := by
  unfold F_s120
  exact ftl_f1 (fun q M i ln c d hM hi => tld_alt (Nat.lt_of_le_of_lt (hM.cc hi).al (by decide)))
theorem fwt_s120 (σ : Nat → Nat) : FWt (F_s120 σ) := by
  unfold F_s120
  exact fwt_f1 (fun q M i ln => wt_alt)
theorem ftl_s121 (σ : Nat → Nat) : FTl (F_s121 σ) := by
  unfold F_s121
  exact ftl_f1 (fun q M i ln c d hM hi => tld_alt (Nat.lt_of_le_of_lt (hM.cc hi).al (by decide)))
theorem fwt_s121 (σ : Nat → Nat) : FWt (F_s121 σ) := by
  unfold F_s121
  exact fwt_f1 (fun q M i ln => wt_alt)
theorem ftl_s122 (σ : Nat → Nat) : FTl (F_s122 σ) := by
  unfold F_s122
  exact ftl_f1 (fun q M i ln c d hM hi => tld_alt (Nat.lt_of_le_of_lt (hM.cc hi).al (by decide)))
theorem fwt_s122 (σ : Nat → Nat) : FWt (F_s122 σ) := by
  unfold F_s122
  exact fwt_f1 (fun q M i ln => wt_alt)
theorem ftl_s123 (σ : Nat → Nat) : FTl (F_s123 σ) := by
  unfold F_s123
  exact ftl_f1 (fun q M i ln c d hM hi => tld_alt (Nat.lt_of_le_of_lt (hM.cc hi).al (by decide)))
theorem fwt_s123 (σ : Nat → Nat) : FWt (F_s123 σ) := by
  unfold F_s123
  exact fwt_f1 (fun q M i ln => wt_alt)
theorem ftl_ga00 (σ : Nat → Nat) : FTl (F_ga00 σ) := by
  unfold F_ga00
  exact ftl_f1 (fun q M i ln c d hM hi => tld_get)
theorem fwt_ga00 (σ : Nat → Nat) : FWt (F_ga00 σ) := by
  unfold F_ga00
  exact fwt_f1 (fun q M i ln => wt_get)
theorem ftl_ga01 (σ : Nat → Nat) : FTl (F_ga01 σ) := by
  unfold F_ga01
  exact ftl_f1 (fun q M i ln c d hM hi => tld_get)
theorem fwt_ga01 (σ : Nat → Nat) : FWt (F_ga01 σ) := by
  unfold F_ga01
  exact fwt_f1 (fun q M i ln => wt_get)
theorem ftl_ga10 (σ : Nat → Nat) : FTl (F_ga10 σ) := by
  unfold F_ga10
  exact ftl_f1 (fun q M i ln c d hM hi => tld_get)
theorem fwt_ga10 (σ : Nat → Nat) : FWt (F_ga10 σ) := by
  unfold F_ga10
  exact fwt_f1 (fun q M i ln => wt_get)
theorem ftl_ga11 (σ : Nat → Nat) : FTl (F_ga11 σ) := by
  unfold F_ga11
  exact ftl_f1 (fun q M i ln c d hM hi => tld_get)
theorem fwt_ga11 (σ : Nat → Nat) : FWt (F_ga11 σ) := by
  unfold F_ga11
  exact fwt_f1 (fun q M i ln => wt_get)
theorem ftl_ga20 (σ : Nat → Nat) : FTl (F_ga20 σ) := by
  unfold F_ga20
  exact ftl_f1 (fun q M i ln c d hM hi => tld_get)
theorem fwt_ga20 (σ : Nat → Nat) : FWt (F_ga20 σ) := by
  unfold F_ga20
  exact fwt_f1 (fun q M i ln => wt_get)
theorem ftl_ga21 (σ : Nat → Nat) : FTl (F_ga21 σ) := by
  unfold F_ga21
  exact ftl_f1 (fun q M i ln c d hM hi => tld_get)
theorem fwt_ga21 (σ : Nat → Nat) : FWt (F_ga21 σ) := by
  unfold F_ga21
  exact fwt_f1 (fun q M i ln => wt_get)
theorem ftl_ga30 (σ : Nat → Nat) : FTl (F_ga30 σ) := by
  unfold F_ga30
  exact ftl_f1 (fun q M i ln c d hM hi => tld_get)
theorem fwt_ga30 (σ : Nat → Nat) : FWt (F_ga30 σ) := by
  unfold F_ga30
  exact fwt_f1 (fun q M i ln => wt_get)
theorem ftl_ga31 (σ : Nat → Nat) : FTl (F_ga31 σ) := by
  unfold F_ga31
  exact ftl_f1 (fun q M i ln c d hM hi => tld_get)
theorem fwt_ga31 (σ : Nat → Nat) : FWt (F_ga31 σ) := by
  unfold F_ga31
  exact fwt_f1 (fun q M i ln => wt_get)
