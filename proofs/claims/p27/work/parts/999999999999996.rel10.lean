/-! each of the 64 texts keeps houses alike (by c999999999999996.py) -/
theorem wg6_nn {n : Nat} : ¬ Int32.ofNat (wg [0, 1, 2, 3, 4, 5] n) < -1000000000 := by
  have key : ∀ m, m < 6 → ¬ Int32.ofNat m < -1000000000 := by decide
  refine key _ ?_
  unfold wg
  match n with
  | 0 => decide
  | 1 => decide
  | 2 => decide
  | 3 => decide
  | 4 => decide
  | 5 => decide
  | n + 6 => show (0 : Nat) < 6; decide
theorem fok_tan (σ : Nat → Nat) : FOk (F_tan σ) := by
  unfold F_tan
  exact fok_fA
theorem fok_tau (σ : Nat → Nat) : FOk (F_tau σ) := by
  unfold F_tau
  exact fok_fU
theorem fok_tb (σ : Nat → Nat) : FOk (F_tb σ) := by
  unfold F_tb
  exact fok_fB
theorem fok_drop (σ : Nat → Nat) : FOk (F_drop σ) := by
  unfold F_drop
  exact fok_f1 gok_dr
theorem fok_gsum (σ : Nat → Nat) : FOk (F_gsum σ) := by
  unfold F_gsum
  exact fok_f1 (gok_get (wd := fun q => 2) (b := false) (Q := fun q es => nmC q (q0G none (bI (decide ((0 : Nat) = 14))) 150 2 (wif0 bW_gsum_a) (wif1 bW_gsum_a) (wits bW_gsum_a) (wkd bW_gsum_a) (wfr bW_gsum_a) (wos σ bW_gsum_a) es) (q0G none (bI (decide ((0 : Nat) = 14))) 150 2 (wif0 bW_gsum_b) (wif1 bW_gsum_b) (wits bW_gsum_b) (wkd bW_gsum_b) (wfr bW_gsum_b) (wos σ bW_gsum_b) es)) (fun q q' h => ⟨rfl, funext fun es => nmC_q h⟩) (fun q f g es => by simp only [q0A_m, q0B_m, q0G_m, q0N_m]))
theorem pk_pa0 (σ : Nat → Nat) : putV σ bW_pa0_a 0 = Int32.ofNat (wg [0, 1, 2, 3, 4, 5] (σ 0)) := rfl
theorem fok_pa0 (σ : Nat → Nat) : FOk (F_pa0 σ) := by
  unfold F_pa0
  exact fok_f1 (gok_put (Or.inr (by rw [pk_pa0]; exact wg6_nn)))
theorem pk_pa1 (σ : Nat → Nat) : putV σ bW_pa1_a 0 = Int32.ofNat (wg [0, 1, 2, 3, 4, 5] (σ 0)) := rfl
theorem fok_pa1 (σ : Nat → Nat) : FOk (F_pa1 σ) := by
  unfold F_pa1
  exact fok_f1 (gok_put (Or.inr (by rw [pk_pa1]; exact wg6_nn)))
theorem pk_pa2 (σ : Nat → Nat) : putV σ bW_pa2_a 0 = Int32.ofNat (wg [0, 1, 2, 3, 4, 5] (σ 0)) := rfl
theorem fok_pa2 (σ : Nat → Nat) : FOk (F_pa2 σ) := by
  unfold F_pa2
  exact fok_f1 (gok_put (Or.inr (by rw [pk_pa2]; exact wg6_nn)))
theorem fok_bad (σ : Nat → Nat) : FOk (F_bad σ) := by
  unfold F_bad
  exact fok_fF
theorem fwf_lo0 (σ : Nat → Nat) : FWf (F_lo0 σ) := by
  unfold F_lo0
  exact fwf_f1 gwf_low
theorem flo_lo0 (σ : Nat → Nat) : FLo (F_lo0 σ) := by
  unfold F_lo0
  exact flo_f1 gwf_low glo_low
theorem fwf_lo16 (σ : Nat → Nat) : FWf (F_lo16 σ) := by
  unfold F_lo16
  exact fwf_f1 gwf_low
theorem flo_lo16 (σ : Nat → Nat) : FLo (F_lo16 σ) := by
  unfold F_lo16
  exact flo_f1 gwf_low glo_low
theorem fok_geach (σ : Nat → Nat) : FOk (F_geach σ) := by
  unfold F_geach
  exact fok_f1 (gok_get (wd := fun q => 3) (b := true) (Q := fun q es => nmC q (q0B none (bI (decide ((0 : Nat) = 14))) 150 3 (wif0 bW_geach_a) (wif1 bW_geach_a) (wits bW_geach_a) (wkd bW_geach_a) (wfr bW_geach_a) (wos σ bW_geach_a) es) (q0B none (bI (decide ((0 : Nat) = 14))) 150 3 (wif0 bW_geach_b) (wif1 bW_geach_b) (wits bW_geach_b) (wkd bW_geach_b) (wfr bW_geach_b) (wos σ bW_geach_b) es)) (fun q q' h => ⟨rfl, funext fun es => nmC_q h⟩) (fun q f g es => by simp only [q0A_m, q0B_m, q0G_m, q0N_m]))
theorem fok_gjoin (σ : Nat → Nat) : FOk (F_gjoin σ) := by
  unfold F_gjoin
  exact fok_f2 (b := false) (b2 := false) (Q := fun es fs => qJB none (bI (decide ((0 : Nat) = 14))) 150 1 (wif0 bW_gjoin_ba) (wif1 bW_gjoin_ba) (wits bW_gjoin_ba) (wkd bW_gjoin_ba) (wfr bW_gjoin_ba) (wos σ bW_gjoin_ba) (Int32.ofNat 1) (Int32.ofNat 0) es fs) (fun f g es fs => by simp only [qJB_m, qJN_m])
theorem fok_gby (σ : Nat → Nat) : FOk (F_gby σ) := by
  unfold F_gby
  exact fok_f1 (gok_get (wd := fun q => 3) (b := false) (Q := fun q es => nmC q (q0N none (bI (decide ((0 : Nat) = 14))) (wg [0, 1, 2, 3] (σ 6)) 3 (wif0 bW_gby_a) (wif1 bW_gby_a) (wits bW_gby_a) 1 (wkd bW_gby_a) (wfr bW_gby_a) (wos σ bW_gby_a) es) (q0N none (bI (decide ((0 : Nat) = 14))) (wg [0, 1, 2, 3] (σ 6)) 3 (wif0 bW_gby_b) (wif1 bW_gby_b) (wits bW_gby_b) 2 (wkd bW_gby_b) (wfr bW_gby_b) (wos σ bW_gby_b) es)) (fun q q' h => ⟨rfl, funext fun es => nmC_q h⟩) (fun q f g es => by simp only [q0A_m, q0B_m, q0G_m, q0N_m]))
theorem fok_glab (σ : Nat → Nat) : FOk (F_glab σ) := by
  unfold F_glab
  exact fok_f1 (gok_get (wd := fun q => 1) (b := false) (Q := fun q es => nmC q (q0B none (bI (decide ((0 : Nat) = 14))) 150 1 (wif0 bW_glab_a) (wif1 bW_glab_a) (wits bW_glab_a) (wkd bW_glab_a) (wfr bW_glab_a) (wos σ bW_glab_a) es) (q0B none (bI (decide ((0 : Nat) = 14))) 150 1 (wif0 bW_glab_b) (wif1 bW_glab_b) (wits bW_glab_b) (wkd bW_glab_b) (wfr bW_glab_b) (wos σ bW_glab_b) es)) (fun q q' h => ⟨rfl, funext fun es => nmC_q h⟩) (fun q f g es => by simp only [q0A_m, q0B_m, q0G_m, q0N_m]))
theorem fok_m1 (σ : Nat → Nat) : FOk (F_m1 σ) := by
  unfold F_m1
  exact fok_f1 (gok_get (wd := fun q => 1) (b := false) (Q := fun q es => q0B none (bI (decide ((0 : Nat) = 14))) 150 1 (wif0 bW_m1_b) (wif1 bW_m1_b) (wits bW_m1_b) (wkd bW_m1_b) (wfr bW_m1_b) (wos σ bW_m1_b) es) (fun q q' h => ⟨rfl, rfl⟩) (fun q f g es => by simp only [q0A_m, q0B_m, q0G_m, q0N_m]))
theorem fok_m2 (σ : Nat → Nat) : FOk (F_m2 σ) := by
  unfold F_m2
  exact fok_f2 (b := false) (b2 := false) (Q := fun es fs => qJN none (bI (decide ((0 : Nat) = 14))) 150 2 (wif0 bW_m2_ba) (wif1 bW_m2_ba) (wits bW_m2_ba) 1 (wkd bW_m2_ba) (wfr bW_m2_ba) (wos σ bW_m2_ba) (Int32.ofNat 1) (Int32.ofNat 0) es fs) (fun f g es fs => by simp only [qJB_m, qJN_m])
theorem fok_m3 (σ : Nat → Nat) : FOk (F_m3 σ) := by
  unfold F_m3
  exact fok_f1 (gok_get (wd := fun q => 2) (b := false) (Q := fun q es => q0N none (bI (decide ((0 : Nat) = 14))) 150 2 (wif0 bW_m3_b) (wif1 bW_m3_b) (wits bW_m3_b) 1 (wkd bW_m3_b) (wfr bW_m3_b) (wos σ bW_m3_b) es) (fun q q' h => ⟨rfl, rfl⟩) (fun q f g es => by simp only [q0A_m, q0B_m, q0G_m, q0N_m]))
theorem fok_pb00 (σ : Nat → Nat) : FOk (F_pb00 σ) := by
  unfold F_pb00
  exact fok_f1 (gok_put (Or.inl rfl))
theorem fok_pb01 (σ : Nat → Nat) : FOk (F_pb01 σ) := by
  unfold F_pb01
  exact fok_f1 (gok_put (Or.inl rfl))
theorem fok_pb02 (σ : Nat → Nat) : FOk (F_pb02 σ) := by
  unfold F_pb02
  exact fok_f1 (gok_put (Or.inl rfl))
theorem fok_pb10 (σ : Nat → Nat) : FOk (F_pb10 σ) := by
  unfold F_pb10
  exact fok_f1 (gok_put (Or.inl rfl))
theorem fok_pb11 (σ : Nat → Nat) : FOk (F_pb11 σ) := by
  unfold F_pb11
  exact fok_f1 (gok_put (Or.inl rfl))
theorem fok_pb12 (σ : Nat → Nat) : FOk (F_pb12 σ) := by
  unfold F_pb12
  exact fok_f1 (gok_put (Or.inl rfl))
theorem fok_pb20 (σ : Nat → Nat) : FOk (F_pb20 σ) := by
  unfold F_pb20
  exact fok_f1 (gok_put (Or.inl rfl))
theorem fok_pb21 (σ : Nat → Nat) : FOk (F_pb21 σ) := by
  unfold F_pb21
  exact fok_f1 (gok_put (Or.inl rfl))
theorem fok_pb22 (σ : Nat → Nat) : FOk (F_pb22 σ) := by
  unfold F_pb22
  exact fok_f1 (gok_put (Or.inl rfl))
theorem fok_c0 (σ : Nat → Nat) : FOk (F_c0 σ) := by
  unfold F_c0
  exact fok_f1 gok_cut
theorem fok_c1 (σ : Nat → Nat) : FOk (F_c1 σ) := by
  unfold F_c1
  exact fok_f1 gok_cut
theorem fok_c2 (σ : Nat → Nat) : FOk (F_c2 σ) := by
  unfold F_c2
  exact fok_f1 gok_cut
theorem fok_c3 (σ : Nat → Nat) : FOk (F_c3 σ) := by
  unfold F_c3
  exact fok_f1 gok_cut
theorem fok_s000 (σ : Nat → Nat) : FOk (F_s000 σ) := by
  unfold F_s000
  exact fok_f1 gok_set
theorem fok_s001 (σ : Nat → Nat) : FOk (F_s001 σ) := by
  unfold F_s001
  exact fok_f1 gok_set
theorem fok_s002 (σ : Nat → Nat) : FOk (F_s002 σ) := by
  unfold F_s002
  exact fok_f1 gok_set
theorem fok_s003 (σ : Nat → Nat) : FOk (F_s003 σ) := by
  unfold F_s003
  exact fok_f1 gok_set
theorem fok_s010 (σ : Nat → Nat) : FOk (F_s010 σ) := by
  unfold F_s010
  exact fok_f1 gok_set
theorem fok_s011 (σ : Nat → Nat) : FOk (F_s011 σ) := by
  unfold F_s011
  exact fok_f1 gok_set
theorem fok_s012 (σ : Nat → Nat) : FOk (F_s012 σ) := by
  unfold F_s012
  exact fok_f1 gok_set
theorem fok_s013 (σ : Nat → Nat) : FOk (F_s013 σ) := by
  unfold F_s013
  exact fok_f1 gok_set
theorem fok_s020 (σ : Nat → Nat) : FOk (F_s020 σ) := by
  unfold F_s020
  exact fok_f1 gok_set
theorem fok_s021 (σ : Nat → Nat) : FOk (F_s021 σ) := by
  unfold F_s021
  exact fok_f1 gok_set
theorem fok_s022 (σ : Nat → Nat) : FOk (F_s022 σ) := by
  unfold F_s022
  exact fok_f1 gok_set
theorem fok_s023 (σ : Nat → Nat) : FOk (F_s023 σ) := by
  unfold F_s023
  exact fok_f1 gok_set
theorem fok_s100 (σ : Nat → Nat) : FOk (F_s100 σ) := by
  unfold F_s100
  exact fok_f1 gok_set
theorem fok_s101 (σ : Nat → Nat) : FOk (F_s101 σ) := by
  unfold F_s101
  exact fok_f1 gok_set
theorem fok_s102 (σ : Nat → Nat) : FOk (F_s102 σ) := by
  unfold F_s102
  exact fok_f1 gok_set
theorem fok_s103 (σ : Nat → Nat) : FOk (F_s103 σ) := by
  unfold F_s103
  exact fok_f1 gok_set
theorem fok_s110 (σ : Nat → Nat) : FOk (F_s110 σ) := by
  unfold F_s110
  exact fok_f1 gok_set
theorem fok_s111 (σ : Nat → Nat) : FOk (F_s111 σ) := by
  unfold F_s111
  exact fok_f1 gok_set
theorem fok_s112 (σ : Nat → Nat) : FOk (F_s112 σ) := by
  unfold F_s112
  exact fok_f1 gok_set
theorem fok_s113 (σ : Nat → Nat) : FOk (F_s113 σ) := by
  unfold F_s113
  exact fok_f1 gok_set
theorem fok_s120 (σ : Nat → Nat) : FOk (F_s120 σ) := by
  unfold F_s120
  exact fok_f1 gok_set
theorem fok_s121 (σ : Nat → Nat) : FOk (F_s121 σ) := by
  unfold F_s121
  exact fok_f1 gok_set
theorem fok_s122 (σ : Nat → Nat) : FOk (F_s122 σ) := by
  unfold F_s122
  exact fok_f1 gok_set
theorem fok_s123 (σ : Nat → Nat) : FOk (F_s123 σ) := by
  unfold F_s123
  exact fok_f1 gok_set
theorem fok_ga00 (σ : Nat → Nat) : FOk (F_ga00 σ) := by
  unfold F_ga00
  exact fok_f1 (gok_get (wd := fun q => (nmC q 2 3)) (b := false) (Q := fun q es => nmC q (q0A none (bI (decide ((0 : Nat) = 14))) 150 2 (wif0 bW_ga00_a) (wif1 bW_ga00_a) (wos σ bW_ga00_a) es) (q0A none (bI (decide ((0 : Nat) = 14))) 150 3 (wif0 bW_ga00_b) (wif1 bW_ga00_b) (wos σ bW_ga00_b) es)) (fun q q' h => ⟨nmC_q h, funext fun es => nmC_q h⟩) (fun q f g es => by simp only [q0A_m, q0B_m, q0G_m, q0N_m]))
theorem fok_ga01 (σ : Nat → Nat) : FOk (F_ga01 σ) := by
  unfold F_ga01
  exact fok_f1 (gok_get (wd := fun q => (nmC q 2 3)) (b := false) (Q := fun q es => nmC q (q0A (some 1) (bI (decide ((14 : Nat) = 14))) 150 2 (wif0 bW_ga01_a) (wif1 bW_ga01_a) (wos σ bW_ga01_a) es) (q0A (some 1) (bI (decide ((14 : Nat) = 14))) 150 3 (wif0 bW_ga01_b) (wif1 bW_ga01_b) (wos σ bW_ga01_b) es)) (fun q q' h => ⟨nmC_q h, funext fun es => nmC_q h⟩) (fun q f g es => by simp only [q0A_m, q0B_m, q0G_m, q0N_m]))
theorem fok_ga10 (σ : Nat → Nat) : FOk (F_ga10 σ) := by
  unfold F_ga10
  exact fok_f1 (gok_get (wd := fun q => (nmC q 2 3)) (b := false) (Q := fun q es => nmC q (q0A none (bI (decide ((0 : Nat) = 14))) 150 2 (wif0 bW_ga10_a) (wif1 bW_ga10_a) (wos σ bW_ga10_a) es) (q0A none (bI (decide ((0 : Nat) = 14))) 150 3 (wif0 bW_ga10_b) (wif1 bW_ga10_b) (wos σ bW_ga10_b) es)) (fun q q' h => ⟨nmC_q h, funext fun es => nmC_q h⟩) (fun q f g es => by simp only [q0A_m, q0B_m, q0G_m, q0N_m]))
theorem fok_ga11 (σ : Nat → Nat) : FOk (F_ga11 σ) := by
  unfold F_ga11
  exact fok_f1 (gok_get (wd := fun q => (nmC q 2 3)) (b := false) (Q := fun q es => nmC q (q0A (some 1) (bI (decide ((14 : Nat) = 14))) 150 2 (wif0 bW_ga11_a) (wif1 bW_ga11_a) (wos σ bW_ga11_a) es) (q0A (some 1) (bI (decide ((14 : Nat) = 14))) 150 3 (wif0 bW_ga11_b) (wif1 bW_ga11_b) (wos σ bW_ga11_b) es)) (fun q q' h => ⟨nmC_q h, funext fun es => nmC_q h⟩) (fun q f g es => by simp only [q0A_m, q0B_m, q0G_m, q0N_m]))
theorem fok_ga20 (σ : Nat → Nat) : FOk (F_ga20 σ) := by
  unfold F_ga20
  exact fok_f1 (gok_get (wd := fun q => (nmC q 2 3)) (b := false) (Q := fun q es => nmC q (q0A none (bI (decide ((0 : Nat) = 14))) 150 2 (wif0 bW_ga20_a) (wif1 bW_ga20_a) (wos σ bW_ga20_a) es) (q0A none (bI (decide ((0 : Nat) = 14))) 150 3 (wif0 bW_ga20_b) (wif1 bW_ga20_b) (wos σ bW_ga20_b) es)) (fun q q' h => ⟨nmC_q h, funext fun es => nmC_q h⟩) (fun q f g es => by simp only [q0A_m, q0B_m, q0G_m, q0N_m]))
theorem fok_ga21 (σ : Nat → Nat) : FOk (F_ga21 σ) := by
  unfold F_ga21
  exact fok_f1 (gok_get (wd := fun q => (nmC q 2 3)) (b := false) (Q := fun q es => nmC q (q0A (some 1) (bI (decide ((14 : Nat) = 14))) 150 2 (wif0 bW_ga21_a) (wif1 bW_ga21_a) (wos σ bW_ga21_a) es) (q0A (some 1) (bI (decide ((14 : Nat) = 14))) 150 3 (wif0 bW_ga21_b) (wif1 bW_ga21_b) (wos σ bW_ga21_b) es)) (fun q q' h => ⟨nmC_q h, funext fun es => nmC_q h⟩) (fun q f g es => by simp only [q0A_m, q0B_m, q0G_m, q0N_m]))
theorem fok_ga30 (σ : Nat → Nat) : FOk (F_ga30 σ) := by
  unfold F_ga30
  exact fok_f1 (gok_get (wd := fun q => (nmC q 2 3)) (b := false) (Q := fun q es => nmC q (q0A none (bI (decide ((0 : Nat) = 14))) 150 2 (wif0 bW_ga30_a) (wif1 bW_ga30_a) (wos σ bW_ga30_a) es) (q0A none (bI (decide ((0 : Nat) = 14))) 150 3 (wif0 bW_ga30_b) (wif1 bW_ga30_b) (wos σ bW_ga30_b) es)) (fun q q' h => ⟨nmC_q h, funext fun es => nmC_q h⟩) (fun q f g es => by simp only [q0A_m, q0B_m, q0G_m, q0N_m]))
theorem fok_ga31 (σ : Nat → Nat) : FOk (F_ga31 σ) := by
  unfold F_ga31
  exact fok_f1 (gok_get (wd := fun q => (nmC q 2 3)) (b := false) (Q := fun q es => nmC q (q0A (some 1) (bI (decide ((14 : Nat) = 14))) 150 2 (wif0 bW_ga31_a) (wif1 bW_ga31_a) (wos σ bW_ga31_a) es) (q0A (some 1) (bI (decide ((14 : Nat) = 14))) 150 3 (wif0 bW_ga31_b) (wif1 bW_ga31_b) (wos σ bW_ga31_b) es)) (fun q q' h => ⟨nmC_q h, funext fun es => nmC_q h⟩) (fun q f g es => by simp only [q0A_m, q0B_m, q0G_m, q0N_m]))
theorem pbad_cs {σ : Nat → Nat} {M : HM} {i ln : Nat} {r : RM} (h : F_pbad σ M i ln r) : (tnM M (M.2.2.2.1 i).1 14348907 = none ∧ r = fltR M ln 4) ∨ ((∃ t, tnM M (M.2.2.2.1 i).1 14348907 = some t) ∧ r = fltR M ln 7) := by
  unfold F_pbad at h
  cases e : tnM M (M.2.2.2.1 i).1 14348907 with
  | none => rw [e] at h; exact Or.inl ⟨rfl, h⟩
  | some t => rw [e] at h; exact Or.inr ⟨⟨t, rfl⟩, h⟩
theorem fok_pbad (σ : Nat → Nat) : FOk (F_pbad σ) := by
  refine ⟨fun M i ln c d r h hi hln hl64 hc hF => ?_, fun w f g M N i ln c d c' d' r r' hw R hM hN hi hln hl64 hl hc hc' hF hF' => ?_, fun w f g M N i ln c d r hw R hM hi hln hl64 hl hc hF => ?_⟩
  · rcases pbad_cs hF with ⟨e, hr⟩ | ⟨e, hr⟩
    · rw [hr]; exact ⟨(h.mono (by omega) (by omega)).flt, lbk_flt⟩
    · rw [hr]; exact ⟨(h.mono (by omega) (by omega)).flt, lbk_flt⟩
  · have hlo : w (Int32.ofNat ln) = true := by rw [← hln]; exact hl
    have eN : ∀ nm, tnM N (N.2.2.2.1 i).1 nm = (tnM M (M.2.2.2.1 i).1 nm).map g := fun nm => by
      rw [R.lab hi]
      exact R.tn hw hM.1 hN.1 hl
    have lM := hM.1.2.2.2.2.2.2.2.2
    have lN := hN.1.2.2.2.2.2.2.2.2
    rcases pbad_cs hF with ⟨e, hr⟩ | ⟨⟨t, e⟩, hr⟩ <;> rcases pbad_cs hF' with ⟨e', hr'⟩ | ⟨⟨t', e'⟩, hr'⟩
    · rw [hr, hr']; exact ⟨f, g, R.flt hl64 hlo lM lN⟩
    · rw [eN, e] at e'; cases e'
    · rw [eN, e] at e'; cases e'
    · rw [hr, hr']; exact ⟨f, g, R.flt hl64 hlo lM lN⟩
  · have hlo : w (Int32.ofNat ln) = false := by rw [← hln]; exact hl
    rcases pbad_cs hF with ⟨e, hr⟩ | ⟨e, hr⟩
    · rw [hr]; exact R.fltH hlo
    · rw [hr]; exact R.fltH hlo
