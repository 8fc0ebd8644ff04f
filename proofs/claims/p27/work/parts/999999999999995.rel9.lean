/-! what each text does to houses that are alike, further (by hand) -/
section
variable {M N : HM} {c d i ln : Nat} {q q1 q2 : TQ} {nm nm2 : Int32}
theorem gwf_low {key other : Int32} : GWf (fun q M i ln => lowM M i q key other) := fun M i ln c d q h hi hln hl64 hq hst hb hc => ⟨wfh_low h hi hq hst, lbk_low⟩
theorem glo_low {key other : Int32} : GLo (fun q M i ln => lowM M i q key other) := fun w f g M N i ln c d c' d' q q' hw R hM hN hi hln hl64 hl hq hst hb hq' k hc hc' => ⟨f, g, low_low hw R hM.1 hN.1 hi hl hq hb k⟩
theorem fok_fF {fl : Nat} : FOk (fF fl) := ⟨fun M i ln c d r h hi hln hl64 hc hF => by
    rw [show r = fltR M ln fl from hF]
    exact ⟨(h.mono (by omega) (by omega)).flt, lbk_flt⟩, fun w f g M N i ln c d c' d' r r' hw R hM hN hi hln hl64 hl hc hc' hF hF' => by
    rw [show r = fltR M ln fl from hF, show r' = fltR N ln fl from hF']
    exact ⟨f, g, R.flt hl64 (by rw [← hln]; exact hl) hM.1.2.2.2.2.2.2.2.2 hN.1.2.2.2.2.2.2.2.2⟩, fun w f g M N i ln c d r hw R hM hi hln hl64 hl hc hF => by
    rw [show r = fltR M ln fl from hF]
    exact R.fltH (by rw [← hln]; exact hl)⟩
theorem f2_cs {fl f9 : Nat} {G : GT2} {r : RM} (h : f2 nm nm2 fl f9 G M i ln r) : (tnM M (M.2.2.2.1 i).1 nm = none ∧ r = fltR M ln fl) ∨ (∃ t, tnM M (M.2.2.2.1 i).1 nm = some t ∧ tnM M (M.2.2.2.1 i).1 nm2 = none ∧ r = fltR M ln f9) ∨ ∃ t t2, tnM M (M.2.2.2.1 i).1 nm = some t ∧ tnM M (M.2.2.2.1 i).1 nm2 = some t2 ∧ ∃ q ∈ M.2.2.2.2.2.2, ∃ q2 ∈ M.2.2.2.2.2.2, q.1.1 = t ∧ q2.1.1 = t2 ∧ r = cntR (G q q2 M i ln) i ln := by
  unfold f2 at h
  cases e : tnM M (M.2.2.2.1 i).1 nm with
  | none => rw [e] at h; exact Or.inl ⟨rfl, h⟩
  | some t =>
    rw [e] at h
    cases e2 : tnM M (M.2.2.2.1 i).1 nm2 with
    | none =>
      dsimp only at h
      rw [e2] at h
      exact Or.inr (Or.inl ⟨t, rfl, rfl, h⟩)
    | some t2 =>
      dsimp only at h
      rw [e2] at h
      exact Or.inr (Or.inr ⟨t, t2, rfl, rfl, h⟩)
theorem fok_f2 {fl f9 wd : Nat} {top : Int32} {Q : List En → List En → QT} {b b2 : Bool} (hQ : ∀ (f : Int32 → Int32) (g : Nat → Nat) (es fs : List En), Q (es.map (mapE f g)) (fs.map (mapE f g)) = Q es fs) : FOk (f2 nm nm2 fl f9 (fun q q2 M i ln => getM M i wd top (Q (gthE b (vwE M i) (lookE (TIq M.2.2.2.2.2.2) (vwE M i) (M.2.2.2.1 i).1) q.2.1 (M.2.2.2.1 i).1) (gthE b2 (vwE M i) (lookE (TIq M.2.2.2.2.2.2) (vwE M i) (M.2.2.2.1 i).1) q2.2.1 (M.2.2.2.1 i).1)))) := by
  refine ⟨fun M i ln c d r h hi hln hl64 hc hF => ?_, fun w f g M N i ln c d c' d' r r' hw R hM hN hi hln hl64 hl hc hc' hF hF' => ?_, fun w f g M N i ln c d r hw R hM hi hln hl64 hl hc hF => ?_⟩
  · rcases f2_cs hF with ⟨e, hr⟩ | ⟨t, e, e2, hr⟩ | ⟨t, t2, e, e2, q, hq, q2, hq2, e3, e4, hr⟩
    · rw [hr]; exact ⟨(h.mono (by omega) (by omega)).flt, lbk_flt⟩
    · rw [hr]; exact ⟨(h.mono (by omega) (by omega)).flt, lbk_flt⟩
    · rw [hr]; exact ⟨(wfh_get h hi).cnt hi, lbk_cnt lbk_get⟩
  · have hlo : w (Int32.ofNat ln) = true := by rw [← hln]; exact hl
    have eN : ∀ nm, tnM N (N.2.2.2.1 i).1 nm = (tnM M (M.2.2.2.1 i).1 nm).map g := fun nm => by
      rw [R.lab hi]
      exact R.tn hw hM.1 hN.1 hl
    have lM := hM.1.2.2.2.2.2.2.2.2
    have lN := hN.1.2.2.2.2.2.2.2.2
    rcases f2_cs hF with ⟨e, hr⟩ | ⟨t, e, e2, hr⟩ | ⟨t, t2, e, e2, q, hq, q2, hq2, e3, e4, hr⟩ <;> rcases f2_cs hF' with ⟨e', hr'⟩ | ⟨t', e', e2', hr'⟩ | ⟨t', t2', e', e2', q', hq', q2', hq2', e3', e4', hr'⟩
    · rw [hr, hr']; exact ⟨f, g, R.flt hl64 hlo lM lN⟩
    · rw [eN, e] at e'; cases e'
    · rw [eN, e] at e'; cases e'
    · rw [eN, e] at e'; cases e'
    · rw [hr, hr']; exact ⟨f, g, R.flt hl64 hlo lM lN⟩
    · rw [eN, e2] at e2'; cases e2'
    · rw [eN, e] at e'; cases e'
    · rw [eN, e2] at e2'; cases e2'
    · rw [eN, e] at e'
      rw [eN, e2] at e2'
      cases e'
      cases e2'
      obtain ⟨s1, s2, s3⟩ := tn_q hM.1 e hq e3
      obtain ⟨u1, u2, u3⟩ := tn_q hM.1 e2 hq2 e4
      have k := tn_lo hw R hM.1 hN.1 hl e hq e3 hq' e3'
      have k2 := tn_lo hw R hM.1 hN.1 hl e2 hq2 e4 hq2' e4'
      rw [hr, hr']
      rw [low_gth hw R hM.1 hN.1 hi hl hq s2 k, low_gth hw R hM.1 hN.1 hi hl hq2 u2 k2, hQ]
      exact ⟨f, g, Rel.cnt (low_get R hi) hi ((lbk_get i).trans hln) hl64 hlo (wfh_get hM hi).1.2.2.2.2.2.2.2.2 (wfh_get hN hi).1.2.2.2.2.2.2.2.2⟩
  · have hlo : w (Int32.ofNat ln) = false := by rw [← hln]; exact hl
    rcases f2_cs hF with ⟨e, hr⟩ | ⟨t, e, e2, hr⟩ | ⟨t, t2, e, e2, q, hq, q2, hq2, e3, e4, hr⟩
    · rw [hr]; exact R.fltH hlo
    · rw [hr]; exact R.fltH hlo
    · rw [hr]; exact Rel.cntH (hi_get R hi hl) hi ((lbk_get i).trans hln) hlo
end
section
variable {M N : HM} {c d i ln n n' : Nat} {lb : Int32} {q q' : TQ}
theorem new_A (h : frs M n) : NewOk M lb (nqA n (M.2.2.2.2.2.1 + 1) lb) := ⟨Or.inl ⟨rfl, rfl, Or.inl rfl, rfl⟩, rfl, rfl, rfl, fun q hq e => by
    have h1 := (h q hq).1
    have e2 : q.1.1 = n + 0 := e
    omega, fun r hr => by
    have hr : some r ∈ [none, none] := hr
    simp at hr⟩
theorem new_U (h : frs M n) : NewOk M lb (nqU n (M.2.2.2.2.2.1 + 1) lb) := ⟨Or.inl ⟨rfl, rfl, Or.inr rfl, rfl⟩, rfl, rfl, rfl, fun q hq e => by
    have h1 := (h q hq).1
    have e2 : q.1.1 = n + 6 := e
    omega, fun r hr => by
    have hr : some r ∈ [none, none] := hr
    simp at hr⟩
theorem new_B (h : frs M n) (hq : q ∈ M.2.2.2.2.2.2) (hb : isB q.2.2.1.2.1 lb = true) : NewOk M lb (nqB n (M.2.2.2.2.2.1 + 1) lb q.1.1 q.2.1) := ⟨Or.inr ⟨rfl, rfl, rfl, _, rfl⟩, rfl, rfl, rfl, fun q hq e => by
    have h1 := (h q hq).1
    have e2 : q.1.1 = n + 0 := e
    omega, fun r hr => by
    have hr : some r ∈ [none, some (q.1.1, q.2.1), none] := hr
    have e : r = (q.1.1, q.2.1) := by
      rcases List.mem_cons.mp hr with h9 | h9
      · cases h9
      · rcases List.mem_cons.mp h9 with h8 | h8
        · cases h8; rfl
        · rcases List.mem_cons.mp h8 with h7 | h7
          · cases h7
          · exact (List.not_mem_nil h7).elim
    rw [e]
    exact ⟨q, hq, rfl, rfl, hb⟩⟩
/-- a table made -/
theorem fok_new {nm : Int32} {F : MF} {q0 : HM → Nat → Nat → TQ} (hF : ∀ M i ln r, F M i ln r → ∃ n, frs M n ∧ r = cntR (mkM M i nm (q0 M i n)) i ln) (h1 : ∀ M i n, frs M n → NewOk M (M.2.2.2.1 i).1 (q0 M i n)) (h2 : ∀ M i n, (q0 M i n).2.2.1.1 = nm) (h3 : ∀ M i n N n', (q0 N i n').2.2.1.2.2.1 = (q0 M i n).2.2.1.2.2.1 ∧ (q0 N i n').2.2.2.1 = (q0 M i n).2.2.2.1 ∧ (q0 N i n').2.2.2.2.2 = (q0 M i n).2.2.2.2.2 ∧ ∀ f g SP, TbM f g SP (q0 M i n).2.2.1 (q0 N i n').2.2.1) : FOk F := by
  refine ⟨fun M i ln c d r h hi hln hl64 hc hF9 => ?_, fun w f g M N i ln c d c' d' r r' hw R hM hN hi hln hl64 hl hc hc' hF9 hF' => ?_, fun w f g M N i ln c d r hw R hM hi hln hl64 hl hc hF9 => ?_⟩
  · obtain ⟨n, hn, hr⟩ := hF M i ln r hF9
    rw [hr]
    exact ⟨(wfh_mk h hi (h1 M i n hn) (h2 M i n) hc).cnt hi, lbk_cnt lbk_mk⟩
  · obtain ⟨n, hn, hr⟩ := hF M i ln r hF9
    obtain ⟨n', hn', hr'⟩ := hF N i ln r' hF'
    obtain ⟨a1, a2, a3, a4⟩ := h3 M i n N n'
    obtain ⟨f', g', k⟩ := low_mk (nm := nm) hw R hM.1 hN.1 hi hl hM.2.2 hN.2.2 hM.2.1 (h1 M i n hn) (h1 N i n' hn') (a4 f g (SPm w M)) (h2 M i n) (h2 N i n') a1 a2 a3 (by omega) (by omega)
    rw [hr, hr']
    exact ⟨f', g', Rel.cnt k hi ((lbk_mk i).trans hln) hl64 (by rw [← hln]; exact hl) (wfh_mk hM hi (h1 M i n hn) (h2 M i n) hc).1.2.2.2.2.2.2.2.2 (wfh_mk hN hi (h1 N i n' hn') (h2 N i n') hc').1.2.2.2.2.2.2.2.2⟩
  · obtain ⟨n, hn, hr⟩ := hF M i ln r hF9
    rw [hr]
    exact Rel.cntH (hi_mk R hM.1 hl (h1 M i n hn)) hi ((lbk_mk i).trans hln) (by rw [← hln]; exact hl)
theorem TbM.nn {f : Int32 → Int32} {g : Nat → Nat} {SP : Int32 → Prop} {T U : Tb} (h1 : U.2.2.1.length = T.2.2.1.length) (h2 : U.2.2.2.1 = T.2.2.2.1) (h3 : T.2.2.2.2 = [none, none]) (h4 : U.2.2.2.2 = [none, none]) : TbM f g SP T U := ⟨h1, h2, by rw [h3, h4]; rfl, fun r hr => by rw [h3] at hr; simp at hr⟩
theorem fok_fA : FOk fA := fok_new (nm := 14348907) (q0 := fun M i n => nqA n (M.2.2.2.2.2.1 + 1) (M.2.2.2.1 i).1) (fun M i ln r h => h) (fun M i n h => new_A h) (fun M i n => rfl) (fun M i n N n' => ⟨rfl, rfl, rfl, fun f g SP => TbM.nn rfl rfl rfl rfl⟩)
theorem fok_fU : FOk fU := fok_new (nm := 14348907) (q0 := fun M i n => nqU n (M.2.2.2.2.2.1 + 1) (M.2.2.2.1 i).1) (fun M i ln r h => h) (fun M i n h => new_U h) (fun M i n => rfl) (fun M i n N n' => ⟨rfl, rfl, rfl, fun f g SP => TbM.nn rfl rfl rfl rfl⟩)
theorem fB_cs {fl : Nat} {r : RM} (h : fB fl M i ln r) : (tnM M (M.2.2.2.1 i).1 14348907 = none ∧ r = fltR M ln fl) ∨ ∃ t, tnM M (M.2.2.2.1 i).1 14348907 = some t ∧ ∃ q ∈ M.2.2.2.2.2.2, q.1.1 = t ∧ ∃ n, frs M n ∧ r = cntR (mkM M i 28697814 (nqB n (M.2.2.2.2.2.1 + 1) (M.2.2.2.1 i).1 q.1.1 q.2.1)) i ln := by
  unfold fB at h
  cases e : tnM M (M.2.2.2.1 i).1 14348907 with
  | none => rw [e] at h; exact Or.inl ⟨rfl, h⟩
  | some t => rw [e] at h; exact Or.inr ⟨t, rfl, h⟩
theorem fok_fB {fl : Nat} : FOk (fB fl) := by
  refine ⟨fun M i ln c d r h hi hln hl64 hc hF => ?_, fun w f g M N i ln c d c' d' r r' hw R hM hN hi hln hl64 hl hc hc' hF hF' => ?_, fun w f g M N i ln c d r hw R hM hi hln hl64 hl hc hF => ?_⟩
  · rcases fB_cs hF with ⟨e, hr⟩ | ⟨t, e, q, hq, q1, n, hn, hr⟩
    · rw [hr]; exact ⟨(h.mono (by omega) (by omega)).flt, lbk_flt⟩
    · obtain ⟨t1, t2, t3⟩ := tn_q h.1 e hq q1
      rw [hr]
      exact ⟨(wfh_mk h hi (new_B hn hq t2) rfl hc).cnt hi, lbk_cnt lbk_mk⟩
  · have hlo : w (Int32.ofNat ln) = true := by rw [← hln]; exact hl
    have eN : ∀ nm, tnM N (N.2.2.2.1 i).1 nm = (tnM M (M.2.2.2.1 i).1 nm).map g := fun nm => by
      rw [R.lab hi]
      exact R.tn hw hM.1 hN.1 hl
    rcases fB_cs hF with ⟨e, hr⟩ | ⟨t, e, q, hq, q1, n, hn, hr⟩ <;> rcases fB_cs hF' with ⟨e', hr'⟩ | ⟨t', e', q', hq', q1', n', hn', hr'⟩
    · rw [hr, hr']; exact ⟨f, g, R.flt hl64 hlo hM.1.2.2.2.2.2.2.2.2 hN.1.2.2.2.2.2.2.2.2⟩
    · rw [eN, e] at e'; cases e'
    · rw [eN, e] at e'; cases e'
    · have e9 := e'
      rw [eN, e] at e'
      cases e'
      obtain ⟨s1, s2, s3⟩ := tn_q hM.1 e hq q1
      obtain ⟨u1, u2, u3⟩ := tn_q hN.1 e9 hq' q1'
      have k := tn_lo hw R hM.1 hN.1 hl e hq q1 hq' q1'
      have n1 := new_B (lb := (M.2.2.2.1 i).1) hn hq s2
      have n2 := new_B (lb := (N.2.2.2.1 i).1) hn' hq' u2
      obtain ⟨f', g', k2⟩ := low_mk (nm := 28697814) hw R hM.1 hN.1 hi hl hM.2.2 hN.2.2 hM.2.1 n1 n2 ⟨rfl, rfl, by
          show [none, some (q'.1.1, q'.2.1), none] = [none, some (g q.1.1, f q.2.1), none]
          rw [k.1, k.2.1], fun r9 hr9 => by
          have hr9 : some r9 ∈ [none, some (q.1.1, q.2.1), none] := hr9
          simp at hr9
          rw [hr9]
          exact ⟨q, hq, rfl, hw _ _ hl s2⟩⟩ rfl rfl rfl rfl rfl (by omega) (by omega)
      rw [hr, hr']
      exact ⟨f', g', Rel.cnt k2 hi ((lbk_mk i).trans hln) hl64 hlo (wfh_mk hM hi n1 rfl hc).1.2.2.2.2.2.2.2.2 (wfh_mk hN hi n2 rfl hc').1.2.2.2.2.2.2.2.2⟩
  · have hlo : w (Int32.ofNat ln) = false := by rw [← hln]; exact hl
    rcases fB_cs hF with ⟨e, hr⟩ | ⟨t, e, q, hq, q1, n, hn, hr⟩
    · rw [hr]; exact R.fltH hlo
    · obtain ⟨t1, t2, t3⟩ := tn_q hM.1 e hq q1
      rw [hr]
      exact Rel.cntH (hi_mk R hM.1 hl (new_B hn hq t2)) hi ((lbk_mk i).trans hln) hlo
end
