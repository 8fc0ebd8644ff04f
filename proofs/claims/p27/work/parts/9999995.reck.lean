/-! queries: a line is worked out (written by wip/p27/c9999995.py) -/
section
variable {S : List Int32} {q st mn l1 l2 pa li ln0 c ka fa oa aa pa9 sa wa if0 if1 items vb mc N kp w n l0 nc0 ns0 : Nat} {kd fr : Nat → Nat} {ws : Value} {es9 mf sf ces : List Value} {gs : List Int32} {os : List (Nat × Int32)} {as bs : List Nat} {e1 e2 : List En} {so : Option Nat} {dn : Int32} {h0 : List XC} {ps : List Int32}
theorem me_imp {S : List Int32} {d y : Nat} {as : List Value} {hp : List XC} {R R' : Option Value → List XC → Nat → Nat → Prop} (h : Me S d y as hp R) (f : ∀ v hp' c s, R v hp' c s → R' v hp' c s) : Me S d y as hp R' := At.mono h (fun o ho => by
  obtain ⟨v, hp', c, s, e, r⟩ := ho
  exact ⟨v, hp', c, s, e, f v hp' c s r⟩)
def e0E : En := (0, 0, 0, false, [], 0)
/-- a row, or a pair, as lines see it: its label and its cells -/
abbrev RV : Type := Int32 × List Int32 × List Int32
def rv0 (e1 : List En) (v : Int32) : RV := (((e1[v.toNatClampNeg]?).getD e0E).2.2.1, ((e1[v.toNatClampNeg]?).getD e0E).2.2.2.2.1, [])
def rvJ (e1 e2 : List En) (v : Int32) : RV := (joinE ((e1[v.toNatClampNeg / e2.length]?).getD e0E).2.2.1 ((e2[v.toNatClampNeg % e2.length]?).getD e0E).2.2.1, ((e1[v.toNatClampNeg / e2.length]?).getD e0E).2.2.2.2.1, ((e2[v.toNatClampNeg % e2.length]?).getD e0E).2.2.2.2.1)
def rvR (seg : List (Nat × Int32)) (r : RV) : Int32 := resE r.1 (fun g => cellE r.2.1 r.2.2 g.toNatClampNeg) seg
def segK (os : List (Nat × Int32)) (items if0 : Nat) (fr : Nat → Nat) (k : Nat) : List (Nat × Int32) := (os.take (itTo items if0 os.length k false fr)).drop (fr k)
def lineX (kd : Nat → Nat) (seg : Nat → List (Nat × Int32)) (rv : Int32 → RV) (pk : Nat → Int32) (a b k : Nat) : Int32 := if kd k = 30 then Int32.ofNat b - Int32.ofNat a else if kd k = 3 then rvR (seg k) (rv (pk a)) else fdE (decide (kd k = 31)) (decide (kd k = 32)) (fdG (fun i => rvR (seg k) (rv (pk i))) (b - a) a (0, 0, 999999999, -999999999))
def lineB (kd : Nat → Nat) (seg : Nat → List (Nat × Int32)) (rv : Int32 → RV) (pk : Nat → Int32) (w a b : Nat) : List Int32 := (List.range w).map (lineX kd seg rv pk a b)
def lineA (rv : Int32 → RV) (pk : Nat → Int32) (w a : Nat) : List Int32 := (List.range w).map (fun k => cellE (rv (pk a)).2.1 (rv (pk a)).2.2 k)
def pkL (ps : List Int32) (i : Nat) : Int32 := (ps[i]?).getD 0
theorem pkL_at {ps : List Int32} {i : Nat} (h : i < ps.length) : ps[i]? = some (pkL ps i) := by
  unfold pkL
  rw [List.getElem?_eq_getElem h]
  rfl
def Va0 (e1 : List En) (v : Int32) : Prop := ∃ x, x < e1.length ∧ v = Int32.ofNat x
def VaJ (e1 e2 : List En) (v : Int32) : Prop := ∃ x y, x < e1.length ∧ y < e2.length ∧ v = Int32.ofNat (x * e2.length + y)
/-- a step of an answer -/
def emA (so : Option Nat) (dn : Int32) (kp : Nat) (rv : Int32 → RV) (pk : Nat → Int32) (w : Nat) (t : QT) (a : Nat) (_ : Nat) : QT := (insK so dn kp t.1 (lineA rv pk w a), t.2 + 1)
def emB (so : Option Nat) (dn : Int32) (kp : Nat) (kd : Nat → Nat) (seg : Nat → List (Nat × Int32)) (rv : Int32 → RV) (pk : Nat → Int32) (w : Nat) (t : QT) (a b : Nat) : QT := (insK so dn kp t.1 (lineB kd seg rv pk w a b), t.2 + 1)
theorem q_row0  {ln nc ns : Nat} {lb la : List Int32} {t : QT} {h : List XC} {jn : Int32} (k : QK q st mn l1 l2 pa li ln0 c ka fa oa aa pa9 sa wa if0 if1 items vb mc N kp w n l0 nc0 ns0 kd fr ws es9 mf sf ces gs os as bs e1 e2 so dn h0 ps ln lb la t h nc ns) (hjn : sf[6]? = some (.int jn)) (hneg : jn < 0) (he1 : e1.length ≤ 40000) {v : Int32} (hv : Va0 e1 v) : hEn h ((as[v.toNatClampNeg]?).getD 0) ((e1[v.toNatClampNeg]?).getD e0E) ∧ Pu S 3 153 [.ref q, .int v] h (.ref ((as[v.toNatClampNeg]?).getD 0)) ∧ Pu S 3 154 [.ref q, .int v] h .null := by
  obtain ⟨x, hx, rfl⟩ := hv
  obtain ⟨⟨⟨a1, a2, a3, a4, a5, a6, a7, a8⟩, b2, b3, b4⟩, k2, k3, -⟩ := k
  rw [iN_tn (by omega)]
  have hal := a5.1
  have ha : as[x]? = some (as[x]'(by omega)) := List.getElem?_eq_getElem _
  have he : e1[x]? = some (e1[x]'hx) := List.getElem?_eq_getElem _
  have hE := a5.2 x _ _ ha he
  rw [ha, he]
  obtain ⟨cc, fs, h1, -⟩ := id hE
  exact ⟨hE, m_first0 k3 a2 hjn a4 a6 hneg ha h1, m_second0 k3 a2 hjn a4 a6 hneg _⟩
theorem q_rowJ  {ln nc ns : Nat} {lb la : List Int32} {t : QT} {h : List XC} {jn : Int32} (k : QK q st mn l1 l2 pa li ln0 c ka fa oa aa pa9 sa wa if0 if1 items vb mc N kp w n l0 nc0 ns0 kd fr ws es9 mf sf ces gs os as bs e1 e2 so dn h0 ps ln lb la t h nc ns) (hjn : sf[6]? = some (.int jn)) (hnn : ¬ jn < 0) (hbg : e1.length * e2.length ≤ 19000) {v : Int32} (hv : VaJ e1 e2 v) : hEn h ((as[v.toNatClampNeg / e2.length]?).getD 0) ((e1[v.toNatClampNeg / e2.length]?).getD e0E) ∧ hEn h ((bs[v.toNatClampNeg % e2.length]?).getD 0) ((e2[v.toNatClampNeg % e2.length]?).getD e0E) ∧ Pu S 3 153 [.ref q, .int v] h (.ref ((as[v.toNatClampNeg / e2.length]?).getD 0)) ∧ Pu S 3 154 [.ref q, .int v] h (.ref ((bs[v.toNatClampNeg % e2.length]?).getD 0)) := by
  obtain ⟨x, y, hx, hy, rfl⟩ := hv
  obtain ⟨⟨⟨a1, a2, a3, a4, a5, a6, a7, a8⟩, b2, b3, b4⟩, k2, k3, -⟩ := k
  have hm := Nat.mul_le_mul_right e2.length (show x + 1 ≤ e1.length from hx)
  rw [Nat.succ_mul] at hm
  rw [iN_tn (by omega)]
  have d1 : (x * e2.length + y) / e2.length = x := by rw [Nat.add_comm, Nat.add_mul_div_right _ _ (by omega), Nat.div_eq_of_lt hy, Nat.zero_add]
  have d2 : (x * e2.length + y) % e2.length = y := by rw [Nat.add_comm, Nat.add_mul_mod_self_right, Nat.mod_eq_of_lt hy]
  rw [d1, d2]
  have hal := a5.1
  have hbl := a7.1
  have ha : as[x]? = some (as[x]'(by omega)) := List.getElem?_eq_getElem _
  have he : e1[x]? = some (e1[x]'hx) := List.getElem?_eq_getElem _
  have hb : bs[y]? = some (bs[y]'(by omega)) := List.getElem?_eq_getElem _
  have hf : e2[y]? = some (e2[y]'hy) := List.getElem?_eq_getElem _
  have hE := a5.2 x _ _ ha he
  have hF := a7.2 y _ _ hb hf
  rw [ha, he, hb, hf]
  obtain ⟨cc, fs, h1, -⟩ := id hE
  obtain ⟨cc2, fs2, h2, -⟩ := id hF
  rw [← hbl]
  exact ⟨hE, hF, m_firstJ k3 a2 hjn a4 a6 hnn (by omega) ha h1 (by rw [hbl]; omega), m_secondJ k3 a2 hjn a4 a6 hnn (by omega) hb h2 (by rw [hbl]; omega)⟩
theorem q_pk  {ln nc ns : Nat} {lb la : List Int32} {t : QT} {h : List XC} (k : QK q st mn l1 l2 pa li ln0 c ka fa oa aa pa9 sa wa if0 if1 items vb mc N kp w n l0 nc0 ns0 kd fr ws es9 mf sf ces gs os as bs e1 e2 so dn h0 ps ln lb la t h nc ns) (hn : n ≤ ps.length) (hps : ps.length ≤ 40000) {i : Nat} (hi : i < n) : Pu S 0 152 [.ref q, .int (Int32.ofNat i)] h (.int (pkL ps i)) := m_pickedAt k.2.2.1 k.2.2.2.1 (pkL_at (by omega)) hi (by omega) hn
theorem q_reck0A  {L nc ns a b : Nat} {t : QT} {h : List XC} {jn al : Int32} (hj : QJ L q st mn l1 l2 pa li ln0 c ka fa oa aa pa9 sa wa if0 if1 items vb mc N kp w n l0 nc0 ns0 kd fr ws es9 mf sf ces gs os as bs e1 e2 so dn h0 ps (fun _ => True) t h nc ns) (hwL : w ≤ L) (hL : L ≤ 1000) (hn : n ≤ ps.length) (hps : ps.length ≤ 40000) (hab : a < b) (hbn : b ≤ n) (hjn : sf[6]? = some (.int jn)) (hneg : jn < 0) (he1 : e1.length ≤ 40000) (hva : ∀ i, i < n → Va0 e1 (pkL ps i)) (hs4 : sf[4]? = some (.int al)) (haa : ¬ al < 0) (hkd3 : items = 0) (hw9 : w ≤ 1000) : Me S 6 151 [.ref q, .int (Int32.ofNat a), .int (Int32.ofNat b)] h (fun v h' c9 s9 => v = none ∧ QJ L q st mn l1 l2 pa li ln0 c ka fa oa aa pa9 sa wa if0 if1 items vb mc N kp w n l0 nc0 ns0 kd fr ws es9 mf sf ces gs os as bs e1 e2 so dn h0 ps (fun l => l = lineA (rv0 e1) (pkL ps) w a) t h' (nc + c9) (ns + s9)) := by
  obtain ⟨ln, lb, la, hla, -, k⟩ := hj
  have hG : ∀ (la : List Int32) (h : List XC), QK q st mn l1 l2 pa li ln0 c ka fa oa aa pa9 sa wa if0 if1 items vb mc N kp w n l0 nc0 ns0 kd fr ws es9 mf sf ces gs os as bs e1 e2 so dn h0 ps ln lb la t h nc ns → h[q]? = some (.inr (7, [.ref st, .ref mn, .ref l1, .ref l2, .ref pa, .int (Int32.ofNat n), .ref li, .int (Int32.ofNat kp), .int (Int32.ofNat t.2), .int (soI so), .int dn, .ref ln, .int (Int32.ofNat t.1.length), .int (Int32.ofNat w)])) ∧ h[st]? = some (.inr (12, sf)) ∧ h[li]? = some (.inl (19, la.map Value.int)) := fun la h g => ⟨g.2.2.1, g.1.1.2.1, g.2.2.2.2.1⟩
  have hset : ∀ (x : Nat → Int32) (la : List Int32) (h : List XC) (k : Nat), QK q st mn l1 l2 pa li ln0 c ka fa oa aa pa9 sa wa if0 if1 items vb mc N kp w n l0 nc0 ns0 kd fr ws es9 mf sf ces gs os as bs e1 e2 so dn h0 ps ln lb la t h nc ns → k < w → QK q st mn l1 l2 pa li ln0 c ka fa oa aa pa9 sa wa if0 if1 items vb mc N kp w n l0 nc0 ns0 kd fr ws es9 mf sf ces gs os as bs e1 e2 so dn h0 ps ln lb (la.set k (x k)) t (h.set li (.inl (19, (la.set k (x k)).map Value.int))) nc ns := fun x la h k g _ => g.lin
  have hva0 := hva a (by omega)
  obtain ⟨r1, r2, r3⟩ := q_row0 (S := S) k hjn hneg he1 hva0
  refine me_imp (m_reckon0A (S := S) (GL := fun la h => QK q st mn l1 l2 pa li ln0 c ka fa oa aa pa9 sa wa if0 if1 items vb mc N kp w n l0 nc0 ns0 kd fr ws es9 mf sf ces gs os as bs e1 e2 so dn h0 ps ln lb la t h nc ns) (w := w) (kd := fun _ => 3) (x := (fun k => cellE ((rv0 e1) (pkL ps a)).2.1 ((rv0 e1) (pkL ps a)).2.2 k)) hG (hset (fun k => cellE ((rv0 e1) (pkL ps a)).2.1 ((rv0 e1) (pkL ps a)).2.2 k)) rfl rfl rfl hs4 (fun la h g k hk => m_itemKind0 g.1.1.1 (by omega) (by omega)) haa (fun la h g k hk => ?_) k (by omega) (by omega) (by omega) (by omega) hab (q_pk k hn hps (by omega)) r2 r3) (fun v h' c8 s8 hv => ?_)
  · obtain ⟨r1, -, -⟩ := q_row0 (S := S) g hjn hneg he1 hva0
    exact m_cellOf1 r1 (by omega)
  · obtain ⟨v1, v2, v3, v4⟩ := hv
    subst v3 v4
    refine ⟨v1, ln, lb, rlF (fun k => cellE ((rv0 e1) (pkL ps a)).2.1 ((rv0 e1) (pkL ps a)).2.2 k) w 0 la, (rlF_len _ _ _ _).trans hla, ?_, v2⟩
    exact rlF_take _ _ _ (by omega)
theorem q_reck0B  {L nc ns a b : Nat} {t : QT} {h : List XC} {jn al : Int32} (hj : QJ L q st mn l1 l2 pa li ln0 c ka fa oa aa pa9 sa wa if0 if1 items vb mc N kp w n l0 nc0 ns0 kd fr ws es9 mf sf ces gs os as bs e1 e2 so dn h0 ps (fun _ => True) t h nc ns) (hwL : w ≤ L) (hL : L ≤ 1000) (hn : n ≤ ps.length) (hps : ps.length ≤ 40000) (hab : a < b) (hbn : b ≤ n) (hjn : sf[6]? = some (.int jn)) (hneg : jn < 0) (he1 : e1.length ≤ 40000) (hva : ∀ i, i < n → Va0 e1 (pkL ps i)) (hs4 : sf[4]? = some (.int al)) (haa : al < 0) (hwi : w = items) (hkd : ∀ k, k < items → kd k < 51) (hN : os.length ≤ N) (hN2 : N ≤ 1000) (hnm : ∀ (i : Nat) (q : Nat × Int32), os[i]? = some q → q.1 = 3 → ∃ j : Nat, j ≤ 100000 ∧ q.2 = Int32.ofNat j) (hvb : vb = 5) (hseg : ∀ k, k < items → fr k ≤ itTo items if0 os.length k false fr ∧ itTo items if0 os.length k false fr ≤ os.length ∧ resOk (segK os items if0 fr k) = true) : Me S 6 151 [.ref q, .int (Int32.ofNat a), .int (Int32.ofNat b)] h (fun v h' c9 s9 => v = none ∧ QJ L q st mn l1 l2 pa li ln0 c ka fa oa aa pa9 sa wa if0 if1 items vb mc N kp w n l0 nc0 ns0 kd fr ws es9 mf sf ces gs os as bs e1 e2 so dn h0 ps (fun l => l = lineB kd (segK os items if0 fr) (rv0 e1) (pkL ps) w a b) t h' (nc + c9) (ns + s9)) := by
  obtain ⟨ln, lb, la, hla, -, k⟩ := hj
  have hG : ∀ (la : List Int32) (h : List XC), QK q st mn l1 l2 pa li ln0 c ka fa oa aa pa9 sa wa if0 if1 items vb mc N kp w n l0 nc0 ns0 kd fr ws es9 mf sf ces gs os as bs e1 e2 so dn h0 ps ln lb la t h nc ns → h[q]? = some (.inr (7, [.ref st, .ref mn, .ref l1, .ref l2, .ref pa, .int (Int32.ofNat n), .ref li, .int (Int32.ofNat kp), .int (Int32.ofNat t.2), .int (soI so), .int dn, .ref ln, .int (Int32.ofNat t.1.length), .int (Int32.ofNat w)])) ∧ h[st]? = some (.inr (12, sf)) ∧ h[li]? = some (.inl (19, la.map Value.int)) := fun la h g => ⟨g.2.2.1, g.1.1.2.1, g.2.2.2.2.1⟩
  have hset : ∀ (x : Nat → Int32) (la : List Int32) (h : List XC) (k : Nat), QK q st mn l1 l2 pa li ln0 c ka fa oa aa pa9 sa wa if0 if1 items vb mc N kp w n l0 nc0 ns0 kd fr ws es9 mf sf ces gs os as bs e1 e2 so dn h0 ps ln lb la t h nc ns → k < w → QK q st mn l1 l2 pa li ln0 c ka fa oa aa pa9 sa wa if0 if1 items vb mc N kp w n l0 nc0 ns0 kd fr ws es9 mf sf ces gs os as bs e1 e2 so dn h0 ps ln lb (la.set k (x k)) t (h.set li (.inl (19, (la.set k (x k)).map Value.int))) nc ns := fun x la h k g _ => g.lin
  have hkd9 : ∀ (la : List Int32) (h : List XC), QK q st mn l1 l2 pa li ln0 c ka fa oa aa pa9 sa wa if0 if1 items vb mc N kp w n l0 nc0 ns0 kd fr ws es9 mf sf ces gs os as bs e1 e2 so dn h0 ps ln lb la t h nc ns → ∀ k, k < w → Pu S 0 94 [.ref st, .int (Int32.ofNat k)] h (.retAddr (kd k)) := fun la h g k hk => m_itemKind g.1.1.1 (by omega)
  have hs1 : sf[1]? = some (.ref c) := by
    obtain ⟨sf9, kes, fes, u0, u1, -⟩ := k.1.1.1
    cases u0.symm.trans k.1.1.2.1
    exact u1
  have e16 : xeq xKC (.retAddr vb) (.retAddr 16) = some false := by rw [hvb]; exact xq_w (by decide) (by decide)
  have e27 : xeq xKC (.retAddr vb) (.retAddr 27) = some false := by rw [hvb]; exact xq_w (by decide) (by decide)
  have hto : ∀ (la : List Int32) (h : List XC), QK q st mn l1 l2 pa li ln0 c ka fa oa aa pa9 sa wa if0 if1 items vb mc N kp w n l0 nc0 ns0 kd fr ws es9 mf sf ces gs os as bs e1 e2 so dn h0 ps ln lb la t h nc ns → ∀ k, k < w → Pu S 1 97 [.ref st, .int (Int32.ofNat k)] h (.int (Int32.ofNat (itTo items if0 os.length k false fr))) := fun la h g k hk => m_itemTo g.1.1.1 (i := k) (by omega) e16 e27 g.1.1.2.2.1
  have hfr : ∀ (la : List Int32) (h : List XC), QK q st mn l1 l2 pa li ln0 c ka fa oa aa pa9 sa wa if0 if1 items vb mc N kp w n l0 nc0 ns0 kd fr ws es9 mf sf ces gs os as bs e1 e2 so dn h0 ps ln lb la t h nc ns → ∀ k, k < w → Pu S 0 96 [.ref st, .int (Int32.ofNat k)] h (.int (Int32.ofNat (fr k))) := fun la h g k hk => m_itemFrom g.1.1.1 (by omega)
  have hva0 := hva a (by omega)
  obtain ⟨r1, r2, r3⟩ := q_row0 (S := S) k hjn hneg he1 hva0
  refine me_imp (m_reckon0B (S := S) (GL := fun la h => QK q st mn l1 l2 pa li ln0 c ka fa oa aa pa9 sa wa if0 if1 items vb mc N kp w n l0 nc0 ns0 kd fr ws es9 mf sf ces gs os as bs e1 e2 so dn h0 ps ln lb la t h nc ns) (w := w) (kd := kd) (x := (lineX kd (segK os items if0 fr) (rv0 e1) (pkL ps) a b)) hG (hset (lineX kd (segK os items if0 fr) (rv0 e1) (pkL ps) a b)) rfl rfl rfl hs4 hkd9 haa (fun k hk => ⟨decide (kd k = 30), decide (kd k = 3), xq_w (hkd k (by omega)) (by decide), xq_w (hkd k (by omega)) (by decide), fun e => ?_, fun u1 u2 la h g => ?_, fun u1 u2 la h g => ?_⟩) k (by omega) (by omega) (by omega) (by omega) hab (q_pk k hn hps (by omega)) r2 r3) (fun v h' c8 s8 hv => ?_)
  · unfold lineX
    rw [if_pos (of_decide_eq_true e)]
  · obtain ⟨g1, -, -⟩ := q_row0 (S := S) g hjn hneg he1 hva0
    have hX : lineX kd (segK os items if0 fr) (rv0 e1) (pkL ps) a b k = rvR (segK os items if0 fr k) ((rv0 e1) (pkL ps a)) := by unfold lineX; rw [if_neg (of_decide_eq_false u1), if_pos (of_decide_eq_true u2)]
    rw [hX]
    obtain ⟨s1, s2, s3⟩ := hseg k (by omega)
    obtain ⟨vs, b4, b5⟩ := g.1.2.2.2
    refine me_imp (m_itemRes1 g.1.1.1 g1 g.1.1.2.2.1 b5 (by omega) (by omega) hnm (hfr la h g k hk) (hto la h g k hk) s2 s1 (resR_ok s3)) (fun v h' c8 s8 hv => ?_)
    obtain ⟨v1, ⟨vs', v2, v3⟩, v4, v5⟩ := hv
    exact ⟨v1, by rw [v3]; exact g.stk b5 (v2.trans b4), v4, v5⟩
  · have hX : lineX kd (segK os items if0 fr) (rv0 e1) (pkL ps) a b k = fdE (decide (kd k = 31)) (decide (kd k = 32)) (fdG (fun i => rvR (segK os items if0 fr k) ((rv0 e1) (pkL ps i))) (b - a) a (0, 0, 999999999, -999999999)) := by unfold lineX; rw [if_neg (of_decide_eq_false u1), if_neg (of_decide_eq_false u2)]
    rw [hX]
    obtain ⟨s1, s2, s3⟩ := hseg k (by omega)
    refine m_folded0 (S := S) (G := fun h => QK q st mn l1 l2 pa li ln0 c ka fa oa aa pa9 sa wa if0 if1 items vb mc N kp w n l0 nc0 ns0 kd fr ws es9 mf sf ces gs os as bs e1 e2 so dn h0 ps ln lb la t h nc ns) (q := q) (st := st) (cc := c) (f9 := fr k) (t9 := itTo items if0 os.length k false fr) (fro := a) (to := b) (pk := pkL ps) (r := fun i => rvR (segK os items if0 fr k) ((rv0 e1) (pkL ps i))) (o1 := (fun i => (as[(pkL ps i).toNatClampNeg]?).getD 0))  (fun h g => ⟨g.2.2.1, g.1.1.2.1, g.1.1.2.2.1.ho⟩) rfl hs1 (fun h g i h1 h2 => q_pk g hn hps (by omega)) (fun h g i h1 h2 => (q_row0 g hjn hneg he1 (hva i (by omega))).2.1) (fun h g i h1 h2 => (q_row0 g hjn hneg he1 (hva i (by omega))).2.2) (fun h g i h1 h2 => ?_) (by omega) (xq_w (hkd k (by omega)) (by decide)) (xq_w (hkd k (by omega)) (by decide)) g (by omega) (hfr la h g k hk) (hto la h g k hk)
    obtain ⟨vs, b4, b5⟩ := g.1.2.2.2
    have gr := q_row0 (S := S) g hjn hneg he1 (hva i (by omega))
    refine me_imp (m_result1 g.1.1.2.2.1 b5 (by omega) (by omega) s2 s1 hnm gr.1 (resR_ok s3)) (fun v h' c8 s8 hv => ?_)
    obtain ⟨v1, ⟨vs', v2, v3⟩, v4, v5⟩ := hv
    exact ⟨v1, by rw [v3]; exact g.stk b5 (v2.trans b4), v4, v5⟩
  · obtain ⟨v1, v2, v3, v4⟩ := hv
    subst v3 v4
    refine ⟨v1, ln, lb, rlF (lineX kd (segK os items if0 fr) (rv0 e1) (pkL ps) a b) w 0 la, (rlF_len _ _ _ _).trans hla, ?_, v2⟩
    exact rlF_take _ _ _ (by omega)
theorem q_reckJB  {L nc ns a b : Nat} {t : QT} {h : List XC} {jn al : Int32} (hj : QJ L q st mn l1 l2 pa li ln0 c ka fa oa aa pa9 sa wa if0 if1 items vb mc N kp w n l0 nc0 ns0 kd fr ws es9 mf sf ces gs os as bs e1 e2 so dn h0 ps (fun _ => True) t h nc ns) (hwL : w ≤ L) (hL : L ≤ 1000) (hn : n ≤ ps.length) (hps : ps.length ≤ 40000) (hab : a < b) (hbn : b ≤ n) (hjn : sf[6]? = some (.int jn)) (hnn : ¬ jn < 0) (hbg : e1.length * e2.length ≤ 19000) (hva : ∀ i, i < n → VaJ e1 e2 (pkL ps i)) (hs4 : sf[4]? = some (.int al)) (haa : al < 0) (hwi : w = items) (hkd : ∀ k, k < items → kd k < 51) (hN : os.length ≤ N) (hN2 : N ≤ 1000) (hnm : ∀ (i : Nat) (q : Nat × Int32), os[i]? = some q → q.1 = 3 → ∃ j : Nat, j ≤ 100000 ∧ q.2 = Int32.ofNat j) (hvb : vb = 5) (hseg : ∀ k, k < items → fr k ≤ itTo items if0 os.length k false fr ∧ itTo items if0 os.length k false fr ≤ os.length ∧ resOk (segK os items if0 fr k) = true) : Me S 6 151 [.ref q, .int (Int32.ofNat a), .int (Int32.ofNat b)] h (fun v h' c9 s9 => v = none ∧ QJ L q st mn l1 l2 pa li ln0 c ka fa oa aa pa9 sa wa if0 if1 items vb mc N kp w n l0 nc0 ns0 kd fr ws es9 mf sf ces gs os as bs e1 e2 so dn h0 ps (fun l => l = lineB kd (segK os items if0 fr) (rvJ e1 e2) (pkL ps) w a b) t h' (nc + c9) (ns + s9)) := by
  obtain ⟨ln, lb, la, hla, -, k⟩ := hj
  have hG : ∀ (la : List Int32) (h : List XC), QK q st mn l1 l2 pa li ln0 c ka fa oa aa pa9 sa wa if0 if1 items vb mc N kp w n l0 nc0 ns0 kd fr ws es9 mf sf ces gs os as bs e1 e2 so dn h0 ps ln lb la t h nc ns → h[q]? = some (.inr (7, [.ref st, .ref mn, .ref l1, .ref l2, .ref pa, .int (Int32.ofNat n), .ref li, .int (Int32.ofNat kp), .int (Int32.ofNat t.2), .int (soI so), .int dn, .ref ln, .int (Int32.ofNat t.1.length), .int (Int32.ofNat w)])) ∧ h[st]? = some (.inr (12, sf)) ∧ h[li]? = some (.inl (19, la.map Value.int)) := fun la h g => ⟨g.2.2.1, g.1.1.2.1, g.2.2.2.2.1⟩
  have hset : ∀ (x : Nat → Int32) (la : List Int32) (h : List XC) (k : Nat), QK q st mn l1 l2 pa li ln0 c ka fa oa aa pa9 sa wa if0 if1 items vb mc N kp w n l0 nc0 ns0 kd fr ws es9 mf sf ces gs os as bs e1 e2 so dn h0 ps ln lb la t h nc ns → k < w → QK q st mn l1 l2 pa li ln0 c ka fa oa aa pa9 sa wa if0 if1 items vb mc N kp w n l0 nc0 ns0 kd fr ws es9 mf sf ces gs os as bs e1 e2 so dn h0 ps ln lb (la.set k (x k)) t (h.set li (.inl (19, (la.set k (x k)).map Value.int))) nc ns := fun x la h k g _ => g.lin
  have hkd9 : ∀ (la : List Int32) (h : List XC), QK q st mn l1 l2 pa li ln0 c ka fa oa aa pa9 sa wa if0 if1 items vb mc N kp w n l0 nc0 ns0 kd fr ws es9 mf sf ces gs os as bs e1 e2 so dn h0 ps ln lb la t h nc ns → ∀ k, k < w → Pu S 0 94 [.ref st, .int (Int32.ofNat k)] h (.retAddr (kd k)) := fun la h g k hk => m_itemKind g.1.1.1 (by omega)
  have hs1 : sf[1]? = some (.ref c) := by
    obtain ⟨sf9, kes, fes, u0, u1, -⟩ := k.1.1.1
    cases u0.symm.trans k.1.1.2.1
    exact u1
  have e16 : xeq xKC (.retAddr vb) (.retAddr 16) = some false := by rw [hvb]; exact xq_w (by decide) (by decide)
  have e27 : xeq xKC (.retAddr vb) (.retAddr 27) = some false := by rw [hvb]; exact xq_w (by decide) (by decide)
  have hto : ∀ (la : List Int32) (h : List XC), QK q st mn l1 l2 pa li ln0 c ka fa oa aa pa9 sa wa if0 if1 items vb mc N kp w n l0 nc0 ns0 kd fr ws es9 mf sf ces gs os as bs e1 e2 so dn h0 ps ln lb la t h nc ns → ∀ k, k < w → Pu S 1 97 [.ref st, .int (Int32.ofNat k)] h (.int (Int32.ofNat (itTo items if0 os.length k false fr))) := fun la h g k hk => m_itemTo g.1.1.1 (i := k) (by omega) e16 e27 g.1.1.2.2.1
  have hfr : ∀ (la : List Int32) (h : List XC), QK q st mn l1 l2 pa li ln0 c ka fa oa aa pa9 sa wa if0 if1 items vb mc N kp w n l0 nc0 ns0 kd fr ws es9 mf sf ces gs os as bs e1 e2 so dn h0 ps ln lb la t h nc ns → ∀ k, k < w → Pu S 0 96 [.ref st, .int (Int32.ofNat k)] h (.int (Int32.ofNat (fr k))) := fun la h g k hk => m_itemFrom g.1.1.1 (by omega)
  have hva0 := hva a (by omega)
  obtain ⟨r1, r4, r2, r3⟩ := q_rowJ (S := S) k hjn hnn hbg hva0
  refine me_imp (m_reckonJB (S := S) (GL := fun la h => QK q st mn l1 l2 pa li ln0 c ka fa oa aa pa9 sa wa if0 if1 items vb mc N kp w n l0 nc0 ns0 kd fr ws es9 mf sf ces gs os as bs e1 e2 so dn h0 ps ln lb la t h nc ns) (w := w) (kd := kd) (x := (lineX kd (segK os items if0 fr) (rvJ e1 e2) (pkL ps) a b)) hG (hset (lineX kd (segK os items if0 fr) (rvJ e1 e2) (pkL ps) a b)) rfl rfl rfl hs4 hkd9 haa (fun k hk => ⟨decide (kd k = 30), decide (kd k = 3), xq_w (hkd k (by omega)) (by decide), xq_w (hkd k (by omega)) (by decide), fun e => ?_, fun u1 u2 la h g => ?_, fun u1 u2 la h g => ?_⟩) k (by omega) (by omega) (by omega) (by omega) hab (q_pk k hn hps (by omega)) r2 r3) (fun v h' c8 s8 hv => ?_)
  · unfold lineX
    rw [if_pos (of_decide_eq_true e)]
  · obtain ⟨g1, g4, -, -⟩ := q_rowJ (S := S) g hjn hnn hbg hva0
    have hX : lineX kd (segK os items if0 fr) (rvJ e1 e2) (pkL ps) a b k = rvR (segK os items if0 fr k) ((rvJ e1 e2) (pkL ps a)) := by unfold lineX; rw [if_neg (of_decide_eq_false u1), if_pos (of_decide_eq_true u2)]
    rw [hX]
    obtain ⟨s1, s2, s3⟩ := hseg k (by omega)
    obtain ⟨vs, b4, b5⟩ := g.1.2.2.2
    refine me_imp (m_itemRes2 g.1.1.1 g1 g4 g.1.1.2.2.1 b5 (by omega) (by omega) hnm (hfr la h g k hk) (hto la h g k hk) s2 s1 (resR_ok s3)) (fun v h' c8 s8 hv => ?_)
    obtain ⟨v1, ⟨vs', v2, v3⟩, v4, v5⟩ := hv
    exact ⟨v1, by rw [v3]; exact g.stk b5 (v2.trans b4), v4, v5⟩
  · have hX : lineX kd (segK os items if0 fr) (rvJ e1 e2) (pkL ps) a b k = fdE (decide (kd k = 31)) (decide (kd k = 32)) (fdG (fun i => rvR (segK os items if0 fr k) ((rvJ e1 e2) (pkL ps i))) (b - a) a (0, 0, 999999999, -999999999)) := by unfold lineX; rw [if_neg (of_decide_eq_false u1), if_neg (of_decide_eq_false u2)]
    rw [hX]
    obtain ⟨s1, s2, s3⟩ := hseg k (by omega)
    refine m_foldedJ (S := S) (G := fun h => QK q st mn l1 l2 pa li ln0 c ka fa oa aa pa9 sa wa if0 if1 items vb mc N kp w n l0 nc0 ns0 kd fr ws es9 mf sf ces gs os as bs e1 e2 so dn h0 ps ln lb la t h nc ns) (q := q) (st := st) (cc := c) (f9 := fr k) (t9 := itTo items if0 os.length k false fr) (fro := a) (to := b) (pk := pkL ps) (r := fun i => rvR (segK os items if0 fr k) ((rvJ e1 e2) (pkL ps i))) (o1 := (fun i => (as[(pkL ps i).toNatClampNeg / e2.length]?).getD 0)) (o2 := fun i => (bs[(pkL ps i).toNatClampNeg % e2.length]?).getD 0) (fun h g => ⟨g.2.2.1, g.1.1.2.1, g.1.1.2.2.1.ho⟩) rfl hs1 (fun h g i h1 h2 => q_pk g hn hps (by omega)) (fun h g i h1 h2 => (q_rowJ g hjn hnn hbg (hva i (by omega))).2.2.1) (fun h g i h1 h2 => (q_rowJ g hjn hnn hbg (hva i (by omega))).2.2.2) (fun h g i h1 h2 => ?_) (by omega) (xq_w (hkd k (by omega)) (by decide)) (xq_w (hkd k (by omega)) (by decide)) g (by omega) (hfr la h g k hk) (hto la h g k hk)
    obtain ⟨vs, b4, b5⟩ := g.1.2.2.2
    have gr := q_rowJ (S := S) g hjn hnn hbg (hva i (by omega))
    refine me_imp (m_result2 g.1.1.2.2.1 b5 (by omega) (by omega) s2 s1 hnm gr.1 gr.2.1 (resR_ok s3)) (fun v h' c8 s8 hv => ?_)
    obtain ⟨v1, ⟨vs', v2, v3⟩, v4, v5⟩ := hv
    exact ⟨v1, by rw [v3]; exact g.stk b5 (v2.trans b4), v4, v5⟩
  · obtain ⟨v1, v2, v3, v4⟩ := hv
    subst v3 v4
    refine ⟨v1, ln, lb, rlF (lineX kd (segK os items if0 fr) (rvJ e1 e2) (pkL ps) a b) w 0 la, (rlF_len _ _ _ _).trans hla, ?_, v2⟩
    exact rlF_take _ _ _ (by omega)
theorem q_reckNB  {L nc ns : Nat} {t : QT} {h : List XC} {jn al : Int32} (hj : QJ L q st mn l1 l2 pa li ln0 c ka fa oa aa pa9 sa wa if0 if1 items vb mc N kp w n l0 nc0 ns0 kd fr ws es9 mf sf ces gs os as bs e1 e2 so dn h0 ps (fun _ => True) t h nc ns) (hwL : w ≤ L) (hL : L ≤ 1000) (hn : n ≤ ps.length) (hps : ps.length ≤ 40000)  (hjn : sf[6]? = some (.int jn)) (hneg : jn < 0) (he1 : e1.length ≤ 40000) (hva : ∀ i, i < n → Va0 e1 (pkL ps i)) (hs4 : sf[4]? = some (.int al)) (haa : al < 0) (hwi : w = items) (hkd : ∀ k, k < items → kd k < 51) (hN : os.length ≤ N) (hN2 : N ≤ 1000) (hnm : ∀ (i : Nat) (q : Nat × Int32), os[i]? = some q → q.1 = 3 → ∃ j : Nat, j ≤ 100000 ∧ q.2 = Int32.ofNat j) (hvb : vb = 5) (hseg : ∀ k, k < items → fr k ≤ itTo items if0 os.length k false fr ∧ itTo items if0 os.length k false fr ≤ os.length ∧ resOk (segK os items if0 fr k) = true) (hno : ∀ k, k < items → ¬ kd k = 3) : Me S 6 151 [.ref q, .int 0, .int (Int32.ofNat 0)] h (fun v h' c9 s9 => v = none ∧ QJ L q st mn l1 l2 pa li ln0 c ka fa oa aa pa9 sa wa if0 if1 items vb mc N kp w n l0 nc0 ns0 kd fr ws es9 mf sf ces gs os as bs e1 e2 so dn h0 ps (fun l => l = lineB kd (segK os items if0 fr) (rv0 e1) (pkL ps) w 0 0) t h' (nc + c9) (ns + s9)) := by
  obtain ⟨ln, lb, la, hla, -, k⟩ := hj
  have hG : ∀ (la : List Int32) (h : List XC), QK q st mn l1 l2 pa li ln0 c ka fa oa aa pa9 sa wa if0 if1 items vb mc N kp w n l0 nc0 ns0 kd fr ws es9 mf sf ces gs os as bs e1 e2 so dn h0 ps ln lb la t h nc ns → h[q]? = some (.inr (7, [.ref st, .ref mn, .ref l1, .ref l2, .ref pa, .int (Int32.ofNat n), .ref li, .int (Int32.ofNat kp), .int (Int32.ofNat t.2), .int (soI so), .int dn, .ref ln, .int (Int32.ofNat t.1.length), .int (Int32.ofNat w)])) ∧ h[st]? = some (.inr (12, sf)) ∧ h[li]? = some (.inl (19, la.map Value.int)) := fun la h g => ⟨g.2.2.1, g.1.1.2.1, g.2.2.2.2.1⟩
  have hset : ∀ (x : Nat → Int32) (la : List Int32) (h : List XC) (k : Nat), QK q st mn l1 l2 pa li ln0 c ka fa oa aa pa9 sa wa if0 if1 items vb mc N kp w n l0 nc0 ns0 kd fr ws es9 mf sf ces gs os as bs e1 e2 so dn h0 ps ln lb la t h nc ns → k < w → QK q st mn l1 l2 pa li ln0 c ka fa oa aa pa9 sa wa if0 if1 items vb mc N kp w n l0 nc0 ns0 kd fr ws es9 mf sf ces gs os as bs e1 e2 so dn h0 ps ln lb (la.set k (x k)) t (h.set li (.inl (19, (la.set k (x k)).map Value.int))) nc ns := fun x la h k g _ => g.lin
  have hkd9 : ∀ (la : List Int32) (h : List XC), QK q st mn l1 l2 pa li ln0 c ka fa oa aa pa9 sa wa if0 if1 items vb mc N kp w n l0 nc0 ns0 kd fr ws es9 mf sf ces gs os as bs e1 e2 so dn h0 ps ln lb la t h nc ns → ∀ k, k < w → Pu S 0 94 [.ref st, .int (Int32.ofNat k)] h (.retAddr (kd k)) := fun la h g k hk => m_itemKind g.1.1.1 (by omega)
  have hs1 : sf[1]? = some (.ref c) := by
    obtain ⟨sf9, kes, fes, u0, u1, -⟩ := k.1.1.1
    cases u0.symm.trans k.1.1.2.1
    exact u1
  have e16 : xeq xKC (.retAddr vb) (.retAddr 16) = some false := by rw [hvb]; exact xq_w (by decide) (by decide)
  have e27 : xeq xKC (.retAddr vb) (.retAddr 27) = some false := by rw [hvb]; exact xq_w (by decide) (by decide)
  have hto : ∀ (la : List Int32) (h : List XC), QK q st mn l1 l2 pa li ln0 c ka fa oa aa pa9 sa wa if0 if1 items vb mc N kp w n l0 nc0 ns0 kd fr ws es9 mf sf ces gs os as bs e1 e2 so dn h0 ps ln lb la t h nc ns → ∀ k, k < w → Pu S 1 97 [.ref st, .int (Int32.ofNat k)] h (.int (Int32.ofNat (itTo items if0 os.length k false fr))) := fun la h g k hk => m_itemTo g.1.1.1 (i := k) (by omega) e16 e27 g.1.1.2.2.1
  have hfr : ∀ (la : List Int32) (h : List XC), QK q st mn l1 l2 pa li ln0 c ka fa oa aa pa9 sa wa if0 if1 items vb mc N kp w n l0 nc0 ns0 kd fr ws es9 mf sf ces gs os as bs e1 e2 so dn h0 ps ln lb la t h nc ns → ∀ k, k < w → Pu S 0 96 [.ref st, .int (Int32.ofNat k)] h (.int (Int32.ofNat (fr k))) := fun la h g k hk => m_itemFrom g.1.1.1 (by omega)
  refine me_imp (m_reckonNB (S := S) (GL := fun la h => QK q st mn l1 l2 pa li ln0 c ka fa oa aa pa9 sa wa if0 if1 items vb mc N kp w n l0 nc0 ns0 kd fr ws es9 mf sf ces gs os as bs e1 e2 so dn h0 ps ln lb la t h nc ns) (w := w) (kd := kd) (x := (lineX kd (segK os items if0 fr) (rv0 e1) (pkL ps) 0 0)) hG (hset (lineX kd (segK os items if0 fr) (rv0 e1) (pkL ps) 0 0)) rfl rfl rfl hs4 hkd9 haa (fun k hk => ⟨decide (kd k = 30), decide (kd k = 3), xq_w (hkd k (by omega)) (by decide), xq_w (hkd k (by omega)) (by decide), fun e => ?_, fun u1 u2 la h g => ?_, fun u1 u2 la h g => ?_⟩) k (by omega) (by omega) (by decide) (by decide) (Nat.le_refl 0) (m_firstN k.2.2.1 k.1.1.2.1 hjn k.1.1.2.2.2.1 k.1.1.2.2.2.2.2.1) (m_secondN k.2.2.1 k.1.1.2.1 hjn k.1.1.2.2.2.1 k.1.1.2.2.2.2.2.1)) (fun v h' c8 s8 hv => ?_)
  · unfold lineX
    rw [if_pos (of_decide_eq_true e)]
  · exact absurd (of_decide_eq_true u2) (hno k (by omega))
  · have hX : lineX kd (segK os items if0 fr) (rv0 e1) (pkL ps) 0 0 k = fdE (decide (kd k = 31)) (decide (kd k = 32)) (fdG (fun i => rvR (segK os items if0 fr k) ((rv0 e1) (pkL ps i))) (0 - 0) 0 (0, 0, 999999999, -999999999)) := by unfold lineX; rw [if_neg (of_decide_eq_false u1), if_neg (of_decide_eq_false u2)]
    rw [hX]
    obtain ⟨s1, s2, s3⟩ := hseg k (by omega)
    refine m_folded0 (S := S) (G := fun h => QK q st mn l1 l2 pa li ln0 c ka fa oa aa pa9 sa wa if0 if1 items vb mc N kp w n l0 nc0 ns0 kd fr ws es9 mf sf ces gs os as bs e1 e2 so dn h0 ps ln lb la t h nc ns) (q := q) (st := st) (cc := c) (f9 := fr k) (t9 := itTo items if0 os.length k false fr) (fro := 0) (to := 0) (pk := pkL ps) (r := fun i => rvR (segK os items if0 fr k) ((rv0 e1) (pkL ps i))) (o1 := (fun i => (as[(pkL ps i).toNatClampNeg]?).getD 0))  (fun h g => ⟨g.2.2.1, g.1.1.2.1, g.1.1.2.2.1.ho⟩) rfl hs1 (fun h g i h1 h2 => q_pk g hn hps (by omega)) (fun h g i h1 h2 => (q_row0 g hjn hneg he1 (hva i (by omega))).2.1) (fun h g i h1 h2 => (q_row0 g hjn hneg he1 (hva i (by omega))).2.2) (fun h g i h1 h2 => ?_) (by omega) (xq_w (hkd k (by omega)) (by decide)) (xq_w (hkd k (by omega)) (by decide)) g (by omega) (hfr la h g k hk) (hto la h g k hk)
    obtain ⟨vs, b4, b5⟩ := g.1.2.2.2
    have gr := q_row0 (S := S) g hjn hneg he1 (hva i (by omega))
    refine me_imp (m_result1 g.1.1.2.2.1 b5 (by omega) (by omega) s2 s1 hnm gr.1 (resR_ok s3)) (fun v h' c8 s8 hv => ?_)
    obtain ⟨v1, ⟨vs', v2, v3⟩, v4, v5⟩ := hv
    exact ⟨v1, by rw [v3]; exact g.stk b5 (v2.trans b4), v4, v5⟩
  · obtain ⟨v1, v2, v3, v4⟩ := hv
    subst v3 v4
    refine ⟨v1, ln, lb, rlF (lineX kd (segK os items if0 fr) (rv0 e1) (pkL ps) 0 0) w 0 la, (rlF_len _ _ _ _).trans hla, ?_, v2⟩
    exact rlF_take _ _ _ (by omega)
end
