section XCALL
variable {z : XP} {MT : Nat → XM} {EX : Nat → String} {cl : List vw_C} {TB : List Cond} {ST : List (String × String × String × Value)} {NC : XN} {l : Launch}
variable {p : Program} {e9 : Env} {R : Room} {s : State} {m : MethodId} {args : Array Value} {below : List Frame} {meth : Method} {c : Code} {H : Heap} {locs : List Loc} {cells slots mc ms : Nat}
variable {cc : ByteArray} {pc nL d : Nat} {ls : Array Slot} {own : String} {D : va_G} {da ad η : Nat → Nat} {hp : List XC} {rm : Room} {Pc : Array Value → State → Prop} {Qa : State → Outcome → State → Prop} {XX : String → State → State → Prop} {free : Addr → Prop} {A : Nat → Prop}
theorem xpar {α β : Type} {o : Option α} {f : α → β} {n : β} (h : o.map f = some n) : ∀ a, o = some a → n = f a := fun a e => by rw [e] at h; exact (Option.some.inj h).symm
/-- a receiver's cell and class -/
theorem xrecv {v : Value} {ci : Nat} {r : vw_C} (hK : va_K D (xk cl) (xtys z.1 da z.2.1) s) (hP : va_P D (xk cl) (xw z.1 da ad η hp) H) (hKc : xkc cl z.1 ad A s s.heap z.2.2.2.2.2.1) (hS9 : va_S A s.heap H locs) (h : xcls z.2.2.2.2.2.1 hp v = some ci) (hr : cl[ci]? = some r) : ∃ b : Nat, xc ad η v = .ref b ∧ ∃ cell : Cell, H[b]? = some cell ∧ cell.vm.isStatics = false ∧ s.vm.findClass r.1 = some cell.cls := by
  rcases xcls_s h with ⟨q, fs, rfl, hq⟩ | ⟨q, fs, rfl, hq⟩
  · exact ⟨_, rfl, va_recv hK hP (xk_of hP (xw_get hq) hr) (xw_get hq)⟩
  · obtain ⟨r', g1, g2, -⟩ := hKc _ _ hq
    cases g1.symm.trans hr
    exact ⟨_, rfl, va_Orecv g2 hS9⟩
theorem xrck_v {kc hp : List XC} {k : Nat} {cs : List Nat} {as : List Value} (h : xrck kc hp k cs as = true) (h1 : ¬ (k = 31 ∨ k = 36 ∨ k = 38)) (h2 : ¬ (k = 32 ∨ k = 37)) : ∃ v as' ci, as = v :: as' ∧ xcls kc hp v = some ci ∧ ci ∈ cs := by
  unfold xrck at h
  rw [if_neg h1] at h
  split at h
  · rw [if_neg h2] at h
    split at h
    · rename_i ci hci
      exact ⟨_, _, ci, rfl, hci, of_decide_eq_true h⟩
    · cases h
  · cases h
theorem xrck_i {kc hp : List XC} {k : Nat} {cs : List Nat} {as : List Value} (h : xrck kc hp k cs as = true) (h1 : ¬ (k = 31 ∨ k = 36 ∨ k = 38)) (h2 : k = 32 ∨ k = 37) : ∃ a as', as = .ref a :: as' := by
  unfold xrck at h
  rw [if_neg h1] at h
  split at h
  · rw [if_pos h2] at h
    split at h
    · exact ⟨_, _, rfl⟩
    · cases h
  · cases h
set_option maxHeartbeats 2000000 in
/-- the call, of whatever kind -/
theorem xcall {e : XI} {as rest : List Value} (S : CallFix p m c cc nL s args TB own) (hM : vx_Met l (xmN (MT e.2.2.1)) (xcw (MT e.2.2.1) :: TB) rm Pc (fun _ => Qa) XX mc ms free) (hTW : ∀ w ∈ TB, ∀ (a a' : Array Value) (u U : State), w.before a u = true → u.WarmedH U.vm → w.before a' U = true) (hk : xmk z MT EX cl TB ST NC (MT e.2.2.1)) (hb : xokb z MT EX cl TB ST NC own cc pc e) (hne : ¬ e.1 < 30 ∧ e.1 ≠ 40 ∧ e.1 ≠ 41 ∧ e.1 ≠ 42 ∧ e.1 ≠ 43)
    (hrc : rm.cells = mc) (hrs : rm.slots = ms) (hfr : rm.frames + 1 ≤ R.frames) (hlo : 39 + rm.locals ≤ R.locals) (hK : va_K D (xk cl) (xtys z.1 da z.2.1) s) (hP : va_P D (xk cl) (xw z.1 da ad η hp) H) (hKc : xkc cl z.1 ad A s s.heap z.2.2.2.2.2.1) (hS9 : va_S A s.heap H locs)
    (hbl : FrameBlind Pc) (hPc : ∀ U : State, U.heap = H → s.WarmedH U.vm → Pc (as.map (xc ad η)).toArray U) (hlen : as.length = e.2.2.2.1) (hrk : xrck z.2.2.2.2.2.1 hp e.1 e.2.2.2.2.2 as = true) (hsz : ls.size = nL) (hsum : xsum rest ≤ 8) (hf : cells + mc ≤ R.cells ∧ slots + ms ≤ R.slots) :
    vx_Run p l e9 R s m args below meth c H locs cells slots mc ms (F0 m pc ls ((as.map (xc ad η)).reverse ++ rest.map (xc ad η))) (rest.map (xc ad η)) Qa XX free := by
  obtain ⟨k, i, y, b, v, cs⟩ := e
  obtain ⟨hk1, hk2, hk3, hk4, hk5, hk6, hk7, hk8⟩ := hk
  obtain ⟨hx, hbc, hml, hown, hts⟩ := S
  dsimp only at hM hb hne hlen hrk hk1 hk2 hk3 hk4 hk5 hk6 hk7 hk8
  have hW8 : ∀ (pc9 : Nat) (ls9 : Array Slot) (st9 : List Value), 2 * (F0 m pc9 ls9 st9).monitorRoom + ((rest.map (xc ad η)).map fun v => v.category).sum ≤ 8 := fun pc9 ls9 st9 => by
    have h1 : ((rest.map (xc ad η)).map fun v => v.category).sum = xsum rest := xsum_c ad η rest
    exact lv_room (by rw [h1]; exact hsum)
  have hcw : xcw (MT y) ∈ TB := by
    unfold xcw
    split
    · rename_i h; exact hk4 h
    · rename_i h; exact hk5 h
  have hws : ∀ w ∈ xcw (MT y) :: TB, ∀ (a' : Array Value) (U : State), s.WarmedH U.vm → w.before a' U = true := fun w hw a' U hW => by
    rcases List.mem_cons.mp hw with h | h
    · rw [h]; exact hTW _ hcw args a' s U (hts _ hcw) hW
    · exact hTW _ h args a' s U (hts _ h) hW
  have hloc : 8 + (xmL (MT y) + 11) + rm.locals ≤ R.locals := by omega
  have cin : xmH (MT y) = [] → Cond.code (xmN (MT y)) (xmB (MT y)) (xmL (MT y)) (xmR (MT y)) ∈ xcw (MT y) :: TB := fun h => List.mem_cons_of_mem _ (hk4 h)
  unfold xokb at hb
  dsimp only at hb
  split at hb
  · exact absurd (by decide) hne.1
  · exact absurd (by decide) hne.1
  · exact absurd (by decide) hne.1
  · exact absurd (by decide) hne.1
  · exact absurd (by decide) hne.1
  · exact absurd (by decide) hne.1
  · exact absurd rfl hne.2.1
  · exact absurd rfl hne.2.2.1
  · exact absurd rfl hne.2.2.2.1
  · exact absurd rfl hne.2.2.2.2
  · obtain ⟨idx, g1, g2, g3, g4, g5, g6, g7, g8⟩ := hb
    obtain ⟨w, as', ci, rfl, hci, hcs⟩ := xrck_v hrk (by decide) (by decide)
    obtain ⟨r, hr, hsel⟩ := g8 ci hcs
    obtain ⟨b9, hb9, hcell⟩ := xrecv hK hP hKc hS9 hci hr
    have e1 : (((w :: as').map (xc ad η)).reverse ++ rest.map (xc ad η)) = (as'.map (xc ad η)).reverse ++ .ref b9 :: rest.map (xc ad η) := by
      rw [List.map_cons, List.reverse_cons, List.append_assoc, hb9]; rfl
    have e2 : (w :: as').map (xc ad η) = .ref b9 :: as'.map (xc ad η) := by rw [List.map_cons, hb9]
    rw [e1]
    rw [e2] at hPc
    exact vx_runV (C := r.1) (As := as'.map (xc ad η)) ⟨hx, hbc, hml, hown, hts⟩ hM ⟨⟨hrc, hrs, hfr, hloc, hws, cin g4, hts _ (hk4 g4), hts _ g7, hk3, xpar g3, hts _ g5⟩, hts _ g6, hts _ hsel⟩ ⟨hbl, hcell, hPc⟩ rfl (by rw [List.length_map]; rw [List.length_cons] at hlen; omega) hsz rfl (hW8 _ _ _) g1 hf
  · obtain ⟨idx, g1, g3, g4, g5, g6, g7⟩ := hb
    exact vx_runS (As := as.map (xc ad η)) ⟨hx, hbc, hml, hown, hts⟩ hM ⟨⟨hrc, hrs, hfr, hloc, hws, cin g4, hts _ (hk4 g4), hts _ g7, hk3, xpar g3, hts _ g5⟩, hts _ g6⟩ ⟨hbl, hPc⟩ rfl (by rw [List.length_map]; exact hlen) hsz rfl (hW8 _ _ _) g1 hf
  · obtain ⟨idx, g1, g2, g3, g4, gr, gn, g5, g6, g7⟩ := hb
    obtain ⟨w, as', rfl⟩ := xrck_i hrk (by decide) (by decide)
    have e1 : (((Value.ref w :: as').map (xc ad η)).reverse ++ rest.map (xc ad η)) = (as'.map (xc ad η)).reverse ++ .ref (η w) :: rest.map (xc ad η) := by
      rw [List.map_cons, List.reverse_cons, List.append_assoc]; rfl
    rw [e1]
    exact vx_runI (As := as'.map (xc ad η)) ⟨hx, hbc, hml, hown, hts⟩ hM ⟨⟨hrc, hrs, hfr, hloc, hws, by rw [← gr]; exact cin g4, by rw [← gr]; exact hts _ (hk4 g4), hts _ g7, hk3, xpar g3, hts _ g5⟩, gn, hts _ g6⟩ ⟨hbl, hPc⟩ rfl (by rw [List.length_map]; rw [List.length_cons] at hlen; omega) hsz rfl (hW8 _ _ _) g1 hf
  · obtain ⟨idx, x, owner, g1, g2, g3, g4, go, g5, gs, gi, ⟨b0, m0, r0, gc⟩, g6, g7, g8⟩ := hb
    obtain ⟨w, as', ci, rfl, hci, hcs⟩ := xrck_v hrk (by decide) (by decide)
    obtain ⟨r, hr, hsel⟩ := g8 ci hcs
    obtain ⟨b9, hb9, hcell⟩ := xrecv hK hP hKc hS9 hci hr
    have e1 : (((w :: as').map (xc ad η)).reverse ++ rest.map (xc ad η)) = (as'.map (xc ad η)).reverse ++ .ref b9 :: rest.map (xc ad η) := by
      rw [List.map_cons, List.reverse_cons, List.append_assoc, hb9]; rfl
    have e2 : (w :: as').map (xc ad η) = .ref b9 :: as'.map (xc ad η) := by rw [List.map_cons, hb9]
    rw [e1]
    rw [e2] at hPc
    exact vx_runU (C := r.1) (owner := owner) (x := x) (As := as'.map (xc ad η)) ⟨hx, hbc, hml, hown, hts⟩ hM ⟨⟨hrc, hrs, hfr, hloc, hws, cin g4⟩, hts _ (hk4 g4), hts _ g7, go, xpar g3, hts _ g5, hts _ gs, va_Decl.of (hts _ gi) (hts _ gc), hts _ hsel, hts _ g6⟩ ⟨hbl, hcell, hPc⟩ rfl (by rw [List.length_map]; rw [List.length_cons] at hlen; omega) hsz rfl (hW8 _ _ _) g1 hf
  · obtain ⟨idx, g1, g2, g3, g4, gn, g5, gs, gu, g6, g7, g8⟩ := hb
    obtain ⟨w, as', ci, rfl, hci, hcs⟩ := xrck_v hrk (by decide) (by decide)
    obtain ⟨r, hr⟩ := g8 ci hcs
    obtain ⟨b9, hb9, hcell⟩ := xrecv hK hP hKc hS9 hci (xk_get hr)
    have e1 : (((w :: as').map (xc ad η)).reverse ++ rest.map (xc ad η)) = (as'.map (xc ad η)).reverse ++ .ref b9 :: rest.map (xc ad η) := by
      rw [List.map_cons, List.reverse_cons, List.append_assoc, hb9]; rfl
    have e2 : (w :: as').map (xc ad η) = .ref b9 :: as'.map (xc ad η) := by rw [List.map_cons, hb9]
    rw [e1]
    rw [e2] at hPc
    exact vx_runSU (C := r.1) (As := as'.map (xc ad η)) (hK.1 ci r hr).2 ⟨hx, hbc, hml, hown, hts⟩ hM ⟨⟨hrc, hrs, hfr, hloc, hws, cin g4⟩, hts _ g5, hts _ gs, hts _ gu, hts _ g6, hts _ g7, hts _ (hk4 g4), gn, xpar g3⟩ ⟨hbl, hcell, hPc⟩ rfl (by rw [List.length_map]; rw [List.length_cons] at hlen; omega) hsz rfl (hW8 _ _ _) g1 hf
  · obtain ⟨idx, host, g1, g2, g3, g4, g5, g6, g7, g8⟩ := hb
    obtain ⟨w, as', ci, rfl, hci, hcs⟩ := xrck_v hrk (by decide) (by decide)
    obtain ⟨r, hr, hsel⟩ := g8 ci hcs
    obtain ⟨b9, hb9, hcell⟩ := xrecv hK hP hKc hS9 hci hr
    have e1 : (((w :: as').map (xc ad η)).reverse ++ rest.map (xc ad η)) = (as'.map (xc ad η)).reverse ++ .ref b9 :: rest.map (xc ad η) := by
      rw [List.map_cons, List.reverse_cons, List.append_assoc, hb9]; rfl
    have e2 : (w :: as').map (xc ad η) = .ref b9 :: as'.map (xc ad η) := by rw [List.map_cons, hb9]
    rw [e1]
    rw [e2] at hPc
    exact vx_runVN (C := r.1) (As := as'.map (xc ad η)) ⟨hx, hbc, hml, hown, hts⟩ hM ⟨⟨⟨hrc, hrs, hfr, hloc, hws, cin g4⟩, hts _ (hk4 g4), hts _ g7, hk3, xpar g3, hts _ g5⟩, hts _ g6, hts _ hsel⟩ ⟨hbl, hcell, hPc⟩ rfl (by rw [List.length_map]; rw [List.length_cons] at hlen; omega) hsz rfl (hW8 _ _ _) g1 hf
  · obtain ⟨idx, host, g1, g3, g4, g5, g6, g7⟩ := hb
    exact vx_runSN (As := as.map (xc ad η)) ⟨hx, hbc, hml, hown, hts⟩ hM ⟨⟨⟨hrc, hrs, hfr, hloc, hws, cin g4⟩, hts _ (hk4 g4), hts _ g7, hk3, xpar g3, hts _ g5⟩, hts _ g6, trivial⟩ ⟨hbl, hPc⟩ rfl (by rw [List.length_map]; exact hlen) hsz rfl (hW8 _ _ _) g1 hf
  · obtain ⟨idx, host, g1, g2, g3, g4, gr, gn, g5, g6, g7⟩ := hb
    obtain ⟨w, as', rfl⟩ := xrck_i hrk (by decide) (by decide)
    have e1 : (((Value.ref w :: as').map (xc ad η)).reverse ++ rest.map (xc ad η)) = (as'.map (xc ad η)).reverse ++ .ref (η w) :: rest.map (xc ad η) := by
      rw [List.map_cons, List.reverse_cons, List.append_assoc]; rfl
    rw [e1]
    exact vx_runIN (As := as'.map (xc ad η)) ⟨hx, hbc, hml, hown, hts⟩ hM ⟨⟨⟨hrc, hrs, hfr, hloc, hws, by rw [← gr]; exact cin g4⟩, by rw [← gr]; exact hts _ (hk4 g4), hts _ g7, hk3, xpar g3, hts _ g5⟩, gn, hts _ g6⟩ ⟨hbl, hPc⟩ rfl (by rw [List.length_map]; rw [List.length_cons] at hlen; omega) hsz rfl (hW8 _ _ _) g1 hf
  · obtain ⟨idx, g1, g3, g4, g5, g6, g7⟩ := hb
    exact vx_runSX (hh := xmH (MT y)) (As := as.map (xc ad η)) ⟨hx, hbc, hml, hown, hts⟩ hM ⟨⟨hrc, hrs, hfr, hloc, hws, List.mem_cons_of_mem _ (hk5 g4)⟩, hts _ (hk5 g4), hts _ g7, hk3, xpar g3, hts _ g5, hts _ g6⟩ ⟨hbl, hPc⟩ rfl (by rw [List.length_map]; exact hlen) hsz rfl (hW8 _ _ _) g1 hf
  · cases hb
end XCALL
