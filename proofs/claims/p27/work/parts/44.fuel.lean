/-! the abstract run: more fuel, more depth, what was made before -/
def xsh (a b : Nat) : XO → XO
  | .inl (v, hp, c, s) => .inl (v, hp, c + a, s + b)
  | .inr (E, hp, c, s) => .inr (E, hp, c + a, s + b)
section XFUEL
variable {z : XP} {MT : Nat → XM}
theorem xrun_fuel : ∀ {n d y pc : Nat} {L : List (Nat × Value)} {st : List Value} {hp : List XC} {nc ns : Nat} {o : XO}, xrun z MT n d y pc L st hp nc ns = some o → xrun z MT (n + 1) d y pc L st hp nc ns = some o := by
  intro n
  induction n with
  | zero => intro d y pc L st hp nc ns o h; cases h
  | succ n ih =>
    intro d y pc L st hp nc ns o h
    rw [xrun] at h ⊢
    cases hC : xmC (MT y) pc with
    | none => rw [hC] at h; cases h
    | some e =>
      rw [hC] at h
      try dsimp only at h ⊢
      by_cases n20 : e.1 < 20
      · rw [if_pos n20] at h ⊢
        cases hg : xstep z (xmL (MT y)) e pc L st hp with
        | none => rw [hg] at h; cases h
        | some g => rw [hg] at h; exact ih h
      rw [if_neg n20] at h ⊢
      by_cases n30 : e.1 < 30
      · rw [if_pos n30] at h ⊢
        cases hg : xspec z d e st hp with
        | none => rw [hg] at h; cases h
        | some g => rw [hg] at h; exact ih h
      rw [if_neg n30] at h ⊢
      by_cases n40 : e.1 = 40
      · rw [if_pos n40] at h ⊢; exact h
      rw [if_neg n40] at h ⊢
      by_cases n41 : e.1 = 41
      · rw [if_pos n41] at h ⊢; exact h
      rw [if_neg n41] at h ⊢
      by_cases n42 : e.1 = 42
      · rw [if_pos n42] at h ⊢
        cases d with
        | zero => cases h
        | succ d' =>
          try dsimp only at h ⊢
          split at h
          · rename_i x2 x1 r
            split at h
            · rename_i hc
              try dsimp only
              try rw [if_pos hc]
              split at h
              · rename_i y1 y2 e1 e2
                try rw [ih e1, ih e2]
                split at h
                · rename_i hy
                  subst hy
                  show (if y1 = y1 then xrun z MT (n + 1) (d' + 1) y (pc + 6) L (.int y1 :: r) hp nc ns else none) = some o
                  rw [if_pos rfl]
                  exact ih h
                · cases h
              · cases h
            · cases h
          · cases h
      rw [if_neg n42] at h ⊢
      by_cases n43 : e.1 = 43
      · rw [if_pos n43] at h ⊢
        cases d with
        | zero => cases h
        | succ d' =>
          try dsimp only at h ⊢
          split at h
          · rename_i a r
            split at h
            · rename_i q e1
              split at h
              · rename_i hc
                try dsimp only
                try rw [e1]
                try dsimp only
                try rw [if_pos hc]
                exact ih h
              · cases h
            · cases h
          · cases h
      rw [if_neg n43] at h ⊢
      cases d with
      | zero => cases h
      | succ d' =>
        try dsimp only at h ⊢
        by_cases hl : st.length < e.2.2.2.1
        · rw [if_pos hl] at h; cases h
        rw [if_neg hl] at h ⊢
        split at h
        · rename_i hc
          try rw [if_pos hc]
          split at h
          · cases h
          · rename_i v hp' c1 s1 e1
            try rw [ih e1]
            exact ih h
          · rename_i E hp' c1 s1 e1
            try rw [ih e1]
            try dsimp only
            split at h
            · rename_i e2
              try rw [e2]
              exact h
            · rename_i q e2
              try rw [e2]
              exact ih h
        · cases h
theorem xrun_fuels {n m d y pc : Nat} {L : List (Nat × Value)} {st : List Value} {hp : List XC} {nc ns : Nat} {o : XO} (h : n ≤ m) (hr : xrun z MT n d y pc L st hp nc ns = some o) : xrun z MT m d y pc L st hp nc ns = some o := by
  induction h with
  | refl => exact hr
  | step _ ih => exact xrun_fuel ih
theorem xspec_deep {d : Nat} {e : XI} {st : List Value} {hp : List XC} {g : List Value × List XC} (h : xspec z d e st hp = some g) : xspec z (d + 1) e st hp = some g := by
  unfold xspec at h ⊢
  split at h
  · cases h
  · rw [if_neg (Nat.succ_ne_zero d)]
    exact h
theorem xrun_deep : ∀ {n d y pc : Nat} {L : List (Nat × Value)} {st : List Value} {hp : List XC} {nc ns : Nat} {o : XO}, xrun z MT n d y pc L st hp nc ns = some o → xrun z MT n (d + 1) y pc L st hp nc ns = some o := by
  intro n
  induction n with
  | zero => intro d y pc L st hp nc ns o h; cases h
  | succ n ih =>
    intro d y pc L st hp nc ns o h
    rw [xrun] at h ⊢
    cases hC : xmC (MT y) pc with
    | none => rw [hC] at h; cases h
    | some e =>
      rw [hC] at h
      try dsimp only at h ⊢
      by_cases n20 : e.1 < 20
      · rw [if_pos n20] at h ⊢
        cases hg : xstep z (xmL (MT y)) e pc L st hp with
        | none => rw [hg] at h; cases h
        | some g => rw [hg] at h; exact ih h
      rw [if_neg n20] at h ⊢
      by_cases n30 : e.1 < 30
      · rw [if_pos n30] at h ⊢
        cases hg : xspec z d e st hp with
        | none => rw [hg] at h; cases h
        | some g => rw [hg] at h; rw [xspec_deep hg]; exact ih h
      rw [if_neg n30] at h ⊢
      by_cases n40 : e.1 = 40
      · rw [if_pos n40] at h ⊢; exact h
      rw [if_neg n40] at h ⊢
      by_cases n41 : e.1 = 41
      · rw [if_pos n41] at h ⊢
        split at h
        · rename_i hc
          rw [if_pos ⟨Nat.le_succ_of_le hc.1, hc.2⟩]
          exact h
        · cases h
      rw [if_neg n41] at h ⊢
      by_cases n42 : e.1 = 42
      · rw [if_pos n42] at h ⊢
        cases d with
        | zero => cases h
        | succ d' =>
          try dsimp only at h ⊢
          split at h
          · rename_i x2 x1 r
            split at h
            · rename_i hc
              try dsimp only
              try rw [if_pos hc]
              split at h
              · rename_i y1 y2 e1 e2
                try rw [ih e1, ih e2]
                split at h
                · rename_i hy
                  subst hy
                  show (if y1 = y1 then xrun z MT n (d' + 1 + 1) y (pc + 6) L (.int y1 :: r) hp nc ns else none) = some o
                  rw [if_pos rfl]
                  exact ih h
                · cases h
              · cases h
            · cases h
          · cases h
      rw [if_neg n42] at h ⊢
      by_cases n43 : e.1 = 43
      · rw [if_pos n43] at h ⊢
        cases d with
        | zero => cases h
        | succ d' =>
          try dsimp only at h ⊢
          split at h
          · rename_i a r
            split at h
            · rename_i q e1
              split at h
              · rename_i hc
                try dsimp only
                try rw [e1]
                try dsimp only
                try rw [if_pos hc]
                exact ih h
              · cases h
            · cases h
          · cases h
      rw [if_neg n43] at h ⊢
      cases d with
      | zero => cases h
      | succ d' =>
        try dsimp only at h ⊢
        by_cases hl : st.length < e.2.2.2.1
        · rw [if_pos hl] at h; cases h
        rw [if_neg hl] at h ⊢
        split at h
        · rename_i hc
          try rw [if_pos hc]
          split at h
          · cases h
          · rename_i v hp' c1 s1 e1
            try rw [ih e1]
            exact ih h
          · rename_i E hp' c1 s1 e1
            try rw [ih e1]
            try dsimp only
            split at h
            · rename_i e2
              try rw [e2]
              exact h
            · rename_i q e2
              try rw [e2]
              exact ih h
        · cases h
theorem xrun_deeps {n d d' y pc : Nat} {L : List (Nat × Value)} {st : List Value} {hp : List XC} {nc ns : Nat} {o : XO} (h : d ≤ d') (hr : xrun z MT n d y pc L st hp nc ns = some o) : xrun z MT n d' y pc L st hp nc ns = some o := by
  induction h with
  | refl => exact hr
  | step _ ih => exact xrun_deep ih
theorem xrun_shift : ∀ {n d y pc : Nat} {L : List (Nat × Value)} {st : List Value} {hp : List XC} {nc ns : Nat} {o : XO} (a b : Nat), xrun z MT n d y pc L st hp nc ns = some o → xrun z MT n d y pc L st hp (nc + a) (ns + b) = some (xsh a b o) := by
  intro n
  induction n with
  | zero => intro d y pc L st hp nc ns o a b h; cases h
  | succ n ih =>
    intro d y pc L st hp nc ns o a b h
    rw [xrun] at h ⊢
    cases hC : xmC (MT y) pc with
    | none => rw [hC] at h; cases h
    | some e =>
      rw [hC] at h
      try dsimp only at h ⊢
      by_cases n20 : e.1 < 20
      · rw [if_pos n20] at h ⊢
        cases hg : xstep z (xmL (MT y)) e pc L st hp with
        | none => rw [hg] at h; cases h
        | some g => rw [hg] at h; dsimp only at h ⊢; rw [Nat.add_right_comm nc a, Nat.add_right_comm ns b]; exact ih a b h
      rw [if_neg n20] at h ⊢
      by_cases n30 : e.1 < 30
      · rw [if_pos n30] at h ⊢
        cases hg : xspec z d e st hp with
        | none => rw [hg] at h; cases h
        | some g => rw [hg] at h; exact ih a b h
      rw [if_neg n30] at h ⊢
      by_cases n40 : e.1 = 40
      · rw [if_pos n40] at h ⊢
        obtain ⟨v, hv, rfl⟩ := Option.map_eq_some_iff.mp h
        rw [hv]
        rfl
      rw [if_neg n40] at h ⊢
      by_cases n41 : e.1 = 41
      · rw [if_pos n41] at h ⊢
        split at h
        · rename_i hc
          cases h
          rw [if_pos hc, Nat.add_right_comm nc a, Nat.add_right_comm ns b]
          rfl
        · cases h
      rw [if_neg n41] at h ⊢
      by_cases n42 : e.1 = 42
      · rw [if_pos n42] at h ⊢
        cases d with
        | zero => cases h
        | succ d' =>
          try dsimp only at h ⊢
          split at h
          · rename_i x2 x1 r
            split at h
            · rename_i hc
              try dsimp only
              try rw [if_pos hc]
              split at h
              · rename_i y1 y2 e1 e2
                try rw [e1, e2]
                split at h
                · rename_i hy
                  subst hy
                  try dsimp only
                  try rw [if_pos rfl]
                  exact ih a b h
                · cases h
              · cases h
            · cases h
          · cases h
      rw [if_neg n42] at h ⊢
      by_cases n43 : e.1 = 43
      · rw [if_pos n43] at h ⊢
        cases d with
        | zero => cases h
        | succ d' =>
          try dsimp only at h ⊢
          split at h
          · rename_i a r
            split at h
            · rename_i q e1
              split at h
              · rename_i hc
                try dsimp only
                try rw [e1]
                try dsimp only
                rw [if_pos hc, Nat.add_right_comm nc _ 1, Nat.add_right_comm ns b]
                exact ih _ _ h
              · cases h
            · cases h
          · cases h
      rw [if_neg n43] at h ⊢
      cases d with
      | zero => cases h
      | succ d' =>
        try dsimp only at h ⊢
        by_cases hl : st.length < e.2.2.2.1
        · rw [if_pos hl] at h; cases h
        rw [if_neg hl] at h ⊢
        split at h
        · rename_i hc
          try rw [if_pos hc]
          split at h
          · cases h
          · rename_i v hp' c1 s1 e1
            try rw [e1]
            try dsimp only
            rw [Nat.add_right_comm nc a, Nat.add_right_comm ns b]
            exact ih a b h
          · rename_i E hp' c1 s1 e1
            try rw [e1]
            try dsimp only
            split at h
            · rename_i e2
              try rw [e2]
              try dsimp only
              split at h
              · rename_i hH
                cases h
                rw [if_pos hH, Nat.add_right_comm nc a, Nat.add_right_comm ns b]
                rfl
              · cases h
            · rename_i q e2
              try rw [e2]
              try dsimp only
              rw [Nat.add_right_comm nc a, Nat.add_right_comm ns b]
              exact ih a b h
        · cases h
end XFUEL