/-! ===== texts: what the reading of bytes is like ===== -/
theorem lvl_m1 : lvl (-1) = 9 := by decide
theorem lvl_s {c : Int32} (h : lvl c < 9) : ∃ s : Nat, s < 128 ∧ c = nI s ∧ s ≠ 33 := by
  unfold lvl at h
  repeat' split at h
  all_goals first
    | omega
    | (rename_i e; subst e; first | exact ⟨124, by decide, rfl, by decide⟩ | exact ⟨38, by decide, rfl, by decide⟩)
    | (rename_i e; rcases e with rfl | rfl <;> first | exact ⟨43, by decide, rfl, by decide⟩ | exact ⟨45, by decide, rfl, by decide⟩)
    | (rename_i e; rcases e with rfl | rfl | rfl <;> first | exact ⟨60, by decide, rfl, by decide⟩ | exact ⟨61, by decide, rfl, by decide⟩ | exact ⟨62, by decide, rfl, by decide⟩ | exact ⟨42, by decide, rfl, by decide⟩ | exact ⟨47, by decide, rfl, by decide⟩ | exact ⟨37, by decide, rfl, by decide⟩)
theorem dgt_n {c : Int32} (h : dgt c = true) : ∃ k : Nat, 48 ≤ k ∧ k ≤ 57 ∧ c = nI k := by
  have h2 : wi c (nI 48) (nI 57) = true := h
  exact wi_of h2 (by decide) (by decide)
theorem prn_ok {x : Nat → Int32} {n : Nat} (hx : ∀ a, n ≤ a → x a = -1) : ∀ (k a v B : Nat), a ≤ n → v < B → B * 10 ^ k ≤ 10000 → a ≤ (prn x k a (nI v)).1 ∧ (prn x k a (nI v)).1 ≤ n ∧ ∃ m, m < 10000 ∧ (prn x k a (nI v)).2 = nI m
  | 0, a, v, B, ha, hv, hB => ⟨Nat.le_refl _, ha, v, by simp at hB; omega, rfl⟩
  | k + 1, a, v, B, ha, hv, hB => by
    unfold prn
    by_cases h : dgt (x a) = true
    · rw [if_pos h]
      obtain ⟨c, h1, h2, h3⟩ := dgt_n h
      have han : a < n := by
        rcases Nat.lt_or_ge a n with h4 | h4
        · exact h4
        · rw [hx a h4] at h
          exact absurd h (by decide)
      have e : nI v * 10 + x a - 48 = nI (v * 10 + c - 48) := by
        rw [h3, show (10 : Int32) = nI 10 from rfl, show (48 : Int32) = nI 48 from rfl, pk_mul, nI_add, pk_sub (by omega)]
      rw [e]
      have q := prn_ok hx k (a + 1) (v * 10 + c - 48) (B * 10) (by omega) (by omega) (by rw [Nat.pow_succ] at hB; rw [Nat.mul_assoc, Nat.mul_comm 10]; exact hB)
      exact ⟨by omega, q.2.1, q.2.2⟩
    · rw [if_neg h]
      refine ⟨Nat.le_refl _, ha, v, ?_, rfl⟩
      have : 1 ≤ 10 ^ (k + 1) := Nat.one_le_pow _ _ (by decide)
      have := Nat.mul_le_mul_left B this
      omega
theorem nmi_k {u : Nat} {c : Int32} (hu : u ≤ 1) (h : ¬ nmi u c < 0) : ∃ k : Nat, k + u < 5 ∧ nmi u c = nI k ∧ ¬ c = -1 := by
  have hu : u = 0 ∨ u = 1 := by omega
  unfold nmi at h ⊢
  rcases hu with rfl | rfl
  · rw [if_pos rfl] at h ⊢
    by_cases h1 : c = 102
    · subst h1; exact ⟨0, by decide, rfl, by decide⟩
    rw [if_neg h1] at h ⊢
    by_cases h1 : c = 103
    · subst h1; exact ⟨1, by decide, rfl, by decide⟩
    rw [if_neg h1] at h ⊢
    by_cases h1 : c = 112
    · subst h1; exact ⟨2, by decide, rfl, by decide⟩
    rw [if_neg h1] at h ⊢
    by_cases h1 : c = 113
    · subst h1; exact ⟨3, by decide, rfl, by decide⟩
    rw [if_neg h1] at h ⊢
    by_cases h1 : c = 110
    · subst h1; exact ⟨4, by decide, rfl, by decide⟩
    rw [if_neg h1] at h
    exact absurd (by decide) h
  · rw [if_neg (by decide)] at h ⊢
    by_cases h1 : c = 110
    · subst h1; exact ⟨0, by decide, rfl, by decide⟩
    rw [if_neg h1] at h ⊢
    by_cases h1 : c = 108
    · subst h1; exact ⟨1, by decide, rfl, by decide⟩
    rw [if_neg h1] at h ⊢
    by_cases h1 : c = 103
    · subst h1; exact ⟨2, by decide, rfl, by decide⟩
    rw [if_neg h1] at h ⊢
    by_cases h1 : c = 98
    · subst h1; exact ⟨3, by decide, rfl, by decide⟩
    rw [if_neg h1] at h
    exact absurd (by decide) h
/-- what a step may be -/
def vc (u : Nat) (e : Int32) : Prop := ∃ m : Nat, e = nI m ∧ (m < 10000 ∨ (10000 ≤ m ∧ m + u < 10005) ∨ (20000 ≤ m ∧ m < 20128))
def PK (u n a : Nat) (P : PR) : Prop := a ≤ P.2.1 ∧ P.2.1 ≤ n ∧ a + P.2.2.length ≤ P.2.1 ∧ (∀ e ∈ P.2.2, vc u e) ∧ (P.1 = true → 1 ≤ P.2.2.length)
theorem nx_lt {x : Nat → Int32} {n a : Nat} (hx : ∀ a, n ≤ a → x a = -1) (h : ¬ x a = -1) : a < n := by
  rcases Nat.lt_or_ge a n with h1 | h1
  · exact h1
  · exact absurd (hx a h1) h
theorem lvl_lt {x : Nat → Int32} {n a lev : Nat} (hx : ∀ a, n ≤ a → x a = -1) (hl : lev < 5) (h : lvl (x a) = lev) : a < n := nx_lt hx (fun e => by rw [e, lvl_m1] at h; omega)
theorem prl_ok {u n lev : Nat} {x : Nat → Int32} {g : Nat → PR} (hx : ∀ a, n ≤ a → x a = -1) (hl : lev < 5) (hg : ∀ a, a ≤ n → PK u n a (g a)) : ∀ (k a0 a : Nat) (c : List Int32), PK u n a0 (true, a, c) → PK u n a0 (prl x lev g k a c)
  | 0, a0, a, c, h => h
  | k + 1, a0, a, c, h => by
    unfold prl
    by_cases hv : lvl (x a) = lev
    · rw [if_pos hv]
      have ha := lvl_lt hx hl hv
      have q := hg (a + 1) ha
      obtain ⟨h1, h2, h3, h4, h5⟩ := h
      simp only at h1 h2 h3 h4 h5
      rcases e : g (a + 1) with ⟨b, a2, c2⟩
      rw [e] at q
      obtain ⟨q1, q2, q3, q4, q5⟩ := q
      simp only at q1 q2 q3 q4 q5
      cases b
      · refine ⟨by simp only; omega, q2, by simp only [List.length_append]; omega, ?_, by simp⟩
        intro e he
        rcases List.mem_append.mp he with he | he
        · exact h4 e he
        · exact q4 e he
      · refine prl_ok hx hl hg k a0 a2 _ ⟨by simp only; omega, q2, by simp only [List.length_append, List.length_cons, List.length_nil]; omega, ?_, fun _ => by simp only [List.length_append, List.length_cons, List.length_nil]; omega⟩
        intro e he
        simp only [List.mem_append, List.mem_cons, List.not_mem_nil, or_false] at he
        rcases he with (he | he) | he
        · exact h4 e he
        · exact q4 e he
        · subst he
          obtain ⟨s, s1, s2, -⟩ := lvl_s (c := x a) (by omega)
          exact ⟨20000 + s, by rw [s2, show (20000 : Int32) = nI 20000 from rfl, nI_add], by omega⟩
    · rw [if_neg hv]
      exact h
theorem pr_ok {u n : Nat} {x : Nat → Int32} (hu : u ≤ 1) (hx : ∀ a, n ≤ a → x a = -1) : ∀ (f lev a op : Nat), a ≤ n → PK u n a (pr u x f lev a op)
  | 0, lev, a, op, ha => ⟨Nat.le_refl _, ha, Nat.le_refl _, by simp [pr], by simp [pr]⟩
  | f + 1, lev, a, op, ha => by
    have ih := pr_ok hu hx f
    unfold pr
    by_cases hl : lev < 5
    · rw [if_pos hl]
      have q := ih (lev + 1) a op ha
      rcases e : pr u x f (lev + 1) a op with ⟨b, a2, c2⟩
      rw [e] at q
      cases b
      · exact q
      · exact prl_ok hx hl (fun a ha => ih (lev + 1) a op ha) _ a a2 c2 q
    · rw [if_neg hl]
      by_cases h1 : x a = 33 ∨ x a = 40
      · rw [if_pos h1]
        have han : a < n := nx_lt hx (fun e => by rw [e] at h1; exact absurd h1 (by decide))
        by_cases h2 : op < 5
        · rw [if_pos h2]
          by_cases h3 : x a = 33
          · rw [if_pos h3]
            have q := ih 5 (a + 1) (op + 1) han
            rcases e : pr u x f 5 (a + 1) (op + 1) with ⟨b, a2, c2⟩
            rw [e] at q
            obtain ⟨q1, q2, q3, q4, q5⟩ := q
            simp only at q1 q2 q3 q4 q5
            cases b
            · exact ⟨by simp only; omega, q2, by simp only; omega, q4, q5⟩
            · refine ⟨by simp only; omega, q2, by simp only [List.length_append, List.length_cons, List.length_nil]; omega, fun e he => ?_, fun _ => by simp only [List.length_append, List.length_cons, List.length_nil]; omega⟩
              rcases List.mem_append.mp he with he | he
              · exact q4 e he
              · simp only [List.mem_cons, List.not_mem_nil, or_false] at he
                subst he
                exact ⟨20033, rfl, by omega⟩
          · rw [if_neg h3]
            have q := ih 0 (a + 1) (op + 1) han
            rcases e : pr u x f 0 (a + 1) (op + 1) with ⟨b, a2, c2⟩
            rw [e] at q
            obtain ⟨q1, q2, q3, q4, q5⟩ := q
            simp only at q1 q2 q3 q4 q5
            cases b
            · exact ⟨by simp only; omega, q2, by simp only; omega, q4, q5⟩
            · show PK u n a (if x a2 = 41 then (true, a2 + 1, c2) else (false, a2, c2))
              by_cases h4 : x a2 = 41
              · rw [if_pos h4]
                have : a2 < n := nx_lt hx (fun e => by rw [e] at h4; exact absurd h4 (by decide))
                exact ⟨by simp only; omega, this, by simp only; omega, q4, q5⟩
              · rw [if_neg h4]
                exact ⟨by simp only; omega, q2, by simp only; omega, q4, by simp⟩
        · rw [if_neg h2]
          exact ⟨Nat.le_refl _, ha, Nat.le_refl _, by simp, by simp⟩
      · rw [if_neg h1]
        by_cases h2 : dgt (x a) = true
        · rw [if_pos h2]
          have han : a < n := nx_lt hx (fun e => by rw [e] at h2; exact absurd h2 (by decide))
          have q := prn_ok hx 4 a 0 1 ha (by decide) (by decide)
          have q0 : a + 1 ≤ (prn x 4 a (nI 0)).1 := by
            obtain ⟨c, h3, h4, h5⟩ := dgt_n h2
            have e : nI 0 * 10 + x a - 48 = nI (c - 48) := by
              rw [h5, show (10 : Int32) = nI 10 from rfl, show (48 : Int32) = nI 48 from rfl, pk_mul, nI_add, pk_sub (by omega)]
              exact congrArg nI (by omega)
            rw [prn, if_pos h2, e]
            exact (prn_ok hx 3 (a + 1) (c - 48) 10 han (by omega) (by decide)).1
          obtain ⟨m, hm, em⟩ := q.2.2
          refine ⟨q.1, q.2.1, q0, fun e he => ?_, fun _ => by simp⟩
          simp only [List.mem_cons, List.not_mem_nil, or_false] at he
          subst he
          exact ⟨m, em, Or.inl hm⟩
        · rw [if_neg h2]
          by_cases h3 : nmi u (x a) < 0
          · rw [if_pos h3]
            exact ⟨Nat.le_refl _, ha, Nat.le_refl _, by simp, by simp⟩
          · rw [if_neg h3]
            obtain ⟨k, k1, k2, k3⟩ := nmi_k hu h3
            have han := nx_lt hx k3
            refine ⟨by simp only; omega, han, by simp, fun e he => ?_, fun _ => by simp⟩
            simp only [List.mem_cons, List.not_mem_nil, or_false] at he
            subst he
            exact ⟨10000 + k, by rw [k2, show (10000 : Int32) = nI 10000 from rfl, nI_add], by omega⟩
/-! ===== what steps do to a stack ===== -/
theorem ev1_n {nm : Nat → Int32} {st : List Int32} {m : Nat} (h : m < 10000) : ev1 nm st (nI m) = nI m :: st := by
  unfold ev1
  rw [if_pos (show nI m < 10000 from nI_lt (b := 10000) h (by decide))]
theorem ev1_m {nm : Nat → Int32} {st : List Int32} {m : Nat} (h : 10000 ≤ m) (h2 : m < 20000) : ev1 nm st (nI m) = nm (m - 10000) :: st := by
  unfold ev1
  rw [if_neg (show ¬ nI m < 10000 from nI_nlt (b := 10000) h (by omega)), if_pos (show nI m < 20000 from nI_lt (b := 20000) h2 (by decide)), show (nI m - 10000 : Int32) = nI (m - 10000) from pk_sub (b := 10000) h, nI_clamp (by omega)]
theorem ev1_s {nm : Nat → Int32} {st : List Int32} {m : Nat} (h : 20000 ≤ m) (h2 : m < 20128) (h3 : m ≠ 20033) : ev1 nm st (nI m) = match st with | b :: a :: st => jn2 (nI (m - 20000)) a b :: st | st => st := by
  unfold ev1
  rw [if_neg (show ¬ nI m < 10000 from nI_nlt (b := 10000) (by omega) (by omega)), if_neg (show ¬ nI m < 20000 from nI_nlt (b := 20000) h (by omega)), if_neg (show ¬ nI m = 20033 from fun e => h3 (nI_inj (b := 20033) e (by omega) (by decide))), show (nI m - 20000 : Int32) = nI (m - 20000) from pk_sub (b := 20000) h]
  rcases st with _ | ⟨b, _ | ⟨a, st⟩⟩ <;> rfl
theorem ev1_not {nm : Nat → Int32} {st : List Int32} : ev1 nm st (nI 20033) = match st with | a :: st => bI (decide (a = 0)) :: st | [] => [] := by
  unfold ev1
  rw [if_neg (show ¬ nI 20033 < 10000 by decide), if_neg (show ¬ nI 20033 < 20000 by decide), if_pos (show nI 20033 = 20033 from rfl)]
  cases st <;> rfl
theorem ev_congr {u : Nat} {nm nm' : Nat → Int32} (hu : u ≤ 1) (h : ∀ i, i + u < 5 → nm' i = nm i) : ∀ (c st : List Int32), (∀ e ∈ c, vc u e) → c.foldl (ev1 nm') st = c.foldl (ev1 nm) st
  | [], st, _ => rfl
  | e :: c, st, hv => by
    have e1 : ev1 nm' st e = ev1 nm st e := by
      obtain ⟨m, rfl, hm | hm | hm⟩ := hv e (List.mem_cons_self ..)
      · rw [ev1_n hm, ev1_n hm]
      · rw [ev1_m hm.1 (by omega), ev1_m hm.1 (by omega), h _ (by omega)]
      · by_cases h3 : m = 20033
        · subst h3
          rw [ev1_not, ev1_not]
        · rw [ev1_s hm.1 hm.2 h3, ev1_s hm.1 hm.2 h3]
    rw [List.foldl_cons, List.foldl_cons, e1]
    exact ev_congr hu h c _ (fun e he => hv e (List.mem_cons_of_mem _ he))
/-- a row holds a stack (the top last) -/
def Sk (s : Nat → Int32) : List Int32 → Prop
  | [] => True
  | a :: S => s S.length = a ∧ Sk s S
theorem Sk.same {s s' : Nat → Int32} : ∀ {S : List Int32}, Sk s S → (∀ i, i < S.length → s' i = s i) → Sk s' S
  | [], _, _ => trivial
  | a :: S, h, e => ⟨by rw [e _ (by simp)]; exact h.1, h.2.same (fun i hi => e i (by simp only [List.length_cons]; omega))⟩
/-- what a use gives: of the row d, with the names nm -/
def gv (u : Nat) (d nm : Nat → Int32) : Int32 := if d (520 + u) = 0 then (if u = 0 then bI (decide (nm 0 * nm 3 ≤ nm 1 * nm 2)) else nI 1) else evl nm (prt u (fun i => d (530 + 50 * u + i)) (cn d (520 + u))).2.2
theorem nxb_x {b : Nat → Int32} {n : Nat} : ∀ a, n ≤ a → nxb b n a = -1 := fun a h => if_neg (by omega)
