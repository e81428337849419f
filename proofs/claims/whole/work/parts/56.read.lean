/-- the reader's state: where it is, the steps that are made -/
def Rd (α β : Nat → Nat → Int32) (u n a : Nat) (c : List Int32) : Prop := (∀ k, k ≠ 75 → k ≠ 76 → k ≠ 77 → β k = α k) ∧ β 75 1 = nI 27 ∧ β 75 2 = nI (1006 + u) ∧ β 75 3 = nI a ∧ β 76 0 = nI c.length ∧ (∀ i, i < c.length → β 77 i = c.getD i 0) ∧ c.length ≤ a
/-- what it reads: n bytes -/
def Tp (α : Nat → Nat → Int32) (n : Nat) : Prop := n ≤ 50 ∧ α 26 0 = nI n ∧ ∀ i, i < n → ∃ b, b ≤ 255 ∧ α 27 i = nI b
theorem Rd.to {α β : Nat → Nat → Int32} {u n a : Nat} {c : List Int32} (h : Rd α β u n a c) : Rd α (rf_w β 75 3 (nI (1 + a))) u n (1 + a) c := by
  obtain ⟨h1, h2, h3, h4, h5, h6, h7⟩ := h
  refine ⟨fun k k1 k2 k3 => by rw [rf_w_row k1]; exact h1 k k1 k2 k3, ?_, ?_, ?_, ?_, fun i hi => ?_, by omega⟩
  · rw [rf_w_at, if_neg (by decide)]; exact h2
  · rw [rf_w_at, if_neg (by decide)]; exact h3
  · rw [rf_w_at, if_pos ⟨rfl, rfl⟩]
  · rw [rf_w_row (by decide)]; exact h5
  · rw [rf_w_row (by decide)]; exact h6 i hi
theorem Rd.add {α β : Nat → Nat → Int32} {u n a : Nat} {c : List Int32} {v : Int32} (h : Rd α β u n a c) (hl : c.length + 1 ≤ a) : Rd α (rf_w (rf_w β 77 c.length v) 76 0 (nI (1 + c.length))) u n a (c ++ [v]) := by
  obtain ⟨h1, h2, h3, h4, h5, h6, h7⟩ := h
  refine ⟨fun k k1 k2 k3 => by rw [rf_w_row k2, rf_w_row k3]; exact h1 k k1 k2 k3, ?_, ?_, ?_, ?_, fun i hi => ?_, by simp only [List.length_append, List.length_cons, List.length_nil]; omega⟩
  · rw [rf_w_row (by decide), rf_w_row (by decide)]; exact h2
  · rw [rf_w_row (by decide), rf_w_row (by decide)]; exact h3
  · rw [rf_w_row (by decide), rf_w_row (by decide)]; exact h4
  · rw [rf_w_at, if_pos ⟨rfl, rfl⟩, List.length_append, Nat.add_comm]; rfl
  · rw [rf_w_row (by decide), rf_w_at]
    simp only [List.length_append, List.length_cons, List.length_nil] at hi
    by_cases e : i = c.length
    · subst e
      rw [if_pos ⟨rfl, rfl⟩]
      simp [List.getD]
    · rw [if_neg (by omega), h6 i (by omega)]
      simp [List.getD, List.getElem?_append_left (show i < c.length by omega)]
def lvI (c : Int32) : Int32 := if lvl c = 9 then (-1) else nI (lvl c)
theorem lvI_eq {c : Int32} {lev : Nat} (hl : lev < 5) : lvI c = nI lev ↔ lvl c = lev := by
  have h9 : lvl c ≤ 9 := by
    unfold lvl
    repeat' split
    all_goals omega
  unfold lvI
  by_cases h : lvl c = 9
  · rw [if_pos h]
    refine ⟨fun e => ?_, fun e => by omega⟩
    have : ∀ l, l < 5 → ¬ ((-1 : Int32) = nI l) := by decide
    exact absurd e (this lev hl)
  · rw [if_neg h]
    exact ⟨fun e => nI_inj e (by omega) (by omega), fun e => by rw [e]⟩
/-- the end of a reading -/
def RQ (α δ : Nat → Nat → Int32) (u n : Nat) (c : List Int32) (P : PR) (r : Option Value) (s : rf_Mem) : Prop := r = some (.int (bI P.1)) ∧ ∃ (β : Nat → Nat → Int32) (c' : List Int32), s = (β, δ) ∧ Rd α β u n P.2.1 c' ∧ (P.1 = true → c' = c ++ P.2.2)
theorem RQ_t {T : rf_Tb} {M : rf_M} {d pc : Nat} {L : List (Option Value)} {st : List Value} {σ : rf_Mem} {α δ : Nat → Nat → Int32} {u n : Nat} {c : List Int32} {P : PR} {a2 : Nat} {c2 : List Int32} (h : rf_Ok T M d pc L st σ (RQ α δ u n c P)) (e : P = (true, a2, c2)) : rf_Ok T M d pc L st σ (fun r s => r = some (.int (nI 1)) ∧ ∃ β : Nat → Nat → Int32, s = (β, δ) ∧ Rd α β u n a2 (c ++ c2)) := by
  subst e
  exact h.mono (fun r s hq => by
    obtain ⟨h1, β, c', h2, h3, h4⟩ := hq
    obtain rfl := h4 rfl
    exact ⟨h1, β, h2, h3⟩)
theorem RQ_f {T : rf_Tb} {M : rf_M} {d pc : Nat} {L : List (Option Value)} {st : List Value} {σ : rf_Mem} {α δ : Nat → Nat → Int32} {u n : Nat} {c : List Int32} {P : PR} {a2 : Nat} {c2 : List Int32} (h : rf_Ok T M d pc L st σ (RQ α δ u n c P)) (e : P = (false, a2, c2)) : rf_Ok T M d pc L st σ (fun r s => r = some (.int (nI 0)) ∧ ∃ (β : Nat → Nat → Int32) (c' : List Int32), s = (β, δ) ∧ Rd α β u n a2 c') := by
  subst e
  exact h.mono (fun r s hq => by
    obtain ⟨h1, β, c', h2, h3, -⟩ := hq
    exact ⟨h1, β, c', h2, h3⟩)
theorem nx_b {α : Nat → Nat → Int32} {n a : Nat} (hT : Tp α n) (h : ¬ nxb (α 27) n a < 0) : a < n ∧ ∃ b, b ≤ 255 ∧ nxb (α 27) n a = nI b := by
  unfold nxb at h ⊢
  by_cases h1 : a < n
  · rw [if_pos h1]
    exact ⟨h1, hT.2.2 a h1⟩
  · rw [if_neg h1] at h
    exact absurd (by decide) h
theorem nx_m1 {α : Nat → Nat → Int32} {n a : Nat} (hT : Tp α n) (h : nxb (α 27) n a < 0) : nxb (α 27) n a = -1 := by
  unfold nxb at h ⊢
  by_cases h1 : a < n
  · rw [if_pos h1] at h
    obtain ⟨b, hb, e⟩ := hT.2.2 a h1
    rw [e] at h
    exact absurd h (nI_pos (by omega))
  · rw [if_neg h1]
theorem i2c_b {b : Nat} (hb : b ≤ 255) : ((nI b).toUInt32 % 65536).toInt32 = nI b := by
  have : ∀ b, b < 256 → ((nI b).toUInt32 % 65536).toInt32 = nI b := by decide +kernel
  exact this b (by omega)
section H56
variable {Ln : Nat} {xs : Nat → Int32} {α β δ : Nat → Nat → Int32} {u n : Nat}
theorem c_nx0 {a : Nat} {c : List Int32} (hT : Tp α n) (hr : Rd α β u n a c) (ha : a < n) : rf_At (rf_T Ln xs) MX2_next 1 0 ([some (.ref 75)], [], 108, (β, δ)) (some (.int (nxb (α 27) n a))) 108 (β, δ) := by
  refine rf_pa ?_
  have hn := hT.1
  refine ok_step (ps := [rf_eqb (β 75 1) (nI 27)]) (L' := [some (.ref 75)]) (st' := [.ref 26]) (σ' := (β, δ)) (pc' := 4) kX2_next_0 rfl rfl (rf_a1 (by simp [rf_eqb, hr.2.1]) rf_a0) ?_
  refine ok_ifnull bX2_next_4 ?_
  refine ok_step (ps := [rf_eqb (β 75 1) (nI 27)]) (L' := [some (.ref 75)]) (st' := [.int (β 26 0), .int (β 75 3)]) (σ' := (β, δ)) (pc' := 18) kX2_next_7 rfl rfl (rf_a1 (by simp [rf_eqb, hr.2.1]) rf_a0) ?_
  try rw [(show β 75 3 = nI a from hr.2.2.2.1)]
  try rw [(show β 26 0 = nI n from (congrFun (hr.1 26 (by decide) (by decide) (by decide)) 0).trans hT.2.1)]
  refine ok_icmp_ge bX2_next_18 (fun h18 => absurd h18 (nI_ge (by omega) (by omega))) (fun _ => ?_)
  refine ok_step (ps := [rf_eqb (β 75 1) (nI 27), rf_in (β 75 3) 50]) (L' := [some (.ref 75)]) (st' := [.int (β 27 ((β 75 3).toNatClampNeg))]) (σ' := (β, δ)) (pc' := 33) kX2_next_21 rfl rfl (rf_a1 (by simp [rf_eqb, hr.2.1]) (rf_a1 (rf_in_n (a := a) (by (try rw [(show β 75 3 = nI a from hr.2.2.2.1)]); all_goals exact rfl) (by omega)) rf_a0)) ?_
  try rw [(show β 75 3 = nI a from hr.2.2.2.1)]
  try rw [(show (nI a).toNatClampNeg = a from rf_cl_n rfl (by omega))]
  try rw [(show β 27 a = α 27 a from congrFun (hr.1 27 (by decide) (by decide) (by decide)) _)]
  refine ok_goto bX2_next_33 ?_
  refine ok_reti eX2_next_37 rfl ?_
  exact ⟨by rw [nxb, if_pos ha], rfl⟩
theorem c_nx1 {a : Nat} {c : List Int32} (hT : Tp α n) (hr : Rd α β u n a c) (ha : n ≤ a) (ha2 : a ≤ 100) : rf_At (rf_T Ln xs) MX2_next 1 0 ([some (.ref 75)], [], 108, (β, δ)) (some (.int (nxb (α 27) n a))) 108 (β, δ) := by
  refine rf_pa ?_
  have hn := hT.1
  refine ok_step (ps := [rf_eqb (β 75 1) (nI 27)]) (L' := [some (.ref 75)]) (st' := [.ref 26]) (σ' := (β, δ)) (pc' := 4) kX2_next_0 rfl rfl (rf_a1 (by simp [rf_eqb, hr.2.1]) rf_a0) ?_
  refine ok_ifnull bX2_next_4 ?_
  refine ok_step (ps := [rf_eqb (β 75 1) (nI 27)]) (L' := [some (.ref 75)]) (st' := [.int (β 26 0), .int (β 75 3)]) (σ' := (β, δ)) (pc' := 18) kX2_next_7 rfl rfl (rf_a1 (by simp [rf_eqb, hr.2.1]) rf_a0) ?_
  try rw [(show β 75 3 = nI a from hr.2.2.2.1)]
  try rw [(show β 26 0 = nI n from (congrFun (hr.1 26 (by decide) (by decide) (by decide)) 0).trans hT.2.1)]
  refine ok_icmp_ge bX2_next_18 (fun _ => ?_) (fun h18 => absurd (nI_le (by omega) (by omega)) h18)
  refine ok_step (ps := []) (L' := [some (.ref 75)]) (st' := [.int (-1)]) (σ' := (β, δ)) (pc' := 37) kX2_next_36 rfl rfl rf_a0 ?_
  refine ok_reti eX2_next_37 rfl ?_
  exact ⟨by rw [nxb, if_neg (by omega)], rfl⟩
theorem c_nx {a : Nat} {c : List Int32} (hT : Tp α n) (hr : Rd α β u n a c) (ha : a ≤ 100) : rf_At (rf_T Ln xs) MX2_next 1 0 ([some (.ref 75)], [], 108, (β, δ)) (some (.int (nxb (α 27) n a))) 108 (β, δ) := by
  rcases Nat.lt_or_ge a n with h | h
  · exact c_nx0 hT hr h
  · exact c_nx1 hT hr h ha
theorem c_lv {c : Int32} : rf_At (rf_T Ln xs) MX2_levelOf 1 0 ([some (.int c)], [], 108, (β, δ)) (some (.int (lvI c))) 108 (β, δ) := by
  refine rf_pa ?_
  refine ok_step (ps := []) (L' := [some (.int c)]) (st' := [.int c]) (σ' := (β, δ)) (pc' := 1) kX2_levelOf_0 rfl rfl rf_a0 ?_
  refine ok_lookup bX2_levelOf_1 (fun h1 => ?_) (fun q t hm h1 ht => ?_) (by decide)
  · refine ok_step (ps := []) (L' := [some (.int c)]) (st' := [.int (-1)]) (σ' := (β, δ)) (pc' := 103) kX2_levelOf_102 rfl rfl rf_a0 ?_
    refine ok_reti eX2_levelOf_103 rfl ?_
    have n124 : ¬ c = 124 := fun e => h1 (124, 91) (by decide) (by rw [e]; rfl)
    have n38 : ¬ c = 38 := fun e => h1 (38, 93) (by decide) (by rw [e]; rfl)
    have n60 : ¬ c = 60 := fun e => h1 (60, 95) (by decide) (by rw [e]; rfl)
    have n61 : ¬ c = 61 := fun e => h1 (61, 95) (by decide) (by rw [e]; rfl)
    have n62 : ¬ c = 62 := fun e => h1 (62, 95) (by decide) (by rw [e]; rfl)
    have n43 : ¬ c = 43 := fun e => h1 (43, 97) (by decide) (by rw [e]; rfl)
    have n45 : ¬ c = 45 := fun e => h1 (45, 97) (by decide) (by rw [e]; rfl)
    have n42 : ¬ c = 42 := fun e => h1 (42, 99) (by decide) (by rw [e]; rfl)
    have n47 : ¬ c = 47 := fun e => h1 (47, 99) (by decide) (by rw [e]; rfl)
    have n37 : ¬ c = 37 := fun e => h1 (37, 99) (by decide) (by rw [e]; rfl)
    have e : lvl c = 9 := by unfold lvl; simp only [n124, n38, n60, n61, n62, n43, n45, n42, n47, n37, or_self, if_false]
    exact ⟨by rw [lvI, if_pos e], rfl⟩
  · simp only [List.mem_cons, List.not_mem_nil, or_false] at hm
    rcases hm with rfl | rfl | rfl | rfl | rfl | rfl | rfl | rfl | rfl | rfl
    · obtain rfl : t = 100 := by simp at ht; omega
      obtain rfl : c = nI 37 := sw_eq (n := 37) h1.symm (by decide)
      refine ok_step (ps := []) (L' := [some (.int (nI 37))]) (st' := [.int (nI 4)]) (σ' := (β, δ)) (pc' := 101) kX2_levelOf_100 rfl rfl rf_a0 ?_
      refine ok_reti eX2_levelOf_101 rfl ?_
      exact ⟨by decide, rfl⟩
    · obtain rfl : t = 94 := by simp at ht; omega
      obtain rfl : c = nI 38 := sw_eq (n := 38) h1.symm (by decide)
      refine ok_step (ps := []) (L' := [some (.int (nI 38))]) (st' := [.int (nI 1)]) (σ' := (β, δ)) (pc' := 95) kX2_levelOf_94 rfl rfl rf_a0 ?_
      refine ok_reti eX2_levelOf_95 rfl ?_
      exact ⟨by decide, rfl⟩
    · obtain rfl : t = 100 := by simp at ht; omega
      obtain rfl : c = nI 42 := sw_eq (n := 42) h1.symm (by decide)
      refine ok_step (ps := []) (L' := [some (.int (nI 42))]) (st' := [.int (nI 4)]) (σ' := (β, δ)) (pc' := 101) kX2_levelOf_100 rfl rfl rf_a0 ?_
      refine ok_reti eX2_levelOf_101 rfl ?_
      exact ⟨by decide, rfl⟩
    · obtain rfl : t = 98 := by simp at ht; omega
      obtain rfl : c = nI 43 := sw_eq (n := 43) h1.symm (by decide)
      refine ok_step (ps := []) (L' := [some (.int (nI 43))]) (st' := [.int (nI 3)]) (σ' := (β, δ)) (pc' := 99) kX2_levelOf_98 rfl rfl rf_a0 ?_
      refine ok_reti eX2_levelOf_99 rfl ?_
      exact ⟨by decide, rfl⟩
    · obtain rfl : t = 98 := by simp at ht; omega
      obtain rfl : c = nI 45 := sw_eq (n := 45) h1.symm (by decide)
      refine ok_step (ps := []) (L' := [some (.int (nI 45))]) (st' := [.int (nI 3)]) (σ' := (β, δ)) (pc' := 99) kX2_levelOf_98 rfl rfl rf_a0 ?_
      refine ok_reti eX2_levelOf_99 rfl ?_
      exact ⟨by decide, rfl⟩
    · obtain rfl : t = 100 := by simp at ht; omega
      obtain rfl : c = nI 47 := sw_eq (n := 47) h1.symm (by decide)
      refine ok_step (ps := []) (L' := [some (.int (nI 47))]) (st' := [.int (nI 4)]) (σ' := (β, δ)) (pc' := 101) kX2_levelOf_100 rfl rfl rf_a0 ?_
      refine ok_reti eX2_levelOf_101 rfl ?_
      exact ⟨by decide, rfl⟩
    · obtain rfl : t = 96 := by simp at ht; omega
      obtain rfl : c = nI 60 := sw_eq (n := 60) h1.symm (by decide)
      refine ok_step (ps := []) (L' := [some (.int (nI 60))]) (st' := [.int (nI 2)]) (σ' := (β, δ)) (pc' := 97) kX2_levelOf_96 rfl rfl rf_a0 ?_
      refine ok_reti eX2_levelOf_97 rfl ?_
      exact ⟨by decide, rfl⟩
    · obtain rfl : t = 96 := by simp at ht; omega
      obtain rfl : c = nI 61 := sw_eq (n := 61) h1.symm (by decide)
      refine ok_step (ps := []) (L' := [some (.int (nI 61))]) (st' := [.int (nI 2)]) (σ' := (β, δ)) (pc' := 97) kX2_levelOf_96 rfl rfl rf_a0 ?_
      refine ok_reti eX2_levelOf_97 rfl ?_
      exact ⟨by decide, rfl⟩
    · obtain rfl : t = 96 := by simp at ht; omega
      obtain rfl : c = nI 62 := sw_eq (n := 62) h1.symm (by decide)
      refine ok_step (ps := []) (L' := [some (.int (nI 62))]) (st' := [.int (nI 2)]) (σ' := (β, δ)) (pc' := 97) kX2_levelOf_96 rfl rfl rf_a0 ?_
      refine ok_reti eX2_levelOf_97 rfl ?_
      exact ⟨by decide, rfl⟩
    · obtain rfl : t = 92 := by simp at ht; omega
      obtain rfl : c = nI 124 := sw_eq (n := 124) h1.symm (by decide)
      refine ok_step (ps := []) (L' := [some (.int (nI 124))]) (st' := [.int (nI 0)]) (σ' := (β, δ)) (pc' := 93) kX2_levelOf_92 rfl rfl rf_a0 ?_
      refine ok_reti eX2_levelOf_93 rfl ?_
      exact ⟨by decide, rfl⟩
theorem c_dg {c : Int32} : rf_At (rf_T Ln xs) MX2_isDigit 1 0 ([some (.int c)], [], 108, (β, δ)) (some (.int (bI (dgt c)))) 108 (β, δ) := by
  refine rf_pa ?_
  refine ok_step (ps := []) (L' := [some (.int c)]) (st' := [.int (nI 48), .int c]) (σ' := (β, δ)) (pc' := 3) kX2_isDigit_0 rfl rfl rf_a0 ?_
  refine ok_icmp_lt bX2_isDigit_3 (fun h3 => ?_) (fun h3 => ?_)
  · refine ok_step (ps := []) (L' := [some (.int c)]) (st' := [.int (nI 0)]) (σ' := (β, δ)) (pc' := 17) kX2_isDigit_16 rfl rfl rf_a0 ?_
    refine ok_retz eX2_isDigit_17 rfl (Or.inl rfl) ?_
    exact ⟨rz (by unfold dgt; rw [decide_eq_false (show ¬ (48 : Int32) ≤ c from Int32.not_le.mpr h3)]; rfl), rfl⟩
  · refine ok_step (ps := []) (L' := [some (.int c)]) (st' := [.int (nI 57), .int c]) (σ' := (β, δ)) (pc' := 9) kX2_isDigit_6 rfl rfl rf_a0 ?_
    refine ok_icmp_gt bX2_isDigit_9 (fun h9 => ?_) (fun h9 => ?_)
    · refine ok_step (ps := []) (L' := [some (.int c)]) (st' := [.int (nI 0)]) (σ' := (β, δ)) (pc' := 17) kX2_isDigit_16 rfl rfl rf_a0 ?_
      refine ok_retz eX2_isDigit_17 rfl (Or.inl rfl) ?_
      exact ⟨rz (by unfold dgt; rw [decide_eq_false (show ¬ c ≤ 57 from Int32.not_le.mpr h9), Bool.and_false]), rfl⟩
    · refine ok_step (ps := []) (L' := [some (.int c)]) (st' := [.int (nI 1)]) (σ' := (β, δ)) (pc' := 13) kX2_isDigit_12 rfl rfl rf_a0 ?_
      refine ok_goto bX2_isDigit_13 ?_
      refine ok_retz eX2_isDigit_17 rfl (Or.inr rfl) ?_
      exact ⟨ro (by unfold dgt; rw [decide_eq_true (show (48 : Int32) ≤ c from Int32.not_lt.mp h3), decide_eq_true (show c ≤ 57 from Int32.not_lt.mp h9)]; rfl), rfl⟩
theorem c_add {a : Nat} {c : List Int32} {v : Int32} (hr : Rd α β u n a c) (hl : c.length < 50) : rf_At (rf_T Ln xs) MX8_add 1 0 ([some (.ref 76), some (.int v)], [], 108, (β, δ)) none 108 (rf_w (rf_w β 77 c.length v) 76 0 (nI (1 + c.length)), δ) := by
  refine rf_pa ?_
  refine ok_step (ps := []) (L' := [some (.ref 76), some (.int v)]) (st' := [.int (nI 50), .int (β 76 0)]) (σ' := (β, δ)) (pc' := 9) kX8_add_0 rfl rfl rf_a0 ?_
  try rw [(show β 76 0 = nI c.length from hr.2.2.2.2.1)]
  refine ok_icmp_ge bX8_add_9 (fun h9 => absurd h9 (nI_ge (by omega) (by omega))) (fun _ => ?_)
  refine ok_step (ps := [rf_in (β 76 0) 50]) (L' := [some (.ref 76), some (.int v)]) (st' := []) (σ' := (rf_w (rf_w β 77 ((β 76 0).toNatClampNeg) v) 76 0 (((rf_w β 77 ((β 76 0).toNatClampNeg) v) 76 0) + (nI 1)), δ)) (pc' := 32) kX8_add_12 rfl rfl (rf_a1 (rf_in_n (a := (c.length)) (by (try rw [(show β 76 0 = nI c.length from hr.2.2.2.2.1)]); all_goals exact rfl) (by omega)) rf_a0) ?_
  try rw [(show β 76 0 = nI c.length from hr.2.2.2.2.1)]
  try rw [(show (nI c.length).toNatClampNeg = (c.length) from rf_cl_n rfl (by omega))]
  try rw [(show (rf_w β 77 c.length v) 76 0 = β 76 0 from by rw [rf_w_at, if_neg (fun h => absurd h.1 (by decide))])]
  try rw [(show β 76 0 = nI c.length from hr.2.2.2.2.1)]
  try rw [(show ((nI c.length) + (nI 1)) = nI (1 + c.length) from rf_eq (rf_nadd (x := nI c.length) (y := nI 1) rfl rfl) (by omega))]
  refine ok_retv eX8_add_32 rfl ?_
  exact ⟨rfl, rfl⟩
theorem c_lev_l {g : Nat → PR} {D lev op mo : Nat} (hT : Tp α n) (hl : lev < 5) (ho : op ≤ 5) (hmo : mo ≤ 50) (hs : ∀ (a : Nat) (β : Nat → Nat → Int32) (c : List Int32), a ≤ n → Rd α β u n a c → rf_Ok (rf_T Ln xs) MX2_readLevel (D + 4) 0 [some (.ref 75), some (.int (nI (1 + lev))), some (.int (nI op)), none, none, none] [] (β, δ) (RQ α δ u n c (g a))) (hk : ∀ a, a ≤ n → PK u n a (g a)) {c0 : List Int32} : ∀ (k j a : Nat) (β : Nat → Nat → Int32) (c : List Int32), j + k = mo → a ≤ n → Rd α β u n a (c0 ++ c) → rf_Ok (rf_T Ln xs) MX2_readLevel (D + 5) 39 [some (.ref 75), some (.int (nI lev)), some (.int (nI op)), some (.int (nI mo)), some (.int (nI j)), none] [] (β, δ) (RQ α δ u n c0 (prl (nxb (α 27) n) lev g k a c)) := by
  have hn := hT.1
  intro k
  induction k with
  | zero =>
    intro j a β c hj ha hr
    obtain rfl : j = mo := by omega
    refine ok_step (ps := []) (L' := [some (.ref 75), some (.int (nI lev)), some (.int (nI op)), some (.int (nI j)), some (.int (nI j)), none]) (st' := [.int (nI j), .int (nI j)]) (σ' := (β, δ)) (pc' := 42) kX2_readLevel_39 rfl rfl rf_a0 ?_
    refine ok_icmp_ge bX2_readLevel_42 (fun _ => ?_) (fun h42 => absurd (nI_le (by omega) (by omega)) h42)
    refine ok_step (ps := []) (L' := [some (.ref 75), some (.int (nI lev)), some (.int (nI op)), some (.int (nI j)), some (.int (nI j)), none]) (st' := [.int (nI 1)]) (σ' := (β, δ)) (pc' := 105) kX2_readLevel_104 rfl rfl rf_a0 ?_
    refine ok_retz eX2_readLevel_105 rfl (Or.inr rfl) ?_
    exact ⟨rfl, β, _, rfl, hr, fun _ => rfl⟩
  | succ k ih =>
    intro j a β c hj ha hr
    unfold prl
    by_cases hv : lvl ((nxb (α 27) n) a) = lev
    · rw [if_pos hv, Nat.add_comm a 1]
      have han : a < n := lvl_lt nxb_x hl hv
      have hv2 := (lvI_eq hl).mpr hv
      have hr1 := hr.to
      have q1 := hk (1 + a) (by omega)
      have hsub := hs (1 + a) _ _ (by omega) hr1
      rcases e1 : g (1 + a) with ⟨_ | _, a2, c2⟩
      · refine ok_step (ps := []) (L' := [some (.ref 75), some (.int (nI lev)), some (.int (nI op)), some (.int (nI mo)), some (.int (nI j)), none]) (st' := [.int (nI mo), .int (nI j)]) (σ' := (β, δ)) (pc' := 42) kX2_readLevel_39 rfl rfl rf_a0 ?_
        refine ok_icmp_ge bX2_readLevel_42 (fun h42 => absurd h42 (nI_ge (by omega) (by omega))) (fun _ => ?_)
        refine ok_step (ps := []) (L' := [some (.ref 75), some (.int (nI lev)), some (.int (nI op)), some (.int (nI mo)), some (.int (nI j)), none]) (st' := [.ref 75]) (σ' := (β, δ)) (pc' := 46) kX2_readLevel_45 rfl rfl rf_a0 ?_
        refine ok_V (As := []) (b := 75) (st := []) mkX2_next qX2_readLevel_46 rfl (rc_75) rfl rfl rfl rfl (by omega) (c_nx hT hr (by omega)) ?_
        refine ok_S (As := [.int (nxb (α 27) n a)]) (st := []) mkX2_levelOf qX2_readLevel_49 rfl rfl rfl rfl rfl (by omega) (c_lv) ?_
        refine ok_step (ps := []) (L' := [some (.ref 75), some (.int (nI lev)), some (.int (nI op)), some (.int (nI mo)), some (.int (nI j)), none]) (st' := [.int (nI lev), .int (lvI (nxb (α 27) n a))]) (σ' := (β, δ)) (pc' := 53) kX2_readLevel_52 rfl rfl rf_a0 ?_
        refine ok_icmp_ne bX2_readLevel_53 (fun h53 => absurd (hv2) h53) (fun _ => ?_)
        refine ok_step (ps := []) (L' := [some (.ref 75), some (.int (nI lev)), some (.int (nI op)), some (.int (nI mo)), some (.int (nI j)), none]) (st' := [.ref 75]) (σ' := (β, δ)) (pc' := 57) kX2_readLevel_56 rfl rfl rf_a0 ?_
        refine ok_V (As := []) (b := 75) (st := []) mkX2_next qX2_readLevel_57 rfl (rc_75) rfl rfl rfl rfl (by omega) (c_nx hT hr (by omega)) ?_
        refine ok_step (ps := []) (L' := [some (.ref 75), some (.int (nI lev)), some (.int (nI op)), some (.int (nI mo)), some (.int (nI j)), some (.int (nxb (α 27) n a))]) (st' := [.int (nI op), .int ((nI lev) + (nI 1)), .ref 75]) (σ' := (rf_w β 75 3 ((β 75 3) + (nI 1)), δ)) (pc' := 77) kX2_readLevel_60 rfl rfl rf_a0 ?_
        try rw [(show β 75 3 = nI a from hr.2.2.2.1)]
        try rw [(show ((nI a) + (nI 1)) = nI (1 + a) from rf_eq (rf_nadd (x := nI a) (y := nI 1) rfl rfl) (by omega))]
        try rw [(show ((nI lev) + (nI 1)) = nI (1 + lev) from rf_eq (rf_nadd (x := nI lev) (y := nI 1) rfl rfl) (by omega))]
        refine ok_Vx (As := [.int (nI (1 + lev)), .int (nI op)]) (b := 75) (st := []) mkX2_readLevel qX2_readLevel_77 rfl (rc_75) rfl rfl rfl rfl (by omega) (RQ_f hsub e1) (fun r1 σ1 hq => ?_)
        obtain ⟨rfl, β2, c3, rfl, hr2⟩ := hq
        refine ok_if_ne bX2_readLevel_80 (fun h80 => absurd ((by decide)) h80) (fun _ => ?_)
        refine ok_step (ps := []) (L' := [some (.ref 75), some (.int (nI lev)), some (.int (nI op)), some (.int (nI mo)), some (.int (nI j)), some (.int (nxb (α 27) n a))]) (st' := [.int (nI 0)]) (σ' := (β2, δ)) (pc' := 84) kX2_readLevel_83 rfl rfl rf_a0 ?_
        refine ok_retz eX2_readLevel_84 rfl (Or.inl rfl) ?_
        exact ⟨rfl, β2, _, rfl, hr2, fun h => Bool.noConfusion h⟩
      · rw [e1] at q1
        obtain ⟨q1, q2, q3, -⟩ := q1
        simp only at q1 q2 q3
        have hle : (c0 ++ c).length ≤ a := hr.2.2.2.2.2.2
        refine ok_step (ps := []) (L' := [some (.ref 75), some (.int (nI lev)), some (.int (nI op)), some (.int (nI mo)), some (.int (nI j)), none]) (st' := [.int (nI mo), .int (nI j)]) (σ' := (β, δ)) (pc' := 42) kX2_readLevel_39 rfl rfl rf_a0 ?_
        refine ok_icmp_ge bX2_readLevel_42 (fun h42 => absurd h42 (nI_ge (by omega) (by omega))) (fun _ => ?_)
        refine ok_step (ps := []) (L' := [some (.ref 75), some (.int (nI lev)), some (.int (nI op)), some (.int (nI mo)), some (.int (nI j)), none]) (st' := [.ref 75]) (σ' := (β, δ)) (pc' := 46) kX2_readLevel_45 rfl rfl rf_a0 ?_
        refine ok_V (As := []) (b := 75) (st := []) mkX2_next qX2_readLevel_46 rfl (rc_75) rfl rfl rfl rfl (by omega) (c_nx hT hr (by omega)) ?_
        refine ok_S (As := [.int (nxb (α 27) n a)]) (st := []) mkX2_levelOf qX2_readLevel_49 rfl rfl rfl rfl rfl (by omega) (c_lv) ?_
        refine ok_step (ps := []) (L' := [some (.ref 75), some (.int (nI lev)), some (.int (nI op)), some (.int (nI mo)), some (.int (nI j)), none]) (st' := [.int (nI lev), .int (lvI (nxb (α 27) n a))]) (σ' := (β, δ)) (pc' := 53) kX2_readLevel_52 rfl rfl rf_a0 ?_
        refine ok_icmp_ne bX2_readLevel_53 (fun h53 => absurd (hv2) h53) (fun _ => ?_)
        refine ok_step (ps := []) (L' := [some (.ref 75), some (.int (nI lev)), some (.int (nI op)), some (.int (nI mo)), some (.int (nI j)), none]) (st' := [.ref 75]) (σ' := (β, δ)) (pc' := 57) kX2_readLevel_56 rfl rfl rf_a0 ?_
        refine ok_V (As := []) (b := 75) (st := []) mkX2_next qX2_readLevel_57 rfl (rc_75) rfl rfl rfl rfl (by omega) (c_nx hT hr (by omega)) ?_
        refine ok_step (ps := []) (L' := [some (.ref 75), some (.int (nI lev)), some (.int (nI op)), some (.int (nI mo)), some (.int (nI j)), some (.int (nxb (α 27) n a))]) (st' := [.int (nI op), .int ((nI lev) + (nI 1)), .ref 75]) (σ' := (rf_w β 75 3 ((β 75 3) + (nI 1)), δ)) (pc' := 77) kX2_readLevel_60 rfl rfl rf_a0 ?_
        try rw [(show β 75 3 = nI a from hr.2.2.2.1)]
        try rw [(show ((nI a) + (nI 1)) = nI (1 + a) from rf_eq (rf_nadd (x := nI a) (y := nI 1) rfl rfl) (by omega))]
        try rw [(show ((nI lev) + (nI 1)) = nI (1 + lev) from rf_eq (rf_nadd (x := nI lev) (y := nI 1) rfl rfl) (by omega))]
        refine ok_Vx (As := [.int (nI (1 + lev)), .int (nI op)]) (b := 75) (st := []) mkX2_readLevel qX2_readLevel_77 rfl (rc_75) rfl rfl rfl rfl (by omega) (RQ_t hsub e1) (fun r1 σ1 hq => ?_)
        obtain ⟨rfl, β2, rfl, hr2⟩ := hq
        have hl2 : (c0 ++ c ++ c2).length + 1 ≤ a2 := by simp only [List.length_append] at *; omega
        refine ok_if_ne bX2_readLevel_80 (fun _ => ?_) (fun h80 => absurd h80 ((by decide)))
        refine ok_step (ps := []) (L' := [some (.ref 75), some (.int (nI lev)), some (.int (nI op)), some (.int (nI mo)), some (.int (nI j)), some (.int (nxb (α 27) n a))]) (st' := [.int ((nI 20000) + (nxb (α 27) n a)), .ref 76]) (σ' := (β2, δ)) (pc' := 95) kX2_readLevel_85 rfl rfl rf_a0 ?_
        refine ok_V (As := [.int ((nI 20000) + (nxb (α 27) n a))]) (b := 76) (st := []) mkX8_add qX2_readLevel_95 rfl (rc_76) rfl rfl rfl rfl (by omega) (c_add hr2 (by first | omega | (simp only [List.length_append, List.length_cons, List.length_nil] at *; omega))) ?_
        refine ok_step (ps := []) (L' := [some (.ref 75), some (.int (nI lev)), some (.int (nI op)), some (.int (nI mo)), some (.int ((nI j) + (nI 1))), some (.int (nxb (α 27) n a))]) (st' := []) (σ' := (rf_w (rf_w β2 77 (c0 ++ c ++ c2).length ((nI 20000) + (nxb (α 27) n a))) 76 0 (nI (1 + (c0 ++ c ++ c2).length)), δ)) (pc' := 101) kX2_readLevel_98 rfl rfl rf_a0 ?_
        try rw [(show ((nI j) + (nI 1)) = nI (j + 1) from nI_add _ _)]
        refine ok_goto bX2_readLevel_101 ?_
        refine ok_kill (x := 5) ?_
        have hr3 := hr2.add (v := 20000 + nxb (α 27) n a) hl2
        rw [show c0 ++ c ++ c2 ++ [20000 + nxb (α 27) n a] = c0 ++ (c ++ c2 ++ [20000 + nxb (α 27) n a]) from by simp only [List.append_assoc]] at hr3
        exact ih (j + 1) a2 _ _ (by omega) q2 hr3
    · rw [if_neg hv]
      have hv2 : ¬ lvI ((nxb (α 27) n) a) = nI lev := fun e => hv ((lvI_eq hl).mp e)
      refine ok_step (ps := []) (L' := [some (.ref 75), some (.int (nI lev)), some (.int (nI op)), some (.int (nI mo)), some (.int (nI j)), none]) (st' := [.int (nI mo), .int (nI j)]) (σ' := (β, δ)) (pc' := 42) kX2_readLevel_39 rfl rfl rf_a0 ?_
      refine ok_icmp_ge bX2_readLevel_42 (fun h42 => absurd h42 (nI_ge (by omega) (by omega))) (fun _ => ?_)
      refine ok_step (ps := []) (L' := [some (.ref 75), some (.int (nI lev)), some (.int (nI op)), some (.int (nI mo)), some (.int (nI j)), none]) (st' := [.ref 75]) (σ' := (β, δ)) (pc' := 46) kX2_readLevel_45 rfl rfl rf_a0 ?_
      refine ok_V (As := []) (b := 75) (st := []) mkX2_next qX2_readLevel_46 rfl (rc_75) rfl rfl rfl rfl (by omega) (c_nx hT hr (by omega)) ?_
      refine ok_S (As := [.int (nxb (α 27) n a)]) (st := []) mkX2_levelOf qX2_readLevel_49 rfl rfl rfl rfl rfl (by omega) (c_lv) ?_
      refine ok_step (ps := []) (L' := [some (.ref 75), some (.int (nI lev)), some (.int (nI op)), some (.int (nI mo)), some (.int (nI j)), none]) (st' := [.int (nI lev), .int (lvI (nxb (α 27) n a))]) (σ' := (β, δ)) (pc' := 53) kX2_readLevel_52 rfl rfl rf_a0 ?_
      refine ok_icmp_ne bX2_readLevel_53 (fun _ => ?_) (fun h53 => absurd h53 (hv2))
      refine ok_step (ps := []) (L' := [some (.ref 75), some (.int (nI lev)), some (.int (nI op)), some (.int (nI mo)), some (.int (nI j)), none]) (st' := [.int (nI 1)]) (σ' := (β, δ)) (pc' := 105) kX2_readLevel_104 rfl rfl rf_a0 ?_
      refine ok_retz eX2_readLevel_105 rfl (Or.inr rfl) ?_
      exact ⟨rfl, β, _, rfl, hr, fun _ => rfl⟩
theorem c_lev {g : Nat → PR} {D lev op a : Nat} {c : List Int32} (hT : Tp α n) (hl : lev < 5) (ho : op ≤ 5) (hs : ∀ (a : Nat) (β : Nat → Nat → Int32) (c : List Int32), a ≤ n → Rd α β u n a c → rf_Ok (rf_T Ln xs) MX2_readLevel (D + 4) 0 [some (.ref 75), some (.int (nI (1 + lev))), some (.int (nI op)), none, none, none] [] (β, δ) (RQ α δ u n c (g a))) (hk : ∀ a, a ≤ n → PK u n a (g a)) (ha : a ≤ n) (hr : Rd α β u n a c) : rf_Ok (rf_T Ln xs) MX2_readLevel (D + 5) 0 [some (.ref 75), some (.int (nI lev)), some (.int (nI op)), none, none, none] [] (β, δ) (RQ α δ u n c (match g a with | (true, a2, c2) => prl (nxb (α 27) n) lev g (if lev = 2 then 1 else 50) a2 c2 | (false, a2, c2) => (false, a2, c2))) := by
  have hn := hT.1
  have hsub := hs a β c ha hr
  rcases e1 : g a with ⟨_ | _, a2, c2⟩
  · refine ok_step (ps := []) (L' := [some (.ref 75), some (.int (nI lev)), some (.int (nI op)), none, none, none]) (st' := [.int (nI 4), .int (nI lev)]) (σ' := (β, δ)) (pc' := 2) kX2_readLevel_0 rfl rfl rf_a0 ?_
    refine ok_icmp_le bX2_readLevel_2 (fun _ => ?_) (fun h2 => absurd (nI_le (by omega) (by omega)) h2)
    refine ok_step (ps := []) (L' := [some (.ref 75), some (.int (nI lev)), some (.int (nI op)), none, none, none]) (st' := [.int (nI op), .int ((nI lev) + (nI 1)), .ref 75]) (σ' := (β, δ)) (pc' := 16) kX2_readLevel_11 rfl rfl rf_a0 ?_
    try rw [(show ((nI lev) + (nI 1)) = nI (1 + lev) from rf_eq (rf_nadd (x := nI lev) (y := nI 1) rfl rfl) (by omega))]
    refine ok_Vx (As := [.int (nI (1 + lev)), .int (nI op)]) (b := 75) (st := []) mkX2_readLevel qX2_readLevel_16 rfl (rc_75) rfl rfl rfl rfl (by omega) (RQ_f hsub e1) (fun r1 σ1 hq => ?_)
    obtain ⟨rfl, β2, c3, rfl, hr2⟩ := hq
    refine ok_if_ne bX2_readLevel_19 (fun h19 => absurd ((by decide)) h19) (fun _ => ?_)
    refine ok_step (ps := []) (L' := [some (.ref 75), some (.int (nI lev)), some (.int (nI op)), none, none, none]) (st' := [.int (nI 0)]) (σ' := (β2, δ)) (pc' := 23) kX2_readLevel_22 rfl rfl rf_a0 ?_
    refine ok_retz eX2_readLevel_23 rfl (Or.inl rfl) ?_
    exact ⟨rfl, β2, _, rfl, hr2, fun h => Bool.noConfusion h⟩
  · have q1 := hk a ha
    rw [e1] at q1
    obtain ⟨q1, q2, q3, -⟩ := q1
    simp only at q1 q2 q3
    refine ok_step (ps := []) (L' := [some (.ref 75), some (.int (nI lev)), some (.int (nI op)), none, none, none]) (st' := [.int (nI 4), .int (nI lev)]) (σ' := (β, δ)) (pc' := 2) kX2_readLevel_0 rfl rfl rf_a0 ?_
    refine ok_icmp_le bX2_readLevel_2 (fun _ => ?_) (fun h2 => absurd (nI_le (by omega) (by omega)) h2)
    refine ok_step (ps := []) (L' := [some (.ref 75), some (.int (nI lev)), some (.int (nI op)), none, none, none]) (st' := [.int (nI op), .int ((nI lev) + (nI 1)), .ref 75]) (σ' := (β, δ)) (pc' := 16) kX2_readLevel_11 rfl rfl rf_a0 ?_
    try rw [(show ((nI lev) + (nI 1)) = nI (1 + lev) from rf_eq (rf_nadd (x := nI lev) (y := nI 1) rfl rfl) (by omega))]
    refine ok_Vx (As := [.int (nI (1 + lev)), .int (nI op)]) (b := 75) (st := []) mkX2_readLevel qX2_readLevel_16 rfl (rc_75) rfl rfl rfl rfl (by omega) (RQ_t hsub e1) (fun r1 σ1 hq => ?_)
    obtain ⟨rfl, β2, rfl, hr2⟩ := hq
    refine ok_if_ne bX2_readLevel_19 (fun _ => ?_) (fun h19 => absurd h19 ((by decide)))
    refine ok_step (ps := []) (L' := [some (.ref 75), some (.int (nI lev)), some (.int (nI op)), none, none, none]) (st' := [.int (nI 2), .int (nI lev)]) (σ' := (β2, δ)) (pc' := 26) kX2_readLevel_24 rfl rfl rf_a0 ?_
    refine ok_icmp_ne bX2_readLevel_26 (fun h26 => ?_) (fun h26 => ?_)
    · refine ok_step (ps := []) (L' := [some (.ref 75), some (.int (nI lev)), some (.int (nI op)), none, none, none]) (st' := [.int (nI 50)]) (σ' := (β2, δ)) (pc' := 35) kX2_readLevel_33 rfl rfl rf_a0 ?_
      refine ok_step (ps := []) (L' := [some (.ref 75), some (.int (nI lev)), some (.int (nI op)), some (.int (nI 50)), some (.int (nI 0)), none]) (st' := []) (σ' := (β2, δ)) (pc' := 39) kX2_readLevel_35 rfl rfl rf_a0 ?_
      rw [if_neg (fun e => h26 (by rw [e]))]
      exact c_lev_l hT hl ho (by decide) hs hk 50 0 a2 β2 c2 (by decide) q2 hr2
    · refine ok_step (ps := []) (L' := [some (.ref 75), some (.int (nI lev)), some (.int (nI op)), none, none, none]) (st' := [.int (nI 1)]) (σ' := (β2, δ)) (pc' := 30) kX2_readLevel_29 rfl rfl rf_a0 ?_
      refine ok_goto bX2_readLevel_30 ?_
      refine ok_step (ps := []) (L' := [some (.ref 75), some (.int (nI lev)), some (.int (nI op)), some (.int (nI 1)), some (.int (nI 0)), none]) (st' := []) (σ' := (β2, δ)) (pc' := 39) kX2_readLevel_35 rfl rfl rf_a0 ?_
      rw [if_pos (nI_inj h26 (by omega) (by decide))]
      exact c_lev_l hT hl ho (by decide) hs hk 1 0 a2 β2 c2 (by decide) q2 hr2
theorem c_num {c : List Int32} {a0 : Nat} (hT : Tp α n) (hc : c.length < a0) : ∀ (k j a : Nat) (β : Nat → Nat → Int32) (v : Int32), j + k = 4 → a ≤ n → a0 ≤ a → (Rd α β u n a c) → rf_Ok (rf_T Ln xs) MX2_readNumber 3 4 [some (.ref 75), some (.int v), some (.int (nI j))] [] (β, δ) (fun r s => r = none ∧ ∃ β2 : Nat → Nat → Int32, s = (β2, δ) ∧ Rd α β2 u n (prn (nxb (α 27) n) k a v).1 (c ++ [(prn (nxb (α 27) n) k a v).2])) := by
  have hn := hT.1
  intro k
  induction k with
  | zero =>
    intro j a β v hj ha h0 hr
    refine ok_step (ps := []) (L' := [some (.ref 75), some (.int v), some (.int (nI j))]) (st' := [.int (nI 4), .int (nI j)]) (σ' := (β, δ)) (pc' := 6) kX2_readNumber_4 rfl rfl rf_a0 ?_
    refine ok_icmp_ge bX2_readNumber_6 (fun _ => ?_) (fun h6 => absurd (nI_le (by omega) (by omega)) h6)
    refine ok_step (ps := []) (L' := [some (.ref 75), some (.int v), some (.int (nI j))]) (st' := [.int v, .ref 76]) (σ' := (β, δ)) (pc' := 53) kX2_readNumber_48 rfl rfl rf_a0 ?_
    refine ok_V (As := [.int v]) (b := 76) (st := []) mkX8_add qX2_readNumber_53 rfl (rc_76) rfl rfl rfl rfl (Nat.le_of_ble_eq_true rfl) (c_add hr (by first | omega | (simp only [List.length_append, List.length_cons, List.length_nil] at *; omega))) ?_
    refine ok_retv eX2_readNumber_56 rfl ?_
    exact ⟨rfl, _, rfl, hr.add (by omega)⟩
  | succ k ih =>
    intro j a β v hj ha h0 hr
    unfold prn
    by_cases hd : dgt ((nxb (α 27) n) a) = true
    · rw [if_pos hd, Nat.add_comm a 1]
      have han : a < n := nx_lt nxb_x (fun e => by rw [e] at hd; exact absurd hd (by decide))
      refine ok_step (ps := []) (L' := [some (.ref 75), some (.int v), some (.int (nI j))]) (st' := [.int (nI 4), .int (nI j)]) (σ' := (β, δ)) (pc' := 6) kX2_readNumber_4 rfl rfl rf_a0 ?_
      refine ok_icmp_ge bX2_readNumber_6 (fun h6 => absurd h6 (nI_ge (by omega) (by omega))) (fun _ => ?_)
      refine ok_step (ps := []) (L' := [some (.ref 75), some (.int v), some (.int (nI j))]) (st' := [.ref 75]) (σ' := (β, δ)) (pc' := 10) kX2_readNumber_9 rfl rfl rf_a0 ?_
      refine ok_V (As := []) (b := 75) (st := []) mkX2_next qX2_readNumber_10 rfl (rc_75) rfl rfl rfl rfl (Nat.le_of_ble_eq_true rfl) (c_nx hT hr (by omega)) ?_
      refine ok_S (As := [.int (nxb (α 27) n a)]) (st := []) mkX2_isDigit qX2_readNumber_13 rfl rfl rfl rfl rfl (Nat.le_of_ble_eq_true rfl) (c_dg) ?_
      refine ok_if_eq bX2_readNumber_16 (fun h16 => absurd h16 (bI_n0.mpr hd)) (fun _ => ?_)
      refine ok_step (ps := []) (L' := [some (.ref 75), some (.int v), some (.int (nI j))]) (st' := [.ref 75, .int (v * (nI 10))]) (σ' := (β, δ)) (pc' := 24) kX2_readNumber_19 rfl rfl rf_a0 ?_
      refine ok_V (As := []) (b := 75) (st := [.int (v * (nI 10))]) mkX2_next qX2_readNumber_24 rfl (rc_75) rfl rfl rfl rfl (Nat.le_of_ble_eq_true rfl) (c_nx hT hr (by omega)) ?_
      refine ok_step (ps := []) (L' := [some (.ref 75), some (.int (((v * (nI 10)) + (nxb (α 27) n a)) - (nI 48))), some (.int ((nI j) + (nI 1)))]) (st' := []) (σ' := (rf_w β 75 3 ((β 75 3) + (nI 1)), δ)) (pc' := 45) kX2_readNumber_27 rfl rfl rf_a0 ?_
      try rw [(show β 75 3 = nI a from hr.2.2.2.1)]
      try rw [(show ((nI a) + (nI 1)) = nI (1 + a) from rf_eq (rf_nadd (x := nI a) (y := nI 1) rfl rfl) (by omega))]
      try rw [(show ((nI j) + (nI 1)) = nI (j + 1) from nI_add _ _)]
      refine ok_goto bX2_readNumber_45 ?_
      exact ih (j + 1) (1 + a) _ _ (by omega) (by omega) (by omega) hr.to
    · rw [if_neg hd]
      refine ok_step (ps := []) (L' := [some (.ref 75), some (.int v), some (.int (nI j))]) (st' := [.int (nI 4), .int (nI j)]) (σ' := (β, δ)) (pc' := 6) kX2_readNumber_4 rfl rfl rf_a0 ?_
      refine ok_icmp_ge bX2_readNumber_6 (fun h6 => absurd h6 (nI_ge (by omega) (by omega))) (fun _ => ?_)
      refine ok_step (ps := []) (L' := [some (.ref 75), some (.int v), some (.int (nI j))]) (st' := [.ref 75]) (σ' := (β, δ)) (pc' := 10) kX2_readNumber_9 rfl rfl rf_a0 ?_
      refine ok_V (As := []) (b := 75) (st := []) mkX2_next qX2_readNumber_10 rfl (rc_75) rfl rfl rfl rfl (Nat.le_of_ble_eq_true rfl) (c_nx hT hr (by omega)) ?_
      refine ok_S (As := [.int (nxb (α 27) n a)]) (st := []) mkX2_isDigit qX2_readNumber_13 rfl rfl rfl rfl rfl (Nat.le_of_ble_eq_true rfl) (c_dg) ?_
      refine ok_if_eq bX2_readNumber_16 (fun _ => ?_) (fun h16 => absurd (bI_0.mpr (show dgt ((nxb (α 27) n) a) = false by simpa using hd)) h16)
      refine ok_step (ps := []) (L' := [some (.ref 75), some (.int v), some (.int (nI j))]) (st' := [.int v, .ref 76]) (σ' := (β, δ)) (pc' := 53) kX2_readNumber_48 rfl rfl rf_a0 ?_
      refine ok_V (As := [.int v]) (b := 76) (st := []) mkX8_add qX2_readNumber_53 rfl (rc_76) rfl rfl rfl rfl (Nat.le_of_ble_eq_true rfl) (c_add hr (by first | omega | (simp only [List.length_append, List.length_cons, List.length_nil] at *; omega))) ?_
      refine ok_retv eX2_readNumber_56 rfl ?_
      exact ⟨rfl, _, rfl, hr.add (by omega)⟩
end H56
