theorem jn2_124 {a b : Int32} : jn2 (nI 124) a b = bI (decide (¬ a = 0) || decide (¬ b = 0)) := by
  unfold jn2
  rw [if_pos (show nI 124 = 124 from rfl)]
theorem jn2_38 {a b : Int32} : jn2 (nI 38) a b = bI (decide (¬ a = 0) && decide (¬ b = 0)) := by
  unfold jn2
  rw [if_neg (show ¬ nI 38 = 124 by decide), if_pos (show nI 38 = 38 from rfl)]
theorem jn2_60 {a b : Int32} : jn2 (nI 60) a b = bI (decide (a < b)) := by
  unfold jn2
  rw [if_neg (show ¬ nI 60 = 124 by decide), if_neg (show ¬ nI 60 = 38 by decide), if_pos (show nI 60 = 60 from rfl)]
theorem jn2_61 {a b : Int32} : jn2 (nI 61) a b = bI (decide (a = b)) := by
  unfold jn2
  rw [if_neg (show ¬ nI 61 = 124 by decide), if_neg (show ¬ nI 61 = 38 by decide), if_neg (show ¬ nI 61 = 60 by decide), if_pos (show nI 61 = 61 from rfl)]
theorem jn2_62 {a b : Int32} : jn2 (nI 62) a b = bI (decide (b < a)) := by
  unfold jn2
  rw [if_neg (show ¬ nI 62 = 124 by decide), if_neg (show ¬ nI 62 = 38 by decide), if_neg (show ¬ nI 62 = 60 by decide), if_neg (show ¬ nI 62 = 61 by decide), if_pos (show nI 62 = 62 from rfl)]
theorem jn2_43 {a b : Int32} : jn2 (nI 43) a b = a + b := by
  unfold jn2
  rw [if_neg (show ¬ nI 43 = 124 by decide), if_neg (show ¬ nI 43 = 38 by decide), if_neg (show ¬ nI 43 = 60 by decide), if_neg (show ¬ nI 43 = 61 by decide), if_neg (show ¬ nI 43 = 62 by decide), if_pos (show nI 43 = 43 from rfl)]
theorem jn2_45 {a b : Int32} : jn2 (nI 45) a b = a - b := by
  unfold jn2
  rw [if_neg (show ¬ nI 45 = 124 by decide), if_neg (show ¬ nI 45 = 38 by decide), if_neg (show ¬ nI 45 = 60 by decide), if_neg (show ¬ nI 45 = 61 by decide), if_neg (show ¬ nI 45 = 62 by decide), if_neg (show ¬ nI 45 = 43 by decide), if_pos (show nI 45 = 45 from rfl)]
theorem jn2_42 {a b : Int32} : jn2 (nI 42) a b = a * b := by
  unfold jn2
  rw [if_neg (show ¬ nI 42 = 124 by decide), if_neg (show ¬ nI 42 = 38 by decide), if_neg (show ¬ nI 42 = 60 by decide), if_neg (show ¬ nI 42 = 61 by decide), if_neg (show ¬ nI 42 = 62 by decide), if_neg (show ¬ nI 42 = 43 by decide), if_neg (show ¬ nI 42 = 45 by decide), if_pos (show nI 42 = 42 from rfl)]
theorem jn2_47 {a b : Int32} : jn2 (nI 47) a b = (if b = 0 then 0 else a / b) := by
  unfold jn2
  rw [if_neg (show ¬ nI 47 = 124 by decide), if_neg (show ¬ nI 47 = 38 by decide), if_neg (show ¬ nI 47 = 60 by decide), if_neg (show ¬ nI 47 = 61 by decide), if_neg (show ¬ nI 47 = 62 by decide), if_neg (show ¬ nI 47 = 43 by decide), if_neg (show ¬ nI 47 = 45 by decide), if_neg (show ¬ nI 47 = 42 by decide), if_pos (show nI 47 = 47 from rfl)]
theorem jn2_37 {a b : Int32} : jn2 (nI 37) a b = (if b = 0 then 0 else a - a / b * b) := by
  unfold jn2
  rw [if_neg (show ¬ nI 37 = 124 by decide), if_neg (show ¬ nI 37 = 38 by decide), if_neg (show ¬ nI 37 = 60 by decide), if_neg (show ¬ nI 37 = 61 by decide), if_neg (show ¬ nI 37 = 62 by decide), if_neg (show ¬ nI 37 = 43 by decide), if_neg (show ¬ nI 37 = 45 by decide), if_neg (show ¬ nI 37 = 42 by decide), if_neg (show ¬ nI 37 = 47 by decide)]
theorem lv_0 {c : Int32} (h : lvl c = 0) : c = nI 124 := by
  unfold lvl at h
  repeat' split at h
  all_goals first | assumption | omega
theorem lv_1 {c : Int32} (h : lvl c = 1) : c = nI 38 := by
  unfold lvl at h
  repeat' split at h
  all_goals first | assumption | omega
theorem lv_2 {c : Int32} (h : lvl c = 2) : c = nI 60 ∨ c = nI 61 ∨ c = nI 62 := by
  unfold lvl at h
  repeat' split at h
  all_goals first | assumption | omega
theorem lv_3 {c : Int32} (h : lvl c = 3) : c = nI 43 ∨ c = nI 45 := by
  unfold lvl at h
  repeat' split at h
  all_goals first | assumption | omega
theorem lv_4 {c : Int32} (h : lvl c = 4) : c = nI 42 ∨ c = nI 47 ∨ c = nI 37 := by
  unfold lvl at h
  repeat' split at h
  all_goals first | assumption | omega
/-- the model's memory while it reads: where it is, its fault, how many are open -/
def mm (ν : Nat → Nat → Int32) (a fl op : Int32) : Nat → Nat → Int32 := fun k i => if k = 94 then (if i = 5 then a else if i = 7 then fl else if i = 8 then op else ν 94 i) else ν k i
theorem mm_5 {ν : Nat → Nat → Int32} {a fl op v : Int32} : rf_w (mm ν a fl op) 94 5 v = mm ν v fl op := by
  funext k i
  rw [rf_w_at]
  unfold mm
  by_cases h : k = 94
  · subst h
    by_cases h2 : i = 5
    · simp [h2]
    · simp [h2]
  · simp [h]
theorem mm_7 {ν : Nat → Nat → Int32} {a fl op v : Int32} : rf_w (mm ν a fl op) 94 7 v = mm ν a v op := by
  funext k i
  rw [rf_w_at]
  unfold mm
  by_cases h : k = 94
  · subst h
    by_cases h2 : i = 7
    · simp [h2]
    · simp [h2]
  · simp [h]
theorem mm_8 {ν : Nat → Nat → Int32} {a fl op v : Int32} : rf_w (mm ν a fl op) 94 8 v = mm ν a fl v := by
  funext k i
  rw [rf_w_at]
  unfold mm
  by_cases h : k = 94
  · subst h
    by_cases h2 : i = 8
    · simp [h2]
    · simp [h2]
  · simp [h]
/-- what is read: a text of n bytes from place b of the row, for use u -/
def En (ν : Nat → Nat → Int32) (u b n : Nat) : Prop := u ≤ 1 ∧ b + n ≤ 700 ∧ n ≤ 50 ∧ ν 94 4 = nI b ∧ ν 94 6 = nI n ∧ ν 94 9 = nI u
/-- the end of a level: read, with its number; or at fault -/
def PQ (α ν : Nat → Nat → Int32) (o : Int32) (P : PR) (r : Option Value) (s : rf_Mem) : Prop := (P.1 = true ∧ r = some (.int (evl (ν 98) P.2.2)) ∧ s = (α, mm ν (nI P.2.1) (-1) o)) ∨ (P.1 = false ∧ ∃ v o', r = some (.int v) ∧ s = (α, mm ν (nI P.2.1) (nI P.2.1) o'))
theorem PQ_t {T : rf_Tb} {M : rf_M} {d pc : Nat} {L : List (Option Value)} {st : List Value} {σ : rf_Mem} {α ν : Nat → Nat → Int32} {o : Int32} {P : PR} {a2 : Nat} {c2 : List Int32} (h : rf_Ok T M d pc L st σ (PQ α ν o P)) (e : P = (true, a2, c2)) : rf_At T M d pc (L, st, 108, σ) (some (.int (evl (ν 98) c2))) 108 (α, mm ν (nI a2) (-1) o) := by
  subst e
  obtain ⟨r, s, h1, ⟨-, rfl, rfl⟩ | ⟨h2, -⟩⟩ := h
  · exact h1
  · cases h2
theorem PQ_f {T : rf_Tb} {M : rf_M} {d pc : Nat} {L : List (Option Value)} {st : List Value} {σ : rf_Mem} {α ν : Nat → Nat → Int32} {o : Int32} {P : PR} {a2 : Nat} {c2 : List Int32} (h : rf_Ok T M d pc L st σ (PQ α ν o P)) (e : P = (false, a2, c2)) : ∃ v o', rf_At T M d pc (L, st, 108, σ) (some (.int v)) 108 (α, mm ν (nI a2) (nI a2) o') := by
  subst e
  obtain ⟨r, s, h1, ⟨h2, -⟩ | ⟨-, v, o', rfl, rfl⟩⟩ := h
  · cases h2
  · exact ⟨v, o', h1⟩
theorem nxb_y {b : Nat → Int32} {n a : Nat} {x : Nat → Int32} (hx : x = nxb b n) (h : n ≤ a) : x a = -1 := by rw [hx]; exact nxb_x a h
section H43
variable {Ln : Nat} {xs : Nat → Int32} {α ν : Nat → Nat → Int32} {u b n : Nat} {x : Nat → Int32} {o : Int32}
theorem m_here_1 {a : Nat} (hE : En ν u b n) (hx : x = nxb (fun i => ν 95 (b + i)) n) (ha : a < n) : rf_At (rf_T Ln xs) MX12_here 1 0 ([some (.ref 94)], [], 108, (α, mm ν (nI a) (-1) o)) (some (.int (x a))) 108 (α, mm ν (nI a) (-1) o) := by
  refine rf_pa ?_
  obtain ⟨h1, h2, h3, -⟩ := id hE
  refine ok_step (ps := []) (L' := [some (.ref 94)]) (st' := [.int ((mm ν (nI a) (-1) o) 94 6), .int ((mm ν (nI a) (-1) o) 94 5)]) (σ' := (α, mm ν (nI a) (-1) o)) (pc' := 8) kX12_here_0 rfl rfl rf_a0 ?_
  try rw [(show (mm ν (nI a) (-1) o) 94 5 = nI a from rfl)]
  try rw [(show (mm ν (nI a) (-1) o) 94 6 = nI n from hE.2.2.2.2.1)]
  refine ok_icmp_ge bX12_here_8 (fun h8 => absurd h8 (nI_ge (by omega) (by omega))) (fun _ => ?_)
  refine ok_step (ps := []) (L' := [some (.ref 94)]) (st' := [.int ((mm ν (nI a) (-1) o) 94 7)]) (σ' := (α, mm ν (nI a) (-1) o)) (pc' := 15) kX12_here_11 rfl rfl rf_a0 ?_
  try rw [(show (mm ν (nI a) (-1) o) 94 7 = (-1) from rfl)]
  refine ok_if_ge bX12_here_15 (fun h15 => absurd h15 (show ¬ (0 : Int32) ≤ -1 by decide)) (fun _ => ?_)
  refine ok_step (ps := [rf_in (((mm ν (nI a) (-1) o) 94 4) + ((mm ν (nI a) (-1) o) 94 5)) 700]) (L' := [some (.ref 94)]) (st' := [.int ((mm ν (nI a) (-1) o) 95 ((((mm ν (nI a) (-1) o) 94 4) + ((mm ν (nI a) (-1) o) 94 5)).toNatClampNeg))]) (σ' := (α, mm ν (nI a) (-1) o)) (pc' := 32) kX12_here_18 rfl rfl (rf_a1 (rf_in_n (a := (b + a)) (by (try rw [(show (mm ν (nI a) (-1) o) 94 4 = nI b from hE.2.2.2.1)]); (try rw [(show (mm ν (nI a) (-1) o) 94 5 = nI a from rfl)]); (try rw [(show ((nI b) + (nI a)) = nI (b + a) from rf_eq (rf_nadd (x := nI b) (y := nI a) rfl rfl) (by omega))]); all_goals exact rfl) (by omega)) rf_a0) ?_
  try rw [(show (mm ν (nI a) (-1) o) 94 4 = nI b from hE.2.2.2.1)]
  try rw [(show (mm ν (nI a) (-1) o) 94 5 = nI a from rfl)]
  try rw [(show ((nI b) + (nI a)) = nI (b + a) from rf_eq (rf_nadd (x := nI b) (y := nI a) rfl rfl) (by omega))]
  try rw [(show (nI (b + a)).toNatClampNeg = (b + a) from rf_cl_n rfl (by omega))]
  try rw [(show (mm ν (nI a) (-1) o) 95 (b + a) = ν 95 (b + a) from rfl)]
  refine ok_goto bX12_here_32 ?_
  refine ok_reti eX12_here_36 rfl ?_
  exact ⟨by rw [hx, nxb, if_pos ha], rfl⟩
theorem m_here_2 {a : Nat} (hE : En ν u b n) (hx : x = nxb (fun i => ν 95 (b + i)) n) (ha : n ≤ a) (ha2 : a ≤ 100) : rf_At (rf_T Ln xs) MX12_here 1 0 ([some (.ref 94)], [], 108, (α, mm ν (nI a) (-1) o)) (some (.int (x a))) 108 (α, mm ν (nI a) (-1) o) := by
  refine rf_pa ?_
  obtain ⟨h1, h2, h3, -⟩ := id hE
  refine ok_step (ps := []) (L' := [some (.ref 94)]) (st' := [.int ((mm ν (nI a) (-1) o) 94 6), .int ((mm ν (nI a) (-1) o) 94 5)]) (σ' := (α, mm ν (nI a) (-1) o)) (pc' := 8) kX12_here_0 rfl rfl rf_a0 ?_
  try rw [(show (mm ν (nI a) (-1) o) 94 5 = nI a from rfl)]
  try rw [(show (mm ν (nI a) (-1) o) 94 6 = nI n from hE.2.2.2.2.1)]
  refine ok_icmp_ge bX12_here_8 (fun _ => ?_) (fun h8 => absurd (nI_le (by omega) (by omega)) h8)
  refine ok_step (ps := []) (L' := [some (.ref 94)]) (st' := [.int (-1)]) (σ' := (α, mm ν (nI a) (-1) o)) (pc' := 36) kX12_here_35 rfl rfl rf_a0 ?_
  refine ok_reti eX12_here_36 rfl ?_
  exact ⟨by rw [hx, nxb, if_neg (by omega)], rfl⟩
theorem m_here {a : Nat} (hE : En ν u b n) (hx : x = nxb (fun i => ν 95 (b + i)) n) (ha : a ≤ 100) : rf_At (rf_T Ln xs) MX12_here 1 0 ([some (.ref 94)], [], 108, (α, mm ν (nI a) (-1) o)) (some (.int (x a))) 108 (α, mm ν (nI a) (-1) o) := by
  rcases Nat.lt_or_ge a n with h | h
  · exact m_here_1 hE hx h
  · exact m_here_2 hE hx h ha
theorem m_here_f {a k : Nat} (hE : En ν u b n) (hk : k ≤ 100) : rf_At (rf_T Ln xs) MX12_here 1 0 ([some (.ref 94)], [], 108, (α, mm ν (nI a) (nI k) o)) (some (.int ((-1)))) 108 (α, mm ν (nI a) (nI k) o) := by
  refine rf_pa ?_
  obtain ⟨h1, h2, h3, -⟩ := id hE
  refine ok_step (ps := []) (L' := [some (.ref 94)]) (st' := [.int ((mm ν (nI a) (nI k) o) 94 6), .int ((mm ν (nI a) (nI k) o) 94 5)]) (σ' := (α, mm ν (nI a) (nI k) o)) (pc' := 8) kX12_here_0 rfl rfl rf_a0 ?_
  try rw [(show (mm ν (nI a) (nI k) o) 94 5 = nI a from rfl)]
  try rw [(show (mm ν (nI a) (nI k) o) 94 6 = nI n from hE.2.2.2.2.1)]
  refine ok_icmp_ge bX12_here_8 (fun h8 => ?_) (fun h8 => ?_)
  · refine ok_step (ps := []) (L' := [some (.ref 94)]) (st' := [.int (-1)]) (σ' := (α, mm ν (nI a) (nI k) o)) (pc' := 36) kX12_here_35 rfl rfl rf_a0 ?_
    refine ok_reti eX12_here_36 rfl ?_
    exact ⟨rfl, rfl⟩
  · refine ok_step (ps := []) (L' := [some (.ref 94)]) (st' := [.int ((mm ν (nI a) (nI k) o) 94 7)]) (σ' := (α, mm ν (nI a) (nI k) o)) (pc' := 15) kX12_here_11 rfl rfl rf_a0 ?_
    try rw [(show (mm ν (nI a) (nI k) o) 94 7 = nI k from rfl)]
    refine ok_if_ge bX12_here_15 (fun _ => ?_) (fun h15 => absurd (nI_pos' (by omega)) h15)
    refine ok_step (ps := []) (L' := [some (.ref 94)]) (st' := [.int (-1)]) (σ' := (α, mm ν (nI a) (nI k) o)) (pc' := 36) kX12_here_35 rfl rfl rf_a0 ?_
    refine ok_reti eX12_here_36 rfl ?_
    exact ⟨rfl, rfl⟩
theorem m_takes_t {a : Nat} {c : Int32} (hE : En ν u b n) (hx : x = nxb (fun i => ν 95 (b + i)) n) (ha : a ≤ 99) (hc : x a = c) : rf_At (rf_T Ln xs) MX12_takes 2 0 ([some (.ref 94), some (.int c)], [], 108, (α, mm ν (nI a) (-1) o)) (some (.int (nI 1))) 108 (α, mm ν (nI (1 + a)) (-1) o) := by
  refine rf_pa ?_
  obtain ⟨h1, h2, h3, -⟩ := id hE
  refine ok_step (ps := []) (L' := [some (.ref 94), some (.int c)]) (st' := [.ref 94]) (σ' := (α, mm ν (nI a) (-1) o)) (pc' := 1) kX12_takes_0 rfl rfl rf_a0 ?_
  refine ok_V (As := []) (b := 94) (st := []) mkX12_here qX12_takes_1 rfl (rc_94) rfl rfl rfl rfl (Nat.le_of_ble_eq_true rfl) (m_here hE hx (by omega)) ?_
  refine ok_step (ps := []) (L' := [some (.ref 94), some (.int c)]) (st' := [.int c, .int (x a)]) (σ' := (α, mm ν (nI a) (-1) o)) (pc' := 5) kX12_takes_4 rfl rfl rf_a0 ?_
  refine ok_icmp_eq bX12_takes_5 (fun _ => ?_) (fun h5 => absurd (hc) h5)
  refine ok_step (ps := []) (L' := [some (.ref 94), some (.int c)]) (st' := [.int (nI 1)]) (σ' := (α, rf_w (mm ν (nI a) (-1) o) 94 5 (((mm ν (nI a) (-1) o) 94 5) + (nI 1)))) (pc' := 21) kX12_takes_10 rfl rfl rf_a0 ?_
  try rw [(show (mm ν (nI a) (-1) o) 94 5 = nI a from rfl)]
  try rw [(show ((nI a) + (nI 1)) = nI (1 + a) from rf_eq (rf_nadd (x := nI a) (y := nI 1) rfl rfl) (by omega))]
  rw [mm_5]
  refine ok_retz eX12_takes_21 rfl (Or.inr rfl) ?_
  exact ⟨rfl, rfl⟩
theorem m_takes_n {a : Nat} {c : Int32} (hE : En ν u b n) (hx : x = nxb (fun i => ν 95 (b + i)) n) (ha : a ≤ 99) (hc : ¬ x a = c) : rf_At (rf_T Ln xs) MX12_takes 2 0 ([some (.ref 94), some (.int c)], [], 108, (α, mm ν (nI a) (-1) o)) (some (.int (nI 0))) 108 (α, mm ν (nI a) (-1) o) := by
  refine rf_pa ?_
  obtain ⟨h1, h2, h3, -⟩ := id hE
  refine ok_step (ps := []) (L' := [some (.ref 94), some (.int c)]) (st' := [.ref 94]) (σ' := (α, mm ν (nI a) (-1) o)) (pc' := 1) kX12_takes_0 rfl rfl rf_a0 ?_
  refine ok_V (As := []) (b := 94) (st := []) mkX12_here qX12_takes_1 rfl (rc_94) rfl rfl rfl rfl (Nat.le_of_ble_eq_true rfl) (m_here hE hx (by omega)) ?_
  refine ok_step (ps := []) (L' := [some (.ref 94), some (.int c)]) (st' := [.int c, .int (x a)]) (σ' := (α, mm ν (nI a) (-1) o)) (pc' := 5) kX12_takes_4 rfl rfl rf_a0 ?_
  refine ok_icmp_eq bX12_takes_5 (fun h5 => absurd h5 (hc)) (fun _ => ?_)
  refine ok_step (ps := []) (L' := [some (.ref 94), some (.int c)]) (st' := [.int (nI 0)]) (σ' := (α, mm ν (nI a) (-1) o)) (pc' := 9) kX12_takes_8 rfl rfl rf_a0 ?_
  refine ok_retz eX12_takes_9 rfl (Or.inl rfl) ?_
  exact ⟨rfl, rfl⟩
theorem m_takes_f {a k : Nat} {c : Int32} (hE : En ν u b n) (hk : k ≤ 100) (hc : ¬ (-1) = c) : rf_At (rf_T Ln xs) MX12_takes 2 0 ([some (.ref 94), some (.int c)], [], 108, (α, mm ν (nI a) (nI k) o)) (some (.int (nI 0))) 108 (α, mm ν (nI a) (nI k) o) := by
  refine rf_pa ?_
  obtain ⟨h1, h2, h3, -⟩ := id hE
  refine ok_step (ps := []) (L' := [some (.ref 94), some (.int c)]) (st' := [.ref 94]) (σ' := (α, mm ν (nI a) (nI k) o)) (pc' := 1) kX12_takes_0 rfl rfl rf_a0 ?_
  refine ok_V (As := []) (b := 94) (st := []) mkX12_here qX12_takes_1 rfl (rc_94) rfl rfl rfl rfl (Nat.le_of_ble_eq_true rfl) (m_here_f hE (by omega)) ?_
  refine ok_step (ps := []) (L' := [some (.ref 94), some (.int c)]) (st' := [.int c, .int (-1)]) (σ' := (α, mm ν (nI a) (nI k) o)) (pc' := 5) kX12_takes_4 rfl rfl rf_a0 ?_
  refine ok_icmp_eq bX12_takes_5 (fun h5 => absurd h5 (hc)) (fun _ => ?_)
  refine ok_step (ps := []) (L' := [some (.ref 94), some (.int c)]) (st' := [.int (nI 0)]) (σ' := (α, mm ν (nI a) (nI k) o)) (pc' := 9) kX12_takes_8 rfl rfl rf_a0 ?_
  refine ok_retz eX12_takes_9 rfl (Or.inl rfl) ?_
  exact ⟨rfl, rfl⟩
theorem m_wrong {a : Nat} (hE : En ν u b n) : rf_At (rf_T Ln xs) MX12_wrong 1 0 ([some (.ref 94)], [], 108, (α, mm ν (nI a) (-1) o)) (some (.int (nI 0))) 108 (α, mm ν (nI a) (nI a) o) := by
  refine rf_pa ?_
  obtain ⟨h1, h2, h3, -⟩ := id hE
  refine ok_step (ps := []) (L' := [some (.ref 94)]) (st' := [.int ((mm ν (nI a) (-1) o) 94 7), .ref 94]) (σ' := (α, mm ν (nI a) (-1) o)) (pc' := 5) kX12_wrong_0 rfl rfl rf_a0 ?_
  try rw [(show (mm ν (nI a) (-1) o) 94 7 = (-1) from rfl)]
  refine ok_if_ge bX12_wrong_5 (fun h5 => absurd h5 (show ¬ (0 : Int32) ≤ -1 by decide)) (fun _ => ?_)
  refine ok_step (ps := []) (L' := [some (.ref 94)]) (st' := [.int ((mm ν (nI a) (-1) o) 94 5), .ref 94]) (σ' := (α, mm ν (nI a) (-1) o)) (pc' := 12) kX12_wrong_8 rfl rfl rf_a0 ?_
  try rw [(show (mm ν (nI a) (-1) o) 94 5 = nI a from rfl)]
  refine ok_goto bX12_wrong_12 ?_
  refine ok_step (ps := []) (L' := [some (.ref 94)]) (st' := [.int (nI 0)]) (σ' := (α, rf_w (mm ν (nI a) (-1) o) 94 7 (nI a))) (pc' := 23) kX12_wrong_19 rfl rfl rf_a0 ?_
  rw [mm_7]
  refine ok_reti eX12_wrong_23 rfl ?_
  exact ⟨rfl, rfl⟩
theorem m_wrong_f {a k : Nat} (hE : En ν u b n) (hk : k ≤ 100) : rf_At (rf_T Ln xs) MX12_wrong 1 0 ([some (.ref 94)], [], 108, (α, mm ν (nI a) (nI k) o)) (some (.int (nI 0))) 108 (α, mm ν (nI a) (nI k) o) := by
  refine rf_pa ?_
  obtain ⟨h1, h2, h3, -⟩ := id hE
  refine ok_step (ps := []) (L' := [some (.ref 94)]) (st' := [.int ((mm ν (nI a) (nI k) o) 94 7), .ref 94]) (σ' := (α, mm ν (nI a) (nI k) o)) (pc' := 5) kX12_wrong_0 rfl rfl rf_a0 ?_
  try rw [(show (mm ν (nI a) (nI k) o) 94 7 = nI k from rfl)]
  refine ok_if_ge bX12_wrong_5 (fun _ => ?_) (fun h5 => absurd (nI_pos' (by omega)) h5)
  refine ok_step (ps := []) (L' := [some (.ref 94)]) (st' := [.int ((mm ν (nI a) (nI k) o) 94 7), .ref 94]) (σ' := (α, mm ν (nI a) (nI k) o)) (pc' := 19) kX12_wrong_15 rfl rfl rf_a0 ?_
  try rw [(show (mm ν (nI a) (nI k) o) 94 7 = nI k from rfl)]
  refine ok_step (ps := []) (L' := [some (.ref 94)]) (st' := [.int (nI 0)]) (σ' := (α, rf_w (mm ν (nI a) (nI k) o) 94 7 (nI k))) (pc' := 23) kX12_wrong_19 rfl rfl rf_a0 ?_
  rw [mm_7]
  refine ok_reti eX12_wrong_23 rfl ?_
  exact ⟨rfl, rfl⟩
theorem m_nameOf_0 {c a fl : Int32} (hE : En ν 0 b n) : rf_At (rf_T Ln xs) MX12_nameOf 1 0 ([some (.ref 94), some (.int c)], [], 108, (α, mm ν a fl o)) (some (.int (nmi 0 c))) 108 (α, mm ν a fl o) := by
  refine rf_pa ?_
  refine ok_step (ps := []) (L' := [some (.ref 94), some (.int c)]) (st' := [.int ((mm ν a fl o) 94 9)]) (σ' := (α, mm ν a fl o)) (pc' := 4) kX12_nameOf_0 rfl rfl rf_a0 ?_
  try rw [(show (mm ν a fl o) 94 9 = nI 0 from hE.2.2.2.2.2)]
  refine ok_if_eq bX12_nameOf_4 (fun _ => ?_) (fun h4 => absurd (rfl) h4)
  refine ok_step (ps := []) (L' := [some (.ref 94), some (.int c)]) (st' := [.int (nI 102), .int c]) (σ' := (α, mm ν a fl o)) (pc' := 52) kX12_nameOf_49 rfl rfl rf_a0 ?_
  refine ok_icmp_ne bX12_nameOf_52 (fun h52 => ?_) (fun h52 => ?_)
  · refine ok_step (ps := []) (L' := [some (.ref 94), some (.int c)]) (st' := [.int (nI 103), .int c]) (σ' := (α, mm ν a fl o)) (pc' := 62) kX12_nameOf_59 rfl rfl rf_a0 ?_
    refine ok_icmp_ne bX12_nameOf_62 (fun h62 => ?_) (fun h62 => ?_)
    · refine ok_step (ps := []) (L' := [some (.ref 94), some (.int c)]) (st' := [.int (nI 112), .int c]) (σ' := (α, mm ν a fl o)) (pc' := 72) kX12_nameOf_69 rfl rfl rf_a0 ?_
      refine ok_icmp_ne bX12_nameOf_72 (fun h72 => ?_) (fun h72 => ?_)
      · refine ok_step (ps := []) (L' := [some (.ref 94), some (.int c)]) (st' := [.int (nI 113), .int c]) (σ' := (α, mm ν a fl o)) (pc' := 82) kX12_nameOf_79 rfl rfl rf_a0 ?_
        refine ok_icmp_ne bX12_nameOf_82 (fun h82 => ?_) (fun h82 => ?_)
        · refine ok_step (ps := []) (L' := [some (.ref 94), some (.int c)]) (st' := [.int (nI 110), .int c]) (σ' := (α, mm ν a fl o)) (pc' := 92) kX12_nameOf_89 rfl rfl rf_a0 ?_
          refine ok_icmp_ne bX12_nameOf_92 (fun h92 => ?_) (fun h92 => ?_)
          · refine ok_step (ps := []) (L' := [some (.ref 94), some (.int c)]) (st' := [.int (-1)]) (σ' := (α, mm ν a fl o)) (pc' := 100) kX12_nameOf_99 rfl rfl rf_a0 ?_
            refine ok_reti eX12_nameOf_100 rfl ?_
            exact ⟨by unfold nmi; rw [if_pos rfl, if_neg (show ¬ c = 102 from h52), if_neg (show ¬ c = 103 from h62), if_neg (show ¬ c = 112 from h72), if_neg (show ¬ c = 113 from h82), if_neg (show ¬ c = 110 from h92)], rfl⟩
          · refine ok_step (ps := []) (L' := [some (.ref 94), some (.int c)]) (st' := [.int (nI 4)]) (σ' := (α, mm ν a fl o)) (pc' := 96) kX12_nameOf_95 rfl rfl rf_a0 ?_
            refine ok_goto bX12_nameOf_96 ?_
            refine ok_reti eX12_nameOf_100 rfl ?_
            exact ⟨by unfold nmi; rw [if_pos rfl, if_neg (show ¬ c = 102 from h52), if_neg (show ¬ c = 103 from h62), if_neg (show ¬ c = 112 from h72), if_neg (show ¬ c = 113 from h82), if_pos (show c = 110 from h92)]; rfl, rfl⟩
        · refine ok_step (ps := []) (L' := [some (.ref 94), some (.int c)]) (st' := [.int (nI 3)]) (σ' := (α, mm ν a fl o)) (pc' := 86) kX12_nameOf_85 rfl rfl rf_a0 ?_
          refine ok_goto bX12_nameOf_86 ?_
          refine ok_reti eX12_nameOf_100 rfl ?_
          exact ⟨by unfold nmi; rw [if_pos rfl, if_neg (show ¬ c = 102 from h52), if_neg (show ¬ c = 103 from h62), if_neg (show ¬ c = 112 from h72), if_pos (show c = 113 from h82)]; rfl, rfl⟩
      · refine ok_step (ps := []) (L' := [some (.ref 94), some (.int c)]) (st' := [.int (nI 2)]) (σ' := (α, mm ν a fl o)) (pc' := 76) kX12_nameOf_75 rfl rfl rf_a0 ?_
        refine ok_goto bX12_nameOf_76 ?_
        refine ok_reti eX12_nameOf_100 rfl ?_
        exact ⟨by unfold nmi; rw [if_pos rfl, if_neg (show ¬ c = 102 from h52), if_neg (show ¬ c = 103 from h62), if_pos (show c = 112 from h72)]; rfl, rfl⟩
    · refine ok_step (ps := []) (L' := [some (.ref 94), some (.int c)]) (st' := [.int (nI 1)]) (σ' := (α, mm ν a fl o)) (pc' := 66) kX12_nameOf_65 rfl rfl rf_a0 ?_
      refine ok_goto bX12_nameOf_66 ?_
      refine ok_reti eX12_nameOf_100 rfl ?_
      exact ⟨by unfold nmi; rw [if_pos rfl, if_neg (show ¬ c = 102 from h52), if_pos (show c = 103 from h62)]; rfl, rfl⟩
  · refine ok_step (ps := []) (L' := [some (.ref 94), some (.int c)]) (st' := [.int (nI 0)]) (σ' := (α, mm ν a fl o)) (pc' := 56) kX12_nameOf_55 rfl rfl rf_a0 ?_
    refine ok_goto bX12_nameOf_56 ?_
    refine ok_reti eX12_nameOf_100 rfl ?_
    exact ⟨by unfold nmi; rw [if_pos rfl, if_pos (show c = 102 from h52)]; rfl, rfl⟩
theorem m_nameOf_1 {c a fl : Int32} (hE : En ν 1 b n) : rf_At (rf_T Ln xs) MX12_nameOf 1 0 ([some (.ref 94), some (.int c)], [], 108, (α, mm ν a fl o)) (some (.int (nmi 1 c))) 108 (α, mm ν a fl o) := by
  refine rf_pa ?_
  refine ok_step (ps := []) (L' := [some (.ref 94), some (.int c)]) (st' := [.int ((mm ν a fl o) 94 9)]) (σ' := (α, mm ν a fl o)) (pc' := 4) kX12_nameOf_0 rfl rfl rf_a0 ?_
  try rw [(show (mm ν a fl o) 94 9 = nI 1 from hE.2.2.2.2.2)]
  refine ok_if_eq bX12_nameOf_4 (fun h4 => absurd h4 (by decide)) (fun _ => ?_)
  refine ok_step (ps := []) (L' := [some (.ref 94), some (.int c)]) (st' := [.int (nI 110), .int c]) (σ' := (α, mm ν a fl o)) (pc' := 10) kX12_nameOf_7 rfl rfl rf_a0 ?_
  refine ok_icmp_ne bX12_nameOf_10 (fun h10 => ?_) (fun h10 => ?_)
  · refine ok_step (ps := []) (L' := [some (.ref 94), some (.int c)]) (st' := [.int (nI 108), .int c]) (σ' := (α, mm ν a fl o)) (pc' := 20) kX12_nameOf_17 rfl rfl rf_a0 ?_
    refine ok_icmp_ne bX12_nameOf_20 (fun h20 => ?_) (fun h20 => ?_)
    · refine ok_step (ps := []) (L' := [some (.ref 94), some (.int c)]) (st' := [.int (nI 103), .int c]) (σ' := (α, mm ν a fl o)) (pc' := 30) kX12_nameOf_27 rfl rfl rf_a0 ?_
      refine ok_icmp_ne bX12_nameOf_30 (fun h30 => ?_) (fun h30 => ?_)
      · refine ok_step (ps := []) (L' := [some (.ref 94), some (.int c)]) (st' := [.int (nI 98), .int c]) (σ' := (α, mm ν a fl o)) (pc' := 40) kX12_nameOf_37 rfl rfl rf_a0 ?_
        refine ok_icmp_ne bX12_nameOf_40 (fun h40 => ?_) (fun h40 => ?_)
        · refine ok_step (ps := []) (L' := [some (.ref 94), some (.int c)]) (st' := [.int (-1)]) (σ' := (α, mm ν a fl o)) (pc' := 48) kX12_nameOf_47 rfl rfl rf_a0 ?_
          refine ok_reti eX12_nameOf_48 rfl ?_
          exact ⟨by unfold nmi; rw [if_neg (by decide), if_neg (show ¬ c = 110 from h10), if_neg (show ¬ c = 108 from h20), if_neg (show ¬ c = 103 from h30), if_neg (show ¬ c = 98 from h40)], rfl⟩
        · refine ok_step (ps := []) (L' := [some (.ref 94), some (.int c)]) (st' := [.int (nI 3)]) (σ' := (α, mm ν a fl o)) (pc' := 44) kX12_nameOf_43 rfl rfl rf_a0 ?_
          refine ok_goto bX12_nameOf_44 ?_
          refine ok_reti eX12_nameOf_48 rfl ?_
          exact ⟨by unfold nmi; rw [if_neg (by decide), if_neg (show ¬ c = 110 from h10), if_neg (show ¬ c = 108 from h20), if_neg (show ¬ c = 103 from h30), if_pos (show c = 98 from h40)]; rfl, rfl⟩
      · refine ok_step (ps := []) (L' := [some (.ref 94), some (.int c)]) (st' := [.int (nI 2)]) (σ' := (α, mm ν a fl o)) (pc' := 34) kX12_nameOf_33 rfl rfl rf_a0 ?_
        refine ok_goto bX12_nameOf_34 ?_
        refine ok_reti eX12_nameOf_48 rfl ?_
        exact ⟨by unfold nmi; rw [if_neg (by decide), if_neg (show ¬ c = 110 from h10), if_neg (show ¬ c = 108 from h20), if_pos (show c = 103 from h30)]; rfl, rfl⟩
    · refine ok_step (ps := []) (L' := [some (.ref 94), some (.int c)]) (st' := [.int (nI 1)]) (σ' := (α, mm ν a fl o)) (pc' := 24) kX12_nameOf_23 rfl rfl rf_a0 ?_
      refine ok_goto bX12_nameOf_24 ?_
      refine ok_reti eX12_nameOf_48 rfl ?_
      exact ⟨by unfold nmi; rw [if_neg (by decide), if_neg (show ¬ c = 110 from h10), if_pos (show c = 108 from h20)]; rfl, rfl⟩
  · refine ok_step (ps := []) (L' := [some (.ref 94), some (.int c)]) (st' := [.int (nI 0)]) (σ' := (α, mm ν a fl o)) (pc' := 14) kX12_nameOf_13 rfl rfl rf_a0 ?_
    refine ok_goto bX12_nameOf_14 ?_
    refine ok_reti eX12_nameOf_48 rfl ?_
    exact ⟨by unfold nmi; rw [if_neg (by decide), if_pos (show c = 110 from h10)]; rfl, rfl⟩
theorem m_nameOf {c a fl : Int32} (hE : En ν u b n) : rf_At (rf_T Ln xs) MX12_nameOf 1 0 ([some (.ref 94), some (.int c)], [], 108, (α, mm ν a fl o)) (some (.int (nmi u c))) 108 (α, mm ν a fl o) := by
  have hu : u = 0 ∨ u = 1 := by have := hE.1; omega
  rcases hu with rfl | rfl
  · exact m_nameOf_0 hE
  · exact m_nameOf_1 hE
theorem m_either_f {g : Nat → PR} {D a k : Nat} {v : Int32} (hE : En ν u b n) (hk : k ≤ 100) : rf_Ok (rf_T Ln xs) MX12_either (D + 5) 5 [some (.ref 94), some (.int v), none] [] (α, mm ν (nI a) (nI k) o) (fun r s => ∃ v, r = some (.int v) ∧ s = (α, mm ν (nI a) (nI k) o)) := by
  refine ok_step (ps := []) (L' := [some (.ref 94), some (.int v), none]) (st' := [.int (nI 124), .ref 94]) (σ' := (α, mm ν (nI a) (nI k) o)) (pc' := 8) kX12_either_5 rfl rfl rf_a0 ?_
  refine ok_V (As := [.int (nI 124)]) (b := 94) (st := []) mkX12_takes qX12_either_8 rfl (rc_94) rfl rfl rfl rfl (by omega) (m_takes_f hE (by omega) (by decide)) ?_
  refine ok_if_eq bX12_either_11 (fun _ => ?_) (fun h11 => absurd ((by decide)) h11)
  refine ok_step (ps := []) (L' := [some (.ref 94), some (.int v), none]) (st' := [.int v]) (σ' := (α, mm ν (nI a) (nI k) o)) (pc' := 37) kX12_either_36 rfl rfl rf_a0 ?_
  refine ok_reti eX12_either_37 rfl ?_
  exact ⟨_, rfl, rfl⟩
theorem m_either_l {g : Nat → PR} {D : Nat} (hE : En ν u b n) (hx : x = nxb (fun i => ν 95 (b + i)) n) (hs : ∀ a, a ≤ n → rf_Ok (rf_T Ln xs) MX12_both (D + 4) 0 [some (.ref 94), none, none] [] (α, mm ν (nI a) (-1) o) (PQ α ν o (g a))) (hk : ∀ a, a ≤ n → PK u n a (g a)) (hv : ∀ a, a ≤ n → (g a).1 = true → EV (ν 98) (g a).2.2) : ∀ (k a : Nat) (c : List Int32), a ≤ n → n < k + a → EV (ν 98) c → rf_Ok (rf_T Ln xs) MX12_either (D + 5) 5 [some (.ref 94), some (.int (evl (ν 98) c)), none] [] (α, mm ν (nI a) (-1) o) (PQ α ν o (prl x 0 g k a c)) := by
  have hn := hE.2.2.1
  intro k
  induction k with
  | zero =>
    intro a c h1 h2
    omega
  | succ k ih =>
    intro a c h1 h2 he
    unfold prl
    by_cases hl : lvl (x a) = 0
    · rw [if_pos hl, Nat.add_comm a 1]
      have han : a < n := lvl_lt (fun a h => nxb_y hx h) (by decide) hl
      rcases lv_0 hl with hc
      · rcases e1 : g (1 + a) with ⟨_ | _, a2, c2⟩
        · have q1 := hk (1 + a) (by omega)
          rw [e1] at q1
          obtain ⟨q1, q2, -⟩ := q1
          simp only at q1 q2
          obtain ⟨v1, o1, hc1⟩ := PQ_f (hs (1 + a) (by omega)) e1
          refine ok_step (ps := []) (L' := [some (.ref 94), some (.int (evl (ν 98) c)), none]) (st' := [.int (nI 124), .ref 94]) (σ' := (α, mm ν (nI a) (-1) o)) (pc' := 8) kX12_either_5 rfl rfl rf_a0 ?_
          refine ok_V (As := [.int (nI 124)]) (b := 94) (st := []) mkX12_takes qX12_either_8 rfl (rc_94) rfl rfl rfl rfl (by omega) (m_takes_t hE hx (by omega) hc) ?_
          refine ok_if_eq bX12_either_11 (fun h11 => absurd h11 ((by decide))) (fun _ => ?_)
          refine ok_step (ps := []) (L' := [some (.ref 94), some (.int (evl (ν 98) c)), none]) (st' := [.ref 94]) (σ' := (α, mm ν (nI (1 + a)) (-1) o)) (pc' := 15) kX12_either_14 rfl rfl rf_a0 ?_
          refine ok_V (As := []) (b := 94) (st := []) mkX12_both qX12_either_15 rfl (rc_94) rfl rfl rfl rfl (by omega) (hc1) ?_
          refine ok_step (ps := []) (L' := [some (.ref 94), some (.int (evl (ν 98) c)), some (.int v1)]) (st' := [.int (evl (ν 98) c)]) (σ' := (α, mm ν (nI a2) (nI a2) o1)) (pc' := 20) kX12_either_18 rfl rfl rf_a0 ?_
          refine ok_if_ne bX12_either_20 (fun h20 => ?_) (fun h20 => ?_)
          · refine ok_step (ps := []) (L' := [some (.ref 94), some (.int (evl (ν 98) c)), some (.int v1)]) (st' := [.int (nI 1)]) (σ' := (α, mm ν (nI a2) (nI a2) o1)) (pc' := 28) kX12_either_27 rfl rfl rf_a0 ?_
            refine ok_goto bX12_either_28 ?_
            refine ok_step (ps := []) (L' := [some (.ref 94), some (.int (nI 1)), some (.int v1)]) (st' := []) (σ' := (α, mm ν (nI a2) (nI a2) o1)) (pc' := 33) kX12_either_32 rfl rfl rf_a0 ?_
            refine ok_goto bX12_either_33 ?_
            refine ok_kill (x := 2) ?_
            exact (m_either_f (g := g) hE (by omega)).mono (fun r s hq => by obtain ⟨v, rfl, rfl⟩ := hq; exact Or.inr ⟨rfl, _, _, rfl, rfl⟩)
          · refine ok_step (ps := []) (L' := [some (.ref 94), some (.int (evl (ν 98) c)), some (.int v1)]) (st' := [.int v1]) (σ' := (α, mm ν (nI a2) (nI a2) o1)) (pc' := 24) kX12_either_23 rfl rfl rf_a0 ?_
            refine ok_if_eq bX12_either_24 (fun h24 => ?_) (fun h24 => ?_)
            · refine ok_step (ps := []) (L' := [some (.ref 94), some (.int (evl (ν 98) c)), some (.int v1)]) (st' := [.int (nI 0)]) (σ' := (α, mm ν (nI a2) (nI a2) o1)) (pc' := 32) kX12_either_31 rfl rfl rf_a0 ?_
              refine ok_step (ps := []) (L' := [some (.ref 94), some (.int (nI 0)), some (.int v1)]) (st' := []) (σ' := (α, mm ν (nI a2) (nI a2) o1)) (pc' := 33) kX12_either_32 rfl rfl rf_a0 ?_
              refine ok_goto bX12_either_33 ?_
              refine ok_kill (x := 2) ?_
              exact (m_either_f (g := g) hE (by omega)).mono (fun r s hq => by obtain ⟨v, rfl, rfl⟩ := hq; exact Or.inr ⟨rfl, _, _, rfl, rfl⟩)
            · refine ok_step (ps := []) (L' := [some (.ref 94), some (.int (evl (ν 98) c)), some (.int v1)]) (st' := [.int (nI 1)]) (σ' := (α, mm ν (nI a2) (nI a2) o1)) (pc' := 28) kX12_either_27 rfl rfl rf_a0 ?_
              refine ok_goto bX12_either_28 ?_
              refine ok_step (ps := []) (L' := [some (.ref 94), some (.int (nI 1)), some (.int v1)]) (st' := []) (σ' := (α, mm ν (nI a2) (nI a2) o1)) (pc' := 33) kX12_either_32 rfl rfl rf_a0 ?_
              refine ok_goto bX12_either_33 ?_
              refine ok_kill (x := 2) ?_
              exact (m_either_f (g := g) hE (by omega)).mono (fun r s hq => by obtain ⟨v, rfl, rfl⟩ := hq; exact Or.inr ⟨rfl, _, _, rfl, rfl⟩)
        · have q1 := hk (1 + a) (by omega)
          have q4 := hv (1 + a) (by omega)
          rw [e1] at q1 q4
          obtain ⟨q1, q2, -⟩ := q1
          simp only at q1 q2
          replace q4 : EV (ν 98) c2 := q4 rfl
          have hj := ev_join (s := x a) he q4 (by rw [hc]; decide)
          have hj1 := hj.1.trans (congrArg (fun s => jn2 s (evl (ν 98) c) (evl (ν 98) c2)) hc)
          simp only [jn2_124] at hj1
          have hc1 := PQ_t (hs (1 + a) (by omega)) e1
          refine ok_step (ps := []) (L' := [some (.ref 94), some (.int (evl (ν 98) c)), none]) (st' := [.int (nI 124), .ref 94]) (σ' := (α, mm ν (nI a) (-1) o)) (pc' := 8) kX12_either_5 rfl rfl rf_a0 ?_
          refine ok_V (As := [.int (nI 124)]) (b := 94) (st := []) mkX12_takes qX12_either_8 rfl (rc_94) rfl rfl rfl rfl (by omega) (m_takes_t hE hx (by omega) hc) ?_
          refine ok_if_eq bX12_either_11 (fun h11 => absurd h11 ((by decide))) (fun _ => ?_)
          refine ok_step (ps := []) (L' := [some (.ref 94), some (.int (evl (ν 98) c)), none]) (st' := [.ref 94]) (σ' := (α, mm ν (nI (1 + a)) (-1) o)) (pc' := 15) kX12_either_14 rfl rfl rf_a0 ?_
          refine ok_V (As := []) (b := 94) (st := []) mkX12_both qX12_either_15 rfl (rc_94) rfl rfl rfl rfl (by omega) (hc1) ?_
          refine ok_step (ps := []) (L' := [some (.ref 94), some (.int (evl (ν 98) c)), some (.int (evl (ν 98) c2))]) (st' := [.int (evl (ν 98) c)]) (σ' := (α, mm ν (nI a2) (-1) o)) (pc' := 20) kX12_either_18 rfl rfl rf_a0 ?_
          refine ok_if_ne bX12_either_20 (fun h20 => ?_) (fun h20 => ?_)
          · refine ok_step (ps := []) (L' := [some (.ref 94), some (.int (evl (ν 98) c)), some (.int (evl (ν 98) c2))]) (st' := [.int (nI 1)]) (σ' := (α, mm ν (nI a2) (-1) o)) (pc' := 28) kX12_either_27 rfl rfl rf_a0 ?_
            refine ok_goto bX12_either_28 ?_
            refine ok_step (ps := []) (L' := [some (.ref 94), some (.int (nI 1)), some (.int (evl (ν 98) c2))]) (st' := []) (σ' := (α, mm ν (nI a2) (-1) o)) (pc' := 33) kX12_either_32 rfl rfl rf_a0 ?_
            refine ok_goto bX12_either_33 ?_
            have e2 : nI 1 = evl (ν 98) (c ++ c2 ++ [20000 + x a]) := by rw [hj1]; exact (bI_t (by simp [h20])).symm
            rw [e2]
            refine ok_kill (x := 2) ?_
            exact ih a2 _ q2 (by omega) hj.2
          · refine ok_step (ps := []) (L' := [some (.ref 94), some (.int (evl (ν 98) c)), some (.int (evl (ν 98) c2))]) (st' := [.int (evl (ν 98) c2)]) (σ' := (α, mm ν (nI a2) (-1) o)) (pc' := 24) kX12_either_23 rfl rfl rf_a0 ?_
            refine ok_if_eq bX12_either_24 (fun h24 => ?_) (fun h24 => ?_)
            · refine ok_step (ps := []) (L' := [some (.ref 94), some (.int (evl (ν 98) c)), some (.int (evl (ν 98) c2))]) (st' := [.int (nI 0)]) (σ' := (α, mm ν (nI a2) (-1) o)) (pc' := 32) kX12_either_31 rfl rfl rf_a0 ?_
              refine ok_step (ps := []) (L' := [some (.ref 94), some (.int (nI 0)), some (.int (evl (ν 98) c2))]) (st' := []) (σ' := (α, mm ν (nI a2) (-1) o)) (pc' := 33) kX12_either_32 rfl rfl rf_a0 ?_
              refine ok_goto bX12_either_33 ?_
              have e2 : nI 0 = evl (ν 98) (c ++ c2 ++ [20000 + x a]) := by rw [hj1]; exact (bI_f (by simp [h20, h24])).symm
              rw [e2]
              refine ok_kill (x := 2) ?_
              exact ih a2 _ q2 (by omega) hj.2
            · refine ok_step (ps := []) (L' := [some (.ref 94), some (.int (evl (ν 98) c)), some (.int (evl (ν 98) c2))]) (st' := [.int (nI 1)]) (σ' := (α, mm ν (nI a2) (-1) o)) (pc' := 28) kX12_either_27 rfl rfl rf_a0 ?_
              refine ok_goto bX12_either_28 ?_
              refine ok_step (ps := []) (L' := [some (.ref 94), some (.int (nI 1)), some (.int (evl (ν 98) c2))]) (st' := []) (σ' := (α, mm ν (nI a2) (-1) o)) (pc' := 33) kX12_either_32 rfl rfl rf_a0 ?_
              refine ok_goto bX12_either_33 ?_
              have e2 : nI 1 = evl (ν 98) (c ++ c2 ++ [20000 + x a]) := by rw [hj1]; exact (bI_t (by simp [h20, h24])).symm
              rw [e2]
              refine ok_kill (x := 2) ?_
              exact ih a2 _ q2 (by omega) hj.2
    · rw [if_neg hl]
      have n124 : ¬ x a = nI 124 := fun e => hl (by rw [e]; decide)
      refine ok_step (ps := []) (L' := [some (.ref 94), some (.int (evl (ν 98) c)), none]) (st' := [.int (nI 124), .ref 94]) (σ' := (α, mm ν (nI a) (-1) o)) (pc' := 8) kX12_either_5 rfl rfl rf_a0 ?_
      refine ok_V (As := [.int (nI 124)]) (b := 94) (st := []) mkX12_takes qX12_either_8 rfl (rc_94) rfl rfl rfl rfl (by omega) (m_takes_n hE hx (by omega) n124) ?_
      refine ok_if_eq bX12_either_11 (fun _ => ?_) (fun h11 => absurd ((by decide)) h11)
      refine ok_step (ps := []) (L' := [some (.ref 94), some (.int (evl (ν 98) c)), none]) (st' := [.int (evl (ν 98) c)]) (σ' := (α, mm ν (nI a) (-1) o)) (pc' := 37) kX12_either_36 rfl rfl rf_a0 ?_
      refine ok_reti eX12_either_37 rfl ?_
      exact Or.inl ⟨rfl, rfl, rfl⟩
theorem m_either {g : Nat → PR} {D a : Nat} (hE : En ν u b n) (hx : x = nxb (fun i => ν 95 (b + i)) n) (hs : ∀ a, a ≤ n → rf_Ok (rf_T Ln xs) MX12_both (D + 4) 0 [some (.ref 94), none, none] [] (α, mm ν (nI a) (-1) o) (PQ α ν o (g a))) (hk : ∀ a, a ≤ n → PK u n a (g a)) (hv : ∀ a, a ≤ n → (g a).1 = true → EV (ν 98) (g a).2.2) (ha : a ≤ n) : rf_Ok (rf_T Ln xs) MX12_either (D + 5) 0 [some (.ref 94), none, none] [] (α, mm ν (nI a) (-1) o) (PQ α ν o (match g a with | (true, a2, c2) => prl x 0 g 50 a2 c2 | (false, a2, c2) => (false, a2, c2))) := by
  have hn := hE.2.2.1
  rcases e1 : g a with ⟨_ | _, a2, c2⟩
  · have q1 := hk a ha
    rw [e1] at q1
    obtain ⟨q1, q2, -⟩ := q1
    simp only at q1 q2
    obtain ⟨v1, o1, hc1⟩ := PQ_f (hs a ha) e1
    refine ok_step (ps := []) (L' := [some (.ref 94), none, none]) (st' := [.ref 94]) (σ' := (α, mm ν (nI a) (-1) o)) (pc' := 1) kX12_either_0 rfl rfl rf_a0 ?_
    refine ok_V (As := []) (b := 94) (st := []) mkX12_both qX12_either_1 rfl (rc_94) rfl rfl rfl rfl (by omega) (hc1) ?_
    refine ok_step (ps := []) (L' := [some (.ref 94), some (.int v1), none]) (st' := []) (σ' := (α, mm ν (nI a2) (nI a2) o1)) (pc' := 5) kX12_either_4 rfl rfl rf_a0 ?_
    exact (m_either_f (g := g) hE (by omega)).mono (fun r s hq => by obtain ⟨v, rfl, rfl⟩ := hq; exact Or.inr ⟨rfl, _, _, rfl, rfl⟩)
  · have q1 := hk a ha
    have q4 := hv a ha
    rw [e1] at q1 q4
    obtain ⟨q1, q2, q3, -, q5⟩ := q1
    simp only at q1 q2 q3
    replace q5 : 1 ≤ c2.length := q5 rfl
    replace q4 : EV (ν 98) c2 := q4 rfl
    have hc1 := PQ_t (hs a ha) e1
    refine ok_step (ps := []) (L' := [some (.ref 94), none, none]) (st' := [.ref 94]) (σ' := (α, mm ν (nI a) (-1) o)) (pc' := 1) kX12_either_0 rfl rfl rf_a0 ?_
    refine ok_V (As := []) (b := 94) (st := []) mkX12_both qX12_either_1 rfl (rc_94) rfl rfl rfl rfl (by omega) (hc1) ?_
    refine ok_step (ps := []) (L' := [some (.ref 94), some (.int (evl (ν 98) c2)), none]) (st' := []) (σ' := (α, mm ν (nI a2) (-1) o)) (pc' := 5) kX12_either_4 rfl rfl rf_a0 ?_
    exact m_either_l hE hx hs hk hv 50 a2 c2 q2 (by omega) q4
theorem m_both_f {g : Nat → PR} {D a k : Nat} {v : Int32} (hE : En ν u b n) (hk : k ≤ 100) : rf_Ok (rf_T Ln xs) MX12_both (D + 5) 5 [some (.ref 94), some (.int v), none] [] (α, mm ν (nI a) (nI k) o) (fun r s => ∃ v, r = some (.int v) ∧ s = (α, mm ν (nI a) (nI k) o)) := by
  refine ok_step (ps := []) (L' := [some (.ref 94), some (.int v), none]) (st' := [.int (nI 38), .ref 94]) (σ' := (α, mm ν (nI a) (nI k) o)) (pc' := 8) kX12_both_5 rfl rfl rf_a0 ?_
  refine ok_V (As := [.int (nI 38)]) (b := 94) (st := []) mkX12_takes qX12_both_8 rfl (rc_94) rfl rfl rfl rfl (by omega) (m_takes_f hE (by omega) (by decide)) ?_
  refine ok_if_eq bX12_both_11 (fun _ => ?_) (fun h11 => absurd ((by decide)) h11)
  refine ok_step (ps := []) (L' := [some (.ref 94), some (.int v), none]) (st' := [.int v]) (σ' := (α, mm ν (nI a) (nI k) o)) (pc' := 37) kX12_both_36 rfl rfl rf_a0 ?_
  refine ok_reti eX12_both_37 rfl ?_
  exact ⟨_, rfl, rfl⟩
theorem m_both_l {g : Nat → PR} {D : Nat} (hE : En ν u b n) (hx : x = nxb (fun i => ν 95 (b + i)) n) (hs : ∀ a, a ≤ n → rf_Ok (rf_T Ln xs) MX12_compared (D + 4) 0 [some (.ref 94), none, none, none] [] (α, mm ν (nI a) (-1) o) (PQ α ν o (g a))) (hk : ∀ a, a ≤ n → PK u n a (g a)) (hv : ∀ a, a ≤ n → (g a).1 = true → EV (ν 98) (g a).2.2) : ∀ (k a : Nat) (c : List Int32), a ≤ n → n < k + a → EV (ν 98) c → rf_Ok (rf_T Ln xs) MX12_both (D + 5) 5 [some (.ref 94), some (.int (evl (ν 98) c)), none] [] (α, mm ν (nI a) (-1) o) (PQ α ν o (prl x 1 g k a c)) := by
  have hn := hE.2.2.1
  intro k
  induction k with
  | zero =>
    intro a c h1 h2
    omega
  | succ k ih =>
    intro a c h1 h2 he
    unfold prl
    by_cases hl : lvl (x a) = 1
    · rw [if_pos hl, Nat.add_comm a 1]
      have han : a < n := lvl_lt (fun a h => nxb_y hx h) (by decide) hl
      rcases lv_1 hl with hc
      · rcases e1 : g (1 + a) with ⟨_ | _, a2, c2⟩
        · have q1 := hk (1 + a) (by omega)
          rw [e1] at q1
          obtain ⟨q1, q2, -⟩ := q1
          simp only at q1 q2
          obtain ⟨v1, o1, hc1⟩ := PQ_f (hs (1 + a) (by omega)) e1
          refine ok_step (ps := []) (L' := [some (.ref 94), some (.int (evl (ν 98) c)), none]) (st' := [.int (nI 38), .ref 94]) (σ' := (α, mm ν (nI a) (-1) o)) (pc' := 8) kX12_both_5 rfl rfl rf_a0 ?_
          refine ok_V (As := [.int (nI 38)]) (b := 94) (st := []) mkX12_takes qX12_both_8 rfl (rc_94) rfl rfl rfl rfl (by omega) (m_takes_t hE hx (by omega) hc) ?_
          refine ok_if_eq bX12_both_11 (fun h11 => absurd h11 ((by decide))) (fun _ => ?_)
          refine ok_step (ps := []) (L' := [some (.ref 94), some (.int (evl (ν 98) c)), none]) (st' := [.ref 94]) (σ' := (α, mm ν (nI (1 + a)) (-1) o)) (pc' := 15) kX12_both_14 rfl rfl rf_a0 ?_
          refine ok_V (As := []) (b := 94) (st := []) mkX12_compared qX12_both_15 rfl (rc_94) rfl rfl rfl rfl (by omega) (hc1) ?_
          refine ok_step (ps := []) (L' := [some (.ref 94), some (.int (evl (ν 98) c)), some (.int v1)]) (st' := [.int (evl (ν 98) c)]) (σ' := (α, mm ν (nI a2) (nI a2) o1)) (pc' := 20) kX12_both_18 rfl rfl rf_a0 ?_
          refine ok_if_eq bX12_both_20 (fun h20 => ?_) (fun h20 => ?_)
          · refine ok_step (ps := []) (L' := [some (.ref 94), some (.int (evl (ν 98) c)), some (.int v1)]) (st' := [.int (nI 0)]) (σ' := (α, mm ν (nI a2) (nI a2) o1)) (pc' := 32) kX12_both_31 rfl rfl rf_a0 ?_
            refine ok_step (ps := []) (L' := [some (.ref 94), some (.int (nI 0)), some (.int v1)]) (st' := []) (σ' := (α, mm ν (nI a2) (nI a2) o1)) (pc' := 33) kX12_both_32 rfl rfl rf_a0 ?_
            refine ok_goto bX12_both_33 ?_
            refine ok_kill (x := 2) ?_
            exact (m_both_f (g := g) hE (by omega)).mono (fun r s hq => by obtain ⟨v, rfl, rfl⟩ := hq; exact Or.inr ⟨rfl, _, _, rfl, rfl⟩)
          · refine ok_step (ps := []) (L' := [some (.ref 94), some (.int (evl (ν 98) c)), some (.int v1)]) (st' := [.int v1]) (σ' := (α, mm ν (nI a2) (nI a2) o1)) (pc' := 24) kX12_both_23 rfl rfl rf_a0 ?_
            refine ok_if_eq bX12_both_24 (fun h24 => ?_) (fun h24 => ?_)
            · refine ok_step (ps := []) (L' := [some (.ref 94), some (.int (evl (ν 98) c)), some (.int v1)]) (st' := [.int (nI 0)]) (σ' := (α, mm ν (nI a2) (nI a2) o1)) (pc' := 32) kX12_both_31 rfl rfl rf_a0 ?_
              refine ok_step (ps := []) (L' := [some (.ref 94), some (.int (nI 0)), some (.int v1)]) (st' := []) (σ' := (α, mm ν (nI a2) (nI a2) o1)) (pc' := 33) kX12_both_32 rfl rfl rf_a0 ?_
              refine ok_goto bX12_both_33 ?_
              refine ok_kill (x := 2) ?_
              exact (m_both_f (g := g) hE (by omega)).mono (fun r s hq => by obtain ⟨v, rfl, rfl⟩ := hq; exact Or.inr ⟨rfl, _, _, rfl, rfl⟩)
            · refine ok_step (ps := []) (L' := [some (.ref 94), some (.int (evl (ν 98) c)), some (.int v1)]) (st' := [.int (nI 1)]) (σ' := (α, mm ν (nI a2) (nI a2) o1)) (pc' := 28) kX12_both_27 rfl rfl rf_a0 ?_
              refine ok_goto bX12_both_28 ?_
              refine ok_step (ps := []) (L' := [some (.ref 94), some (.int (nI 1)), some (.int v1)]) (st' := []) (σ' := (α, mm ν (nI a2) (nI a2) o1)) (pc' := 33) kX12_both_32 rfl rfl rf_a0 ?_
              refine ok_goto bX12_both_33 ?_
              refine ok_kill (x := 2) ?_
              exact (m_both_f (g := g) hE (by omega)).mono (fun r s hq => by obtain ⟨v, rfl, rfl⟩ := hq; exact Or.inr ⟨rfl, _, _, rfl, rfl⟩)
        · have q1 := hk (1 + a) (by omega)
          have q4 := hv (1 + a) (by omega)
          rw [e1] at q1 q4
          obtain ⟨q1, q2, -⟩ := q1
          simp only at q1 q2
          replace q4 : EV (ν 98) c2 := q4 rfl
          have hj := ev_join (s := x a) he q4 (by rw [hc]; decide)
          have hj1 := hj.1.trans (congrArg (fun s => jn2 s (evl (ν 98) c) (evl (ν 98) c2)) hc)
          simp only [jn2_38] at hj1
          have hc1 := PQ_t (hs (1 + a) (by omega)) e1
          refine ok_step (ps := []) (L' := [some (.ref 94), some (.int (evl (ν 98) c)), none]) (st' := [.int (nI 38), .ref 94]) (σ' := (α, mm ν (nI a) (-1) o)) (pc' := 8) kX12_both_5 rfl rfl rf_a0 ?_
          refine ok_V (As := [.int (nI 38)]) (b := 94) (st := []) mkX12_takes qX12_both_8 rfl (rc_94) rfl rfl rfl rfl (by omega) (m_takes_t hE hx (by omega) hc) ?_
          refine ok_if_eq bX12_both_11 (fun h11 => absurd h11 ((by decide))) (fun _ => ?_)
          refine ok_step (ps := []) (L' := [some (.ref 94), some (.int (evl (ν 98) c)), none]) (st' := [.ref 94]) (σ' := (α, mm ν (nI (1 + a)) (-1) o)) (pc' := 15) kX12_both_14 rfl rfl rf_a0 ?_
          refine ok_V (As := []) (b := 94) (st := []) mkX12_compared qX12_both_15 rfl (rc_94) rfl rfl rfl rfl (by omega) (hc1) ?_
          refine ok_step (ps := []) (L' := [some (.ref 94), some (.int (evl (ν 98) c)), some (.int (evl (ν 98) c2))]) (st' := [.int (evl (ν 98) c)]) (σ' := (α, mm ν (nI a2) (-1) o)) (pc' := 20) kX12_both_18 rfl rfl rf_a0 ?_
          refine ok_if_eq bX12_both_20 (fun h20 => ?_) (fun h20 => ?_)
          · refine ok_step (ps := []) (L' := [some (.ref 94), some (.int (evl (ν 98) c)), some (.int (evl (ν 98) c2))]) (st' := [.int (nI 0)]) (σ' := (α, mm ν (nI a2) (-1) o)) (pc' := 32) kX12_both_31 rfl rfl rf_a0 ?_
            refine ok_step (ps := []) (L' := [some (.ref 94), some (.int (nI 0)), some (.int (evl (ν 98) c2))]) (st' := []) (σ' := (α, mm ν (nI a2) (-1) o)) (pc' := 33) kX12_both_32 rfl rfl rf_a0 ?_
            refine ok_goto bX12_both_33 ?_
            have e2 : nI 0 = evl (ν 98) (c ++ c2 ++ [20000 + x a]) := by rw [hj1]; exact (bI_f (by simp [h20])).symm
            rw [e2]
            refine ok_kill (x := 2) ?_
            exact ih a2 _ q2 (by omega) hj.2
          · refine ok_step (ps := []) (L' := [some (.ref 94), some (.int (evl (ν 98) c)), some (.int (evl (ν 98) c2))]) (st' := [.int (evl (ν 98) c2)]) (σ' := (α, mm ν (nI a2) (-1) o)) (pc' := 24) kX12_both_23 rfl rfl rf_a0 ?_
            refine ok_if_eq bX12_both_24 (fun h24 => ?_) (fun h24 => ?_)
            · refine ok_step (ps := []) (L' := [some (.ref 94), some (.int (evl (ν 98) c)), some (.int (evl (ν 98) c2))]) (st' := [.int (nI 0)]) (σ' := (α, mm ν (nI a2) (-1) o)) (pc' := 32) kX12_both_31 rfl rfl rf_a0 ?_
              refine ok_step (ps := []) (L' := [some (.ref 94), some (.int (nI 0)), some (.int (evl (ν 98) c2))]) (st' := []) (σ' := (α, mm ν (nI a2) (-1) o)) (pc' := 33) kX12_both_32 rfl rfl rf_a0 ?_
              refine ok_goto bX12_both_33 ?_
              have e2 : nI 0 = evl (ν 98) (c ++ c2 ++ [20000 + x a]) := by rw [hj1]; exact (bI_f (by simp [h20, h24])).symm
              rw [e2]
              refine ok_kill (x := 2) ?_
              exact ih a2 _ q2 (by omega) hj.2
            · refine ok_step (ps := []) (L' := [some (.ref 94), some (.int (evl (ν 98) c)), some (.int (evl (ν 98) c2))]) (st' := [.int (nI 1)]) (σ' := (α, mm ν (nI a2) (-1) o)) (pc' := 28) kX12_both_27 rfl rfl rf_a0 ?_
              refine ok_goto bX12_both_28 ?_
              refine ok_step (ps := []) (L' := [some (.ref 94), some (.int (nI 1)), some (.int (evl (ν 98) c2))]) (st' := []) (σ' := (α, mm ν (nI a2) (-1) o)) (pc' := 33) kX12_both_32 rfl rfl rf_a0 ?_
              refine ok_goto bX12_both_33 ?_
              have e2 : nI 1 = evl (ν 98) (c ++ c2 ++ [20000 + x a]) := by rw [hj1]; exact (bI_t (by simp [h20, h24])).symm
              rw [e2]
              refine ok_kill (x := 2) ?_
              exact ih a2 _ q2 (by omega) hj.2
    · rw [if_neg hl]
      have n38 : ¬ x a = nI 38 := fun e => hl (by rw [e]; decide)
      refine ok_step (ps := []) (L' := [some (.ref 94), some (.int (evl (ν 98) c)), none]) (st' := [.int (nI 38), .ref 94]) (σ' := (α, mm ν (nI a) (-1) o)) (pc' := 8) kX12_both_5 rfl rfl rf_a0 ?_
      refine ok_V (As := [.int (nI 38)]) (b := 94) (st := []) mkX12_takes qX12_both_8 rfl (rc_94) rfl rfl rfl rfl (by omega) (m_takes_n hE hx (by omega) n38) ?_
      refine ok_if_eq bX12_both_11 (fun _ => ?_) (fun h11 => absurd ((by decide)) h11)
      refine ok_step (ps := []) (L' := [some (.ref 94), some (.int (evl (ν 98) c)), none]) (st' := [.int (evl (ν 98) c)]) (σ' := (α, mm ν (nI a) (-1) o)) (pc' := 37) kX12_both_36 rfl rfl rf_a0 ?_
      refine ok_reti eX12_both_37 rfl ?_
      exact Or.inl ⟨rfl, rfl, rfl⟩
theorem m_both {g : Nat → PR} {D a : Nat} (hE : En ν u b n) (hx : x = nxb (fun i => ν 95 (b + i)) n) (hs : ∀ a, a ≤ n → rf_Ok (rf_T Ln xs) MX12_compared (D + 4) 0 [some (.ref 94), none, none, none] [] (α, mm ν (nI a) (-1) o) (PQ α ν o (g a))) (hk : ∀ a, a ≤ n → PK u n a (g a)) (hv : ∀ a, a ≤ n → (g a).1 = true → EV (ν 98) (g a).2.2) (ha : a ≤ n) : rf_Ok (rf_T Ln xs) MX12_both (D + 5) 0 [some (.ref 94), none, none] [] (α, mm ν (nI a) (-1) o) (PQ α ν o (match g a with | (true, a2, c2) => prl x 1 g 50 a2 c2 | (false, a2, c2) => (false, a2, c2))) := by
  have hn := hE.2.2.1
  rcases e1 : g a with ⟨_ | _, a2, c2⟩
  · have q1 := hk a ha
    rw [e1] at q1
    obtain ⟨q1, q2, -⟩ := q1
    simp only at q1 q2
    obtain ⟨v1, o1, hc1⟩ := PQ_f (hs a ha) e1
    refine ok_step (ps := []) (L' := [some (.ref 94), none, none]) (st' := [.ref 94]) (σ' := (α, mm ν (nI a) (-1) o)) (pc' := 1) kX12_both_0 rfl rfl rf_a0 ?_
    refine ok_V (As := []) (b := 94) (st := []) mkX12_compared qX12_both_1 rfl (rc_94) rfl rfl rfl rfl (by omega) (hc1) ?_
    refine ok_step (ps := []) (L' := [some (.ref 94), some (.int v1), none]) (st' := []) (σ' := (α, mm ν (nI a2) (nI a2) o1)) (pc' := 5) kX12_both_4 rfl rfl rf_a0 ?_
    exact (m_both_f (g := g) hE (by omega)).mono (fun r s hq => by obtain ⟨v, rfl, rfl⟩ := hq; exact Or.inr ⟨rfl, _, _, rfl, rfl⟩)
  · have q1 := hk a ha
    have q4 := hv a ha
    rw [e1] at q1 q4
    obtain ⟨q1, q2, q3, -, q5⟩ := q1
    simp only at q1 q2 q3
    replace q5 : 1 ≤ c2.length := q5 rfl
    replace q4 : EV (ν 98) c2 := q4 rfl
    have hc1 := PQ_t (hs a ha) e1
    refine ok_step (ps := []) (L' := [some (.ref 94), none, none]) (st' := [.ref 94]) (σ' := (α, mm ν (nI a) (-1) o)) (pc' := 1) kX12_both_0 rfl rfl rf_a0 ?_
    refine ok_V (As := []) (b := 94) (st := []) mkX12_compared qX12_both_1 rfl (rc_94) rfl rfl rfl rfl (by omega) (hc1) ?_
    refine ok_step (ps := []) (L' := [some (.ref 94), some (.int (evl (ν 98) c2)), none]) (st' := []) (σ' := (α, mm ν (nI a2) (-1) o)) (pc' := 5) kX12_both_4 rfl rfl rf_a0 ?_
    exact m_both_l hE hx hs hk hv 50 a2 c2 q2 (by omega) q4
theorem m_compared_f {g : Nat → PR} {D a k : Nat} {v : Int32} (hE : En ν u b n) (hk : k ≤ 100) : rf_Ok (rf_T Ln xs) MX12_compared (D + 5) 4 [some (.ref 94), none, none, none] [.int v] (α, mm ν (nI a) (nI k) o) (fun r s => ∃ v, r = some (.int v) ∧ s = (α, mm ν (nI a) (nI k) o)) := by
  refine ok_step (ps := []) (L' := [some (.ref 94), some (.int v), none, none]) (st' := [.ref 94]) (σ' := (α, mm ν (nI a) (nI k) o)) (pc' := 6) kX12_compared_4 rfl rfl rf_a0 ?_
  refine ok_V (As := []) (b := 94) (st := []) mkX12_here qX12_compared_6 rfl (rc_94) rfl rfl rfl rfl (by omega) (m_here_f hE (by omega)) ?_
  refine ok_step (ps := []) (L' := [some (.ref 94), some (.int v), some (.int (-1)), none]) (st' := [.int (nI 60), .int (-1)]) (σ' := (α, mm ν (nI a) (nI k) o)) (pc' := 13) kX12_compared_9 rfl rfl rf_a0 ?_
  refine ok_icmp_eq bX12_compared_13 (fun h13 => absurd h13 ((by decide))) (fun _ => ?_)
  refine ok_step (ps := []) (L' := [some (.ref 94), some (.int v), some (.int (-1)), none]) (st' := [.int (nI 61), .int (-1)]) (σ' := (α, mm ν (nI a) (nI k) o)) (pc' := 19) kX12_compared_16 rfl rfl rf_a0 ?_
  refine ok_icmp_eq bX12_compared_19 (fun h19 => absurd h19 ((by decide))) (fun _ => ?_)
  refine ok_step (ps := []) (L' := [some (.ref 94), some (.int v), some (.int (-1)), none]) (st' := [.int (nI 62), .int (-1)]) (σ' := (α, mm ν (nI a) (nI k) o)) (pc' := 25) kX12_compared_22 rfl rfl rf_a0 ?_
  refine ok_icmp_eq bX12_compared_25 (fun h25 => absurd h25 ((by decide))) (fun _ => ?_)
  refine ok_step (ps := []) (L' := [some (.ref 94), some (.int v), some (.int (-1)), none]) (st' := [.int v]) (σ' := (α, mm ν (nI a) (nI k) o)) (pc' := 29) kX12_compared_28 rfl rfl rf_a0 ?_
  refine ok_reti eX12_compared_29 rfl ?_
  exact ⟨_, rfl, rfl⟩
theorem m_compared_l {g : Nat → PR} {D : Nat} (hE : En ν u b n) (hx : x = nxb (fun i => ν 95 (b + i)) n) (hs : ∀ a, a ≤ n → rf_Ok (rf_T Ln xs) MX12_sum (D + 4) 0 [some (.ref 94), none, none, none] [] (α, mm ν (nI a) (-1) o) (PQ α ν o (g a))) (hk : ∀ a, a ≤ n → PK u n a (g a)) (hv : ∀ a, a ≤ n → (g a).1 = true → EV (ν 98) (g a).2.2) {a : Nat} {c : List Int32} (ha : a ≤ n) (he : EV (ν 98) c) : rf_Ok (rf_T Ln xs) MX12_compared (D + 5) 4 [some (.ref 94), none, none, none] [.int (evl (ν 98) c)] (α, mm ν (nI a) (-1) o) (PQ α ν o (prl x 2 g 1 a c)) := by
  have hn := hE.2.2.1
  unfold prl
  by_cases hl : lvl (x a) = 2
  · rw [if_pos hl, Nat.add_comm a 1]
    have han : a < n := lvl_lt (fun a h => nxb_y hx h) (by decide) hl
    rcases lv_2 hl with hc | hc | hc
    · rcases e1 : g (1 + a) with ⟨_ | _, a2, c2⟩
      · have q1 := hk (1 + a) (by omega)
        rw [e1] at q1
        obtain ⟨q1, q2, -⟩ := q1
        simp only at q1 q2
        obtain ⟨v1, o1, hc1⟩ := PQ_f (hs (1 + a) (by omega)) e1
        refine ok_step (ps := []) (L' := [some (.ref 94), some (.int (evl (ν 98) c)), none, none]) (st' := [.ref 94]) (σ' := (α, mm ν (nI a) (-1) o)) (pc' := 6) kX12_compared_4 rfl rfl rf_a0 ?_
        refine ok_V (As := []) (b := 94) (st := []) mkX12_here qX12_compared_6 rfl (rc_94) rfl rfl rfl rfl (by omega) (m_here hE hx (by omega)) ?_
        refine ok_step (ps := []) (L' := [some (.ref 94), some (.int (evl (ν 98) c)), some (.int (x a)), none]) (st' := [.int (nI 60), .int (x a)]) (σ' := (α, mm ν (nI a) (-1) o)) (pc' := 13) kX12_compared_9 rfl rfl rf_a0 ?_
        refine ok_icmp_eq bX12_compared_13 (fun _ => ?_) (fun h13 => absurd (hc) h13)
        refine ok_step (ps := []) (L' := [some (.ref 94), some (.int (evl (ν 98) c)), some (.int (x a)), none]) (st' := [.ref 94]) (σ' := (α, rf_w (mm ν (nI a) (-1) o) 94 5 (((mm ν (nI a) (-1) o) 94 5) + (nI 1)))) (pc' := 41) kX12_compared_30 rfl rfl rf_a0 ?_
        try rw [(show (mm ν (nI a) (-1) o) 94 5 = nI a from rfl)]
        try rw [(show ((nI a) + (nI 1)) = nI (1 + a) from rf_eq (rf_nadd (x := nI a) (y := nI 1) rfl rfl) (by omega))]
        rw [mm_5]
        refine ok_V (As := []) (b := 94) (st := []) mkX12_sum qX12_compared_41 rfl (rc_94) rfl rfl rfl rfl (by omega) (hc1) ?_
        refine ok_step (ps := []) (L' := [some (.ref 94), some (.int (evl (ν 98) c)), some (.int (x a)), some (.int v1)]) (st' := [.int (nI 60), .int (x a)]) (σ' := (α, mm ν (nI a2) (nI a2) o1)) (pc' := 48) kX12_compared_44 rfl rfl rf_a0 ?_
        refine ok_icmp_ne bX12_compared_48 (fun h48 => absurd (hc) h48) (fun _ => ?_)
        refine ok_step (ps := []) (L' := [some (.ref 94), some (.int (evl (ν 98) c)), some (.int (x a)), some (.int v1)]) (st' := [.int v1, .int (evl (ν 98) c)]) (σ' := (α, mm ν (nI a2) (nI a2) o1)) (pc' := 53) kX12_compared_51 rfl rfl rf_a0 ?_
        refine ok_icmp_ge bX12_compared_53 (fun h53 => ?_) (fun h53 => ?_)
        · refine ok_step (ps := []) (L' := [some (.ref 94), some (.int (evl (ν 98) c)), some (.int (x a)), some (.int v1)]) (st' := [.int (nI 0)]) (σ' := (α, mm ν (nI a2) (nI a2) o1)) (pc' := 83) kX12_compared_82 rfl rfl rf_a0 ?_
          refine ok_reti eX12_compared_83 rfl ?_
          exact Or.inr ⟨rfl, _, _, rfl, rfl⟩
        · refine ok_goto bX12_compared_56 ?_
          refine ok_step (ps := []) (L' := [some (.ref 94), some (.int (evl (ν 98) c)), some (.int (x a)), some (.int v1)]) (st' := [.int (nI 1)]) (σ' := (α, mm ν (nI a2) (nI a2) o1)) (pc' := 79) kX12_compared_78 rfl rfl rf_a0 ?_
          refine ok_goto bX12_compared_79 ?_
          refine ok_reti eX12_compared_83 rfl ?_
          exact Or.inr ⟨rfl, _, _, rfl, rfl⟩
      · have q1 := hk (1 + a) (by omega)
        have q4 := hv (1 + a) (by omega)
        rw [e1] at q1 q4
        obtain ⟨q1, q2, -⟩ := q1
        simp only at q1 q2
        replace q4 : EV (ν 98) c2 := q4 rfl
        have hj := ev_join (s := x a) he q4 (by rw [hc]; decide)
        have hj1 := hj.1.trans (congrArg (fun s => jn2 s (evl (ν 98) c) (evl (ν 98) c2)) hc)
        simp only [jn2_60] at hj1
        have hc1 := PQ_t (hs (1 + a) (by omega)) e1
        refine ok_step (ps := []) (L' := [some (.ref 94), some (.int (evl (ν 98) c)), none, none]) (st' := [.ref 94]) (σ' := (α, mm ν (nI a) (-1) o)) (pc' := 6) kX12_compared_4 rfl rfl rf_a0 ?_
        refine ok_V (As := []) (b := 94) (st := []) mkX12_here qX12_compared_6 rfl (rc_94) rfl rfl rfl rfl (by omega) (m_here hE hx (by omega)) ?_
        refine ok_step (ps := []) (L' := [some (.ref 94), some (.int (evl (ν 98) c)), some (.int (x a)), none]) (st' := [.int (nI 60), .int (x a)]) (σ' := (α, mm ν (nI a) (-1) o)) (pc' := 13) kX12_compared_9 rfl rfl rf_a0 ?_
        refine ok_icmp_eq bX12_compared_13 (fun _ => ?_) (fun h13 => absurd (hc) h13)
        refine ok_step (ps := []) (L' := [some (.ref 94), some (.int (evl (ν 98) c)), some (.int (x a)), none]) (st' := [.ref 94]) (σ' := (α, rf_w (mm ν (nI a) (-1) o) 94 5 (((mm ν (nI a) (-1) o) 94 5) + (nI 1)))) (pc' := 41) kX12_compared_30 rfl rfl rf_a0 ?_
        try rw [(show (mm ν (nI a) (-1) o) 94 5 = nI a from rfl)]
        try rw [(show ((nI a) + (nI 1)) = nI (1 + a) from rf_eq (rf_nadd (x := nI a) (y := nI 1) rfl rfl) (by omega))]
        rw [mm_5]
        refine ok_V (As := []) (b := 94) (st := []) mkX12_sum qX12_compared_41 rfl (rc_94) rfl rfl rfl rfl (by omega) (hc1) ?_
        refine ok_step (ps := []) (L' := [some (.ref 94), some (.int (evl (ν 98) c)), some (.int (x a)), some (.int (evl (ν 98) c2))]) (st' := [.int (nI 60), .int (x a)]) (σ' := (α, mm ν (nI a2) (-1) o)) (pc' := 48) kX12_compared_44 rfl rfl rf_a0 ?_
        refine ok_icmp_ne bX12_compared_48 (fun h48 => absurd (hc) h48) (fun _ => ?_)
        refine ok_step (ps := []) (L' := [some (.ref 94), some (.int (evl (ν 98) c)), some (.int (x a)), some (.int (evl (ν 98) c2))]) (st' := [.int (evl (ν 98) c2), .int (evl (ν 98) c)]) (σ' := (α, mm ν (nI a2) (-1) o)) (pc' := 53) kX12_compared_51 rfl rfl rf_a0 ?_
        refine ok_icmp_ge bX12_compared_53 (fun h53 => ?_) (fun h53 => ?_)
        · refine ok_step (ps := []) (L' := [some (.ref 94), some (.int (evl (ν 98) c)), some (.int (x a)), some (.int (evl (ν 98) c2))]) (st' := [.int (nI 0)]) (σ' := (α, mm ν (nI a2) (-1) o)) (pc' := 83) kX12_compared_82 rfl rfl rf_a0 ?_
          refine ok_reti eX12_compared_83 rfl ?_
          have e2 : nI 0 = evl (ν 98) (c ++ c2 ++ [20000 + x a]) := by rw [hj1]; first | (rw [decide_eq_true (Int32.not_le.mp h53)]; rfl) | (rw [decide_eq_false (Int32.not_lt.mpr h53)]; rfl)
          exact Or.inl ⟨rfl, by rw [e2]; rfl, rfl⟩
        · refine ok_goto bX12_compared_56 ?_
          refine ok_step (ps := []) (L' := [some (.ref 94), some (.int (evl (ν 98) c)), some (.int (x a)), some (.int (evl (ν 98) c2))]) (st' := [.int (nI 1)]) (σ' := (α, mm ν (nI a2) (-1) o)) (pc' := 79) kX12_compared_78 rfl rfl rf_a0 ?_
          refine ok_goto bX12_compared_79 ?_
          refine ok_reti eX12_compared_83 rfl ?_
          have e2 : nI 1 = evl (ν 98) (c ++ c2 ++ [20000 + x a]) := by rw [hj1]; first | (rw [decide_eq_true (Int32.not_le.mp h53)]; rfl) | (rw [decide_eq_false (Int32.not_lt.mpr h53)]; rfl)
          exact Or.inl ⟨rfl, by rw [e2]; rfl, rfl⟩
    · rcases e1 : g (1 + a) with ⟨_ | _, a2, c2⟩
      · have q1 := hk (1 + a) (by omega)
        rw [e1] at q1
        obtain ⟨q1, q2, -⟩ := q1
        simp only at q1 q2
        obtain ⟨v1, o1, hc1⟩ := PQ_f (hs (1 + a) (by omega)) e1
        refine ok_step (ps := []) (L' := [some (.ref 94), some (.int (evl (ν 98) c)), none, none]) (st' := [.ref 94]) (σ' := (α, mm ν (nI a) (-1) o)) (pc' := 6) kX12_compared_4 rfl rfl rf_a0 ?_
        refine ok_V (As := []) (b := 94) (st := []) mkX12_here qX12_compared_6 rfl (rc_94) rfl rfl rfl rfl (by omega) (m_here hE hx (by omega)) ?_
        refine ok_step (ps := []) (L' := [some (.ref 94), some (.int (evl (ν 98) c)), some (.int (x a)), none]) (st' := [.int (nI 60), .int (x a)]) (σ' := (α, mm ν (nI a) (-1) o)) (pc' := 13) kX12_compared_9 rfl rfl rf_a0 ?_
        refine ok_icmp_eq bX12_compared_13 (fun h13 => absurd h13 ((by rw [hc]; decide))) (fun _ => ?_)
        refine ok_step (ps := []) (L' := [some (.ref 94), some (.int (evl (ν 98) c)), some (.int (x a)), none]) (st' := [.int (nI 61), .int (x a)]) (σ' := (α, mm ν (nI a) (-1) o)) (pc' := 19) kX12_compared_16 rfl rfl rf_a0 ?_
        refine ok_icmp_eq bX12_compared_19 (fun _ => ?_) (fun h19 => absurd (hc) h19)
        refine ok_step (ps := []) (L' := [some (.ref 94), some (.int (evl (ν 98) c)), some (.int (x a)), none]) (st' := [.ref 94]) (σ' := (α, rf_w (mm ν (nI a) (-1) o) 94 5 (((mm ν (nI a) (-1) o) 94 5) + (nI 1)))) (pc' := 41) kX12_compared_30 rfl rfl rf_a0 ?_
        try rw [(show (mm ν (nI a) (-1) o) 94 5 = nI a from rfl)]
        try rw [(show ((nI a) + (nI 1)) = nI (1 + a) from rf_eq (rf_nadd (x := nI a) (y := nI 1) rfl rfl) (by omega))]
        rw [mm_5]
        refine ok_V (As := []) (b := 94) (st := []) mkX12_sum qX12_compared_41 rfl (rc_94) rfl rfl rfl rfl (by omega) (hc1) ?_
        refine ok_step (ps := []) (L' := [some (.ref 94), some (.int (evl (ν 98) c)), some (.int (x a)), some (.int v1)]) (st' := [.int (nI 60), .int (x a)]) (σ' := (α, mm ν (nI a2) (nI a2) o1)) (pc' := 48) kX12_compared_44 rfl rfl rf_a0 ?_
        refine ok_icmp_ne bX12_compared_48 (fun _ => ?_) (fun h48 => absurd h48 ((by rw [hc]; decide)))
        refine ok_step (ps := []) (L' := [some (.ref 94), some (.int (evl (ν 98) c)), some (.int (x a)), some (.int v1)]) (st' := [.int (nI 61), .int (x a)]) (σ' := (α, mm ν (nI a2) (nI a2) o1)) (pc' := 62) kX12_compared_59 rfl rfl rf_a0 ?_
        refine ok_icmp_ne bX12_compared_62 (fun h62 => absurd (hc) h62) (fun _ => ?_)
        refine ok_step (ps := []) (L' := [some (.ref 94), some (.int (evl (ν 98) c)), some (.int (x a)), some (.int v1)]) (st' := [.int v1, .int (evl (ν 98) c)]) (σ' := (α, mm ν (nI a2) (nI a2) o1)) (pc' := 67) kX12_compared_65 rfl rfl rf_a0 ?_
        refine ok_icmp_ne bX12_compared_67 (fun h67 => ?_) (fun h67 => ?_)
        · refine ok_step (ps := []) (L' := [some (.ref 94), some (.int (evl (ν 98) c)), some (.int (x a)), some (.int v1)]) (st' := [.int (nI 0)]) (σ' := (α, mm ν (nI a2) (nI a2) o1)) (pc' := 83) kX12_compared_82 rfl rfl rf_a0 ?_
          refine ok_reti eX12_compared_83 rfl ?_
          exact Or.inr ⟨rfl, _, _, rfl, rfl⟩
        · refine ok_goto bX12_compared_70 ?_
          refine ok_step (ps := []) (L' := [some (.ref 94), some (.int (evl (ν 98) c)), some (.int (x a)), some (.int v1)]) (st' := [.int (nI 1)]) (σ' := (α, mm ν (nI a2) (nI a2) o1)) (pc' := 79) kX12_compared_78 rfl rfl rf_a0 ?_
          refine ok_goto bX12_compared_79 ?_
          refine ok_reti eX12_compared_83 rfl ?_
          exact Or.inr ⟨rfl, _, _, rfl, rfl⟩
      · have q1 := hk (1 + a) (by omega)
        have q4 := hv (1 + a) (by omega)
        rw [e1] at q1 q4
        obtain ⟨q1, q2, -⟩ := q1
        simp only at q1 q2
        replace q4 : EV (ν 98) c2 := q4 rfl
        have hj := ev_join (s := x a) he q4 (by rw [hc]; decide)
        have hj1 := hj.1.trans (congrArg (fun s => jn2 s (evl (ν 98) c) (evl (ν 98) c2)) hc)
        simp only [jn2_61] at hj1
        have hc1 := PQ_t (hs (1 + a) (by omega)) e1
        refine ok_step (ps := []) (L' := [some (.ref 94), some (.int (evl (ν 98) c)), none, none]) (st' := [.ref 94]) (σ' := (α, mm ν (nI a) (-1) o)) (pc' := 6) kX12_compared_4 rfl rfl rf_a0 ?_
        refine ok_V (As := []) (b := 94) (st := []) mkX12_here qX12_compared_6 rfl (rc_94) rfl rfl rfl rfl (by omega) (m_here hE hx (by omega)) ?_
        refine ok_step (ps := []) (L' := [some (.ref 94), some (.int (evl (ν 98) c)), some (.int (x a)), none]) (st' := [.int (nI 60), .int (x a)]) (σ' := (α, mm ν (nI a) (-1) o)) (pc' := 13) kX12_compared_9 rfl rfl rf_a0 ?_
        refine ok_icmp_eq bX12_compared_13 (fun h13 => absurd h13 ((by rw [hc]; decide))) (fun _ => ?_)
        refine ok_step (ps := []) (L' := [some (.ref 94), some (.int (evl (ν 98) c)), some (.int (x a)), none]) (st' := [.int (nI 61), .int (x a)]) (σ' := (α, mm ν (nI a) (-1) o)) (pc' := 19) kX12_compared_16 rfl rfl rf_a0 ?_
        refine ok_icmp_eq bX12_compared_19 (fun _ => ?_) (fun h19 => absurd (hc) h19)
        refine ok_step (ps := []) (L' := [some (.ref 94), some (.int (evl (ν 98) c)), some (.int (x a)), none]) (st' := [.ref 94]) (σ' := (α, rf_w (mm ν (nI a) (-1) o) 94 5 (((mm ν (nI a) (-1) o) 94 5) + (nI 1)))) (pc' := 41) kX12_compared_30 rfl rfl rf_a0 ?_
        try rw [(show (mm ν (nI a) (-1) o) 94 5 = nI a from rfl)]
        try rw [(show ((nI a) + (nI 1)) = nI (1 + a) from rf_eq (rf_nadd (x := nI a) (y := nI 1) rfl rfl) (by omega))]
        rw [mm_5]
        refine ok_V (As := []) (b := 94) (st := []) mkX12_sum qX12_compared_41 rfl (rc_94) rfl rfl rfl rfl (by omega) (hc1) ?_
        refine ok_step (ps := []) (L' := [some (.ref 94), some (.int (evl (ν 98) c)), some (.int (x a)), some (.int (evl (ν 98) c2))]) (st' := [.int (nI 60), .int (x a)]) (σ' := (α, mm ν (nI a2) (-1) o)) (pc' := 48) kX12_compared_44 rfl rfl rf_a0 ?_
        refine ok_icmp_ne bX12_compared_48 (fun _ => ?_) (fun h48 => absurd h48 ((by rw [hc]; decide)))
        refine ok_step (ps := []) (L' := [some (.ref 94), some (.int (evl (ν 98) c)), some (.int (x a)), some (.int (evl (ν 98) c2))]) (st' := [.int (nI 61), .int (x a)]) (σ' := (α, mm ν (nI a2) (-1) o)) (pc' := 62) kX12_compared_59 rfl rfl rf_a0 ?_
        refine ok_icmp_ne bX12_compared_62 (fun h62 => absurd (hc) h62) (fun _ => ?_)
        refine ok_step (ps := []) (L' := [some (.ref 94), some (.int (evl (ν 98) c)), some (.int (x a)), some (.int (evl (ν 98) c2))]) (st' := [.int (evl (ν 98) c2), .int (evl (ν 98) c)]) (σ' := (α, mm ν (nI a2) (-1) o)) (pc' := 67) kX12_compared_65 rfl rfl rf_a0 ?_
        refine ok_icmp_ne bX12_compared_67 (fun h67 => ?_) (fun h67 => ?_)
        · refine ok_step (ps := []) (L' := [some (.ref 94), some (.int (evl (ν 98) c)), some (.int (x a)), some (.int (evl (ν 98) c2))]) (st' := [.int (nI 0)]) (σ' := (α, mm ν (nI a2) (-1) o)) (pc' := 83) kX12_compared_82 rfl rfl rf_a0 ?_
          refine ok_reti eX12_compared_83 rfl ?_
          have e2 : nI 0 = evl (ν 98) (c ++ c2 ++ [20000 + x a]) := by rw [hj1]; first | (rw [decide_eq_true h67]; rfl) | (rw [decide_eq_false h67]; rfl)
          exact Or.inl ⟨rfl, by rw [e2]; rfl, rfl⟩
        · refine ok_goto bX12_compared_70 ?_
          refine ok_step (ps := []) (L' := [some (.ref 94), some (.int (evl (ν 98) c)), some (.int (x a)), some (.int (evl (ν 98) c2))]) (st' := [.int (nI 1)]) (σ' := (α, mm ν (nI a2) (-1) o)) (pc' := 79) kX12_compared_78 rfl rfl rf_a0 ?_
          refine ok_goto bX12_compared_79 ?_
          refine ok_reti eX12_compared_83 rfl ?_
          have e2 : nI 1 = evl (ν 98) (c ++ c2 ++ [20000 + x a]) := by rw [hj1]; first | (rw [decide_eq_true h67]; rfl) | (rw [decide_eq_false h67]; rfl)
          exact Or.inl ⟨rfl, by rw [e2]; rfl, rfl⟩
    · rcases e1 : g (1 + a) with ⟨_ | _, a2, c2⟩
      · have q1 := hk (1 + a) (by omega)
        rw [e1] at q1
        obtain ⟨q1, q2, -⟩ := q1
        simp only at q1 q2
        obtain ⟨v1, o1, hc1⟩ := PQ_f (hs (1 + a) (by omega)) e1
        refine ok_step (ps := []) (L' := [some (.ref 94), some (.int (evl (ν 98) c)), none, none]) (st' := [.ref 94]) (σ' := (α, mm ν (nI a) (-1) o)) (pc' := 6) kX12_compared_4 rfl rfl rf_a0 ?_
        refine ok_V (As := []) (b := 94) (st := []) mkX12_here qX12_compared_6 rfl (rc_94) rfl rfl rfl rfl (by omega) (m_here hE hx (by omega)) ?_
        refine ok_step (ps := []) (L' := [some (.ref 94), some (.int (evl (ν 98) c)), some (.int (x a)), none]) (st' := [.int (nI 60), .int (x a)]) (σ' := (α, mm ν (nI a) (-1) o)) (pc' := 13) kX12_compared_9 rfl rfl rf_a0 ?_
        refine ok_icmp_eq bX12_compared_13 (fun h13 => absurd h13 ((by rw [hc]; decide))) (fun _ => ?_)
        refine ok_step (ps := []) (L' := [some (.ref 94), some (.int (evl (ν 98) c)), some (.int (x a)), none]) (st' := [.int (nI 61), .int (x a)]) (σ' := (α, mm ν (nI a) (-1) o)) (pc' := 19) kX12_compared_16 rfl rfl rf_a0 ?_
        refine ok_icmp_eq bX12_compared_19 (fun h19 => absurd h19 ((by rw [hc]; decide))) (fun _ => ?_)
        refine ok_step (ps := []) (L' := [some (.ref 94), some (.int (evl (ν 98) c)), some (.int (x a)), none]) (st' := [.int (nI 62), .int (x a)]) (σ' := (α, mm ν (nI a) (-1) o)) (pc' := 25) kX12_compared_22 rfl rfl rf_a0 ?_
        refine ok_icmp_eq bX12_compared_25 (fun _ => ?_) (fun h25 => absurd (hc) h25)
        refine ok_step (ps := []) (L' := [some (.ref 94), some (.int (evl (ν 98) c)), some (.int (x a)), none]) (st' := [.ref 94]) (σ' := (α, rf_w (mm ν (nI a) (-1) o) 94 5 (((mm ν (nI a) (-1) o) 94 5) + (nI 1)))) (pc' := 41) kX12_compared_30 rfl rfl rf_a0 ?_
        try rw [(show (mm ν (nI a) (-1) o) 94 5 = nI a from rfl)]
        try rw [(show ((nI a) + (nI 1)) = nI (1 + a) from rf_eq (rf_nadd (x := nI a) (y := nI 1) rfl rfl) (by omega))]
        rw [mm_5]
        refine ok_V (As := []) (b := 94) (st := []) mkX12_sum qX12_compared_41 rfl (rc_94) rfl rfl rfl rfl (by omega) (hc1) ?_
        refine ok_step (ps := []) (L' := [some (.ref 94), some (.int (evl (ν 98) c)), some (.int (x a)), some (.int v1)]) (st' := [.int (nI 60), .int (x a)]) (σ' := (α, mm ν (nI a2) (nI a2) o1)) (pc' := 48) kX12_compared_44 rfl rfl rf_a0 ?_
        refine ok_icmp_ne bX12_compared_48 (fun _ => ?_) (fun h48 => absurd h48 ((by rw [hc]; decide)))
        refine ok_step (ps := []) (L' := [some (.ref 94), some (.int (evl (ν 98) c)), some (.int (x a)), some (.int v1)]) (st' := [.int (nI 61), .int (x a)]) (σ' := (α, mm ν (nI a2) (nI a2) o1)) (pc' := 62) kX12_compared_59 rfl rfl rf_a0 ?_
        refine ok_icmp_ne bX12_compared_62 (fun _ => ?_) (fun h62 => absurd h62 ((by rw [hc]; decide)))
        refine ok_step (ps := []) (L' := [some (.ref 94), some (.int (evl (ν 98) c)), some (.int (x a)), some (.int v1)]) (st' := [.int v1, .int (evl (ν 98) c)]) (σ' := (α, mm ν (nI a2) (nI a2) o1)) (pc' := 75) kX12_compared_73 rfl rfl rf_a0 ?_
        refine ok_icmp_le bX12_compared_75 (fun h75 => ?_) (fun h75 => ?_)
        · refine ok_step (ps := []) (L' := [some (.ref 94), some (.int (evl (ν 98) c)), some (.int (x a)), some (.int v1)]) (st' := [.int (nI 0)]) (σ' := (α, mm ν (nI a2) (nI a2) o1)) (pc' := 83) kX12_compared_82 rfl rfl rf_a0 ?_
          refine ok_reti eX12_compared_83 rfl ?_
          exact Or.inr ⟨rfl, _, _, rfl, rfl⟩
        · refine ok_step (ps := []) (L' := [some (.ref 94), some (.int (evl (ν 98) c)), some (.int (x a)), some (.int v1)]) (st' := [.int (nI 1)]) (σ' := (α, mm ν (nI a2) (nI a2) o1)) (pc' := 79) kX12_compared_78 rfl rfl rf_a0 ?_
          refine ok_goto bX12_compared_79 ?_
          refine ok_reti eX12_compared_83 rfl ?_
          exact Or.inr ⟨rfl, _, _, rfl, rfl⟩
      · have q1 := hk (1 + a) (by omega)
        have q4 := hv (1 + a) (by omega)
        rw [e1] at q1 q4
        obtain ⟨q1, q2, -⟩ := q1
        simp only at q1 q2
        replace q4 : EV (ν 98) c2 := q4 rfl
        have hj := ev_join (s := x a) he q4 (by rw [hc]; decide)
        have hj1 := hj.1.trans (congrArg (fun s => jn2 s (evl (ν 98) c) (evl (ν 98) c2)) hc)
        simp only [jn2_62] at hj1
        have hc1 := PQ_t (hs (1 + a) (by omega)) e1
        refine ok_step (ps := []) (L' := [some (.ref 94), some (.int (evl (ν 98) c)), none, none]) (st' := [.ref 94]) (σ' := (α, mm ν (nI a) (-1) o)) (pc' := 6) kX12_compared_4 rfl rfl rf_a0 ?_
        refine ok_V (As := []) (b := 94) (st := []) mkX12_here qX12_compared_6 rfl (rc_94) rfl rfl rfl rfl (by omega) (m_here hE hx (by omega)) ?_
        refine ok_step (ps := []) (L' := [some (.ref 94), some (.int (evl (ν 98) c)), some (.int (x a)), none]) (st' := [.int (nI 60), .int (x a)]) (σ' := (α, mm ν (nI a) (-1) o)) (pc' := 13) kX12_compared_9 rfl rfl rf_a0 ?_
        refine ok_icmp_eq bX12_compared_13 (fun h13 => absurd h13 ((by rw [hc]; decide))) (fun _ => ?_)
        refine ok_step (ps := []) (L' := [some (.ref 94), some (.int (evl (ν 98) c)), some (.int (x a)), none]) (st' := [.int (nI 61), .int (x a)]) (σ' := (α, mm ν (nI a) (-1) o)) (pc' := 19) kX12_compared_16 rfl rfl rf_a0 ?_
        refine ok_icmp_eq bX12_compared_19 (fun h19 => absurd h19 ((by rw [hc]; decide))) (fun _ => ?_)
        refine ok_step (ps := []) (L' := [some (.ref 94), some (.int (evl (ν 98) c)), some (.int (x a)), none]) (st' := [.int (nI 62), .int (x a)]) (σ' := (α, mm ν (nI a) (-1) o)) (pc' := 25) kX12_compared_22 rfl rfl rf_a0 ?_
        refine ok_icmp_eq bX12_compared_25 (fun _ => ?_) (fun h25 => absurd (hc) h25)
        refine ok_step (ps := []) (L' := [some (.ref 94), some (.int (evl (ν 98) c)), some (.int (x a)), none]) (st' := [.ref 94]) (σ' := (α, rf_w (mm ν (nI a) (-1) o) 94 5 (((mm ν (nI a) (-1) o) 94 5) + (nI 1)))) (pc' := 41) kX12_compared_30 rfl rfl rf_a0 ?_
        try rw [(show (mm ν (nI a) (-1) o) 94 5 = nI a from rfl)]
        try rw [(show ((nI a) + (nI 1)) = nI (1 + a) from rf_eq (rf_nadd (x := nI a) (y := nI 1) rfl rfl) (by omega))]
        rw [mm_5]
        refine ok_V (As := []) (b := 94) (st := []) mkX12_sum qX12_compared_41 rfl (rc_94) rfl rfl rfl rfl (by omega) (hc1) ?_
        refine ok_step (ps := []) (L' := [some (.ref 94), some (.int (evl (ν 98) c)), some (.int (x a)), some (.int (evl (ν 98) c2))]) (st' := [.int (nI 60), .int (x a)]) (σ' := (α, mm ν (nI a2) (-1) o)) (pc' := 48) kX12_compared_44 rfl rfl rf_a0 ?_
        refine ok_icmp_ne bX12_compared_48 (fun _ => ?_) (fun h48 => absurd h48 ((by rw [hc]; decide)))
        refine ok_step (ps := []) (L' := [some (.ref 94), some (.int (evl (ν 98) c)), some (.int (x a)), some (.int (evl (ν 98) c2))]) (st' := [.int (nI 61), .int (x a)]) (σ' := (α, mm ν (nI a2) (-1) o)) (pc' := 62) kX12_compared_59 rfl rfl rf_a0 ?_
        refine ok_icmp_ne bX12_compared_62 (fun _ => ?_) (fun h62 => absurd h62 ((by rw [hc]; decide)))
        refine ok_step (ps := []) (L' := [some (.ref 94), some (.int (evl (ν 98) c)), some (.int (x a)), some (.int (evl (ν 98) c2))]) (st' := [.int (evl (ν 98) c2), .int (evl (ν 98) c)]) (σ' := (α, mm ν (nI a2) (-1) o)) (pc' := 75) kX12_compared_73 rfl rfl rf_a0 ?_
        refine ok_icmp_le bX12_compared_75 (fun h75 => ?_) (fun h75 => ?_)
        · refine ok_step (ps := []) (L' := [some (.ref 94), some (.int (evl (ν 98) c)), some (.int (x a)), some (.int (evl (ν 98) c2))]) (st' := [.int (nI 0)]) (σ' := (α, mm ν (nI a2) (-1) o)) (pc' := 83) kX12_compared_82 rfl rfl rf_a0 ?_
          refine ok_reti eX12_compared_83 rfl ?_
          have e2 : nI 0 = evl (ν 98) (c ++ c2 ++ [20000 + x a]) := by rw [hj1]; first | (rw [decide_eq_true (Int32.not_le.mp h75)]; rfl) | (rw [decide_eq_false (Int32.not_lt.mpr h75)]; rfl)
          exact Or.inl ⟨rfl, by rw [e2]; rfl, rfl⟩
        · refine ok_step (ps := []) (L' := [some (.ref 94), some (.int (evl (ν 98) c)), some (.int (x a)), some (.int (evl (ν 98) c2))]) (st' := [.int (nI 1)]) (σ' := (α, mm ν (nI a2) (-1) o)) (pc' := 79) kX12_compared_78 rfl rfl rf_a0 ?_
          refine ok_goto bX12_compared_79 ?_
          refine ok_reti eX12_compared_83 rfl ?_
          have e2 : nI 1 = evl (ν 98) (c ++ c2 ++ [20000 + x a]) := by rw [hj1]; first | (rw [decide_eq_true (Int32.not_le.mp h75)]; rfl) | (rw [decide_eq_false (Int32.not_lt.mpr h75)]; rfl)
          exact Or.inl ⟨rfl, by rw [e2]; rfl, rfl⟩
  · rw [if_neg hl]
    have n60 : ¬ x a = nI 60 := fun e => hl (by rw [e]; decide)
    have n61 : ¬ x a = nI 61 := fun e => hl (by rw [e]; decide)
    have n62 : ¬ x a = nI 62 := fun e => hl (by rw [e]; decide)
    refine ok_step (ps := []) (L' := [some (.ref 94), some (.int (evl (ν 98) c)), none, none]) (st' := [.ref 94]) (σ' := (α, mm ν (nI a) (-1) o)) (pc' := 6) kX12_compared_4 rfl rfl rf_a0 ?_
    refine ok_V (As := []) (b := 94) (st := []) mkX12_here qX12_compared_6 rfl (rc_94) rfl rfl rfl rfl (by omega) (m_here hE hx (by omega)) ?_
    refine ok_step (ps := []) (L' := [some (.ref 94), some (.int (evl (ν 98) c)), some (.int (x a)), none]) (st' := [.int (nI 60), .int (x a)]) (σ' := (α, mm ν (nI a) (-1) o)) (pc' := 13) kX12_compared_9 rfl rfl rf_a0 ?_
    refine ok_icmp_eq bX12_compared_13 (fun h13 => absurd h13 (n60)) (fun _ => ?_)
    refine ok_step (ps := []) (L' := [some (.ref 94), some (.int (evl (ν 98) c)), some (.int (x a)), none]) (st' := [.int (nI 61), .int (x a)]) (σ' := (α, mm ν (nI a) (-1) o)) (pc' := 19) kX12_compared_16 rfl rfl rf_a0 ?_
    refine ok_icmp_eq bX12_compared_19 (fun h19 => absurd h19 (n61)) (fun _ => ?_)
    refine ok_step (ps := []) (L' := [some (.ref 94), some (.int (evl (ν 98) c)), some (.int (x a)), none]) (st' := [.int (nI 62), .int (x a)]) (σ' := (α, mm ν (nI a) (-1) o)) (pc' := 25) kX12_compared_22 rfl rfl rf_a0 ?_
    refine ok_icmp_eq bX12_compared_25 (fun h25 => absurd h25 (n62)) (fun _ => ?_)
    refine ok_step (ps := []) (L' := [some (.ref 94), some (.int (evl (ν 98) c)), some (.int (x a)), none]) (st' := [.int (evl (ν 98) c)]) (σ' := (α, mm ν (nI a) (-1) o)) (pc' := 29) kX12_compared_28 rfl rfl rf_a0 ?_
    refine ok_reti eX12_compared_29 rfl ?_
    exact Or.inl ⟨rfl, rfl, rfl⟩
theorem m_compared {g : Nat → PR} {D a : Nat} (hE : En ν u b n) (hx : x = nxb (fun i => ν 95 (b + i)) n) (hs : ∀ a, a ≤ n → rf_Ok (rf_T Ln xs) MX12_sum (D + 4) 0 [some (.ref 94), none, none, none] [] (α, mm ν (nI a) (-1) o) (PQ α ν o (g a))) (hk : ∀ a, a ≤ n → PK u n a (g a)) (hv : ∀ a, a ≤ n → (g a).1 = true → EV (ν 98) (g a).2.2) (ha : a ≤ n) : rf_Ok (rf_T Ln xs) MX12_compared (D + 5) 0 [some (.ref 94), none, none, none] [] (α, mm ν (nI a) (-1) o) (PQ α ν o (match g a with | (true, a2, c2) => prl x 2 g 1 a2 c2 | (false, a2, c2) => (false, a2, c2))) := by
  have hn := hE.2.2.1
  rcases e1 : g a with ⟨_ | _, a2, c2⟩
  · have q1 := hk a ha
    rw [e1] at q1
    obtain ⟨q1, q2, -⟩ := q1
    simp only at q1 q2
    obtain ⟨v1, o1, hc1⟩ := PQ_f (hs a ha) e1
    refine ok_step (ps := []) (L' := [some (.ref 94), none, none, none]) (st' := [.ref 94]) (σ' := (α, mm ν (nI a) (-1) o)) (pc' := 1) kX12_compared_0 rfl rfl rf_a0 ?_
    refine ok_V (As := []) (b := 94) (st := []) mkX12_sum qX12_compared_1 rfl (rc_94) rfl rfl rfl rfl (by omega) (hc1) ?_
    exact (m_compared_f (g := g) hE (by omega)).mono (fun r s hq => by obtain ⟨v, rfl, rfl⟩ := hq; exact Or.inr ⟨rfl, _, _, rfl, rfl⟩)
  · have q1 := hk a ha
    have q4 := hv a ha
    rw [e1] at q1 q4
    obtain ⟨q1, q2, q3, -, q5⟩ := q1
    simp only at q1 q2 q3
    replace q5 : 1 ≤ c2.length := q5 rfl
    replace q4 : EV (ν 98) c2 := q4 rfl
    have hc1 := PQ_t (hs a ha) e1
    refine ok_step (ps := []) (L' := [some (.ref 94), none, none, none]) (st' := [.ref 94]) (σ' := (α, mm ν (nI a) (-1) o)) (pc' := 1) kX12_compared_0 rfl rfl rf_a0 ?_
    refine ok_V (As := []) (b := 94) (st := []) mkX12_sum qX12_compared_1 rfl (rc_94) rfl rfl rfl rfl (by omega) (hc1) ?_
    exact m_compared_l hE hx hs hk hv q2 q4
theorem m_sum_f {g : Nat → PR} {D a k : Nat} {v : Int32} (hE : En ν u b n) (hk : k ≤ 100) : rf_Ok (rf_T Ln xs) MX12_sum (D + 5) 5 [some (.ref 94), some (.int v), none, none] [] (α, mm ν (nI a) (nI k) o) (fun r s => ∃ v, r = some (.int v) ∧ s = (α, mm ν (nI a) (nI k) o)) := by
  refine ok_step (ps := []) (L' := [some (.ref 94), some (.int v), none, none]) (st' := [.ref 94]) (σ' := (α, mm ν (nI a) (nI k) o)) (pc' := 6) kX12_sum_5 rfl rfl rf_a0 ?_
  refine ok_V (As := []) (b := 94) (st := []) mkX12_here qX12_sum_6 rfl (rc_94) rfl rfl rfl rfl (by omega) (m_here_f hE (by omega)) ?_
  refine ok_step (ps := []) (L' := [some (.ref 94), some (.int v), none, none]) (st' := [.int (nI 43), .int (-1)]) (σ' := (α, mm ν (nI a) (nI k) o)) (pc' := 11) kX12_sum_9 rfl rfl rf_a0 ?_
  refine ok_icmp_eq bX12_sum_11 (fun h11 => absurd h11 ((by decide))) (fun _ => ?_)
  refine ok_step (ps := []) (L' := [some (.ref 94), some (.int v), none, none]) (st' := [.ref 94]) (σ' := (α, mm ν (nI a) (nI k) o)) (pc' := 15) kX12_sum_14 rfl rfl rf_a0 ?_
  refine ok_V (As := []) (b := 94) (st := []) mkX12_here qX12_sum_15 rfl (rc_94) rfl rfl rfl rfl (by omega) (m_here_f hE (by omega)) ?_
  refine ok_step (ps := []) (L' := [some (.ref 94), some (.int v), none, none]) (st' := [.int (nI 45), .int (-1)]) (σ' := (α, mm ν (nI a) (nI k) o)) (pc' := 20) kX12_sum_18 rfl rfl rf_a0 ?_
  refine ok_icmp_ne bX12_sum_20 (fun _ => ?_) (fun h20 => absurd h20 ((by decide)))
  refine ok_step (ps := []) (L' := [some (.ref 94), some (.int v), none, none]) (st' := [.int v]) (σ' := (α, mm ν (nI a) (nI k) o)) (pc' := 63) kX12_sum_62 rfl rfl rf_a0 ?_
  refine ok_reti eX12_sum_63 rfl ?_
  exact ⟨_, rfl, rfl⟩
theorem m_sum_l {g : Nat → PR} {D : Nat} (hE : En ν u b n) (hx : x = nxb (fun i => ν 95 (b + i)) n) (hs : ∀ a, a ≤ n → rf_Ok (rf_T Ln xs) MX12_product (D + 4) 0 [some (.ref 94), none, none, none] [] (α, mm ν (nI a) (-1) o) (PQ α ν o (g a))) (hk : ∀ a, a ≤ n → PK u n a (g a)) (hv : ∀ a, a ≤ n → (g a).1 = true → EV (ν 98) (g a).2.2) : ∀ (k a : Nat) (c : List Int32), a ≤ n → n < k + a → EV (ν 98) c → rf_Ok (rf_T Ln xs) MX12_sum (D + 5) 5 [some (.ref 94), some (.int (evl (ν 98) c)), none, none] [] (α, mm ν (nI a) (-1) o) (PQ α ν o (prl x 3 g k a c)) := by
  have hn := hE.2.2.1
  intro k
  induction k with
  | zero =>
    intro a c h1 h2
    omega
  | succ k ih =>
    intro a c h1 h2 he
    unfold prl
    by_cases hl : lvl (x a) = 3
    · rw [if_pos hl, Nat.add_comm a 1]
      have han : a < n := lvl_lt (fun a h => nxb_y hx h) (by decide) hl
      rcases lv_3 hl with hc | hc
      · rcases e1 : g (1 + a) with ⟨_ | _, a2, c2⟩
        · have q1 := hk (1 + a) (by omega)
          rw [e1] at q1
          obtain ⟨q1, q2, -⟩ := q1
          simp only at q1 q2
          obtain ⟨v1, o1, hc1⟩ := PQ_f (hs (1 + a) (by omega)) e1
          refine ok_step (ps := []) (L' := [some (.ref 94), some (.int (evl (ν 98) c)), none, none]) (st' := [.ref 94]) (σ' := (α, mm ν (nI a) (-1) o)) (pc' := 6) kX12_sum_5 rfl rfl rf_a0 ?_
          refine ok_V (As := []) (b := 94) (st := []) mkX12_here qX12_sum_6 rfl (rc_94) rfl rfl rfl rfl (by omega) (m_here hE hx (by omega)) ?_
          refine ok_step (ps := []) (L' := [some (.ref 94), some (.int (evl (ν 98) c)), none, none]) (st' := [.int (nI 43), .int (x a)]) (σ' := (α, mm ν (nI a) (-1) o)) (pc' := 11) kX12_sum_9 rfl rfl rf_a0 ?_
          refine ok_icmp_eq bX12_sum_11 (fun _ => ?_) (fun h11 => absurd (hc) h11)
          refine ok_step (ps := []) (L' := [some (.ref 94), some (.int (evl (ν 98) c)), none, none]) (st' := [.ref 94]) (σ' := (α, mm ν (nI a) (-1) o)) (pc' := 24) kX12_sum_23 rfl rfl rf_a0 ?_
          refine ok_V (As := []) (b := 94) (st := []) mkX12_here qX12_sum_24 rfl (rc_94) rfl rfl rfl rfl (by omega) (m_here hE hx (by omega)) ?_
          refine ok_step (ps := []) (L' := [some (.ref 94), some (.int (evl (ν 98) c)), some (.int (x a)), none]) (st' := [.ref 94]) (σ' := (α, rf_w (mm ν (nI a) (-1) o) 94 5 (((mm ν (nI a) (-1) o) 94 5) + (nI 1)))) (pc' := 39) kX12_sum_27 rfl rfl rf_a0 ?_
          try rw [(show (mm ν (nI a) (-1) o) 94 5 = nI a from rfl)]
          try rw [(show ((nI a) + (nI 1)) = nI (1 + a) from rf_eq (rf_nadd (x := nI a) (y := nI 1) rfl rfl) (by omega))]
          rw [mm_5]
          refine ok_V (As := []) (b := 94) (st := []) mkX12_product qX12_sum_39 rfl (rc_94) rfl rfl rfl rfl (by omega) (hc1) ?_
          refine ok_step (ps := []) (L' := [some (.ref 94), some (.int (evl (ν 98) c)), some (.int (x a)), some (.int v1)]) (st' := [.int (nI 43), .int (x a)]) (σ' := (α, mm ν (nI a2) (nI a2) o1)) (pc' := 46) kX12_sum_42 rfl rfl rf_a0 ?_
          refine ok_icmp_ne bX12_sum_46 (fun h46 => absurd (hc) h46) (fun _ => ?_)
          refine ok_step (ps := []) (L' := [some (.ref 94), some (.int (evl (ν 98) c)), some (.int (x a)), some (.int v1)]) (st' := [.int ((evl (ν 98) c) + v1)]) (σ' := (α, mm ν (nI a2) (nI a2) o1)) (pc' := 52) kX12_sum_49 rfl rfl rf_a0 ?_
          refine ok_goto bX12_sum_52 ?_
          refine ok_step (ps := []) (L' := [some (.ref 94), some (.int ((evl (ν 98) c) + v1)), some (.int (x a)), some (.int v1)]) (st' := []) (σ' := (α, mm ν (nI a2) (nI a2) o1)) (pc' := 59) kX12_sum_58 rfl rfl rf_a0 ?_
          refine ok_goto bX12_sum_59 ?_
          refine ok_kill (x := 2) ?_
          refine ok_kill (x := 3) ?_
          exact (m_sum_f (g := g) hE (by omega)).mono (fun r s hq => by obtain ⟨v, rfl, rfl⟩ := hq; exact Or.inr ⟨rfl, _, _, rfl, rfl⟩)
        · have q1 := hk (1 + a) (by omega)
          have q4 := hv (1 + a) (by omega)
          rw [e1] at q1 q4
          obtain ⟨q1, q2, -⟩ := q1
          simp only at q1 q2
          replace q4 : EV (ν 98) c2 := q4 rfl
          have hj := ev_join (s := x a) he q4 (by rw [hc]; decide)
          have hj1 := hj.1.trans (congrArg (fun s => jn2 s (evl (ν 98) c) (evl (ν 98) c2)) hc)
          simp only [jn2_43] at hj1
          have hc1 := PQ_t (hs (1 + a) (by omega)) e1
          refine ok_step (ps := []) (L' := [some (.ref 94), some (.int (evl (ν 98) c)), none, none]) (st' := [.ref 94]) (σ' := (α, mm ν (nI a) (-1) o)) (pc' := 6) kX12_sum_5 rfl rfl rf_a0 ?_
          refine ok_V (As := []) (b := 94) (st := []) mkX12_here qX12_sum_6 rfl (rc_94) rfl rfl rfl rfl (by omega) (m_here hE hx (by omega)) ?_
          refine ok_step (ps := []) (L' := [some (.ref 94), some (.int (evl (ν 98) c)), none, none]) (st' := [.int (nI 43), .int (x a)]) (σ' := (α, mm ν (nI a) (-1) o)) (pc' := 11) kX12_sum_9 rfl rfl rf_a0 ?_
          refine ok_icmp_eq bX12_sum_11 (fun _ => ?_) (fun h11 => absurd (hc) h11)
          refine ok_step (ps := []) (L' := [some (.ref 94), some (.int (evl (ν 98) c)), none, none]) (st' := [.ref 94]) (σ' := (α, mm ν (nI a) (-1) o)) (pc' := 24) kX12_sum_23 rfl rfl rf_a0 ?_
          refine ok_V (As := []) (b := 94) (st := []) mkX12_here qX12_sum_24 rfl (rc_94) rfl rfl rfl rfl (by omega) (m_here hE hx (by omega)) ?_
          refine ok_step (ps := []) (L' := [some (.ref 94), some (.int (evl (ν 98) c)), some (.int (x a)), none]) (st' := [.ref 94]) (σ' := (α, rf_w (mm ν (nI a) (-1) o) 94 5 (((mm ν (nI a) (-1) o) 94 5) + (nI 1)))) (pc' := 39) kX12_sum_27 rfl rfl rf_a0 ?_
          try rw [(show (mm ν (nI a) (-1) o) 94 5 = nI a from rfl)]
          try rw [(show ((nI a) + (nI 1)) = nI (1 + a) from rf_eq (rf_nadd (x := nI a) (y := nI 1) rfl rfl) (by omega))]
          rw [mm_5]
          refine ok_V (As := []) (b := 94) (st := []) mkX12_product qX12_sum_39 rfl (rc_94) rfl rfl rfl rfl (by omega) (hc1) ?_
          refine ok_step (ps := []) (L' := [some (.ref 94), some (.int (evl (ν 98) c)), some (.int (x a)), some (.int (evl (ν 98) c2))]) (st' := [.int (nI 43), .int (x a)]) (σ' := (α, mm ν (nI a2) (-1) o)) (pc' := 46) kX12_sum_42 rfl rfl rf_a0 ?_
          refine ok_icmp_ne bX12_sum_46 (fun h46 => absurd (hc) h46) (fun _ => ?_)
          refine ok_step (ps := []) (L' := [some (.ref 94), some (.int (evl (ν 98) c)), some (.int (x a)), some (.int (evl (ν 98) c2))]) (st' := [.int ((evl (ν 98) c) + (evl (ν 98) c2))]) (σ' := (α, mm ν (nI a2) (-1) o)) (pc' := 52) kX12_sum_49 rfl rfl rf_a0 ?_
          refine ok_goto bX12_sum_52 ?_
          refine ok_step (ps := []) (L' := [some (.ref 94), some (.int ((evl (ν 98) c) + (evl (ν 98) c2))), some (.int (x a)), some (.int (evl (ν 98) c2))]) (st' := []) (σ' := (α, mm ν (nI a2) (-1) o)) (pc' := 59) kX12_sum_58 rfl rfl rf_a0 ?_
          refine ok_goto bX12_sum_59 ?_
          have e2 : (evl (ν 98) c) + (evl (ν 98) c2) = evl (ν 98) (c ++ c2 ++ [20000 + x a]) := by rw [hj1]
          rw [e2]
          refine ok_kill (x := 2) ?_
          refine ok_kill (x := 3) ?_
          exact ih a2 _ q2 (by omega) hj.2
      · rcases e1 : g (1 + a) with ⟨_ | _, a2, c2⟩
        · have q1 := hk (1 + a) (by omega)
          rw [e1] at q1
          obtain ⟨q1, q2, -⟩ := q1
          simp only at q1 q2
          obtain ⟨v1, o1, hc1⟩ := PQ_f (hs (1 + a) (by omega)) e1
          refine ok_step (ps := []) (L' := [some (.ref 94), some (.int (evl (ν 98) c)), none, none]) (st' := [.ref 94]) (σ' := (α, mm ν (nI a) (-1) o)) (pc' := 6) kX12_sum_5 rfl rfl rf_a0 ?_
          refine ok_V (As := []) (b := 94) (st := []) mkX12_here qX12_sum_6 rfl (rc_94) rfl rfl rfl rfl (by omega) (m_here hE hx (by omega)) ?_
          refine ok_step (ps := []) (L' := [some (.ref 94), some (.int (evl (ν 98) c)), none, none]) (st' := [.int (nI 43), .int (x a)]) (σ' := (α, mm ν (nI a) (-1) o)) (pc' := 11) kX12_sum_9 rfl rfl rf_a0 ?_
          refine ok_icmp_eq bX12_sum_11 (fun h11 => absurd h11 ((by rw [hc]; decide))) (fun _ => ?_)
          refine ok_step (ps := []) (L' := [some (.ref 94), some (.int (evl (ν 98) c)), none, none]) (st' := [.ref 94]) (σ' := (α, mm ν (nI a) (-1) o)) (pc' := 15) kX12_sum_14 rfl rfl rf_a0 ?_
          refine ok_V (As := []) (b := 94) (st := []) mkX12_here qX12_sum_15 rfl (rc_94) rfl rfl rfl rfl (by omega) (m_here hE hx (by omega)) ?_
          refine ok_step (ps := []) (L' := [some (.ref 94), some (.int (evl (ν 98) c)), none, none]) (st' := [.int (nI 45), .int (x a)]) (σ' := (α, mm ν (nI a) (-1) o)) (pc' := 20) kX12_sum_18 rfl rfl rf_a0 ?_
          refine ok_icmp_ne bX12_sum_20 (fun h20 => absurd (hc) h20) (fun _ => ?_)
          refine ok_step (ps := []) (L' := [some (.ref 94), some (.int (evl (ν 98) c)), none, none]) (st' := [.ref 94]) (σ' := (α, mm ν (nI a) (-1) o)) (pc' := 24) kX12_sum_23 rfl rfl rf_a0 ?_
          refine ok_V (As := []) (b := 94) (st := []) mkX12_here qX12_sum_24 rfl (rc_94) rfl rfl rfl rfl (by omega) (m_here hE hx (by omega)) ?_
          refine ok_step (ps := []) (L' := [some (.ref 94), some (.int (evl (ν 98) c)), some (.int (x a)), none]) (st' := [.ref 94]) (σ' := (α, rf_w (mm ν (nI a) (-1) o) 94 5 (((mm ν (nI a) (-1) o) 94 5) + (nI 1)))) (pc' := 39) kX12_sum_27 rfl rfl rf_a0 ?_
          try rw [(show (mm ν (nI a) (-1) o) 94 5 = nI a from rfl)]
          try rw [(show ((nI a) + (nI 1)) = nI (1 + a) from rf_eq (rf_nadd (x := nI a) (y := nI 1) rfl rfl) (by omega))]
          rw [mm_5]
          refine ok_V (As := []) (b := 94) (st := []) mkX12_product qX12_sum_39 rfl (rc_94) rfl rfl rfl rfl (by omega) (hc1) ?_
          refine ok_step (ps := []) (L' := [some (.ref 94), some (.int (evl (ν 98) c)), some (.int (x a)), some (.int v1)]) (st' := [.int (nI 43), .int (x a)]) (σ' := (α, mm ν (nI a2) (nI a2) o1)) (pc' := 46) kX12_sum_42 rfl rfl rf_a0 ?_
          refine ok_icmp_ne bX12_sum_46 (fun _ => ?_) (fun h46 => absurd h46 ((by rw [hc]; decide)))
          refine ok_step (ps := []) (L' := [some (.ref 94), some (.int (evl (ν 98) c)), some (.int (x a)), some (.int v1)]) (st' := [.int ((evl (ν 98) c) - v1)]) (σ' := (α, mm ν (nI a2) (nI a2) o1)) (pc' := 58) kX12_sum_55 rfl rfl rf_a0 ?_
          refine ok_step (ps := []) (L' := [some (.ref 94), some (.int ((evl (ν 98) c) - v1)), some (.int (x a)), some (.int v1)]) (st' := []) (σ' := (α, mm ν (nI a2) (nI a2) o1)) (pc' := 59) kX12_sum_58 rfl rfl rf_a0 ?_
          refine ok_goto bX12_sum_59 ?_
          refine ok_kill (x := 2) ?_
          refine ok_kill (x := 3) ?_
          exact (m_sum_f (g := g) hE (by omega)).mono (fun r s hq => by obtain ⟨v, rfl, rfl⟩ := hq; exact Or.inr ⟨rfl, _, _, rfl, rfl⟩)
        · have q1 := hk (1 + a) (by omega)
          have q4 := hv (1 + a) (by omega)
          rw [e1] at q1 q4
          obtain ⟨q1, q2, -⟩ := q1
          simp only at q1 q2
          replace q4 : EV (ν 98) c2 := q4 rfl
          have hj := ev_join (s := x a) he q4 (by rw [hc]; decide)
          have hj1 := hj.1.trans (congrArg (fun s => jn2 s (evl (ν 98) c) (evl (ν 98) c2)) hc)
          simp only [jn2_45] at hj1
          have hc1 := PQ_t (hs (1 + a) (by omega)) e1
          refine ok_step (ps := []) (L' := [some (.ref 94), some (.int (evl (ν 98) c)), none, none]) (st' := [.ref 94]) (σ' := (α, mm ν (nI a) (-1) o)) (pc' := 6) kX12_sum_5 rfl rfl rf_a0 ?_
          refine ok_V (As := []) (b := 94) (st := []) mkX12_here qX12_sum_6 rfl (rc_94) rfl rfl rfl rfl (by omega) (m_here hE hx (by omega)) ?_
          refine ok_step (ps := []) (L' := [some (.ref 94), some (.int (evl (ν 98) c)), none, none]) (st' := [.int (nI 43), .int (x a)]) (σ' := (α, mm ν (nI a) (-1) o)) (pc' := 11) kX12_sum_9 rfl rfl rf_a0 ?_
          refine ok_icmp_eq bX12_sum_11 (fun h11 => absurd h11 ((by rw [hc]; decide))) (fun _ => ?_)
          refine ok_step (ps := []) (L' := [some (.ref 94), some (.int (evl (ν 98) c)), none, none]) (st' := [.ref 94]) (σ' := (α, mm ν (nI a) (-1) o)) (pc' := 15) kX12_sum_14 rfl rfl rf_a0 ?_
          refine ok_V (As := []) (b := 94) (st := []) mkX12_here qX12_sum_15 rfl (rc_94) rfl rfl rfl rfl (by omega) (m_here hE hx (by omega)) ?_
          refine ok_step (ps := []) (L' := [some (.ref 94), some (.int (evl (ν 98) c)), none, none]) (st' := [.int (nI 45), .int (x a)]) (σ' := (α, mm ν (nI a) (-1) o)) (pc' := 20) kX12_sum_18 rfl rfl rf_a0 ?_
          refine ok_icmp_ne bX12_sum_20 (fun h20 => absurd (hc) h20) (fun _ => ?_)
          refine ok_step (ps := []) (L' := [some (.ref 94), some (.int (evl (ν 98) c)), none, none]) (st' := [.ref 94]) (σ' := (α, mm ν (nI a) (-1) o)) (pc' := 24) kX12_sum_23 rfl rfl rf_a0 ?_
          refine ok_V (As := []) (b := 94) (st := []) mkX12_here qX12_sum_24 rfl (rc_94) rfl rfl rfl rfl (by omega) (m_here hE hx (by omega)) ?_
          refine ok_step (ps := []) (L' := [some (.ref 94), some (.int (evl (ν 98) c)), some (.int (x a)), none]) (st' := [.ref 94]) (σ' := (α, rf_w (mm ν (nI a) (-1) o) 94 5 (((mm ν (nI a) (-1) o) 94 5) + (nI 1)))) (pc' := 39) kX12_sum_27 rfl rfl rf_a0 ?_
          try rw [(show (mm ν (nI a) (-1) o) 94 5 = nI a from rfl)]
          try rw [(show ((nI a) + (nI 1)) = nI (1 + a) from rf_eq (rf_nadd (x := nI a) (y := nI 1) rfl rfl) (by omega))]
          rw [mm_5]
          refine ok_V (As := []) (b := 94) (st := []) mkX12_product qX12_sum_39 rfl (rc_94) rfl rfl rfl rfl (by omega) (hc1) ?_
          refine ok_step (ps := []) (L' := [some (.ref 94), some (.int (evl (ν 98) c)), some (.int (x a)), some (.int (evl (ν 98) c2))]) (st' := [.int (nI 43), .int (x a)]) (σ' := (α, mm ν (nI a2) (-1) o)) (pc' := 46) kX12_sum_42 rfl rfl rf_a0 ?_
          refine ok_icmp_ne bX12_sum_46 (fun _ => ?_) (fun h46 => absurd h46 ((by rw [hc]; decide)))
          refine ok_step (ps := []) (L' := [some (.ref 94), some (.int (evl (ν 98) c)), some (.int (x a)), some (.int (evl (ν 98) c2))]) (st' := [.int ((evl (ν 98) c) - (evl (ν 98) c2))]) (σ' := (α, mm ν (nI a2) (-1) o)) (pc' := 58) kX12_sum_55 rfl rfl rf_a0 ?_
          refine ok_step (ps := []) (L' := [some (.ref 94), some (.int ((evl (ν 98) c) - (evl (ν 98) c2))), some (.int (x a)), some (.int (evl (ν 98) c2))]) (st' := []) (σ' := (α, mm ν (nI a2) (-1) o)) (pc' := 59) kX12_sum_58 rfl rfl rf_a0 ?_
          refine ok_goto bX12_sum_59 ?_
          have e2 : (evl (ν 98) c) - (evl (ν 98) c2) = evl (ν 98) (c ++ c2 ++ [20000 + x a]) := by rw [hj1]
          rw [e2]
          refine ok_kill (x := 2) ?_
          refine ok_kill (x := 3) ?_
          exact ih a2 _ q2 (by omega) hj.2
    · rw [if_neg hl]
      have n43 : ¬ x a = nI 43 := fun e => hl (by rw [e]; decide)
      have n45 : ¬ x a = nI 45 := fun e => hl (by rw [e]; decide)
      refine ok_step (ps := []) (L' := [some (.ref 94), some (.int (evl (ν 98) c)), none, none]) (st' := [.ref 94]) (σ' := (α, mm ν (nI a) (-1) o)) (pc' := 6) kX12_sum_5 rfl rfl rf_a0 ?_
      refine ok_V (As := []) (b := 94) (st := []) mkX12_here qX12_sum_6 rfl (rc_94) rfl rfl rfl rfl (by omega) (m_here hE hx (by omega)) ?_
      refine ok_step (ps := []) (L' := [some (.ref 94), some (.int (evl (ν 98) c)), none, none]) (st' := [.int (nI 43), .int (x a)]) (σ' := (α, mm ν (nI a) (-1) o)) (pc' := 11) kX12_sum_9 rfl rfl rf_a0 ?_
      refine ok_icmp_eq bX12_sum_11 (fun h11 => absurd h11 (n43)) (fun _ => ?_)
      refine ok_step (ps := []) (L' := [some (.ref 94), some (.int (evl (ν 98) c)), none, none]) (st' := [.ref 94]) (σ' := (α, mm ν (nI a) (-1) o)) (pc' := 15) kX12_sum_14 rfl rfl rf_a0 ?_
      refine ok_V (As := []) (b := 94) (st := []) mkX12_here qX12_sum_15 rfl (rc_94) rfl rfl rfl rfl (by omega) (m_here hE hx (by omega)) ?_
      refine ok_step (ps := []) (L' := [some (.ref 94), some (.int (evl (ν 98) c)), none, none]) (st' := [.int (nI 45), .int (x a)]) (σ' := (α, mm ν (nI a) (-1) o)) (pc' := 20) kX12_sum_18 rfl rfl rf_a0 ?_
      refine ok_icmp_ne bX12_sum_20 (fun _ => ?_) (fun h20 => absurd h20 (n45))
      refine ok_step (ps := []) (L' := [some (.ref 94), some (.int (evl (ν 98) c)), none, none]) (st' := [.int (evl (ν 98) c)]) (σ' := (α, mm ν (nI a) (-1) o)) (pc' := 63) kX12_sum_62 rfl rfl rf_a0 ?_
      refine ok_reti eX12_sum_63 rfl ?_
      exact Or.inl ⟨rfl, rfl, rfl⟩
theorem m_sum {g : Nat → PR} {D a : Nat} (hE : En ν u b n) (hx : x = nxb (fun i => ν 95 (b + i)) n) (hs : ∀ a, a ≤ n → rf_Ok (rf_T Ln xs) MX12_product (D + 4) 0 [some (.ref 94), none, none, none] [] (α, mm ν (nI a) (-1) o) (PQ α ν o (g a))) (hk : ∀ a, a ≤ n → PK u n a (g a)) (hv : ∀ a, a ≤ n → (g a).1 = true → EV (ν 98) (g a).2.2) (ha : a ≤ n) : rf_Ok (rf_T Ln xs) MX12_sum (D + 5) 0 [some (.ref 94), none, none, none] [] (α, mm ν (nI a) (-1) o) (PQ α ν o (match g a with | (true, a2, c2) => prl x 3 g 50 a2 c2 | (false, a2, c2) => (false, a2, c2))) := by
  have hn := hE.2.2.1
  rcases e1 : g a with ⟨_ | _, a2, c2⟩
  · have q1 := hk a ha
    rw [e1] at q1
    obtain ⟨q1, q2, -⟩ := q1
    simp only at q1 q2
    obtain ⟨v1, o1, hc1⟩ := PQ_f (hs a ha) e1
    refine ok_step (ps := []) (L' := [some (.ref 94), none, none, none]) (st' := [.ref 94]) (σ' := (α, mm ν (nI a) (-1) o)) (pc' := 1) kX12_sum_0 rfl rfl rf_a0 ?_
    refine ok_V (As := []) (b := 94) (st := []) mkX12_product qX12_sum_1 rfl (rc_94) rfl rfl rfl rfl (by omega) (hc1) ?_
    refine ok_step (ps := []) (L' := [some (.ref 94), some (.int v1), none, none]) (st' := []) (σ' := (α, mm ν (nI a2) (nI a2) o1)) (pc' := 5) kX12_sum_4 rfl rfl rf_a0 ?_
    exact (m_sum_f (g := g) hE (by omega)).mono (fun r s hq => by obtain ⟨v, rfl, rfl⟩ := hq; exact Or.inr ⟨rfl, _, _, rfl, rfl⟩)
  · have q1 := hk a ha
    have q4 := hv a ha
    rw [e1] at q1 q4
    obtain ⟨q1, q2, q3, -, q5⟩ := q1
    simp only at q1 q2 q3
    replace q5 : 1 ≤ c2.length := q5 rfl
    replace q4 : EV (ν 98) c2 := q4 rfl
    have hc1 := PQ_t (hs a ha) e1
    refine ok_step (ps := []) (L' := [some (.ref 94), none, none, none]) (st' := [.ref 94]) (σ' := (α, mm ν (nI a) (-1) o)) (pc' := 1) kX12_sum_0 rfl rfl rf_a0 ?_
    refine ok_V (As := []) (b := 94) (st := []) mkX12_product qX12_sum_1 rfl (rc_94) rfl rfl rfl rfl (by omega) (hc1) ?_
    refine ok_step (ps := []) (L' := [some (.ref 94), some (.int (evl (ν 98) c2)), none, none]) (st' := []) (σ' := (α, mm ν (nI a2) (-1) o)) (pc' := 5) kX12_sum_4 rfl rfl rf_a0 ?_
    exact m_sum_l hE hx hs hk hv 50 a2 c2 q2 (by omega) q4
theorem m_product_f {g : Nat → PR} {D a k : Nat} {v : Int32} (hE : En ν u b n) (hk : k ≤ 100) : rf_Ok (rf_T Ln xs) MX12_product (D + 5) 5 [some (.ref 94), some (.int v), none, none] [] (α, mm ν (nI a) (nI k) o) (fun r s => ∃ v, r = some (.int v) ∧ s = (α, mm ν (nI a) (nI k) o)) := by
  refine ok_step (ps := []) (L' := [some (.ref 94), some (.int v), none, none]) (st' := [.ref 94]) (σ' := (α, mm ν (nI a) (nI k) o)) (pc' := 6) kX12_product_5 rfl rfl rf_a0 ?_
  refine ok_V (As := []) (b := 94) (st := []) mkX12_here qX12_product_6 rfl (rc_94) rfl rfl rfl rfl (by omega) (m_here_f hE (by omega)) ?_
  refine ok_step (ps := []) (L' := [some (.ref 94), some (.int v), none, none]) (st' := [.int (nI 42), .int (-1)]) (σ' := (α, mm ν (nI a) (nI k) o)) (pc' := 11) kX12_product_9 rfl rfl rf_a0 ?_
  refine ok_icmp_eq bX12_product_11 (fun h11 => absurd h11 ((by decide))) (fun _ => ?_)
  refine ok_step (ps := []) (L' := [some (.ref 94), some (.int v), none, none]) (st' := [.ref 94]) (σ' := (α, mm ν (nI a) (nI k) o)) (pc' := 15) kX12_product_14 rfl rfl rf_a0 ?_
  refine ok_V (As := []) (b := 94) (st := []) mkX12_here qX12_product_15 rfl (rc_94) rfl rfl rfl rfl (by omega) (m_here_f hE (by omega)) ?_
  refine ok_step (ps := []) (L' := [some (.ref 94), some (.int v), none, none]) (st' := [.int (nI 47), .int (-1)]) (σ' := (α, mm ν (nI a) (nI k) o)) (pc' := 20) kX12_product_18 rfl rfl rf_a0 ?_
  refine ok_icmp_eq bX12_product_20 (fun h20 => absurd h20 ((by decide))) (fun _ => ?_)
  refine ok_step (ps := []) (L' := [some (.ref 94), some (.int v), none, none]) (st' := [.ref 94]) (σ' := (α, mm ν (nI a) (nI k) o)) (pc' := 24) kX12_product_23 rfl rfl rf_a0 ?_
  refine ok_V (As := []) (b := 94) (st := []) mkX12_here qX12_product_24 rfl (rc_94) rfl rfl rfl rfl (by omega) (m_here_f hE (by omega)) ?_
  refine ok_step (ps := []) (L' := [some (.ref 94), some (.int v), none, none]) (st' := [.int (nI 37), .int (-1)]) (σ' := (α, mm ν (nI a) (nI k) o)) (pc' := 29) kX12_product_27 rfl rfl rf_a0 ?_
  refine ok_icmp_ne bX12_product_29 (fun _ => ?_) (fun h29 => absurd h29 ((by decide)))
  refine ok_step (ps := []) (L' := [some (.ref 94), some (.int v), none, none]) (st' := [.int v]) (σ' := (α, mm ν (nI a) (nI k) o)) (pc' := 92) kX12_product_91 rfl rfl rf_a0 ?_
  refine ok_reti eX12_product_92 rfl ?_
  exact ⟨_, rfl, rfl⟩
theorem m_product_l {g : Nat → PR} {D : Nat} (hE : En ν u b n) (hx : x = nxb (fun i => ν 95 (b + i)) n) (hs : ∀ a, a ≤ n → rf_Ok (rf_T Ln xs) MX12_unit (D + 4) 0 [some (.ref 94), none, none, none, none] [] (α, mm ν (nI a) (-1) o) (PQ α ν o (g a))) (hk : ∀ a, a ≤ n → PK u n a (g a)) (hv : ∀ a, a ≤ n → (g a).1 = true → EV (ν 98) (g a).2.2) : ∀ (k a : Nat) (c : List Int32), a ≤ n → n < k + a → EV (ν 98) c → rf_Ok (rf_T Ln xs) MX12_product (D + 5) 5 [some (.ref 94), some (.int (evl (ν 98) c)), none, none] [] (α, mm ν (nI a) (-1) o) (PQ α ν o (prl x 4 g k a c)) := by
  have hn := hE.2.2.1
  intro k
  induction k with
  | zero =>
    intro a c h1 h2
    omega
  | succ k ih =>
    intro a c h1 h2 he
    unfold prl
    by_cases hl : lvl (x a) = 4
    · rw [if_pos hl, Nat.add_comm a 1]
      have han : a < n := lvl_lt (fun a h => nxb_y hx h) (by decide) hl
      rcases lv_4 hl with hc | hc | hc
      · rcases e1 : g (1 + a) with ⟨_ | _, a2, c2⟩
        · have q1 := hk (1 + a) (by omega)
          rw [e1] at q1
          obtain ⟨q1, q2, -⟩ := q1
          simp only at q1 q2
          obtain ⟨v1, o1, hc1⟩ := PQ_f (hs (1 + a) (by omega)) e1
          refine ok_step (ps := []) (L' := [some (.ref 94), some (.int (evl (ν 98) c)), none, none]) (st' := [.ref 94]) (σ' := (α, mm ν (nI a) (-1) o)) (pc' := 6) kX12_product_5 rfl rfl rf_a0 ?_
          refine ok_V (As := []) (b := 94) (st := []) mkX12_here qX12_product_6 rfl (rc_94) rfl rfl rfl rfl (by omega) (m_here hE hx (by omega)) ?_
          refine ok_step (ps := []) (L' := [some (.ref 94), some (.int (evl (ν 98) c)), none, none]) (st' := [.int (nI 42), .int (x a)]) (σ' := (α, mm ν (nI a) (-1) o)) (pc' := 11) kX12_product_9 rfl rfl rf_a0 ?_
          refine ok_icmp_eq bX12_product_11 (fun _ => ?_) (fun h11 => absurd (hc) h11)
          refine ok_step (ps := []) (L' := [some (.ref 94), some (.int (evl (ν 98) c)), none, none]) (st' := [.ref 94]) (σ' := (α, mm ν (nI a) (-1) o)) (pc' := 33) kX12_product_32 rfl rfl rf_a0 ?_
          refine ok_V (As := []) (b := 94) (st := []) mkX12_here qX12_product_33 rfl (rc_94) rfl rfl rfl rfl (by omega) (m_here hE hx (by omega)) ?_
          refine ok_step (ps := []) (L' := [some (.ref 94), some (.int (evl (ν 98) c)), some (.int (x a)), none]) (st' := [.ref 94]) (σ' := (α, rf_w (mm ν (nI a) (-1) o) 94 5 (((mm ν (nI a) (-1) o) 94 5) + (nI 1)))) (pc' := 48) kX12_product_36 rfl rfl rf_a0 ?_
          try rw [(show (mm ν (nI a) (-1) o) 94 5 = nI a from rfl)]
          try rw [(show ((nI a) + (nI 1)) = nI (1 + a) from rf_eq (rf_nadd (x := nI a) (y := nI 1) rfl rfl) (by omega))]
          rw [mm_5]
          refine ok_V (As := []) (b := 94) (st := []) mkX12_unit qX12_product_48 rfl (rc_94) rfl rfl rfl rfl (by omega) (hc1) ?_
          refine ok_step (ps := []) (L' := [some (.ref 94), some (.int (evl (ν 98) c)), some (.int (x a)), some (.int v1)]) (st' := [.int (nI 42), .int (x a)]) (σ' := (α, mm ν (nI a2) (nI a2) o1)) (pc' := 55) kX12_product_51 rfl rfl rf_a0 ?_
          refine ok_icmp_ne bX12_product_55 (fun h55 => absurd (hc) h55) (fun _ => ?_)
          refine ok_step (ps := []) (L' := [some (.ref 94), some (.int (evl (ν 98) c)), some (.int (x a)), some (.int v1)]) (st' := [.int ((evl (ν 98) c) * v1)]) (σ' := (α, mm ν (nI a2) (nI a2) o1)) (pc' := 61) kX12_product_58 rfl rfl rf_a0 ?_
          refine ok_goto bX12_product_61 ?_
          refine ok_step (ps := []) (L' := [some (.ref 94), some (.int ((evl (ν 98) c) * v1)), some (.int (x a)), some (.int v1)]) (st' := []) (σ' := (α, mm ν (nI a2) (nI a2) o1)) (pc' := 88) kX12_product_87 rfl rfl rf_a0 ?_
          refine ok_goto bX12_product_88 ?_
          refine ok_kill (x := 2) ?_
          refine ok_kill (x := 3) ?_
          exact (m_product_f (g := g) hE (by omega)).mono (fun r s hq => by obtain ⟨v, rfl, rfl⟩ := hq; exact Or.inr ⟨rfl, _, _, rfl, rfl⟩)
        · have q1 := hk (1 + a) (by omega)
          have q4 := hv (1 + a) (by omega)
          rw [e1] at q1 q4
          obtain ⟨q1, q2, -⟩ := q1
          simp only at q1 q2
          replace q4 : EV (ν 98) c2 := q4 rfl
          have hj := ev_join (s := x a) he q4 (by rw [hc]; decide)
          have hj1 := hj.1.trans (congrArg (fun s => jn2 s (evl (ν 98) c) (evl (ν 98) c2)) hc)
          simp only [jn2_42] at hj1
          have hc1 := PQ_t (hs (1 + a) (by omega)) e1
          refine ok_step (ps := []) (L' := [some (.ref 94), some (.int (evl (ν 98) c)), none, none]) (st' := [.ref 94]) (σ' := (α, mm ν (nI a) (-1) o)) (pc' := 6) kX12_product_5 rfl rfl rf_a0 ?_
          refine ok_V (As := []) (b := 94) (st := []) mkX12_here qX12_product_6 rfl (rc_94) rfl rfl rfl rfl (by omega) (m_here hE hx (by omega)) ?_
          refine ok_step (ps := []) (L' := [some (.ref 94), some (.int (evl (ν 98) c)), none, none]) (st' := [.int (nI 42), .int (x a)]) (σ' := (α, mm ν (nI a) (-1) o)) (pc' := 11) kX12_product_9 rfl rfl rf_a0 ?_
          refine ok_icmp_eq bX12_product_11 (fun _ => ?_) (fun h11 => absurd (hc) h11)
          refine ok_step (ps := []) (L' := [some (.ref 94), some (.int (evl (ν 98) c)), none, none]) (st' := [.ref 94]) (σ' := (α, mm ν (nI a) (-1) o)) (pc' := 33) kX12_product_32 rfl rfl rf_a0 ?_
          refine ok_V (As := []) (b := 94) (st := []) mkX12_here qX12_product_33 rfl (rc_94) rfl rfl rfl rfl (by omega) (m_here hE hx (by omega)) ?_
          refine ok_step (ps := []) (L' := [some (.ref 94), some (.int (evl (ν 98) c)), some (.int (x a)), none]) (st' := [.ref 94]) (σ' := (α, rf_w (mm ν (nI a) (-1) o) 94 5 (((mm ν (nI a) (-1) o) 94 5) + (nI 1)))) (pc' := 48) kX12_product_36 rfl rfl rf_a0 ?_
          try rw [(show (mm ν (nI a) (-1) o) 94 5 = nI a from rfl)]
          try rw [(show ((nI a) + (nI 1)) = nI (1 + a) from rf_eq (rf_nadd (x := nI a) (y := nI 1) rfl rfl) (by omega))]
          rw [mm_5]
          refine ok_V (As := []) (b := 94) (st := []) mkX12_unit qX12_product_48 rfl (rc_94) rfl rfl rfl rfl (by omega) (hc1) ?_
          refine ok_step (ps := []) (L' := [some (.ref 94), some (.int (evl (ν 98) c)), some (.int (x a)), some (.int (evl (ν 98) c2))]) (st' := [.int (nI 42), .int (x a)]) (σ' := (α, mm ν (nI a2) (-1) o)) (pc' := 55) kX12_product_51 rfl rfl rf_a0 ?_
          refine ok_icmp_ne bX12_product_55 (fun h55 => absurd (hc) h55) (fun _ => ?_)
          refine ok_step (ps := []) (L' := [some (.ref 94), some (.int (evl (ν 98) c)), some (.int (x a)), some (.int (evl (ν 98) c2))]) (st' := [.int ((evl (ν 98) c) * (evl (ν 98) c2))]) (σ' := (α, mm ν (nI a2) (-1) o)) (pc' := 61) kX12_product_58 rfl rfl rf_a0 ?_
          refine ok_goto bX12_product_61 ?_
          refine ok_step (ps := []) (L' := [some (.ref 94), some (.int ((evl (ν 98) c) * (evl (ν 98) c2))), some (.int (x a)), some (.int (evl (ν 98) c2))]) (st' := []) (σ' := (α, mm ν (nI a2) (-1) o)) (pc' := 88) kX12_product_87 rfl rfl rf_a0 ?_
          refine ok_goto bX12_product_88 ?_
          have e2 : (evl (ν 98) c) * (evl (ν 98) c2) = evl (ν 98) (c ++ c2 ++ [20000 + x a]) := by rw [hj1]
          rw [e2]
          refine ok_kill (x := 2) ?_
          refine ok_kill (x := 3) ?_
          exact ih a2 _ q2 (by omega) hj.2
      · rcases e1 : g (1 + a) with ⟨_ | _, a2, c2⟩
        · have q1 := hk (1 + a) (by omega)
          rw [e1] at q1
          obtain ⟨q1, q2, -⟩ := q1
          simp only at q1 q2
          obtain ⟨v1, o1, hc1⟩ := PQ_f (hs (1 + a) (by omega)) e1
          refine ok_step (ps := []) (L' := [some (.ref 94), some (.int (evl (ν 98) c)), none, none]) (st' := [.ref 94]) (σ' := (α, mm ν (nI a) (-1) o)) (pc' := 6) kX12_product_5 rfl rfl rf_a0 ?_
          refine ok_V (As := []) (b := 94) (st := []) mkX12_here qX12_product_6 rfl (rc_94) rfl rfl rfl rfl (by omega) (m_here hE hx (by omega)) ?_
          refine ok_step (ps := []) (L' := [some (.ref 94), some (.int (evl (ν 98) c)), none, none]) (st' := [.int (nI 42), .int (x a)]) (σ' := (α, mm ν (nI a) (-1) o)) (pc' := 11) kX12_product_9 rfl rfl rf_a0 ?_
          refine ok_icmp_eq bX12_product_11 (fun h11 => absurd h11 ((by rw [hc]; decide))) (fun _ => ?_)
          refine ok_step (ps := []) (L' := [some (.ref 94), some (.int (evl (ν 98) c)), none, none]) (st' := [.ref 94]) (σ' := (α, mm ν (nI a) (-1) o)) (pc' := 15) kX12_product_14 rfl rfl rf_a0 ?_
          refine ok_V (As := []) (b := 94) (st := []) mkX12_here qX12_product_15 rfl (rc_94) rfl rfl rfl rfl (by omega) (m_here hE hx (by omega)) ?_
          refine ok_step (ps := []) (L' := [some (.ref 94), some (.int (evl (ν 98) c)), none, none]) (st' := [.int (nI 47), .int (x a)]) (σ' := (α, mm ν (nI a) (-1) o)) (pc' := 20) kX12_product_18 rfl rfl rf_a0 ?_
          refine ok_icmp_eq bX12_product_20 (fun _ => ?_) (fun h20 => absurd (hc) h20)
          refine ok_step (ps := []) (L' := [some (.ref 94), some (.int (evl (ν 98) c)), none, none]) (st' := [.ref 94]) (σ' := (α, mm ν (nI a) (-1) o)) (pc' := 33) kX12_product_32 rfl rfl rf_a0 ?_
          refine ok_V (As := []) (b := 94) (st := []) mkX12_here qX12_product_33 rfl (rc_94) rfl rfl rfl rfl (by omega) (m_here hE hx (by omega)) ?_
          refine ok_step (ps := []) (L' := [some (.ref 94), some (.int (evl (ν 98) c)), some (.int (x a)), none]) (st' := [.ref 94]) (σ' := (α, rf_w (mm ν (nI a) (-1) o) 94 5 (((mm ν (nI a) (-1) o) 94 5) + (nI 1)))) (pc' := 48) kX12_product_36 rfl rfl rf_a0 ?_
          try rw [(show (mm ν (nI a) (-1) o) 94 5 = nI a from rfl)]
          try rw [(show ((nI a) + (nI 1)) = nI (1 + a) from rf_eq (rf_nadd (x := nI a) (y := nI 1) rfl rfl) (by omega))]
          rw [mm_5]
          refine ok_V (As := []) (b := 94) (st := []) mkX12_unit qX12_product_48 rfl (rc_94) rfl rfl rfl rfl (by omega) (hc1) ?_
          refine ok_step (ps := []) (L' := [some (.ref 94), some (.int (evl (ν 98) c)), some (.int (x a)), some (.int v1)]) (st' := [.int (nI 42), .int (x a)]) (σ' := (α, mm ν (nI a2) (nI a2) o1)) (pc' := 55) kX12_product_51 rfl rfl rf_a0 ?_
          refine ok_icmp_ne bX12_product_55 (fun _ => ?_) (fun h55 => absurd h55 ((by rw [hc]; decide)))
          refine ok_step (ps := []) (L' := [some (.ref 94), some (.int (evl (ν 98) c)), some (.int (x a)), some (.int v1)]) (st' := [.int v1]) (σ' := (α, mm ν (nI a2) (nI a2) o1)) (pc' := 65) kX12_product_64 rfl rfl rf_a0 ?_
          refine ok_if_ne bX12_product_65 (fun h65 => ?_) (fun h65 => ?_)
          · refine ok_step (ps := []) (L' := [some (.ref 94), some (.int (evl (ν 98) c)), some (.int (x a)), some (.int v1)]) (st' := [.int (nI 47), .int (x a)]) (σ' := (α, mm ν (nI a2) (nI a2) o1)) (pc' := 75) kX12_product_72 rfl rfl rf_a0 ?_
            refine ok_icmp_ne bX12_product_75 (fun h75 => absurd (hc) h75) (fun _ => ?_)
            refine ok_step (ps := [rf_nz v1]) (L' := [some (.ref 94), some (.int (evl (ν 98) c)), some (.int (x a)), some (.int v1)]) (st' := [.int ((evl (ν 98) c) / v1)]) (σ' := (α, mm ν (nI a2) (nI a2) o1)) (pc' := 81) kX12_product_78 rfl rfl (rf_a1 (by first | exact nz_of h65 | exact nz_of h82) rf_a0) ?_
            refine ok_goto bX12_product_81 ?_
            refine ok_step (ps := []) (L' := [some (.ref 94), some (.int ((evl (ν 98) c) / v1)), some (.int (x a)), some (.int v1)]) (st' := []) (σ' := (α, mm ν (nI a2) (nI a2) o1)) (pc' := 88) kX12_product_87 rfl rfl rf_a0 ?_
            refine ok_goto bX12_product_88 ?_
            refine ok_kill (x := 2) ?_
            refine ok_kill (x := 3) ?_
            exact (m_product_f (g := g) hE (by omega)).mono (fun r s hq => by obtain ⟨v, rfl, rfl⟩ := hq; exact Or.inr ⟨rfl, _, _, rfl, rfl⟩)
          · refine ok_step (ps := []) (L' := [some (.ref 94), some (.int (evl (ν 98) c)), some (.int (x a)), some (.int v1)]) (st' := [.int (nI 0)]) (σ' := (α, mm ν (nI a2) (nI a2) o1)) (pc' := 69) kX12_product_68 rfl rfl rf_a0 ?_
            refine ok_goto bX12_product_69 ?_
            refine ok_step (ps := []) (L' := [some (.ref 94), some (.int (nI 0)), some (.int (x a)), some (.int v1)]) (st' := []) (σ' := (α, mm ν (nI a2) (nI a2) o1)) (pc' := 88) kX12_product_87 rfl rfl rf_a0 ?_
            refine ok_goto bX12_product_88 ?_
            refine ok_kill (x := 2) ?_
            refine ok_kill (x := 3) ?_
            exact (m_product_f (g := g) hE (by omega)).mono (fun r s hq => by obtain ⟨v, rfl, rfl⟩ := hq; exact Or.inr ⟨rfl, _, _, rfl, rfl⟩)
        · have q1 := hk (1 + a) (by omega)
          have q4 := hv (1 + a) (by omega)
          rw [e1] at q1 q4
          obtain ⟨q1, q2, -⟩ := q1
          simp only at q1 q2
          replace q4 : EV (ν 98) c2 := q4 rfl
          have hj := ev_join (s := x a) he q4 (by rw [hc]; decide)
          have hj1 := hj.1.trans (congrArg (fun s => jn2 s (evl (ν 98) c) (evl (ν 98) c2)) hc)
          simp only [jn2_47] at hj1
          have hc1 := PQ_t (hs (1 + a) (by omega)) e1
          refine ok_step (ps := []) (L' := [some (.ref 94), some (.int (evl (ν 98) c)), none, none]) (st' := [.ref 94]) (σ' := (α, mm ν (nI a) (-1) o)) (pc' := 6) kX12_product_5 rfl rfl rf_a0 ?_
          refine ok_V (As := []) (b := 94) (st := []) mkX12_here qX12_product_6 rfl (rc_94) rfl rfl rfl rfl (by omega) (m_here hE hx (by omega)) ?_
          refine ok_step (ps := []) (L' := [some (.ref 94), some (.int (evl (ν 98) c)), none, none]) (st' := [.int (nI 42), .int (x a)]) (σ' := (α, mm ν (nI a) (-1) o)) (pc' := 11) kX12_product_9 rfl rfl rf_a0 ?_
          refine ok_icmp_eq bX12_product_11 (fun h11 => absurd h11 ((by rw [hc]; decide))) (fun _ => ?_)
          refine ok_step (ps := []) (L' := [some (.ref 94), some (.int (evl (ν 98) c)), none, none]) (st' := [.ref 94]) (σ' := (α, mm ν (nI a) (-1) o)) (pc' := 15) kX12_product_14 rfl rfl rf_a0 ?_
          refine ok_V (As := []) (b := 94) (st := []) mkX12_here qX12_product_15 rfl (rc_94) rfl rfl rfl rfl (by omega) (m_here hE hx (by omega)) ?_
          refine ok_step (ps := []) (L' := [some (.ref 94), some (.int (evl (ν 98) c)), none, none]) (st' := [.int (nI 47), .int (x a)]) (σ' := (α, mm ν (nI a) (-1) o)) (pc' := 20) kX12_product_18 rfl rfl rf_a0 ?_
          refine ok_icmp_eq bX12_product_20 (fun _ => ?_) (fun h20 => absurd (hc) h20)
          refine ok_step (ps := []) (L' := [some (.ref 94), some (.int (evl (ν 98) c)), none, none]) (st' := [.ref 94]) (σ' := (α, mm ν (nI a) (-1) o)) (pc' := 33) kX12_product_32 rfl rfl rf_a0 ?_
          refine ok_V (As := []) (b := 94) (st := []) mkX12_here qX12_product_33 rfl (rc_94) rfl rfl rfl rfl (by omega) (m_here hE hx (by omega)) ?_
          refine ok_step (ps := []) (L' := [some (.ref 94), some (.int (evl (ν 98) c)), some (.int (x a)), none]) (st' := [.ref 94]) (σ' := (α, rf_w (mm ν (nI a) (-1) o) 94 5 (((mm ν (nI a) (-1) o) 94 5) + (nI 1)))) (pc' := 48) kX12_product_36 rfl rfl rf_a0 ?_
          try rw [(show (mm ν (nI a) (-1) o) 94 5 = nI a from rfl)]
          try rw [(show ((nI a) + (nI 1)) = nI (1 + a) from rf_eq (rf_nadd (x := nI a) (y := nI 1) rfl rfl) (by omega))]
          rw [mm_5]
          refine ok_V (As := []) (b := 94) (st := []) mkX12_unit qX12_product_48 rfl (rc_94) rfl rfl rfl rfl (by omega) (hc1) ?_
          refine ok_step (ps := []) (L' := [some (.ref 94), some (.int (evl (ν 98) c)), some (.int (x a)), some (.int (evl (ν 98) c2))]) (st' := [.int (nI 42), .int (x a)]) (σ' := (α, mm ν (nI a2) (-1) o)) (pc' := 55) kX12_product_51 rfl rfl rf_a0 ?_
          refine ok_icmp_ne bX12_product_55 (fun _ => ?_) (fun h55 => absurd h55 ((by rw [hc]; decide)))
          refine ok_step (ps := []) (L' := [some (.ref 94), some (.int (evl (ν 98) c)), some (.int (x a)), some (.int (evl (ν 98) c2))]) (st' := [.int (evl (ν 98) c2)]) (σ' := (α, mm ν (nI a2) (-1) o)) (pc' := 65) kX12_product_64 rfl rfl rf_a0 ?_
          refine ok_if_ne bX12_product_65 (fun h65 => ?_) (fun h65 => ?_)
          · refine ok_step (ps := []) (L' := [some (.ref 94), some (.int (evl (ν 98) c)), some (.int (x a)), some (.int (evl (ν 98) c2))]) (st' := [.int (nI 47), .int (x a)]) (σ' := (α, mm ν (nI a2) (-1) o)) (pc' := 75) kX12_product_72 rfl rfl rf_a0 ?_
            refine ok_icmp_ne bX12_product_75 (fun h75 => absurd (hc) h75) (fun _ => ?_)
            refine ok_step (ps := [rf_nz (evl (ν 98) c2)]) (L' := [some (.ref 94), some (.int (evl (ν 98) c)), some (.int (x a)), some (.int (evl (ν 98) c2))]) (st' := [.int ((evl (ν 98) c) / (evl (ν 98) c2))]) (σ' := (α, mm ν (nI a2) (-1) o)) (pc' := 81) kX12_product_78 rfl rfl (rf_a1 (by first | exact nz_of h65 | exact nz_of h82) rf_a0) ?_
            refine ok_goto bX12_product_81 ?_
            refine ok_step (ps := []) (L' := [some (.ref 94), some (.int ((evl (ν 98) c) / (evl (ν 98) c2))), some (.int (x a)), some (.int (evl (ν 98) c2))]) (st' := []) (σ' := (α, mm ν (nI a2) (-1) o)) (pc' := 88) kX12_product_87 rfl rfl rf_a0 ?_
            refine ok_goto bX12_product_88 ?_
            have e2 : (evl (ν 98) c) / (evl (ν 98) c2) = evl (ν 98) (c ++ c2 ++ [20000 + x a]) := by rw [hj1]; first | (rw [if_pos h65]; rfl) | rw [if_neg h65]
            rw [e2]
            refine ok_kill (x := 2) ?_
            refine ok_kill (x := 3) ?_
            exact ih a2 _ q2 (by omega) hj.2
          · refine ok_step (ps := []) (L' := [some (.ref 94), some (.int (evl (ν 98) c)), some (.int (x a)), some (.int (evl (ν 98) c2))]) (st' := [.int (nI 0)]) (σ' := (α, mm ν (nI a2) (-1) o)) (pc' := 69) kX12_product_68 rfl rfl rf_a0 ?_
            refine ok_goto bX12_product_69 ?_
            refine ok_step (ps := []) (L' := [some (.ref 94), some (.int (nI 0)), some (.int (x a)), some (.int (evl (ν 98) c2))]) (st' := []) (σ' := (α, mm ν (nI a2) (-1) o)) (pc' := 88) kX12_product_87 rfl rfl rf_a0 ?_
            refine ok_goto bX12_product_88 ?_
            have e2 : nI 0 = evl (ν 98) (c ++ c2 ++ [20000 + x a]) := by rw [hj1]; first | (rw [if_pos h65]; rfl) | rw [if_neg h65]
            rw [e2]
            refine ok_kill (x := 2) ?_
            refine ok_kill (x := 3) ?_
            exact ih a2 _ q2 (by omega) hj.2
      · rcases e1 : g (1 + a) with ⟨_ | _, a2, c2⟩
        · have q1 := hk (1 + a) (by omega)
          rw [e1] at q1
          obtain ⟨q1, q2, -⟩ := q1
          simp only at q1 q2
          obtain ⟨v1, o1, hc1⟩ := PQ_f (hs (1 + a) (by omega)) e1
          refine ok_step (ps := []) (L' := [some (.ref 94), some (.int (evl (ν 98) c)), none, none]) (st' := [.ref 94]) (σ' := (α, mm ν (nI a) (-1) o)) (pc' := 6) kX12_product_5 rfl rfl rf_a0 ?_
          refine ok_V (As := []) (b := 94) (st := []) mkX12_here qX12_product_6 rfl (rc_94) rfl rfl rfl rfl (by omega) (m_here hE hx (by omega)) ?_
          refine ok_step (ps := []) (L' := [some (.ref 94), some (.int (evl (ν 98) c)), none, none]) (st' := [.int (nI 42), .int (x a)]) (σ' := (α, mm ν (nI a) (-1) o)) (pc' := 11) kX12_product_9 rfl rfl rf_a0 ?_
          refine ok_icmp_eq bX12_product_11 (fun h11 => absurd h11 ((by rw [hc]; decide))) (fun _ => ?_)
          refine ok_step (ps := []) (L' := [some (.ref 94), some (.int (evl (ν 98) c)), none, none]) (st' := [.ref 94]) (σ' := (α, mm ν (nI a) (-1) o)) (pc' := 15) kX12_product_14 rfl rfl rf_a0 ?_
          refine ok_V (As := []) (b := 94) (st := []) mkX12_here qX12_product_15 rfl (rc_94) rfl rfl rfl rfl (by omega) (m_here hE hx (by omega)) ?_
          refine ok_step (ps := []) (L' := [some (.ref 94), some (.int (evl (ν 98) c)), none, none]) (st' := [.int (nI 47), .int (x a)]) (σ' := (α, mm ν (nI a) (-1) o)) (pc' := 20) kX12_product_18 rfl rfl rf_a0 ?_
          refine ok_icmp_eq bX12_product_20 (fun h20 => absurd h20 ((by rw [hc]; decide))) (fun _ => ?_)
          refine ok_step (ps := []) (L' := [some (.ref 94), some (.int (evl (ν 98) c)), none, none]) (st' := [.ref 94]) (σ' := (α, mm ν (nI a) (-1) o)) (pc' := 24) kX12_product_23 rfl rfl rf_a0 ?_
          refine ok_V (As := []) (b := 94) (st := []) mkX12_here qX12_product_24 rfl (rc_94) rfl rfl rfl rfl (by omega) (m_here hE hx (by omega)) ?_
          refine ok_step (ps := []) (L' := [some (.ref 94), some (.int (evl (ν 98) c)), none, none]) (st' := [.int (nI 37), .int (x a)]) (σ' := (α, mm ν (nI a) (-1) o)) (pc' := 29) kX12_product_27 rfl rfl rf_a0 ?_
          refine ok_icmp_ne bX12_product_29 (fun h29 => absurd (hc) h29) (fun _ => ?_)
          refine ok_step (ps := []) (L' := [some (.ref 94), some (.int (evl (ν 98) c)), none, none]) (st' := [.ref 94]) (σ' := (α, mm ν (nI a) (-1) o)) (pc' := 33) kX12_product_32 rfl rfl rf_a0 ?_
          refine ok_V (As := []) (b := 94) (st := []) mkX12_here qX12_product_33 rfl (rc_94) rfl rfl rfl rfl (by omega) (m_here hE hx (by omega)) ?_
          refine ok_step (ps := []) (L' := [some (.ref 94), some (.int (evl (ν 98) c)), some (.int (x a)), none]) (st' := [.ref 94]) (σ' := (α, rf_w (mm ν (nI a) (-1) o) 94 5 (((mm ν (nI a) (-1) o) 94 5) + (nI 1)))) (pc' := 48) kX12_product_36 rfl rfl rf_a0 ?_
          try rw [(show (mm ν (nI a) (-1) o) 94 5 = nI a from rfl)]
          try rw [(show ((nI a) + (nI 1)) = nI (1 + a) from rf_eq (rf_nadd (x := nI a) (y := nI 1) rfl rfl) (by omega))]
          rw [mm_5]
          refine ok_V (As := []) (b := 94) (st := []) mkX12_unit qX12_product_48 rfl (rc_94) rfl rfl rfl rfl (by omega) (hc1) ?_
          refine ok_step (ps := []) (L' := [some (.ref 94), some (.int (evl (ν 98) c)), some (.int (x a)), some (.int v1)]) (st' := [.int (nI 42), .int (x a)]) (σ' := (α, mm ν (nI a2) (nI a2) o1)) (pc' := 55) kX12_product_51 rfl rfl rf_a0 ?_
          refine ok_icmp_ne bX12_product_55 (fun _ => ?_) (fun h55 => absurd h55 ((by rw [hc]; decide)))
          refine ok_step (ps := []) (L' := [some (.ref 94), some (.int (evl (ν 98) c)), some (.int (x a)), some (.int v1)]) (st' := [.int v1]) (σ' := (α, mm ν (nI a2) (nI a2) o1)) (pc' := 65) kX12_product_64 rfl rfl rf_a0 ?_
          refine ok_if_ne bX12_product_65 (fun h65 => ?_) (fun h65 => ?_)
          · refine ok_step (ps := []) (L' := [some (.ref 94), some (.int (evl (ν 98) c)), some (.int (x a)), some (.int v1)]) (st' := [.int (nI 47), .int (x a)]) (σ' := (α, mm ν (nI a2) (nI a2) o1)) (pc' := 75) kX12_product_72 rfl rfl rf_a0 ?_
            refine ok_icmp_ne bX12_product_75 (fun _ => ?_) (fun h75 => absurd h75 ((by rw [hc]; decide)))
            refine ok_step (ps := [rf_nz v1]) (L' := [some (.ref 94), some (.int (evl (ν 98) c)), some (.int (x a)), some (.int v1)]) (st' := [.int ((evl (ν 98) c) - (evl (ν 98) c) / v1 * v1)]) (σ' := (α, mm ν (nI a2) (nI a2) o1)) (pc' := 87) kX12_product_84 rfl rfl (rf_a1 (by first | exact nz_of h65 | exact nz_of h82) rf_a0) ?_
            refine ok_step (ps := []) (L' := [some (.ref 94), some (.int ((evl (ν 98) c) - (evl (ν 98) c) / v1 * v1)), some (.int (x a)), some (.int v1)]) (st' := []) (σ' := (α, mm ν (nI a2) (nI a2) o1)) (pc' := 88) kX12_product_87 rfl rfl rf_a0 ?_
            refine ok_goto bX12_product_88 ?_
            refine ok_kill (x := 2) ?_
            refine ok_kill (x := 3) ?_
            exact (m_product_f (g := g) hE (by omega)).mono (fun r s hq => by obtain ⟨v, rfl, rfl⟩ := hq; exact Or.inr ⟨rfl, _, _, rfl, rfl⟩)
          · refine ok_step (ps := []) (L' := [some (.ref 94), some (.int (evl (ν 98) c)), some (.int (x a)), some (.int v1)]) (st' := [.int (nI 0)]) (σ' := (α, mm ν (nI a2) (nI a2) o1)) (pc' := 69) kX12_product_68 rfl rfl rf_a0 ?_
            refine ok_goto bX12_product_69 ?_
            refine ok_step (ps := []) (L' := [some (.ref 94), some (.int (nI 0)), some (.int (x a)), some (.int v1)]) (st' := []) (σ' := (α, mm ν (nI a2) (nI a2) o1)) (pc' := 88) kX12_product_87 rfl rfl rf_a0 ?_
            refine ok_goto bX12_product_88 ?_
            refine ok_kill (x := 2) ?_
            refine ok_kill (x := 3) ?_
            exact (m_product_f (g := g) hE (by omega)).mono (fun r s hq => by obtain ⟨v, rfl, rfl⟩ := hq; exact Or.inr ⟨rfl, _, _, rfl, rfl⟩)
        · have q1 := hk (1 + a) (by omega)
          have q4 := hv (1 + a) (by omega)
          rw [e1] at q1 q4
          obtain ⟨q1, q2, -⟩ := q1
          simp only at q1 q2
          replace q4 : EV (ν 98) c2 := q4 rfl
          have hj := ev_join (s := x a) he q4 (by rw [hc]; decide)
          have hj1 := hj.1.trans (congrArg (fun s => jn2 s (evl (ν 98) c) (evl (ν 98) c2)) hc)
          simp only [jn2_37] at hj1
          have hc1 := PQ_t (hs (1 + a) (by omega)) e1
          refine ok_step (ps := []) (L' := [some (.ref 94), some (.int (evl (ν 98) c)), none, none]) (st' := [.ref 94]) (σ' := (α, mm ν (nI a) (-1) o)) (pc' := 6) kX12_product_5 rfl rfl rf_a0 ?_
          refine ok_V (As := []) (b := 94) (st := []) mkX12_here qX12_product_6 rfl (rc_94) rfl rfl rfl rfl (by omega) (m_here hE hx (by omega)) ?_
          refine ok_step (ps := []) (L' := [some (.ref 94), some (.int (evl (ν 98) c)), none, none]) (st' := [.int (nI 42), .int (x a)]) (σ' := (α, mm ν (nI a) (-1) o)) (pc' := 11) kX12_product_9 rfl rfl rf_a0 ?_
          refine ok_icmp_eq bX12_product_11 (fun h11 => absurd h11 ((by rw [hc]; decide))) (fun _ => ?_)
          refine ok_step (ps := []) (L' := [some (.ref 94), some (.int (evl (ν 98) c)), none, none]) (st' := [.ref 94]) (σ' := (α, mm ν (nI a) (-1) o)) (pc' := 15) kX12_product_14 rfl rfl rf_a0 ?_
          refine ok_V (As := []) (b := 94) (st := []) mkX12_here qX12_product_15 rfl (rc_94) rfl rfl rfl rfl (by omega) (m_here hE hx (by omega)) ?_
          refine ok_step (ps := []) (L' := [some (.ref 94), some (.int (evl (ν 98) c)), none, none]) (st' := [.int (nI 47), .int (x a)]) (σ' := (α, mm ν (nI a) (-1) o)) (pc' := 20) kX12_product_18 rfl rfl rf_a0 ?_
          refine ok_icmp_eq bX12_product_20 (fun h20 => absurd h20 ((by rw [hc]; decide))) (fun _ => ?_)
          refine ok_step (ps := []) (L' := [some (.ref 94), some (.int (evl (ν 98) c)), none, none]) (st' := [.ref 94]) (σ' := (α, mm ν (nI a) (-1) o)) (pc' := 24) kX12_product_23 rfl rfl rf_a0 ?_
          refine ok_V (As := []) (b := 94) (st := []) mkX12_here qX12_product_24 rfl (rc_94) rfl rfl rfl rfl (by omega) (m_here hE hx (by omega)) ?_
          refine ok_step (ps := []) (L' := [some (.ref 94), some (.int (evl (ν 98) c)), none, none]) (st' := [.int (nI 37), .int (x a)]) (σ' := (α, mm ν (nI a) (-1) o)) (pc' := 29) kX12_product_27 rfl rfl rf_a0 ?_
          refine ok_icmp_ne bX12_product_29 (fun h29 => absurd (hc) h29) (fun _ => ?_)
          refine ok_step (ps := []) (L' := [some (.ref 94), some (.int (evl (ν 98) c)), none, none]) (st' := [.ref 94]) (σ' := (α, mm ν (nI a) (-1) o)) (pc' := 33) kX12_product_32 rfl rfl rf_a0 ?_
          refine ok_V (As := []) (b := 94) (st := []) mkX12_here qX12_product_33 rfl (rc_94) rfl rfl rfl rfl (by omega) (m_here hE hx (by omega)) ?_
          refine ok_step (ps := []) (L' := [some (.ref 94), some (.int (evl (ν 98) c)), some (.int (x a)), none]) (st' := [.ref 94]) (σ' := (α, rf_w (mm ν (nI a) (-1) o) 94 5 (((mm ν (nI a) (-1) o) 94 5) + (nI 1)))) (pc' := 48) kX12_product_36 rfl rfl rf_a0 ?_
          try rw [(show (mm ν (nI a) (-1) o) 94 5 = nI a from rfl)]
          try rw [(show ((nI a) + (nI 1)) = nI (1 + a) from rf_eq (rf_nadd (x := nI a) (y := nI 1) rfl rfl) (by omega))]
          rw [mm_5]
          refine ok_V (As := []) (b := 94) (st := []) mkX12_unit qX12_product_48 rfl (rc_94) rfl rfl rfl rfl (by omega) (hc1) ?_
          refine ok_step (ps := []) (L' := [some (.ref 94), some (.int (evl (ν 98) c)), some (.int (x a)), some (.int (evl (ν 98) c2))]) (st' := [.int (nI 42), .int (x a)]) (σ' := (α, mm ν (nI a2) (-1) o)) (pc' := 55) kX12_product_51 rfl rfl rf_a0 ?_
          refine ok_icmp_ne bX12_product_55 (fun _ => ?_) (fun h55 => absurd h55 ((by rw [hc]; decide)))
          refine ok_step (ps := []) (L' := [some (.ref 94), some (.int (evl (ν 98) c)), some (.int (x a)), some (.int (evl (ν 98) c2))]) (st' := [.int (evl (ν 98) c2)]) (σ' := (α, mm ν (nI a2) (-1) o)) (pc' := 65) kX12_product_64 rfl rfl rf_a0 ?_
          refine ok_if_ne bX12_product_65 (fun h65 => ?_) (fun h65 => ?_)
          · refine ok_step (ps := []) (L' := [some (.ref 94), some (.int (evl (ν 98) c)), some (.int (x a)), some (.int (evl (ν 98) c2))]) (st' := [.int (nI 47), .int (x a)]) (σ' := (α, mm ν (nI a2) (-1) o)) (pc' := 75) kX12_product_72 rfl rfl rf_a0 ?_
            refine ok_icmp_ne bX12_product_75 (fun _ => ?_) (fun h75 => absurd h75 ((by rw [hc]; decide)))
            refine ok_step (ps := [rf_nz (evl (ν 98) c2)]) (L' := [some (.ref 94), some (.int (evl (ν 98) c)), some (.int (x a)), some (.int (evl (ν 98) c2))]) (st' := [.int ((evl (ν 98) c) - (evl (ν 98) c) / (evl (ν 98) c2) * (evl (ν 98) c2))]) (σ' := (α, mm ν (nI a2) (-1) o)) (pc' := 87) kX12_product_84 rfl rfl (rf_a1 (by first | exact nz_of h65 | exact nz_of h82) rf_a0) ?_
            refine ok_step (ps := []) (L' := [some (.ref 94), some (.int ((evl (ν 98) c) - (evl (ν 98) c) / (evl (ν 98) c2) * (evl (ν 98) c2))), some (.int (x a)), some (.int (evl (ν 98) c2))]) (st' := []) (σ' := (α, mm ν (nI a2) (-1) o)) (pc' := 88) kX12_product_87 rfl rfl rf_a0 ?_
            refine ok_goto bX12_product_88 ?_
            have e2 : (evl (ν 98) c) - (evl (ν 98) c) / (evl (ν 98) c2) * (evl (ν 98) c2) = evl (ν 98) (c ++ c2 ++ [20000 + x a]) := by rw [hj1]; first | (rw [if_pos h65]; rfl) | rw [if_neg h65]
            rw [e2]
            refine ok_kill (x := 2) ?_
            refine ok_kill (x := 3) ?_
            exact ih a2 _ q2 (by omega) hj.2
          · refine ok_step (ps := []) (L' := [some (.ref 94), some (.int (evl (ν 98) c)), some (.int (x a)), some (.int (evl (ν 98) c2))]) (st' := [.int (nI 0)]) (σ' := (α, mm ν (nI a2) (-1) o)) (pc' := 69) kX12_product_68 rfl rfl rf_a0 ?_
            refine ok_goto bX12_product_69 ?_
            refine ok_step (ps := []) (L' := [some (.ref 94), some (.int (nI 0)), some (.int (x a)), some (.int (evl (ν 98) c2))]) (st' := []) (σ' := (α, mm ν (nI a2) (-1) o)) (pc' := 88) kX12_product_87 rfl rfl rf_a0 ?_
            refine ok_goto bX12_product_88 ?_
            have e2 : nI 0 = evl (ν 98) (c ++ c2 ++ [20000 + x a]) := by rw [hj1]; first | (rw [if_pos h65]; rfl) | rw [if_neg h65]
            rw [e2]
            refine ok_kill (x := 2) ?_
            refine ok_kill (x := 3) ?_
            exact ih a2 _ q2 (by omega) hj.2
    · rw [if_neg hl]
      have n42 : ¬ x a = nI 42 := fun e => hl (by rw [e]; decide)
      have n47 : ¬ x a = nI 47 := fun e => hl (by rw [e]; decide)
      have n37 : ¬ x a = nI 37 := fun e => hl (by rw [e]; decide)
      refine ok_step (ps := []) (L' := [some (.ref 94), some (.int (evl (ν 98) c)), none, none]) (st' := [.ref 94]) (σ' := (α, mm ν (nI a) (-1) o)) (pc' := 6) kX12_product_5 rfl rfl rf_a0 ?_
      refine ok_V (As := []) (b := 94) (st := []) mkX12_here qX12_product_6 rfl (rc_94) rfl rfl rfl rfl (by omega) (m_here hE hx (by omega)) ?_
      refine ok_step (ps := []) (L' := [some (.ref 94), some (.int (evl (ν 98) c)), none, none]) (st' := [.int (nI 42), .int (x a)]) (σ' := (α, mm ν (nI a) (-1) o)) (pc' := 11) kX12_product_9 rfl rfl rf_a0 ?_
      refine ok_icmp_eq bX12_product_11 (fun h11 => absurd h11 (n42)) (fun _ => ?_)
      refine ok_step (ps := []) (L' := [some (.ref 94), some (.int (evl (ν 98) c)), none, none]) (st' := [.ref 94]) (σ' := (α, mm ν (nI a) (-1) o)) (pc' := 15) kX12_product_14 rfl rfl rf_a0 ?_
      refine ok_V (As := []) (b := 94) (st := []) mkX12_here qX12_product_15 rfl (rc_94) rfl rfl rfl rfl (by omega) (m_here hE hx (by omega)) ?_
      refine ok_step (ps := []) (L' := [some (.ref 94), some (.int (evl (ν 98) c)), none, none]) (st' := [.int (nI 47), .int (x a)]) (σ' := (α, mm ν (nI a) (-1) o)) (pc' := 20) kX12_product_18 rfl rfl rf_a0 ?_
      refine ok_icmp_eq bX12_product_20 (fun h20 => absurd h20 (n47)) (fun _ => ?_)
      refine ok_step (ps := []) (L' := [some (.ref 94), some (.int (evl (ν 98) c)), none, none]) (st' := [.ref 94]) (σ' := (α, mm ν (nI a) (-1) o)) (pc' := 24) kX12_product_23 rfl rfl rf_a0 ?_
      refine ok_V (As := []) (b := 94) (st := []) mkX12_here qX12_product_24 rfl (rc_94) rfl rfl rfl rfl (by omega) (m_here hE hx (by omega)) ?_
      refine ok_step (ps := []) (L' := [some (.ref 94), some (.int (evl (ν 98) c)), none, none]) (st' := [.int (nI 37), .int (x a)]) (σ' := (α, mm ν (nI a) (-1) o)) (pc' := 29) kX12_product_27 rfl rfl rf_a0 ?_
      refine ok_icmp_ne bX12_product_29 (fun _ => ?_) (fun h29 => absurd h29 (n37))
      refine ok_step (ps := []) (L' := [some (.ref 94), some (.int (evl (ν 98) c)), none, none]) (st' := [.int (evl (ν 98) c)]) (σ' := (α, mm ν (nI a) (-1) o)) (pc' := 92) kX12_product_91 rfl rfl rf_a0 ?_
      refine ok_reti eX12_product_92 rfl ?_
      exact Or.inl ⟨rfl, rfl, rfl⟩
theorem m_product {g : Nat → PR} {D a : Nat} (hE : En ν u b n) (hx : x = nxb (fun i => ν 95 (b + i)) n) (hs : ∀ a, a ≤ n → rf_Ok (rf_T Ln xs) MX12_unit (D + 4) 0 [some (.ref 94), none, none, none, none] [] (α, mm ν (nI a) (-1) o) (PQ α ν o (g a))) (hk : ∀ a, a ≤ n → PK u n a (g a)) (hv : ∀ a, a ≤ n → (g a).1 = true → EV (ν 98) (g a).2.2) (ha : a ≤ n) : rf_Ok (rf_T Ln xs) MX12_product (D + 5) 0 [some (.ref 94), none, none, none] [] (α, mm ν (nI a) (-1) o) (PQ α ν o (match g a with | (true, a2, c2) => prl x 4 g 50 a2 c2 | (false, a2, c2) => (false, a2, c2))) := by
  have hn := hE.2.2.1
  rcases e1 : g a with ⟨_ | _, a2, c2⟩
  · have q1 := hk a ha
    rw [e1] at q1
    obtain ⟨q1, q2, -⟩ := q1
    simp only at q1 q2
    obtain ⟨v1, o1, hc1⟩ := PQ_f (hs a ha) e1
    refine ok_step (ps := []) (L' := [some (.ref 94), none, none, none]) (st' := [.ref 94]) (σ' := (α, mm ν (nI a) (-1) o)) (pc' := 1) kX12_product_0 rfl rfl rf_a0 ?_
    refine ok_V (As := []) (b := 94) (st := []) mkX12_unit qX12_product_1 rfl (rc_94) rfl rfl rfl rfl (by omega) (hc1) ?_
    refine ok_step (ps := []) (L' := [some (.ref 94), some (.int v1), none, none]) (st' := []) (σ' := (α, mm ν (nI a2) (nI a2) o1)) (pc' := 5) kX12_product_4 rfl rfl rf_a0 ?_
    exact (m_product_f (g := g) hE (by omega)).mono (fun r s hq => by obtain ⟨v, rfl, rfl⟩ := hq; exact Or.inr ⟨rfl, _, _, rfl, rfl⟩)
  · have q1 := hk a ha
    have q4 := hv a ha
    rw [e1] at q1 q4
    obtain ⟨q1, q2, q3, -, q5⟩ := q1
    simp only at q1 q2 q3
    replace q5 : 1 ≤ c2.length := q5 rfl
    replace q4 : EV (ν 98) c2 := q4 rfl
    have hc1 := PQ_t (hs a ha) e1
    refine ok_step (ps := []) (L' := [some (.ref 94), none, none, none]) (st' := [.ref 94]) (σ' := (α, mm ν (nI a) (-1) o)) (pc' := 1) kX12_product_0 rfl rfl rf_a0 ?_
    refine ok_V (As := []) (b := 94) (st := []) mkX12_unit qX12_product_1 rfl (rc_94) rfl rfl rfl rfl (by omega) (hc1) ?_
    refine ok_step (ps := []) (L' := [some (.ref 94), some (.int (evl (ν 98) c2)), none, none]) (st' := []) (σ' := (α, mm ν (nI a2) (-1) o)) (pc' := 5) kX12_product_4 rfl rfl rf_a0 ?_
    exact m_product_l hE hx hs hk hv 50 a2 c2 q2 (by omega) q4
end H43
